/-! traces that are not covered lie in the text, side by side -/
def mvA (d q k a b : Int) : Int := if d = 2 then a else if d = 0 then a + (if q < a ∨ (q = a ∧ a < b) then k else 0) else a - (if q + k ≤ a then k else 0)
def mvB (d q k a b : Int) : Int := if d = 2 then b else if d = 0 then b + (if q < a ∨ (q = a ∧ a < b) then k else 0) else b - (if q + k ≤ a then k else 0)
def cov (d q k a b : Int) : Prop := (d = 2 ∧ a ≤ q ∧ q < b) ∨ (d = 0 ∧ ((a < q ∧ q < b) ∨ (q = a ∧ a = b))) ∨ (d ≠ 2 ∧ d ≠ 0 ∧ ¬ q + k ≤ a ∧ q < b)
def lnA (d k L : Int) : Int := if d = 2 then L else if d = 0 then L + k else L - k
def okS (d q k L : Int) : Prop := 0 ≤ q ∧ 0 ≤ k ∧ (d = 0 → q ≤ L) ∧ (d ≠ 0 → q + k ≤ L) ∧ (d = 2 → k = 1)
def TVr (f g : Int → Int) (n L : Int) : Prop := (∀ i, 0 ≤ i → i < n → 0 ≤ f i ∧ f i ≤ g i ∧ g i ≤ L) ∧ (∀ i j, 0 ≤ i → i < j → j < n → g i ≤ f j ∨ g j ≤ f i)
theorem mvA_0 {q k a b : Int} : mvA 0 q k a b = a + (if q < a ∨ (q = a ∧ a < b) then k else 0) := by unfold mvA; rw [if_neg (by decide), if_pos rfl]
theorem mvB_0 {q k a b : Int} : mvB 0 q k a b = b + (if q < a ∨ (q = a ∧ a < b) then k else 0) := by unfold mvB; rw [if_neg (by decide), if_pos rfl]
theorem mvA_1 {q k a b : Int} : mvA 1 q k a b = a - (if q + k ≤ a then k else 0) := by unfold mvA; rw [if_neg (by decide), if_neg (by decide)]
theorem mvB_1 {q k a b : Int} : mvB 1 q k a b = b - (if q + k ≤ a then k else 0) := by unfold mvB; rw [if_neg (by decide), if_neg (by decide)]
theorem mvA_2 {q k a b : Int} : mvA 2 q k a b = a := by unfold mvA; rw [if_pos rfl]
theorem mvB_2 {q k a b : Int} : mvB 2 q k a b = b := by unfold mvB; rw [if_pos rfl]
theorem mvA_B {d q k a b : Int} : mvB d q k a b - mvA d q k a b = b - a := by unfold mvA mvB; split <;> (try split) <;> (try split) <;> omega
theorem TVr.step {f g f' g' : Int → Int} {n L d q k : Int} (h : TVr f g n L) (hs : okS d q k L) (hu : ∀ i, 0 ≤ i → i < n → ¬ cov d q k (f i) (g i)) (ef : ∀ i, 0 ≤ i → i < n → f' i = mvA d q k (f i) (g i)) (eg : ∀ i, 0 ≤ i → i < n → g' i = mvB d q k (f i) (g i)) : TVr f' g' n (lnA d k L) := by
  obtain ⟨s1, s2, s3, s4, s5⟩ := hs
  refine ⟨fun i a b => ?_, fun i j a b c => ?_⟩
  · rw [ef i a b, eg i a b]
    have h1 := h.1 i a b
    have h2 := hu i a b
    unfold cov at h2
    unfold mvA mvB lnA
    split
    · omega
    · split
      · have := s3 ‹_›
        split <;> omega
      · have := s4 ‹_›
        split <;> omega
  · rw [ef i a (by omega), eg i a (by omega), ef j (by omega) c, eg j (by omega) c]
    have h1 := h.1 i a (by omega)
    have h2 := hu i a (by omega)
    have h3 := h.1 j (by omega) c
    have h4 := hu j (by omega) c
    have h5 := h.2 i j a b c
    unfold cov at h2 h4
    unfold mvA mvB
    split
    · exact h5
    · split
      · split <;> split <;> omega
      · split <;> split <;> omega
/-- the trace of the step itself comes behind the others -/
theorem TVr.push {f g f' g' : Int → Int} {n L d q k : Int} (h : TVr f g n L) (hn : 0 ≤ n) (hs : okS d q k L) (hu : ∀ i, 0 ≤ i → i < n → ¬ cov d q k (f i) (g i)) (ef : ∀ i, 0 ≤ i → i < n → f' i = mvA d q k (f i) (g i)) (eg : ∀ i, 0 ≤ i → i < n → g' i = mvB d q k (f i) (g i)) (e1 : f' n = q) (e2 : g' n = if d = 1 then q else q + k) (hd : 0 ≤ d ∧ d ≤ 2) : TVr f' g' (n + 1) (lnA d k L) := by
  have h0 := h.step hs hu ef eg
  obtain ⟨s1, s2, s3, s4, s5⟩ := hs
  have key : ∀ i, 0 ≤ i → i < n → g' i ≤ f' n ∨ g' n ≤ f' i := fun i a b => by
    rw [ef i a b, eg i a b, e1, e2]
    have h1 := h.1 i a b
    have h2 := hu i a b
    unfold cov at h2
    rcases (show d = 0 ∨ d = 1 ∨ d = 2 by omega) with rfl | rfl | rfl
    · rw [mvA_0, mvB_0, if_neg (show ¬ ((0 : Int) = 1) by decide)]
      split <;> omega
    · rw [mvA_1, mvB_1, if_pos rfl]
      split <;> omega
    · have := s5 rfl
      rw [mvA_2, mvB_2, if_neg (show ¬ ((2 : Int) = 1) by decide)]
      omega
  refine ⟨fun i a b => ?_, fun i j a b c => ?_⟩
  · by_cases e : i = n
    · subst e
      rw [e1, e2]
      unfold lnA
      rcases (show d = 0 ∨ d = 1 ∨ d = 2 by omega) with rfl | rfl | rfl
      · rw [if_neg (by decide), if_neg (by decide), if_pos rfl]; omega
      · rw [if_pos rfl, if_neg (by decide), if_neg (by decide)]; omega
      · rw [if_neg (by decide), if_pos rfl]; omega
    · exact h0.1 i a (by omega)
  · by_cases e : j = n
    · subst e; exact key i a b
    · exact h0.2 i j a b (by omega)
theorem TVr.mono {f g : Int → Int} {n m L : Int} (h : TVr f g n L) (hm : m ≤ n) : TVr f g m L := ⟨fun i a b => h.1 i a (by omega), fun i j a b c => h.2 i j a b (by omega)⟩
/-- the last trace's characters are deleted -/
theorem TVr.del {f g f' g' : Int → Int} {n L : Int} (h : TVr f g (n + 1) L) (hn : 0 ≤ n) (ef : ∀ i, 0 ≤ i → i < n → f' i = mvA 1 (f n) (g n - f n) (f i) (g i)) (eg : ∀ i, 0 ≤ i → i < n → g' i = mvB 1 (f n) (g n - f n) (f i) (g i)) : TVr f' g' n (L - (g n - f n)) := by
  have hb := h.1 n hn (by omega)
  refine (h.mono (m := n) (by omega)).step (d := 1) ⟨by omega, by omega, fun c => by omega, fun _ => by omega, fun c => by omega⟩ (fun i a b c => ?_) ef eg
  have := h.2 i n a b (by omega)
  unfold cov at c
  omega
/-- all traces together are no longer than the text -/
theorem TVr.sum : ∀ (n : Nat) (f g : Int → Int) (L : Int), 0 ≤ L → TVr f g n L → sumN (fun i => g i - f i) n ≤ L
  | 0, _, _, L, hL, _ => hL
  | n + 1, f, g, L, hL, h => by
    have h1 := h.del (f' := fun i => mvA 1 (f n) (g n - f n) (f i) (g i)) (g' := fun i => mvB 1 (f n) (g n - f n) (f i) (g i)) (by omega) (fun _ _ _ => rfl) (fun _ _ _ => rfl)
    have hb := h.1 n (by omega) (by omega)
    have h2 := TVr.sum n _ _ _ (by omega) h1
    have h3 : sumN (fun i => mvB 1 (f n) (g n - f n) (f i) (g i) - mvA 1 (f n) (g n - f n) (f i) (g i)) n = sumN (fun i => g i - f i) n := sumN_cong fun i _ _ => mvA_B
    show sumN (fun i => g i - f i) n + (g n - f n) ≤ L
    rw [h3] at h2
    omega
/-- deleted characters come again at a trace of length 0 -/
def opA (q k m a b : Int) : Int := if a = q ∧ b = q then (if m = 1 then a + k else a) else mvA 0 q k a b
def opB (q k m a b : Int) : Int := if a = q ∧ b = q then (if m = 1 then b + k else b) else mvB 0 q k a b
theorem TVr.ins {f g f' g' m : Int → Int} {n L k : Int} (h : TVr f g (n + 1) L) (hn : 0 ≤ n) (hk : 0 ≤ k) (hp : f n = g n) (ef : ∀ i, 0 ≤ i → i < n → f' i = opA (f n) k (m i) (f i) (g i)) (eg : ∀ i, 0 ≤ i → i < n → g' i = opB (f n) k (m i) (f i) (g i)) : TVr f' g' n (L + k) := by
  have hb := h.1 n hn (by omega)
  refine ⟨fun i a b => ?_, fun i j a b c => ?_⟩
  · rw [ef i a b, eg i a b]
    have h1 := h.1 i a (by omega)
    have h2 := h.2 i n a b (by omega)
    unfold opA opB
    rw [mvA_0, mvB_0]
    split
    · split <;> omega
    · split <;> omega
  · rw [ef i a (by omega), eg i a (by omega), ef j (by omega) c, eg j (by omega) c]
    have h1 := h.1 i a (by omega)
    have h2 := h.2 i n a (by omega) (by omega)
    have h3 := h.1 j (by omega) (by omega)
    have h4 := h.2 j n (by omega) c (by omega)
    have h5 := h.2 i j a b (by omega)
    unfold opA opB
    rw [mvA_0, mvB_0, mvA_0, mvB_0]
    split
    · split
      · split
        · split <;> omega
        · split <;> omega
      · split
        · split <;> omega
        · split <;> omega
    · split
      · split
        · split <;> omega
        · split <;> omega
      · split <;> split <;> omega
