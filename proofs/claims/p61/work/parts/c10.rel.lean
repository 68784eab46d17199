/-! typing goes on: the reference lets its last step grow, the class inserts and joins; side by side while the listeners settle -/
section SHR
variable {μ : MU} {A A' X V R B : Mm} {n0 s q n c v k S P M d : Int} {p : RP} {w : Mm} {f : Int} {g g' : Int → Int → Int}
theorem opens_cg {j : Int} {kk : Nat} {a : Int} (e : ∀ {k : Nat} {a j : Int}, k ≠ 240 → X k a j = A k a j) (hc : kk ≠ 240) : m_opens s q n X kk a j = m_opens s q n A kk a j := by
  unfold m_opens
  simp only [fl, up]
  simp (disch := first | decide | exact hc) only [e]
theorem pool_cg {j : Int} {kk : Nat} {a : Int} (e : ∀ {k : Nat} {a j : Int}, k ≠ 240 → k ≠ 136 → k ≠ 212 → k ≠ 120 → X k a j = A k a j) (h1 : kk ≠ 240) (h2 : kk ≠ 136) (h3 : kk ≠ 212) (h4 : kk ≠ 120) : m_pool μ v X kk a j = m_pool μ v A kk a j := by
  unfold m_pool
  simp only [up]
  simp (disch := first | decide | assumption) only [e]
def SHm (c : Nat) (_ : Int) : Bool := decide (c = 240 ∨ c = 136 ∨ c = 212 ∨ c = 120 ∨ c = 234)
theorem rest_cg {j : Int} {kk : Nat} {a : Int} (e : ∀ {k : Nat} {a j : Int}, k ≠ 240 → k ≠ 136 → k ≠ 212 → k ≠ 120 → k ≠ 234 → X k a j = A k a j) (h1 : kk ≠ 240) (h2 : kk ≠ 136) (h3 : kk ≠ 212) (h4 : kk ≠ 234) (h5 : kk ≠ 120) : m_rest μ 2 1 X kk a j = m_rest μ 2 1 A kk a j := by
  have eX : X = pc SHm X A := by
    funext c a i
    show X c a i = if SHm c a = true then X c a i else A c a i
    by_cases z : c = 240 ∨ c = 136 ∨ c = 212 ∨ c = 120 ∨ c = 234
    · rw [if_pos (show SHm c a = true from decide_eq_true z)]
    · rw [if_neg (show ¬ SHm c a = true from fun y => z (of_decide_eq_true y))]
      exact e (fun q => z (Or.inl q)) (fun q => z (Or.inr (Or.inl q))) (fun q => z (Or.inr (Or.inr (Or.inl q)))) (fun q => z (Or.inr (Or.inr (Or.inr (Or.inl q))))) (fun q => z (Or.inr (Or.inr (Or.inr (Or.inr q)))))
  have sQ : ∀ {T T' : Int → Bool} {B : Mm}, T = T' → m_cpQ T 5 0 2 (pc SHm X B) = pc SHm X (m_cpQ T' 5 0 2 B) := by
    intro T T' B hT
    subst hT
    funext c x i
    unfold m_cpQ pc
    by_cases z : SHm c x = true
    · have n4 : ∀ (cc : Nat) (p : Prop), SHm cc x = false → ¬ (c = cc ∧ p) := fun cc p y e => by rw [e.1, y] at z; exact absurd z (by decide)
      rw [if_neg (n4 204 _ rfl), if_neg (n4 205 _ rfl), if_neg (n4 206 _ rfl), if_pos z, if_pos z]
    · rw [if_neg z, if_neg z]
      rfl
  have hf : ∀ {c : Nat}, 200 ≤ c ∧ c ≤ 211 → ∀ {x}, SHm c x = false := fun {c} h {x} => decide_eq_false (by omega)
  have sP : ∀ B : Mm, m_cpP 0 2 (pc SHm X B) = pc SHm X (m_cpP 0 2 B) := fun B => by
    unfold m_cpP
    simp (disch := exact hf (by decide)) only [pc_g, pc_up, pc_fl]
  have sT : ∀ B : Mm, m_cpT 0 2 (pc SHm X B) = pc SHm X (m_cpT 0 2 B) := fun B => by
    unfold m_cpT
    simp (disch := exact hf (by decide)) only [pc_g, pc_up, pc_fl]
  have E : m_cpQ (fun s => decide ((1 : Int) = 1 ∨ X 211 0 s = 1)) 5 0 2 (m_cpP 0 2 (m_cpT 0 2 X)) = pc SHm X (m_cpQ (fun s => decide ((1 : Int) = 1 ∨ A 211 0 s = 1)) 5 0 2 (m_cpP 0 2 (m_cpT 0 2 A))) := by
    have E1 : m_cpP 0 2 (m_cpT 0 2 X) = pc SHm X (m_cpP 0 2 (m_cpT 0 2 A)) := by
      refine Eq.trans (congrArg (fun Y => m_cpP 0 2 (m_cpT 0 2 Y)) eX) ?_
      show m_cpP 0 2 (m_cpT 0 2 (pc SHm X A)) = _
      rw [sT, sP]
    rw [E1]
    exact sQ (by funext s; simp)
  unfold m_rest
  rw [E]
  show (if kk = 121 ∧ a = μ.1 ∧ j = 0 then X 215 0 2 else if kk = 120 ∧ a = μ.1 ∧ j = 0 then X 214 0 2 else pc SHm X _ kk a j) = (if kk = 121 ∧ a = μ.1 ∧ j = 0 then A 215 0 2 else if kk = 120 ∧ a = μ.1 ∧ j = 0 then A 214 0 2 else _)
  rw [e (by decide) (by decide) (by decide) (by decide) (by decide), e (by decide) (by decide) (by decide) (by decide) (by decide), pc_g (by unfold SHm; exact decide_eq_false (by omega))]
/-- the reference's world R behind the class's virtual one V: one step less, the last one grown -/
def SHR (μ : MU) (n0 : Int) (V R : Mm) : Prop :=
  (∀ {c : Nat} {a i : Int}, c ≠ 240 → c ≠ 136 → c ≠ 212 → c ≠ 120 → c ≠ 234 → R c a i = V c a i) ∧ (R 120 μ.1 0 + 1 = V 120 μ.1 0 ∧ n0 ≤ R 120 μ.1 0) ∧ (∀ k, n0 ≤ k → k < R 120 μ.1 0 → R 212 0 k = V 212 0 (k + 1)) ∧ (∀ k, k < n0 → k ≠ n0 - 1 → R 212 0 k = V 212 0 k) ∧ R 212 0 (n0 - 1) = V 212 0 (n0 - 1) + 4096
theorem SHR.rep (h : SHR μ n0 V R) {cc : Int} : SHR μ n0 (m_rep μ q cc V) (m_rep μ q cc R) := by
  obtain ⟨h1, ⟨h2, h3⟩, h4, h5, h6⟩ := h
  refine ⟨fun {c a i} z1 z2 z3 z4 z5 => ?_, ⟨by rw [rep_120, rep_120]; omega, by rw [rep_120]; omega⟩, fun k k0 k1 => ?_, fun k k0 k1 => ?_, ?_⟩
  · have e : ∀ Y : Mm, m_rep μ q cc Y c a i = up Y 200 0 q cc c a i := fun Y => by unfold m_rep; rw [step_at ⟨z3, z4⟩]
    rw [e, e]
    simp only [up]; split
    · rfl
    · exact h1 z1 z2 z3 z4 z5
  · rw [rep_120] at k1
    rw [rep_212, rep_212]
    by_cases y : k = R 120 μ.1 0
    · rw [if_pos y, if_pos (by omega)]
    · rw [if_neg y, if_neg (by omega)]; exact h4 k k0 (by omega)
  · rw [rep_212, rep_212, if_neg (by omega), if_neg (by omega)]; exact h5 k k0 k1
  · rw [rep_212, rep_212, if_neg (by omega), if_neg (by omega)]; exact h6
theorem SHR.eq (h : SHR μ n0 V R) {V' R' : Mm} (h1 : ∀ {c : Nat} {a i : Int}, c ≠ 240 → c ≠ 136 → c ≠ 212 → c ≠ 120 → c ≠ 234 → R' c a i = V' c a i) (e1 : V' 120 μ.1 0 = V 120 μ.1 0 ∧ R' 120 μ.1 0 = R 120 μ.1 0) (e2 : ∀ k, V' 212 0 k = V 212 0 k ∧ R' 212 0 k = R 212 0 k) : SHR μ n0 V' R' := by
  obtain ⟨-, ⟨h2, h3⟩, h4, h5, h6⟩ := h
  refine ⟨h1, ⟨by rw [e1.1, e1.2]; exact h2, by rw [e1.2]; exact h3⟩, fun k k0 k1 => ?_, fun k k0 k1 => ?_, ?_⟩
  · rw [e1.2] at k1; rw [(e2 k).2, (e2 _).1]; exact h4 k k0 k1
  · rw [(e2 k).2, (e2 k).1]; exact h5 k k0 k1
  · rw [(e2 _).2, (e2 _).1]; exact h6
theorem SHR.up233 (h : SHR μ n0 V R) : SHR μ n0 (up V 233 0 d v) (up R 233 0 d v) :=
  h.eq (fun {c a i} z1 z2 z3 z4 z5 => by
    simp only [up]; split
    · rfl
    · exact h.1 z1 z2 z3 z4 z5) ⟨up_k _ (by decide) _ _ _ _ _, up_k _ (by decide) _ _ _ _ _⟩ (fun k => ⟨up_k _ (by decide) _ _ _ _ _, up_k _ (by decide) _ _ _ _ _⟩)
theorem SHR.pof (h : SHR μ n0 V R) {cc : Int} : m_pof cc R = m_pof cc V := by
  have hh := h
  obtain ⟨e, -⟩ := hh
  unfold m_pof
  simp (disch := decide) only [e]
theorem SHR.ff (h : SHR μ n0 V R) : m_ff R = m_ff V := by
  have hh := h
  obtain ⟨e, -⟩ := hh
  have e2 : m_fd R = m_fd V := by
    funext k; unfold m_fd
    rw [h.pof, e (by decide) (by decide) (by decide) (by decide) (by decide)]
  unfold m_ff
  rw [e2]
  unfold m_ffb m_ff2 m_ff1
  simp (disch := decide) only [e]
theorem SHR.nice : ∀ (n : Nat) (d : Int) (V R : Mm), SHR μ n0 V R → (m_nice μ n d R).1 = (m_nice μ n d V).1 ∧ SHR μ n0 (m_nice μ n d V).2 (m_nice μ n d R).2
  | 0, _, _, _, h => ⟨rfl, h⟩
  | n + 1, d, V, R, h => by
    unfold m_nice
    rw [h.ff]
    by_cases z : m_ff V = -1
    · rw [if_pos z, if_pos z]; exact ⟨rfl, h⟩
    · rw [if_neg z, if_neg z]
      by_cases y : d = 8
      · rw [if_pos y, if_pos y]
        refine ⟨rfl, SHR.eq (V' := fl (up V 233 0 d (m_ff V)) 232 0 8 (fun k => up V 233 0 d (m_ff V) 233 0 (k + 1))) (R' := fl (up R 233 0 d (m_ff V)) 232 0 8 (fun k => up R 233 0 d (m_ff V) 233 0 (k + 1))) (h.up233 (d := d) (v := m_ff V)) (fun {c a i} z1 z2 z3 z4 z5 => ?_) ⟨fl_at (by decide), fl_at (by decide)⟩ (fun k => ⟨fl_at (by decide), fl_at (by decide)⟩)⟩
        obtain ⟨k1, -⟩ := h.up233 (d := d) (v := m_ff V)
        simp only [fl]
        rw [k1 (c := 233) (by decide) (by decide) (by decide) (by decide) (by decide)]
        split
        · rfl
        · exact k1 z1 z2 z3 z4 z5
      · rw [if_neg y, if_neg y]
        have e1 : R 229 0 (m_ff V) = V 229 0 (m_ff V) := h.1 (by decide) (by decide) (by decide) (by decide) (by decide)
        have e2 : R 230 0 (m_ff V) = V 230 0 (m_ff V) := h.1 (by decide) (by decide) (by decide) (by decide) (by decide)
        rw [h.pof, e1, e2]
        exact SHR.nice n (d + 1) _ _ (h.up233.rep)
theorem SHR.ntf (h : SHR μ n0 V R) (hV : bPo V) (hR : bPo R) : (m_ntf μ R).1 = (m_ntf μ V).1 ∧ SHR μ n0 (m_ntf μ V).2 (m_ntf μ R).2 := by
  obtain ⟨g1, -, h1, -⟩ := ntf_ok (μ := μ) hV
  obtain ⟨g2, -, h2, -⟩ := ntf_ok (μ := μ) hR
  obtain ⟨k1, k2⟩ := SHR.nice 8 1 V R h
  rw [h1, h2]
  refine ⟨k1, SHR.eq (V' := ux g1 (m_nice μ 8 1 V).2) (R' := ux g2 (m_nice μ 8 1 R).2) k2 (fun {c a i} z1 z2 z3 z4 z5 => ?_) ⟨ux_k (by decide), ux_k (by decide)⟩ (fun k => ⟨ux_k (by decide), ux_k (by decide)⟩)⟩
  rw [ux_k z5, ux_k z5]; exact k2.1 z1 z2 z3 z4 z5
/-- where both begin -/
theorem SHR.ini : SHR μ (A 120 μ.1 0) (m_insC μ c A) (m_ex1 μ c A) := by
  obtain ⟨Y, hY⟩ : ∃ Y, Y = up (up (m_opens 0 (A 207 0 0) 1 A) 200 0 (A 207 0 0) c) 207 0 0 (A 207 0 0 + 1) := ⟨_, rfl⟩
  have eR : m_ex1 μ c A = up (m_pool μ c Y) 212 0 (A 120 μ.1 0 - 1) (A 212 0 (A 120 μ.1 0 - 1) + 4096) := by
    unfold m_ex1; rw [pool_up (by decide), hY]
  obtain ⟨X, hX⟩ : ∃ X, X = up A 240 0 0 c := ⟨_, rfl⟩
  have eX : ∀ {k : Nat} {a j : Int}, k ≠ 240 → X k a j = A k a j := fun z => by rw [hX]; exact up_k _ z _ _ _ _ _
  obtain ⟨T, hT⟩ : ∃ T, T = fl (m_step μ 0 (A 207 0 0) 1 (m_opens 0 (A 207 0 0) 1 X)) 200 (A 207 0 0) 1 (fun i => X 240 0 (i - A 207 0 0)) := ⟨_, rfl⟩
  have eI : m_ins μ (A 207 0 0) 1 X = m_pool μ c T := by
    unfold m_ins
    rw [← hT, show (1 : Int).toNat = 0 + 1 from rfl]
    show m_pool μ (X 240 0 ((0 : Nat) : Int)) T = _
    rw [hX, show ((0 : Nat) : Int) = 0 from rfl, up_s]
  have T207 : T 207 0 0 = A 207 0 0 := by rw [hT, fl_at (by decide), step_at (by decide), opens_at (by decide), eX (by decide)]
  have eV : m_insC μ c A = up (m_pool μ c (up T 207 0 0 (A 207 0 0 + 1))) 136 μ.1 0 (m_pool μ c (up T 207 0 0 (A 207 0 0 + 1)) 201 0 0) := by
    unfold m_insC m_pt
    rw [← hX, eI, pool_at (c := 207) (by decide), T207, pool_up (by decide)]
    congr 1
  have eT : ∀ {k : Nat} {a j : Int}, k ≠ 240 → k ≠ 136 → k ≠ 212 → k ≠ 120 → up T 207 0 0 (A 207 0 0 + 1) k a j = Y k a j := fun {k a j} z1 z2 z3 z4 => by
    have e1 : T k a j = up (m_opens 0 (A 207 0 0) 1 A) 200 0 (A 207 0 0) c k a j := by
      rw [hT]
      simp only [fl, up]
      by_cases y : k = 200 ∧ a = 0 ∧ j = A 207 0 0
      · rw [if_pos ⟨y.1, y.2.1, by omega, by omega⟩, if_pos y, hX, y.2.2, Int.sub_self, up_s]
      · rw [if_neg (fun z => y ⟨z.1, z.2.1, by omega⟩), if_neg y, step_at ⟨z3, z4⟩]; exact opens_cg eX z1
    rw [hY]
    show (if k = 207 ∧ a = 0 ∧ j = 0 then A 207 0 0 + 1 else T k a j) = (if k = 207 ∧ a = 0 ∧ j = 0 then A 207 0 0 + 1 else up (m_opens 0 (A 207 0 0) 1 A) 200 0 (A 207 0 0) c k a j)
    rw [e1]
  have iR := insC_120 (μ := μ) (c := c) (w := A)
  have r120 : m_ex1 μ c A 120 μ.1 0 = A 120 μ.1 0 := by rw [eR, up_k _ (by decide), pool_at (by decide), hY, up_k _ (by decide), up_k _ (by decide), opens_at (by decide)]
  have v212 : ∀ k, k ≠ A 120 μ.1 0 → m_insC μ c A 212 0 k = A 212 0 k := fun k hk => by
    unfold m_insC m_pt
    rw [up_k _ (by decide), up_k _ (by decide), ins_212, if_neg (by rw [up_k _ (by decide)]; exact hk), up_k _ (by decide)]
  have r212 : ∀ k, k ≠ A 120 μ.1 0 - 1 → m_ex1 μ c A 212 0 k = A 212 0 k := fun k hk => by
    rw [eR, up_i _ _ _ _ _ _ hk, pool_at (by decide), hY, up_k _ (by decide), up_k _ (by decide), opens_at (by decide)]
  refine ⟨fun {cc a i} z1 z2 z3 z4 z5 => ?_, ⟨by rw [r120, iR.1], by rw [r120]; exact Int.le_refl _⟩, fun k k0 k1 => by rw [r120] at k1; omega, fun k k0 k1 => by rw [r212 k k1, v212 k (by omega)], ?_⟩
  · rw [eR, eV, up_k _ z3, up_k _ z2]
    exact (pool_cg (fun y1 y2 y3 y4 => (eT y1 y2 y3 y4).symm) z1 z2 z3 z4)
  · rw [eR, up_s, v212 _ (by omega)]
/-- what stands between calls hangs on nothing else -/
theorem CHB.cgF (h : CHB p μ f (lvL p μ A) w A) (hT : TB μ M A) (hM : M ≤ 600) (s1 : SB 1 A) (hb : bB A') (e : ∀ {c : Nat} {a i : Int}, c ≠ 240 → c ≠ 136 → c ≠ 212 → c ≠ 120 → c ≠ 234 → c ≠ 139 → A' c a i = A c a i) (e120 : A' 120 μ.1 0 = A 120 μ.1 0) (e212 : ∀ k, 0 ≤ k → k < A 120 μ.1 0 → A' 212 0 k = A 212 0 k) : CHB p μ f (lvL p μ A') w A' := by
  obtain ⟨h1, h2, h3⟩ := h
  have hl := h3.b0.1
  have e0 : ∀ {c : Nat} {a i : Int}, (122 ≤ c ∧ c ≤ 133) ∨ (200 ≤ c ∧ c ≤ 211) ∨ c = 213 ∨ (214 ≤ c ∧ c ≤ 232) ∨ (235 ≤ c ∧ c ≤ 236) → A' c a i = A c a i := fun z => e (by omega) (by omega) (by omega) (by omega) (by omega) (by omega)
  have eL : lvL p μ A' = lvL p μ A := by unfold lvL; rw [e120, e0 (c := 122) (by decide)]
  have h6 : bPb A' := h3.b0.2.2.1.cong fun i => e0 (by decide)
  have eQ : EQv TA 0 0 A A' := EQv.buf (V := A) (V' := A) EQv.refl (fun _ _ _ _ => rfl) (fun c i x y => e0 (by omega))
  have hp : ∀ P : Int, PAg P A A' := fun P j _ _ => pby_cong (e0 (by decide))
  refine ⟨?_, h2.app hT hM s1 h3.b0.2.2.2 h3.b0.2.2.1 (TSx.of (fun c a i z => e0 (by omega)) (fun i i0 i1 => e212 i i0 (by omega)) (hp _)) h6 (fun _ _ _ => rfl), ?_⟩
  · rw [eL]
    exact h1.cE hl (AgO.of fun c a i z => e0 (by omega)) (fun i => e0 (by decide)) e120 e212 eQ (e0 (by decide)) (e0 (by decide)) (fun j _ _ => ⟨e0 (by decide), e0 (by decide)⟩)
  · rw [e0 (c := 126) (by decide)]
    exact h3.keep e120 (e (by decide) (by decide) (by decide) (by decide) (by decide) (by decide)) (e0 (by decide)) (e0 (by decide)) e212 (hp _) hb h6 (fun r => e0 (by decide)) (eQ.mono fun _ _ _ _ => trivial)
end SHR
