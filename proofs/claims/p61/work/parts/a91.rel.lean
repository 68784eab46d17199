/-! the relation where the budget changes as well -/
section SC9
variable {p : RP} {w w' A A' : Mm} {μ : MU} {f c M S P : Int} {L : List Int}
theorem ixN_c9 (e0 : ∀ q, A' 220 0 q = A 220 0 q) (e8 : ∀ q, A' 218 0 q = A 218 0 q) : ∀ L : List Int, ixN A' L = ixN A L
  | [] => rfl
  | x :: xs => by simp only [ixN]; rw [ixN_c9 e0 e8 xs, e0, e8]
theorem RLm.sc9 (h : RLm p μ f L w A) (e : ∀ (k : Nat) (a i : Int), k ≠ 79 ∧ (k < 86 ∨ 90 < k) → w' k a i = w k a i) (eA : ∀ (c : Nat) (a i : Int), c < 128 ∨ 139 < c → A' c a i = A c a i) (hs : vSc (pc_ p) μ w' A' f) (ht : vTr (pn_ p) (pa_ p) μ w' A' (w' 45 f 0)) : RLm p μ f L w' A' := by
  obtain ⟨⟨c0, -, hD, ⟨⟨t1, t2⟩, t3, t4⟩, hM, hTl, hTs⟩, hL, ⟨hV, hQ, hLc⟩, hSp⟩ := h
  have eX := ixN_c9 (A := A) (A' := A') (fun q => eA 220 0 q (by decide)) (fun q => eA 218 0 q (by decide))
  refine ⟨⟨fun a ha => c0 a (by rw [← e 0 a 0 (by decide)]; exact ha), hs, ?_, ⟨⟨?_, ht⟩, ?_, fun k k0 k1 k2 => ?_⟩, ?_, ?_, ?_⟩, ?_, ⟨?_, ?_, ?_⟩, fun k k0 k1 => ?_⟩
  · have h := hD
    unfold rDk sDk bDk sSt at h ⊢
    simp (disch := decide) only [e, eA]; exact h
  · have h := t1
    unfold sTr at h ⊢
    simp (disch := decide) only [e, eA]; exact h
  · have h := t3
    unfold vAl at h ⊢
    simp (disch := decide) only [e, eA]; exact h
  · rw [eA 124 _ _ (by decide)] at k1
    rw [eA 216 _ _ (by decide)] at k2
    obtain ⟨n1, n2, ⟨n3, n4⟩, n5, n6⟩ := t4 k k0 k1 k2
    refine ⟨?_, ?_, ⟨?_, ?_⟩, ?_, ?_⟩
    · simp (disch := decide) only [e]; exact n1
    · unfold sSt vSt vTx vSr vCh at n2 ⊢
      simp (disch := decide) only [e]; exact n2
    · simp (disch := decide) only [e]; exact n3
    · rw [eX, e 25 _ _ (by decide)]
      exact n4.cg (e _ _ _ (by decide)) (e _ _ _ (by decide)) (e _ _ _ (by decide)) (e _ _ _ (by decide)) (fun x _ => ⟨e _ _ _ (by decide), e _ _ _ (by decide)⟩) (fun x _ => e _ _ _ (by decide))
    · have hc : m_chl μ k A' = m_chl μ k A := by
        unfold m_chl m_chF
        simp (disch := decide) only [eA]
      rw [hc]
      simp (disch := decide) only [e, eA]; exact n5
    · rw [eX, eA 122 _ _ (by decide)]; exact n6
  · have h := hM
    unfold vMs vMc MT at h ⊢
    simp (disch := decide) only [e, eA]; exact h
  · have h := hTl
    unfold sTl at h ⊢
    simp (disch := decide) only [e]; exact h
  · have h := hTs
    unfold vTs at h ⊢
    simp (disch := decide) only [e]; exact h
  · have h := hL
    unfold vLs LT at h ⊢
    simp (disch := decide) only [e, eA]; exact h
  · have h := hV
    unfold vDk vSt vTx vSr vCh at h ⊢
    simp (disch := decide) only [e, eA]; exact h
  · rw [e 41 _ _ (by decide), e 12 _ _ (by decide)]
    exact hQ.cg (e _ _ _ (by decide)) (e _ _ _ (by decide)) (e _ _ _ (by decide)) (e _ _ _ (by decide)) (fun x _ => ⟨e _ _ _ (by decide), e _ _ _ (by decide)⟩) (fun x _ => e _ _ _ (by decide))
  · rw [eA 122 _ _ (by decide)]; exact hLc
  · rw [eA 120 _ _ (by decide)] at k1
    have h := hSp k k0 k1
    unfold vSp vCh at h ⊢
    simp (disch := decide) only [e, eA]; exact h
/-- the budget is set -/
theorem CHB.bud (h : CHB p μ f (lvL p μ A) w A) (hT : TB μ M A) (hM : M ≤ 600) (s1 : SB 1 A) (hc : 2 ≤ c ∧ c ≤ 600) : MGB p μ f (lvL p μ A) M (up (up w 79 (w 45 f 0) 0 c) 88 f 0 0) (up (up A 128 μ.1 0 c) 129 μ.1 0 (-1)) := by
  have eA : ∀ (k : Nat) (a i : Int), k < 128 ∨ 139 < k → up (up A 128 μ.1 0 c) 129 μ.1 0 (-1) k a i = A k a i := fun k a i z => by rw [up_k _ (by omega), up_k _ (by omega)]
  have hb := h.2.2.b0
  refine ⟨?_, ?_, hT.bud hc, ⟨s1.cong fun c a i y z => eA _ _ _ (by omega), hb.2.2.2.cong fun i => eA _ _ _ (by decide), hb.2.2.1.cong fun i => eA _ _ _ (by decide)⟩, by rw [eA _ _ _ (by decide), eA _ _ _ (by decide)]; exact hb.1⟩
  · refine h.1.sc9 (fun k a i z => by rw [up_k _ (by omega), up_k _ (by omega)]) eA ?_ ?_
    · obtain ⟨s1, ⟨s2, s3, s4⟩, s5, s6, s7, s8, s9, s10⟩ := h.1.1.2.1
      unfold vSc
      simp (disch := decide) only [up_k, up_s]
      exact ⟨s1, ⟨s2, s3, s4⟩, s5, s6, s7, rfl, s9, s10⟩
    · obtain ⟨⟨v1, v2, v3, v4⟩, v5, v6, v7, v8, v9⟩ := h.1.1.2.2.2.1.1.2
      unfold vTr
      simp (disch := decide) only [up_k, up_s]
      exact ⟨⟨v1, v2, v3, v4⟩, v5, v6, v7, v8, trivial⟩
  · exact h.2.1.app hT hM s1 hb.2.2.2 hb.2.2.1 (TSx.of (fun c a i z => eA _ _ _ (by omega)) (fun i _ _ => eA _ _ _ (by decide)) (fun j _ _ => pby_cong (eA _ _ _ (by decide)))) (hb.2.2.1.cong fun i => eA _ _ _ (by decide)) (fun _ _ _ => rfl)
theorem MGB.chb {c2 al : Int → Int} {PL : Int → List Int} {A9 : Mm} (h : MGB (pM p c2 al PL) μ f (lvL p μ A) M w' (m_mrgs μ A9).2) {x : Int} (hx : A9 126 μ.1 0 = x) (hLV : LIV μ (pg_ p) (pr_ p x) A9) (e120 : A9 120 μ.1 0 = A 120 μ.1 0) (e122 : A9 122 μ.1 0 = A 122 μ.1 0) : CHB (pM p c2 al PL) μ f (lvL (pM p c2 al PL) μ (m_mrgs μ A9).2) w' (m_mrgs μ A9).2 := by
  have em : ∀ {c : Nat} {a i : Int}, c ≠ 125 ∧ (c < 216 ∨ 225 < c) → (m_mrgs μ A9).2 c a i = A9 c a i := fun z => mrg_o z _ _ _
  have e : lvL (pM p c2 al PL) μ (m_mrgs μ A9).2 = lvL p μ A := by
    unfold lvL
    rw [em (c := 120) (by decide), em (c := 122) (by decide), e120, e122]
    rfl
  refine ⟨by rw [e]; exact h.1, h.2.1, ?_⟩
  rw [em (c := 126) (by decide), hx]
  exact hLV.cg (hLV.b0.2.2.2.cong fun i => em (by decide)) (fun c a i z => em (by omega))
end SC9
