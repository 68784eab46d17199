/-! the relation where the editor's own numbers and its macros change -/
section RSD
variable {p : RP} {w w' A A' : Mm} {μ : MU} {f : Int} {L : List Int}
theorem ixN_cg2 (eA : ∀ (c : Nat) (a i : Int), c < 129 ∨ (139 < c ∧ c ≠ 235 ∧ c ≠ 236) → A' c a i = A c a i) : ∀ L : List Int, ixN A' L = ixN A L
  | [] => rfl
  | x :: xs => by simp only [ixN]; rw [ixN_cg2 eA xs, eA 220 _ _ (by decide), eA 218 _ _ (by decide)]
theorem RLm.sc2 (h : RLm p μ f L w A) (e : ∀ (k : Nat) (a i : Int), (k < 62 ∨ (62 < k ∧ k < 86) ∨ 90 < k) → w' k a i = w k a i) (eA : ∀ (c : Nat) (a i : Int), c < 129 ∨ (139 < c ∧ c ≠ 235 ∧ c ≠ 236) → A' c a i = A c a i) (hs : vSc (pc_ p) μ w' A' f) (hM' : vMs (pc_ p) w' A' f) : RLm p μ f L w' A' := by
  obtain ⟨⟨c0, -, hD, ⟨⟨t1, t2⟩, t3, t4⟩, hM, hTl, hTs⟩, hL, ⟨hV, hQ, hLc⟩, hSp⟩ := h
  refine ⟨⟨fun a ha => c0 a (by rw [← e 0 a 0 (by decide)]; exact ha), hs, ?_, ⟨⟨?_, ?_⟩, ?_, fun k k0 k1 k2 => ?_⟩, ?_, ?_, ?_⟩, ?_, ⟨?_, ?_, ?_⟩, fun k k0 k1 => ?_⟩
  · have h := hD
    unfold rDk sDk bDk sSt at h ⊢
    simp (disch := decide) only [e, eA]; exact h
  · have h := t1
    unfold sTr at h ⊢
    simp (disch := decide) only [e, eA]; exact h
  · have h := t2
    unfold vTr at h ⊢
    simp (disch := decide) only [e, eA]; exact h
  · have h := t3
    unfold vAl at h ⊢
    simp (disch := decide) only [e, eA]; exact h
  · rw [eA 124 _ _ (by decide)] at k1
    rw [eA 216 _ _ (by decide)] at k2
    obtain ⟨n1, n2, ⟨n3, n4⟩, n5, n6⟩ := t4 k k0 k1 k2
    refine ⟨?_, ?_, ⟨?_, ?_⟩, ?_, ?_⟩
    · simp (disch := decide) only [e]; exact n1
    · unfold sSt vSt vTx vSr vCh at n2 ⊢
      simp (disch := decide) only [e]; exact n2
    · simp (disch := decide) only [e]; exact n3
    · rw [ixN_cg2 eA, e 25 _ _ (by decide)]
      exact n4.cg (e _ _ _ (by decide)) (e _ _ _ (by decide)) (e _ _ _ (by decide)) (e _ _ _ (by decide)) (fun x _ => ⟨e _ _ _ (by decide), e _ _ _ (by decide)⟩) (fun x _ => e _ _ _ (by decide))
    · have hc : m_chl μ k A' = m_chl μ k A := by
        unfold m_chl m_chF
        simp (disch := decide) only [eA]
      rw [hc]
      simp (disch := decide) only [e, eA]; exact n5
    · rw [ixN_cg2 eA, eA 122 _ _ (by decide)]; exact n6
  · exact hM'
  · have h := hTl
    unfold sTl at h ⊢
    simp (disch := decide) only [e]; exact h
  · have h := hTs
    unfold vTs at h ⊢
    simp (disch := decide) only [e]; exact h
  · have h := hL
    unfold vLs LT at h ⊢
    simp (disch := decide) only [e, eA]; exact h
  · have h := hV
    unfold vDk vSt vTx vSr vCh at h ⊢
    simp (disch := decide) only [e, eA]; exact h
  · rw [e 41 _ _ (by decide), e 12 _ _ (by decide)]
    exact hQ.cg (e _ _ _ (by decide)) (e _ _ _ (by decide)) (e _ _ _ (by decide)) (e _ _ _ (by decide)) (fun x _ => ⟨e _ _ _ (by decide), e _ _ _ (by decide)⟩) (fun x _ => e _ _ _ (by decide))
  · rw [eA 122 _ _ (by decide)]; exact hLc
  · rw [eA 120 _ _ (by decide)] at k1
    have h := hSp k k0 k1
    unfold vSp vCh at h ⊢
    simp (disch := decide) only [e, eA]; exact h
end RSD
