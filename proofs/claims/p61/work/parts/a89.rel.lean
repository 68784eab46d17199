/-! where only the editor's own numbers change -/
section SCM
variable {p : RP} {w w' A A' A1 A3 : Mm} {μ : MU} {f g S P M v x c : Int} {L : List Int}
theorem CHB.sc (h : CHB p μ f (lvL p μ A) w A) (hT : TB μ M A) (hM : M ≤ 600) (s1 : SB 1 A) (e : ∀ (k : Nat) (a i : Int), k < 86 ∨ 90 < k → w' k a i = w k a i) (eA : ∀ (c : Nat) (a i : Int), c < 129 ∨ 139 < c → A' c a i = A c a i) (hs : vSc (pc_ p) μ w' A' f) : CHB p μ f (lvL p μ A') w' A' :=
  h.cgA (h.1.sc e eA hs) hT hM s1 fun c a i z => eA c a i (by omega)
theorem RLm.E86 (h : RLm p μ f L w A) (e : ∀ (k : Nat) (a i : Int), k < 86 ∨ 91 < k ∨ a ≠ f → w' k a i = w k a i) : UPG f w w' := by
  have t1 := h.1.2.1.1.1
  have t2 := h.1.2.2.2.2.2.1.1
  exact ⟨⟨fun k a i _ hk => e k a i (by omega), fun k i hk => e k 0 i (by omega)⟩, fun k hk => e k f 0 (by omega), fun k => e k _ 0 (Or.inr (Or.inr (fun z => by rw [z] at t2; omega)))⟩
theorem CHB.cur (h : CHB p μ f L w A) (hT : TB μ M A) : w 63 (w 40 (w 45 f 0) 0) 0 = A 126 μ.1 0 ∧ (w 0 (w 45 f 0) 0 = 11 ∧ w 0 (w 40 (w 45 f 0) 0) 0 = 5) := by
  have ha := h.2.1.1.1.1.cur hT
  have v7 := h.1.1.2.2.2.1.1.2.2.2.2.1
  rw [v7]
  exact ⟨(h.1.nd ha).1.2, h.1.1.2.2.2.1.1.1.1.1, (h.1.tg5 ha).1⟩
theorem close_0 (h : A 132 μ.1 0 = 0) : o_close μ A = (0, m_th μ 1 A) := by unfold o_close; rw [if_pos h]
theorem close_1 (h : A 132 μ.1 0 = 1) : o_close μ A = m_cl1 μ (m_ends μ 0 (up (m_saves μ 2 (up A 139 μ.1 0 0)) 132 μ.1 0 0)) := by
  unfold o_close m_clW; rw [if_neg (by omega), h, show (1 : Int) - 1 = 0 by decide]
theorem ends_c0 (h : A1 120 μ.1 0 = A1 122 μ.1 0) : m_ends μ g (up A1 132 μ.1 0 0) = (1, up A1 132 μ.1 0 0) := ends_0 (Or.inr (by rw [up_k _ (by decide), up_k _ (by decide)]; exact h))
theorem ends_c1 (hB : LB μ S P A1) (hK : RK μ S P M A1) (h : A1 120 μ.1 0 ≠ A1 122 μ.1 0) : m_ends μ g (up A1 132 μ.1 0 0) = ((m_en2 μ g (m_ntf μ A1)).1, up (m_en2 μ g (m_ntf μ A1)).2 132 μ.1 0 0) := by
  rw [← en2_132 hB hK]
  unfold m_ends
  rw [if_neg]
  rw [up_s, up_k _ (by decide), up_k _ (by decide)]
  omega
theorem RK.un (hK : RK μ S P M (up A3 132 μ.1 0 v)) : TB μ M A3 ∧ SB 1 A3 :=
  ⟨hK.2.2.2.1.cong fun c a i z => (up_k _ (by omega) _ _ _ _ _).symm, hK.2.2.1.cong fun c a i y z => (up_k _ (by omega) _ _ _ _ _).symm⟩
/-- the group is closed, nothing is typed -/
theorem CHB.og (h : CHB p μ f (lvL p μ A) w A) (hT : TB μ M A) (hM : M ≤ 600) (s1 : SB 1 A) : CHB p μ f (lvL p μ (up (up A 132 μ.1 0 0) 129 μ.1 0 (-1))) (up (up w 87 f 0 0) 88 f 0 0) (up (up A 132 μ.1 0 0) 129 μ.1 0 (-1)) := by
  refine h.sc hT hM s1 (fun k a i z => by rw [up_k _ (by omega), up_k _ (by omega)]) (fun c a i z => by rw [up_k _ (by omega), up_k _ (by omega)]) ?_
  obtain ⟨s1, ⟨s2, s3, s4⟩, s5, s6, s7, s8, s9, s10⟩ := h.1.1.2.1
  unfold vSc
  simp (disch := decide) only [up_k, up_s]
  exact ⟨s1, ⟨s2, s3, s4⟩, s5, s6, trivial, rfl, s9, s10⟩
/-- nothing is typed -/
theorem CHB.ty0 (h : CHB p μ f (lvL p μ A) w A) (hT : TB μ M A) (hM : M ≤ 600) (s1 : SB 1 A) : CHB p μ f (lvL p μ (up A 129 μ.1 0 (-1))) (up w 88 f 0 0) (up A 129 μ.1 0 (-1)) := by
  refine h.sc hT hM s1 (fun k a i z => up_k _ (by omega) _ _ _ _ _) (fun c a i z => up_k _ (by omega) _ _ _ _ _) ?_
  obtain ⟨s1, ⟨s2, s3, s4⟩, s5, s6, s7, s8, s9, s10⟩ := h.1.1.2.1
  unfold vSc
  simp (disch := decide) only [up_k, up_s]
  exact ⟨s1, ⟨s2, s3, s4⟩, s5, s6, s7, rfl, s9, s10⟩
/-- it went back: the group is open still -/
theorem CHB.og1 (h : CHB p μ f (lvL p μ A) w A) (hT : TB μ M A) (hM : M ≤ 600) (s1 : SB 1 A) (h1 : A 132 μ.1 0 = 1) : CHB p μ f (lvL p μ (up (up (up A 132 μ.1 0 0) 132 μ.1 0 1) 139 μ.1 0 v)) w (up (up (up A 132 μ.1 0 0) 132 μ.1 0 1) 139 μ.1 0 v) := by
  refine h.sc hT hM s1 (fun k a i z => rfl) (fun c a i z => by rw [up_k _ (by omega), up_k _ (by omega), up_k _ (by omega)]) ?_
  obtain ⟨s1, ⟨s2, s3, s4⟩, s5, s6, s7, s8, s9, s10⟩ := h.1.1.2.1
  unfold vSc
  simp (disch := decide) only [up_k, up_s]
  exact ⟨s1, ⟨s2, s3, s4⟩, s5, s6, by rw [s7, h1], s8, s9, s10⟩
end SCM
