/-! PTX through the commands that are no calls -/
section PT8
variable {p : RP} {w A A' B : Mm} {μ : MU} {f S P M g c k a b d s e v : Int} {PL : Int → List Int} {ρ : Int → Mm} {G : Int → Int → Int}
theorem CHB.pf (h : CHB p μ f (lvL p μ A) w A) (hR : RB μ S P M A) (hM : M ≤ 598) (g : PTN μ A) (e : ∀ (c : Nat) (a i : Int), (122 ≤ c ∧ c ≤ 128) ∨ (211 ≤ c ∧ c ≤ 213) ∨ (216 ≤ c ∧ c ≤ 227) → A' c a i = A c a i) : PTX μ A' :=
  PTX.fld ⟨g, _, _, _, h.2.1⟩ hR.2.1.2.2.2.1 (by omega) hR.2.1.2.2.1 hR.1.2.2.1 h.2.2.1.2.2.1 e
theorem CHB.p9 (h : CHB p μ f (lvL p μ A) w A) (hR : RB μ S P M A) (hM : M ≤ 598) (g : PTN μ A) : PTX μ (up A 139 μ.1 0 v) := h.pf hR hM g fun c a i z => up_k _ (by omega) _ _ _ _ _
theorem PTo_checkpoint (h : CHB p μ f (lvL p μ A) w A) (hR : RB μ S P M A) (hM : M ≤ 598) (g : PTN μ A) : PTX μ (o_checkpoint μ A) := by
  unfold o_checkpoint
  split
  · exact h.p9 hR hM g
  · exact h.pf hR hM g fun c y i z => by rw [up_k _ (by omega), rec_at (by omega)]; exact up_k _ (by omega) _ _ _ _ _
theorem PTo_record (h : CHB p μ f (lvL p μ A) w A) (hR : RB μ S P M A) (hM : M ≤ 598) (g : PTN μ A) : PTX μ (o_record μ c A) := by
  unfold o_record
  split
  · split
    · exact h.p9 hR hM g
    · exact h.pf hR hM g fun c y i z => by rw [up_k _ (by omega), up_k _ (by omega), up_k _ (by omega)]; exact up_k _ (by omega) _ _ _ _ _
  · exact h.p9 hR hM g
theorem PTo_open (h : CHB p μ f (lvL p μ A) w A) (hR : RB μ S P M A) (hM : M ≤ 598) (g : PTN μ A) : PTX μ (o_open μ A) := by
  unfold o_open
  exact h.pf hR hM g fun c y i z => by rw [up_k _ (by omega), up_k _ (by omega)]; exact up_k _ (by omega) _ _ _ _ _
theorem PTo_pass (h : CHB p μ f (lvL p μ A) w A) (hR : RB μ S P M A) (hM : M ≤ 598) (g : PTN μ A) : PTX μ (o_pass μ c A) := by
  unfold o_pass
  split
  · exact h.pf hR hM g fun c y i z => by rw [up_k _ (by omega)]; exact up_k _ (by omega) _ _ _ _ _
  · exact h.pf hR hM g fun c y i z => by rw [up_k _ (by omega)]; exact up_k _ (by omega) _ _ _ _ _
theorem PTo_listen (h : CHB p μ f (lvL p μ A) w A) (hR : RB μ S P M A) (hM : M ≤ 598) (g : PTN μ A) : PTX μ (o_listen μ c a b d A) := by
  unfold o_listen
  split
  · split
    · exact h.pf hR hM g fun c y i z => by rw [up_k _ (by omega), up_k _ (by omega), up_k _ (by omega), up_k _ (by omega), up_k _ (by omega)]; exact up_k _ (by omega) _ _ _ _ _
    · exact h.p9 hR hM g
  · exact h.p9 hR hM g
theorem PTo_unlisten (h : CHB p μ f (lvL p μ A) w A) (hR : RB μ S P M A) (hM : M ≤ 598) (g : PTN μ A) : PTX μ (o_unlisten μ c A).2 := by
  unfold o_unlisten
  split
  · exact h.pf hR hM g fun c y i z => by dsimp only; rw [up_k _ (by omega), up_k _ (by omega)]; exact up_k _ (by omega) _ _ _ _ _
  · exact h.p9 hR hM g
theorem PTo_stop (h : CHB p μ f (lvL p μ A) w A) (hR : RB μ S P M A) (hM : M ≤ 598) (g : PTN μ A) : PTX μ (o_stop μ A).2 := by
  unfold o_stop
  split
  · exact h.p9 hR hM g
  · exact h.pf hR hM g fun c y i z => by
      show up (up (m_stW μ (A 133 μ.1 0) (m_th μ 0 A)) 133 μ.1 0 (-1)) 129 μ.1 0 (-1) c y i = A c y i
      rw [up_k _ (by omega), up_k _ (by omega)]
      unfold m_stW
      rw [up_k _ (by omega), fl_at (by omega)]
      exact up_k _ (by omega) _ _ _ _ _
theorem CHB.pbk (h : CHB p μ f (lvL p μ A) w A) (hR : RB μ S P M A) (hM : M ≤ 598) (g : PTN μ A) (hc : 0 ≤ c ∧ c < 5) (hv : v = -1 ∨ alv μ A v) : PTX μ (m_mkN μ c v (up A 139 μ.1 0 k)) := by
  have hT := hR.2.1.2.2.2.1
  have e : ∀ {cc : Nat} {y i : Int}, cc ≠ 139 ∧ cc ≠ 227 ∧ cc ≠ 129 → m_mkN μ c v (up A 139 μ.1 0 k) cc y i = A cc y i := fun z => by
    unfold m_mkN; rw [up_k _ z.2.2, up_k _ z.2.1, up_k _ z.1]
  have h0 : TX μ (pr_ p) (pg_ p) (pl_ p) (up (up A 139 μ.1 0 k) 129 μ.1 0 (-1)) := h.2.1.app hT (by omega) hR.2.1.2.2.1 hR.1.2.2.1 h.2.2.1.2.2.1 (TSx.of (fun c a i q => by rw [up_k _ (by omega), up_k _ (by omega)]) (fun i _ _ => by rw [up_k _ (by decide), up_k _ (by decide)]) (fun j _ _ => pby_cong (by rw [up_k _ (by decide), up_k _ (by decide)]))) (h.2.2.1.2.2.1.cong fun i => by rw [up_k _ (by decide), up_k _ (by decide)]) (fun _ _ _ => rfl)
  have e0 : ∀ {cc : Nat} {y i : Int}, cc ≠ 139 ∧ cc ≠ 129 → up (up A 139 μ.1 0 k) 129 μ.1 0 (-1) cc y i = A cc y i := fun z => by rw [up_k _ z.2, up_k _ z.1]
  have hal : ∀ {x : Int}, alv μ (up (up A 139 μ.1 0 k) 129 μ.1 0 (-1)) x ↔ alv μ A x := by
    intro x; unfold alv; rw [e0 (by decide), e0 (by decide)]
  have hT0 : TB μ M (up (up A 139 μ.1 0 k) 129 μ.1 0 (-1)) := hT.cong fun c a i q => e0 (by omega)
  have h1 : TX μ (pr_ p) (pg_ p) (pl_ p) (m_mkN μ c v (up A 139 μ.1 0 k)) := by
    refine h0.cur2 hT0 (by omega) (hR.2.1.2.2.1.cong fun c a i y z => e0 (by omega)) (hR.1.2.2.1.cong fun i => e0 (by decide)) (h.2.2.1.2.2.1.cong fun i => e0 (by decide)) (fun cc y i z => ?_) ?_ (fun j j0 j1 => ?_)
    · unfold m_mkN
      by_cases z9 : cc = 129
      · subst z9
        simp only [up]
        simp
      · rw [up_k _ z9, up_k _ z.2, up_k _ z9]
    · rw [e (by decide), hal]; exact h.2.1.1.1.1.cur hT
    · unfold m_mkN
      rw [up_k _ (by decide)]
      by_cases z : j = c
      · rw [z, up_s, hal]; exact hv
      · rw [up_i _ _ _ _ _ _ z, up_k _ (by decide), hal]; exact h.2.1.1.2 j j0 j1
  refine ⟨g.tx h.2.1 hT h1 (hT.cong fun c a i q => ?_) (fun x hx => ⟨?_, ?_⟩), _, _, _, h1⟩
  · exact e (by omega)
  · unfold alv at hx ⊢; rw [e (by decide), e (by decide)] at hx; exact hx
  · rw [e (by decide)]; exact Int.le_refl _
theorem PTo_setBookmark (h : CHB p μ f (lvL p μ A) w A) (hR : RB μ S P M A) (hM : M ≤ 598) (g : PTN μ A) : PTX μ (o_setBookmark μ c A).2 := by
  unfold o_setBookmark
  split
  · exact h.pbk hR hM g (by omega) (Or.inr (h.2.1.1.1.1.cur hR.2.1.2.2.2.1))
  · exact h.p9 hR hM g
theorem PTo_clearBookmark (h : CHB p μ f (lvL p μ A) w A) (hR : RB μ S P M A) (hM : M ≤ 598) (g : PTN μ A) : PTX μ (o_clearBookmark μ c A).2 := by
  unfold o_clearBookmark
  split
  · exact h.pbk hR hM g (by omega) (Or.inl rfl)
  · exact h.p9 hR hM g
theorem PTo_setBudget (h : CHB p μ f (lvL p μ A) w A) (hR : RB μ S P M A) (hM : M ≤ 598) (g : PTN μ A) : PTX μ (o_setBudget μ c A).2 := by
  unfold o_setBudget
  split
  · have hT := hR.2.1.2.2.2.1
    have e0 : ∀ {cc : Nat} {y i : Int}, cc ≠ 139 ∧ cc ≠ 129 ∧ cc ≠ 128 → up (up (m_th μ 0 A) 128 μ.1 0 c) 129 μ.1 0 (-1) cc y i = A cc y i := fun z => by
      rw [up_k _ z.2.1, up_k _ z.2.2]; exact up_k _ z.1 _ _ _ _ _
    have hT' : TB μ M (up (up (m_th μ 0 A) 128 μ.1 0 c) 129 μ.1 0 (-1)) := by
      obtain ⟨t1, t2, t3, t4, t5, t6, t7⟩ := hT
      refine ⟨by rw [e0 (by decide)]; exact t1, by rw [e0 (by decide), e0 (by decide)]; exact t2, by rw [e0 (by decide), e0 (by decide)]; exact t3, by rw [up_k _ (by decide), up_s]; omega, by rw [e0 (by decide)]; exact t5, by rw [e0 (by decide)]; exact t6, ?_⟩
      unfold bTn at t7 ⊢
      simp (disch := decide) only [e0]
      exact t7
    have z : PTX μ (up (up (m_th μ 0 A) 128 μ.1 0 c) 129 μ.1 0 (-1)) := PTX.app ⟨g, _, _, _, h.2.1⟩ hT hT' (by omega) hR.2.1.2.2.1 hR.1.2.2.1 h.2.2.1.2.2.1 (TSx.of (fun c a i q => e0 (by omega)) (fun i _ _ => e0 (by decide)) (fun j _ _ => pby_cong (e0 (by decide)))) (h.2.2.1.2.2.1.cong fun i => e0 (by decide))
    obtain ⟨z1, ρ, G, PL, z2⟩ := z
    obtain ⟨q1, PL', q2⟩ := PTN.mrg 1000 0 _ PL z1 z2 hT' (by omega) (hR.2.1.2.2.1.cong fun c a i y z => e0 (by omega)) (hR.1.2.2.1.cong fun i => e0 (by decide)) (h.2.2.1.2.2.1.cong fun i => e0 (by decide))
    exact ⟨q1, _, _, _, q2⟩
  · exact h.p9 hR hM g
theorem TLn.u (h : TLn μ S P M A) (hM : M ≤ 600) : TLn μ S P M (up A 132 μ.1 0 v) := by
  obtain ⟨ρ, G, PL, h1, h2, ⟨hB, hK⟩, h4, h5⟩ := h
  have hT := hK.2.2.2.1
  have e : ∀ {c : Nat} {x i : Int}, c ≠ 132 → up A 132 μ.1 0 v c x i = A c x i := fun z => up_k _ z _ _ _ _ _
  have t : TSx μ A (up A 132 μ.1 0 v) := TSx.of (fun c a i z => e (by omega)) (fun i _ _ => e (by decide)) (fun j _ _ => pby_cong (e (by decide)))
  have h6 : bPb (up A 132 μ.1 0 v) := h2.b0.2.2.1.cong fun i => e (by decide)
  have hK' : RK μ S P M (up A 132 μ.1 0 v) := hK.up_o (by decide)
  refine ⟨ρ, G, PL, h1.app hT hM hK.2.2.1 hB.2.2.1 h2.b0.2.2.1 t h6 (fun _ _ _ => rfl), ?_, ⟨hB.up_o (by decide), hK'⟩, h4.app h1 hT hK'.2.2.2.1 hM hK.2.2.1 hB.2.2.1 h2.b0.2.2.1 t h6, by rw [e (by decide), e (by decide)]; exact h5⟩
  rw [e (c := 126) (by decide)]
  exact h2.cg (hB.2.2.1.cong fun i => e (by decide)) (fun c a i z => e (by omega))
theorem PTo_close (h : CHB p μ f (lvL p μ A) w A) (hR : RB μ S P M A) (hS : S ≤ 28900) (hP : P ≤ 500000) (hM : M ≤ 598) (g : PTN μ A) : PTX μ (o_close μ A).2 := by
  unfold o_close
  split
  · exact h.p9 hR hM g
  · have t : TLn μ S P M (m_clW μ A) := ((TLn.o9 (v := 1 - A 132 μ.1 0) h hR hM g).1.sav (by omega)).u (by omega)
    obtain ⟨q1, q2, q3⟩ := clW_ok hR
    obtain ⟨x1, x2, x3⟩ := ends_ok (g := 0) q1 q2 q3 (by decide) (by omega) (by omega)
    have z := t.ends (g := 0) (by omega) (by omega) (by omega) (by decide)
    have h6 : bPb (m_ends μ 0 (m_clW μ A)).2 := t.x.2.2.2.2.cong fun i => x3 _ _ _ (by decide)
    unfold m_cl1
    split
    · exact z.fld x2.2.2.2.1 (by omega) x2.2.2.1 x1.2.2.1 h6 (fun c y i q => by dsimp only; rw [up_k _ (by omega), up_k _ (by omega)])
    · exact z.fld x2.2.2.2.1 (by omega) x2.2.2.1 x1.2.2.1 h6 (fun c y i q => up_k _ (by omega) _ _ _ _ _)
theorem PTo_wks (h : CHB p μ f (lvL p μ A) w A) (hR : RB μ S P M A) (hM : M ≤ 598) (g : PTN μ A) (ha : alv μ A k) : PTX μ (m_wks μ (pl_ p) k (up A 139 μ.1 0 v)) :=
  ⟨(h.bw9 hR hM g ha).2, _, _, _, (h.o9 hR hM).2.1.wks hR.o9.2.1.2.2.2.1 (by omega) hR.o9.2.1.2.2.1 hR.o9.1.2.2.1 (h.o9 hR hM).2.2.1.2.2.1 ha⟩
end PT8
