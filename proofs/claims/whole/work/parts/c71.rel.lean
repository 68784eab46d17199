/-! what the reference's calls ask, for a world that has the reference's cells of another -/
section CGW
variable {w A B V : Mm} {μ : MU} {S P M m : Int} {PL : Int → List Int}
theorem pc0 {c : Nat} {i : Int} (h : 120 ≤ c) : pc (KLw μ) w B c 0 i = B c 0 i := pc_g (KLw_f (by omega) (Or.inl rfl)) i
theorem pcm {c : Nat} {i : Int} (h : 120 ≤ c) : pc (KLw μ) w B c μ.1 i = B c μ.1 i := pc_g (KLw_f (by omega) (Or.inr rfl)) i
theorem RB.pcl (h : RB μ S P M A) : RB μ S P M (pc (KLw μ) w A) := by
  have e : RB μ S P M (pc (KLw μ) w A) ↔ RB μ S P M A := by
    simp (disch := decide) only [RB, LB, RK, bZ, bY, SB, VB, bB, bTr, bN, SV, TB, bPo, bOt, bMc, bL1, bT, bMl, bC, bEl, bEc, bV, bVa, bVn, bP, bTn, pc0, pcm]
  exact e.mpr h
theorem bEx.pcl (h : bEx μ A) : bEx μ (pc (KLw μ) w A) := by
  have e : bEx μ (pc (KLw μ) w A) ↔ bEx μ A := by
    simp (disch := decide) only [bEx, pc0, pcm]
  exact e.mpr h
theorem CHL.pcl : ∀ (ps : List Int) (p : Int), CHL m A p ps → CHL m (pc (KLw μ) w A) p ps
  | [], p, h => h
  | x :: xs, p, h => by
    obtain ⟨h1, h2, h3, h4, h5, h6⟩ := h
    have e8 : ∀ i, pc (KLw μ) w A 218 0 i = A 218 0 i := fun i => pc0 (by decide)
    have e9 : ∀ i, pc (KLw μ) w A 219 0 i = A 219 0 i := fun i => pc0 (by decide)
    have e0 : ∀ i, pc (KLw μ) w A 220 0 i = A 220 0 i := fun i => pc0 (by decide)
    have e2 : ∀ i, pc (KLw μ) w A 212 0 i = A 212 0 i := fun i => pc0 (by decide)
    have e3 : ∀ i, pc (KLw μ) w A 223 0 i = A 223 0 i := fun i => pc0 (by decide)
    refine ⟨h1, h2, by rw [e8, e0]; exact h3, by rw [e9]; exact h4, fun i i0 i1 => ?_, ?_⟩
    · rw [e8] at i0 i1; rw [e0] at i1; rw [e2]; exact h5 i i0 i1
    · rw [e3]; exact CHL.pcl xs _ h6
theorem sto_pcl {v t : Int} {n : Nat} : (m_sto v t (pc (KLw μ) w V) n).1 = (m_sto v t V n).1 := (lq_sto (w := w) (B := V) (KLw_ok (μ := μ)) v t n).1
theorem LG1.pcl {x t : Int} (h : LG1 x t V) : LG1 x t (pc (KLw μ) w V) := by
  have e : LG1 x t (pc (KLw μ) w V) ↔ LG1 x t V := by
    simp (disch := first | decide | exact KLw_ok) only [LG1, LGs, LGc, LGb, pc0, pcm, pc_pby (μ := μ) KLw_ok, sto_pcl]
  exact e.mpr h
theorem LGr.pcl {k v t : Int} (h : LGr k v t V) : LGr k v t (pc (KLw μ) w V) := fun a b => by rw [pc_pby KLw_ok]; exact h a b
theorem LGL.pcl : ∀ (L : List (Int × Int)) (V : Mm), LGL L V → LGL L (pc (KLw μ) w V)
  | [], _, _ => trivial
  | x :: xs, V, h => by
    refine ⟨⟨LG1.pcl h.1.1, LGr.pcl h.1.2⟩, ?_⟩
    rw [lq_play KLw_ok]
    exact LGL.pcl xs _ h.2
theorem RPk.pcl {k : Int} (h : RPk μ PL k A) : RPk μ PL k (pc (KLw μ) w A) := by
  obtain ⟨h1, h2⟩ := h
  refine ⟨fun j hj => ?_, ?_⟩
  · rw [lq_pln KLw_ok] at hj
    obtain ⟨z1, z2, z3, z4⟩ := h1 j hj
    rw [lq_anc KLw_ok, lq_nodeL KLw_ok, pc0 (by decide)]
    exact ⟨z1, CHL.pcl _ _ z2, z3, z4⟩
  · rw [lq_RSx KLw_ok, lq_rp0 KLw_ok]
    exact LGL.pcl _ _ h2
theorem RPA.pcl (h : RPA μ PL A) : RPA μ PL (pc (KLw μ) w A) := fun k k0 k1 k2 => by
  rw [pcm (by decide)] at k1
  rw [pc0 (by decide)] at k2
  exact (h k k0 k1 k2).pcl
theorem RQ.pcl {k : Int} (h : RQ μ PL k A) : RQ μ PL k (pc (KLw μ) w A) := by
  obtain ⟨h1, h2, h3, h4⟩ := h
  refine ⟨h1.pcl, fun y hy => ?_, fun j hj p hp => ?_, ?_⟩
  · rw [lq_RSx KLw_ok] at hy
    rw [lq_play KLw_ok, pcm (by decide)]
    exact h2 y hy
  · rw [lq_pln KLw_ok] at hj
    rw [lq_anc KLw_ok] at hp
    rw [pc0 (by decide), pc0 (by decide), pcm (by decide)]
    exact h3 j hj p hp
  · rw [lq_RSx KLw_ok, pcm (by decide)]; exact h4
theorem UN.pcl (h : UN μ PL A) : UN μ PL (pc (KLw μ) w A) := by
  obtain ⟨h1, h2, h3, h4, h5, h6⟩ := h
  refine ⟨h1.pcl, fun k k0 k1 k2 => ?_, fun j j0 => by rw [pc_pby KLw_ok]; exact h3 j j0, fun z => ?_, fun t t0 t1 => ?_, by rw [pcm (by decide)]; exact h6⟩
  · rw [pcm (by decide)] at k1
    rw [pc0 (by decide)] at k2
    exact (h2 k k0 k1 k2).pcl
  · rw [pcm (by decide)] at z
    rw [pcm (by decide), lq_rpl KLw_ok, pc0 (by decide), pc0 (by decide)]
    exact h4 z
  · rw [pc0 (by decide), pc0 (by decide)]; exact h5 t t0 t1
/-! between the calls -/
def OUT (o : Int) (w : Mm) : Prop := w 0 o 0 = 22 ∧ w 2 o 0 = 1
/-- the law's loop, n calls done -/
def LAW (μ : MU) (f o n : Int) (w : Mm) : Prop := ∃ A, LIn μ f (56 * n) (600 * n) (1 + n) w A ∧ RM w μ ∧ OUT o w
/-- behind the class's call, B what the reference will have -/
def MID (μ : MU) (f o n : Int) (w B : Mm) : Prop := LIn μ f (56 * (n + 1)) (600 * (n + 1)) (1 + (n + 1)) (pc (KLw μ) w B) B ∧ RM w μ ∧ OUT o w
theorem LIn.up4 {f o v i : Int} (h : LIn μ f S P M w A) : LIn μ f S P M (up w 4 o i v) A := by
  obtain ⟨⟨p, h1⟩, h2, h3, h4, h5, h6, h7⟩ := h
  refine ⟨⟨p, ?_⟩, ?_, h3, h4, h5, ?_, ?_⟩
  · have q : RLm p μ f (lvL p μ A) (up w 4 o i v) A := by
      have ht : ∀ M : List Int, tcA (up w 4 o i v) M = tcA w M := fun M => by
        induction M with
        | nil => rfl
        | cons x xs ih => unfold tcA; rw [ih]; rfl
      have vq : ∀ (t : Int) (L : List Int), vQs w t L → vQs (up w 4 o i v) t L := fun t L h => ⟨h.1.cg fun _ _ => rfl, h.2.1, h.2.2.1, h.2.2.2.1.trans (ht L).symm, h.2.2.2.2⟩
      obtain ⟨q1, q2, q3, q4⟩ := h1.1
      exact ⟨⟨q1.1, q1.2.1, q1.2.2.1, ⟨q1.2.2.2.1.1, q1.2.2.2.1.2.1, fun k k0 k1 k2 => ⟨(q1.2.2.2.1.2.2 k k0 k1 k2).1, (q1.2.2.2.1.2.2 k k0 k1 k2).2.1, ⟨(q1.2.2.2.1.2.2 k k0 k1 k2).2.2.1.1, vq _ _ (q1.2.2.2.1.2.2 k k0 k1 k2).2.2.1.2⟩, (q1.2.2.2.1.2.2 k k0 k1 k2).2.2.2⟩⟩, q1.2.2.2.2⟩, q2, ⟨q3.1, vq _ _ q3.2.1, q3.2.2⟩, q4⟩
    exact ⟨q, h1.2⟩
  · unfold vTl at h2 ⊢
    rw [up_k _ (by decide), up_k _ (by decide), up_k _ (by decide)]
    exact h2
  · unfold RFc at h6 ⊢
    funext c a j
    have e := congrFun (congrFun (congrFun h6 c) a) j
    unfold pc at e ⊢
    by_cases z : KLw μ c a = true
    · rw [if_pos z]
    · rw [if_neg z] at e ⊢
      rw [up_k _ (fun y => z (by rw [y]; exact KLw_lt (by decide)))]
      exact e
  · rw [up_k _ (by decide)]; exact h7
theorem pc_up4 {o v i : Int} : pc (KLw μ) (up w 4 o i v) B = up (pc (KLw μ) w B) 4 o i v := by
  funext c a j
  unfold pc up
  by_cases e : c = 4 ∧ a = o ∧ j = i
  · rw [if_pos e, if_pos e, if_pos (by rw [e.1]; exact KLw_lt (by decide))]
  · rw [if_neg e, if_neg e]
theorem RM.up4 {o v i : Int} (h : RM w μ) : RM (up w 4 o i v) μ := RM_up h (by decide)
theorem OUT.up4 {o a v i : Int} (h : OUT o w) : OUT o (up w 4 a i v) := ⟨(up_k _ (by decide) _ _ _ _ _).trans h.1, (up_k _ (by decide) _ _ _ _ _).trans h.2⟩
theorem MID.up4 {f o n v i : Int} (h : MID μ f o n w B) : MID μ f o n (up w 4 o i v) B := ⟨by rw [pc_up4]; exact h.1.up4, h.2.1.up4, h.2.2.up4⟩
/-- behind the reference's call -/
theorem MID.lw {f o n : Int} (h : MID μ f o n w B) (hR : RM (pc (KLw μ) w B) μ) : LAW μ f o (n + 1) (pc (KLw μ) w B) := ⟨B, h.1, hR, (pc_lt (by decide)).trans h.2.2.1, (pc_lt (by decide)).trans h.2.2.2⟩
end CGW
