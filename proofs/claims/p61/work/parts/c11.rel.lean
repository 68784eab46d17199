/-! typing goes on: an insertion that grows is two insertions; the tree behind it -/
section PL2
variable {X V R Ay : Mm} {p v t q k j n0 p0 v0 M : Int} {μ : MU} {ρ : Int → Mm} {G : Int → Int → Int} {PL : Int → List Int}
theorem on1_201 : m_opn1 q k t X 201 0 1 = X 201 0 1 + k := by unfold m_opn1; rw [fl_at (by decide), opn_201, if_pos rfl]
theorem on1_200 : m_opn1 q k t X 200 0 j = if 400 + q ≤ j ∧ j < 400 + q + k then pby X (t + (j - (400 + q))) else if 400 * 1 + q + k ≤ j ∧ j < 400 * 1 + q + k + (X 201 0 1 - q) then X 200 0 (j - k) else X 200 0 j := by
  unfold m_opn1; rw [fl_v, opn_200]
theorem on1_202 : m_opn1 q k t X 202 0 j = if 6 * 1 ≤ j ∧ j < 6 * 1 + 6 then (if X 202 0 j = -1 then -1 else mvF (X 202 0 j) q k (bi (X 203 0 j = 1))) else X 202 0 j := by
  unfold m_opn1; rw [fl_at (by decide), opn_202]
theorem on1_o {c : Nat} {a i : Int} (h : c < 200 ∨ (202 < c ∧ c < 208) ∨ 209 < c) : m_opn1 q k t X c a i = X c a i := by
  unfold m_opn1; rw [fl_at (by omega), opens_at h]
theorem on1_pby : pby (m_opn1 q k t X) j = pby X j := by unfold m_opn1; rw [pby_fl (by decide), pby_op]
theorem play2 (hs : SB 1 X) (hp : 0 ≤ p ∧ p ≤ X 201 0 1) (hv : 0 ≤ v) : EQv TA 1 1 (m_opn1 p (v + 1) t X) (m_opn1 (p + v) 1 (t + v) (m_opn1 p v t X)) := by
  refine ⟨?_, fun i i0 i1 => ?_, fun i i0 i1 => ⟨?_, fun _ => ?_⟩, fun r r0 r1 _ => ⟨?_, fun e e0 e1 => ⟨?_, fun i i0 i1 => ?_⟩⟩⟩
  · rw [on1_201, on1_201, on1_201]; omega
  · rw [on1_201] at i1
    rw [on1_200, on1_200, on1_200, on1_200, on1_pby, on1_201]
    repeat' split
    all_goals first | rfl | (exfalso; omega) | (congr 1; omega)
  · have hm := (hs.2.2.1 (6 * 1 + i) (by omega) (by omega)).1
    have hc : 6 * 1 ≤ 6 * 1 + i ∧ 6 * 1 + i < 6 * 1 + 6 := by omega
    rw [on1_202, if_pos hc, on1_202, if_pos hc, on1_202, if_pos hc, on1_o (c := 203) (by decide)]
    by_cases z : X 202 0 (6 * 1 + i) = -1
    · rw [if_pos z, if_pos z, if_pos rfl]
    · rw [if_neg z, if_neg z]
      generalize bi (X 203 0 (6 * 1 + i) = 1) = b
      have h1 : mvF (X 202 0 (6 * 1 + i)) p v b ≠ -1 := by unfold mvF; split <;> omega
      rw [if_neg h1]
      unfold mvF
      by_cases y : b = 0
      · subst y
        repeat' split
        all_goals omega
      · repeat' split
        all_goals omega
  · rw [on1_o (by decide), on1_o (by decide), on1_o (by decide)]
  · rw [on1_o (by decide), on1_o (by decide), on1_o (by decide)]
  · rw [on1_o (by decide), on1_o (by decide), on1_o (by decide)]
  · rw [on1_o (by decide), on1_o (by decide), on1_o (by decide)]
theorem ins_ply (hp : 0 ≤ p ∧ p < 512) : m_play (0 + 8 * p + 4096 * v) t X = (v, m_opn1 p v t X) := by
  rw [(ply_of (k := 0) (by decide) hp).1]; unfold m_ply; rw [if_pos rfl]
/-- the growing insertion may be played where the two may -/
theorem ins_lg (hp : 0 ≤ p ∧ p + v ≤ 400) (hv : 0 ≤ v ∧ v ≤ 399) (g1 : LG1 (0 + 8 * p + 4096 * v) t X) (g2 : LG1 (0 + 8 * (p + v) + 4096 * 1) (t + v) (m_opn1 p v t X)) (h6 : bPb X) : LG1 (0 + 8 * p + 4096 * (v + 1)) t X ∧ LGr ((0 + 8 * p + 4096 * (v + 1)) % 8) ((0 + 8 * p + 4096 * (v + 1)) / 4096) t X := by
  obtain ⟨-, a1, a2, a3⟩ := ply_of (k := 0) (p := p) (v := v) (t := t) (V := X) (by decide) (by omega)
  obtain ⟨-, b1, b2, b3⟩ := ply_of (k := 0) (p := p + v) (v := 1) (t := t) (V := X) (by decide) (by omega)
  obtain ⟨-, c1, c2, c3⟩ := ply_of (k := 0) (p := p) (v := v + 1) (t := t) (V := X) (by decide) (by omega)
  obtain ⟨-, s1, -, -⟩ := g1
  obtain ⟨-, s2, -, -⟩ := g2
  rw [a1, a2, a3] at s1
  rw [b1, b2, b3] at s2
  have q1 := s1.2.2.2.1 rfl
  have q2 := s2.2.2.2.1 rfl
  rw [on1_201] at q2
  refine ⟨⟨by omega, ?_, ?_, ?_⟩, ?_⟩
  · rw [c1, c2, c3]
    exact ⟨s1.1, by omega, by omega, fun _ => by omega, fun z => absurd z (by decide), fun z => absurd z (by decide), fun z => absurd z (by decide), fun z => absurd z (by decide), fun z => absurd z (by decide), fun z => absurd z (by decide), fun z => absurd z (by decide)⟩
  · rw [c1]; exact fun z => absurd z (by decide)
  · exact fun _ i i0 i1 => h6 _ (by have := s1.1.1; omega)
  · rw [c1]; exact fun z => absurd z (by decide)
/-- the reference's tree where its last step has grown -/
def EXo (μ : MU) (M : Int) (ρ : Int → Mm) (G : Int → Int → Int) (PL : Int → List Int) (V R Ay : Mm) (n0 p0 v0 : Int) : Prop :=
  MKo μ M ρ G PL V ∧ SHR μ n0 V R ∧ (PL (V 126 μ.1 0) = [V 126 μ.1 0] ∧ 1 ≤ V 126 μ.1 0 ∧ V 126 μ.1 0 + 1 = V 124 μ.1 0) ∧
  (V 122 μ.1 0 = n0 ∧ V 218 0 (V 126 μ.1 0) = n0 - 1 ∧ V 220 0 (V 126 μ.1 0) = 1 ∧ V 219 0 (V 126 μ.1 0) + v0 = V 123 μ.1 0 ∧ 1 ≤ n0 ∧ n0 + 1 ≤ V 120 μ.1 0) ∧
  ((V 212 0 (n0 - 1) = 0 + 8 * p0 + 4096 * v0 ∧ V 212 0 n0 = 0 + 8 * (p0 + v0) + 4096 * 1) ∧ (0 ≤ p0 ∧ p0 + v0 ≤ 400) ∧ (0 ≤ v0 ∧ v0 ≤ 399)) ∧
  Ay = up (up (up (up R 220 0 (V 126 μ.1 0) (1 + (R 120 μ.1 0 - n0))) 224 0 (V 126 μ.1 0) (V 207 0 0)) 122 μ.1 0 (R 120 μ.1 0)) 123 μ.1 0 (V 121 μ.1 0) ∧ TB μ (M + 1) Ay
def GEx (n0 : Int) (G : Int → Int → Int) : Int → Int → Int := fun k => if k < n0 then G k else G (k + 1)
theorem EXo.o (h : EXo μ M ρ G PL V R Ay n0 p0 v0) {c : Nat} {a i : Int} (h1 : c ≠ 240 ∧ c ≠ 136 ∧ c ≠ 212 ∧ c ≠ 120 ∧ c ≠ 234) (h2 : c ≠ 220 ∧ c ≠ 224 ∧ c ≠ 122 ∧ c ≠ 123) : Ay c a i = V c a i := by
  obtain ⟨-, hS, -, -, -, hA, -⟩ := h
  rw [hA, up_k _ h2.2.2.2, up_k _ h2.2.2.1, up_k _ h2.2.1, up_k _ h2.1]
  exact hS.1 h1.1 h1.2.1 h1.2.2.1 h1.2.2.2.1 h1.2.2.2.2
theorem EXo.va (h : EXo μ M ρ G PL V R Ay n0 p0 v0) : (∀ q, Ay 220 0 q = if q = V 126 μ.1 0 then 1 + (R 120 μ.1 0 - n0) else V 220 0 q) ∧ (∀ q, Ay 224 0 q = if q = V 126 μ.1 0 then V 207 0 0 else V 224 0 q) ∧ Ay 122 μ.1 0 = R 120 μ.1 0 ∧ Ay 123 μ.1 0 = V 121 μ.1 0 ∧ Ay 120 μ.1 0 = R 120 μ.1 0 ∧ (∀ k, Ay 212 0 k = R 212 0 k) ∧ ∀ j, pby Ay j = pby V j := by
  have ho := fun (c : Nat) (a i : Int) => h.o (c := c) (a := a) (i := i)
  obtain ⟨-, hS, -, -, -, hA, -⟩ := h
  refine ⟨fun q => ?_, fun q => ?_, ?_, ?_, ?_, fun k => ?_, fun j => pby_cong (ho _ _ _ (by decide) (by decide))⟩
  · rw [hA, up_k _ (by decide), up_k _ (by decide), up_k _ (by decide)]
    by_cases y : q = V 126 μ.1 0
    · rw [if_pos y, y, up_s]
    · rw [if_neg y, up_i _ _ _ _ _ _ y]; exact hS.1 (by decide) (by decide) (by decide) (by decide) (by decide)
  · rw [hA, up_k _ (by decide), up_k _ (by decide)]
    by_cases y : q = V 126 μ.1 0
    · rw [if_pos y, y, up_s]
    · rw [if_neg y, up_i _ _ _ _ _ _ y, up_k _ (by decide)]; exact hS.1 (by decide) (by decide) (by decide) (by decide) (by decide)
  · rw [hA, up_k _ (by decide), up_s]
  · rw [hA, up_s]
  · rw [hA, up_k _ (by decide), up_k _ (by decide), up_k _ (by decide), up_k _ (by decide)]
  · rw [hA, up_k _ (by decide), up_k _ (by decide), up_k _ (by decide), up_k _ (by decide)]
theorem EXo.al (h : EXo μ M ρ G PL V R Ay n0 p0 v0) : alv μ Ay k ↔ alv μ V k := by
  unfold alv; rw [h.o (by decide) (by decide), h.o (by decide) (by decide)]
theorem EXo.pl (h : EXo μ M ρ G PL V R Ay n0 p0 v0) : ∀ (m : Nat) (k t : Int), n0 ≤ k → k + m ≤ R 120 μ.1 0 → plist Ay m k t = plist V m (k + 1) t
  | 0, _, _, _, _ => rfl
  | m + 1, k, t, h0, h1 => by
    obtain ⟨-, -, -, -, -, v6, v7⟩ := h.va
    have e : Ay 212 0 k = V 212 0 (k + 1) := (v6 k).trans (h.2.1.2.2.1 k h0 (by omega))
    simp only [plist]
    rw [e, play_1 v7, h.pl m (k + 1) _ (by omega) (by omega)]
theorem EXo.gn (h : EXo μ M ρ G PL V R Ay n0 p0 v0) : ∀ (m : Nat) (i t : Int) (X : Mm), n0 ≤ i → i + m ≤ R 120 μ.1 0 → GNl V G m (i + 1) t X → GNl Ay (GEx n0 G) m i t X
  | 0, _, _, _, _, _, _ => trivial
  | m + 1, i, t, X, h0, h1, g => by
    obtain ⟨-, -, -, -, -, v6, v7⟩ := h.va
    have e : Ay 212 0 i = V 212 0 (i + 1) := (v6 i).trans (h.2.1.2.2.1 i h0 (by omega))
    have eG : GEx n0 G i = G (i + 1) := by unfold GEx; rw [if_neg (by omega)]
    obtain ⟨g1, g2⟩ := g
    refine ⟨fun hk => ?_, ?_⟩
    · rw [e] at hk ⊢; rw [eG]; exact g1 hk
    · rw [e, play_1 v7]; exact h.gn m (i + 1) _ _ (by omega) (by omega) g2
/-- the part of another node lies ahead of the grown step -/
theorem EXo.lim (h : EXo μ M ρ G PL V R Ay n0 p0 v0) (ha : alv μ V k) (hk : k ≠ V 126 μ.1 0) : ∀ q ∈ PL k, (1 ≤ q ∧ q < V 126 μ.1 0) ∧ V 218 0 q + V 220 0 q ≤ n0 - 1 := fun q hq => by
  obtain ⟨hK, -, ⟨h1, h2, h3⟩, ⟨h4, h5, h6, -⟩, -⟩ := h
  have hI := hK.1.1.1
  have hlt := hI.lt hK.2.2.1 ha q hq
  have hcur := hI.1.cur hK.2.2.1
  have hne : q ≠ V 126 μ.1 0 := fun e => hk (hI.2.2.2.2.1 k _ q ha hcur hq (by rw [h1, e]; exact List.mem_singleton.mpr rfl))
  have := hI.2.2.2.2.2.2 q (V 126 μ.1 0) hlt.1 (by omega) (by omega)
  rw [h5] at this
  exact ⟨by omega, this⟩
theorem ex_RSo (h : EXo μ M ρ G PL V R Ay n0 p0 v0) : ∀ (m : Nat) (k : Int), k < m → alv μ V k → k ≠ V 126 μ.1 0 → RSx PL k Ay = RSx PL k V
  | 0, k, hk, ha, _ => by have := ha.1; omega
  | m + 1, k, hk, ha, hc => by
    obtain ⟨hK, hS, ⟨g1, g2, g3⟩, -, -, -, hTb⟩ := id h
    obtain ⟨h1, h2, h3, h4, h5, h6⟩ := id hK
    by_cases c0 : k = 0
    · subst c0; rw [RSx_0 h3, RSx_0 hTb]
    · have hk1 : 1 ≤ k ∧ k < V 124 μ.1 0 := by have := ha.1; omega
      rw [hTb.rsp ⟨hk1.1, by rw [h.o (by decide) (by decide)]; omega⟩, h3.rsp hk1, h.o (c := 217) (by decide) (by decide)]
      have hpk := h3.plp hk1
      have hn := h1.1.1.2.2.1 k hk1.1 ha
      have hr := (h1.1.1.2.2.2.1 k ha).2.1
      rw [h3.rsp hk1] at hr
      obtain ⟨-, -, -, -, -, v6, v7⟩ := h.va
      have hlim := h.lim ha hc
      rw [ex_RSo h m _ (by omega) ⟨⟨by omega, by omega⟩, h1.1.1.1.2.2.1 k hk1.1 hk1.2 ha.2⟩ (by omega),
        nodeL_app (P := V 123 μ.1 0) (lim := n0 - 1) (b' := Ay) (fun j _ _ => v7 j) (fun i _ i1 => (v6 i).trans (hS.2.2.2.1 i (by omega) (by omega))) _ _ hn.1 (fun c q hq c1 c2 => by
          by_cases y : c = 220
          · subst y; rw [h.va.1, if_neg (by have := (hlim q hq).1; omega)]
          · exact h.o (by omega) (by omega)) (fun q hq => (hlim q hq).2) (fun y hy => hr y (List.mem_append_right _ hy))]
def EXw (V : Mm) (μ : MU) (p0 v0 n0 : Int) : List (Int × Int) := (0 + 8 * p0 + 4096 * (v0 + 1), V 219 0 (V 126 μ.1 0)) :: plist V (lvN μ V - 1) (n0 + 1) (V 123 μ.1 0 + 1)
theorem ex_LV (h : EXo μ M ρ G PL V R Ay n0 p0 v0) : LVl μ V = (0 + 8 * (p0 + v0) + 4096 * 1, V 123 μ.1 0) :: plist V (lvN μ V - 1) (n0 + 1) (V 123 μ.1 0 + 1) ∧ lvN μ V = (lvN μ V - 1) + 1 ∧ ((lvN μ V - 1 : Nat) : Int) = R 120 μ.1 0 - n0 := by
  obtain ⟨hK, hS, -, ⟨h4, h5, h6, h7, h8, h9⟩, ⟨⟨w1, w2⟩, hp, hv⟩, -⟩ := id h
  have h2 := hS.2.1
  have hn : lvN μ V = (lvN μ V - 1) + 1 := by unfold lvN; omega
  refine ⟨?_, hn, by unfold lvN; omega⟩
  unfold LVl
  rw [plist_s hn, h4, w2, ins_ply (p := p0 + v0) (v := 1) (by omega)]
theorem ex_RSn (h : EXo μ M ρ G PL V R Ay n0 p0 v0) : RSx PL (V 126 μ.1 0) Ay = RSx PL (V 217 0 (V 126 μ.1 0)) V ++ EXw V μ p0 v0 n0 := by
  obtain ⟨hK, hS, ⟨g1, g2, g3⟩, ⟨h4, h5, h6, h7, h8, h9⟩, ⟨⟨w1, w2⟩, hp, hv⟩, -, hTb⟩ := id h
  obtain ⟨h1, h2, h3, -⟩ := id hK
  obtain ⟨v1, -, -, -, -, v6, v7⟩ := h.va
  have hpk := h3.plp (k := V 126 μ.1 0) ⟨g2, by omega⟩
  have hcur := h1.1.1.1.cur h3
  rw [hTb.rsp ⟨g2, by rw [h.o (by decide) (by decide)]; omega⟩, h.o (c := 217) (by decide) (by decide), ex_RSo h (V 126 μ.1 0).toNat _ (by omega) ⟨⟨by omega, by omega⟩, h1.1.1.1.2.2.1 _ g2 (by omega) hcur.2⟩ (by omega), g1]
  congr 1
  show plist Ay _ _ _ ++ nodeL Ay [] = _
  show plist Ay _ _ _ ++ [] = _
  obtain ⟨-, e1, e2⟩ := ex_LV h
  rw [List.append_nil, v1, if_pos rfl, h.o (c := 218) (by decide) (by decide), h.o (c := 219) (by decide) (by decide), h5, plist_s (n := (1 + (R 120 μ.1 0 - n0)).toNat) (m := lvN μ V - 1) (by omega), v6, hS.2.2.2.2, w1, show 0 + 8 * p0 + 4096 * v0 + 4096 = 0 + 8 * p0 + 4096 * (v0 + 1) by omega, ins_ply (p := p0) (v := v0 + 1) (by omega), h.pl (lvN μ V - 1) (n0 - 1 + 1) _ (by omega) (by omega)]
  unfold EXw
  dsimp only
  rw [show n0 - 1 + 1 + 1 = n0 + 1 by omega, show V 219 0 (V 126 μ.1 0) + (v0 + 1) = V 123 μ.1 0 + 1 by omega]
end PL2
