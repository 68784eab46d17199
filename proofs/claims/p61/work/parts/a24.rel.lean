/-! LIV along the commands -/
section LVD
variable {μ : MU} {G G' : Int → Int → Int} {ρ A A' A1 A2 B Z V V' b b' : Mm} {P lim q n v k t p i s r a c d : Int} {ch : Int → Int} {T : Int → Prop} {L : List Int}
theorem LIV.gc (h : LIV μ G ρ A) (hG : ∀ k, 0 ≤ k → k < A 120 μ.1 0 → G' k = G k) : LIV μ G' ρ A := by
  have k := (h.old (A' := A) (G' := G') rfl rfl (fun _ _ _ => rfl) (fun _ _ _ => rfl) h.b0.2.2.2 h.b0.2.2.1 hG).2.2.2.2.2.1
  obtain ⟨h1, h2, h3, h4, h5⟩ := h
  exact ⟨h1, h2, h3, h4, k⟩
theorem psS_AP {kd pl vl s : Int} : AP μ A (m_psS μ kd pl vl s A) := by unfold m_psS; exact AP.r.step.pEn
theorem psS_121 {kd pl vl s : Int} : m_psS μ kd pl vl s A 121 μ.1 0 = A 121 μ.1 0 + ((A 205 0 (4 * s)).toNat : Int) := by
  unfold m_psS m_pEn
  rw [pN_121, step_at (by decide), step_at (by decide), show 4 * s + 0 = 4 * s by omega]
theorem psS_pv {kd pl vl s : Int} (h0 : 0 ≤ A 121 μ.1 0) (hf : ∀ i, 0 ≤ i → i < A 205 0 (4 * s) → 0 ≤ A 206 0 (80 * s + i) ∧ A 206 0 (80 * s + i) ≤ 126) : ∀ i, 0 ≤ i → i < A 205 0 (4 * s) → pby (m_psS μ kd pl vl s A) (A 121 μ.1 0 + i) = A 206 0 (80 * s + i) := fun i i0 i1 => by
  unfold m_psS m_pEn
  have e1 : m_step μ kd pl vl A 121 μ.1 0 = A 121 μ.1 0 := step_at (by decide)
  have k := pN_v (μ := μ) (f := fun i => m_step μ kd pl vl A 206 0 (80 * s + 20 * 0 + i)) (w := m_step μ kd pl vl A) (by rw [e1]; exact h0) (m_step μ kd pl vl A 205 0 (4 * s + 0)).toNat (fun i a b => by
    rw [step_at (by decide), show 4 * s + 0 = 4 * s by omega] at b
    rw [step_at (by decide), show 80 * s + 20 * 0 + i = 80 * s + i by omega]
    have := hf i a (by omega); omega) i i0 (by rw [step_at (by decide), show 4 * s + 0 = 4 * s by omega]; omega)
  rw [e1] at k
  rw [k, step_at (by decide), show 80 * s + 20 * 0 + i = 80 * s + i by omega]
theorem psS_bP {kd pl vl s : Int} (h : bPb A) (h0 : 0 ≤ A 121 μ.1 0) (hf : ∀ i, 0 ≤ i → i < A 205 0 (4 * s) → 0 ≤ A 206 0 (80 * s + i) ∧ A 206 0 (80 * s + i) ≤ 126) : bPb (m_psS μ kd pl vl s A) := by
  unfold m_psS m_pEn
  refine (h.cong fun i => step_at (by decide)).poolN (by rw [step_at (by decide)]; exact h0) _ (fun i a b => ?_)
  rw [step_at (by decide), show 4 * s + 0 = 4 * s by omega] at b
  rw [step_at (by decide), show 80 * s + 20 * 0 + i = 80 * s + i by omega]
  exact hf i a (by omega)
/-- what a command's end owes: the numbers below the new steps stay, and what the first new step took away is the text -/
def Gok (μ : MU) (G G' : Int → Int → Int) (A A' : Mm) : Prop :=
  (∀ k, 0 ≤ k → k < A 120 μ.1 0 → G' k = G k) ∧ ∀ k, A 120 μ.1 0 ≤ k → k < A' 120 μ.1 0 → A' 212 0 k % 8 = 1 ∨ A' 212 0 k % 8 = 2 → k = A 120 μ.1 0 ∧ ∀ j, 0 ≤ j → j < wsz (A' 212 0 k) → G' k j = A 200 0 (A' 212 0 k / 8 % 512 + j)
theorem LIV.kil (h : LIV μ G ρ A) (h121 : 0 ≤ A 121 μ.1 0 ∧ A 121 μ.1 0 ≤ 519900) (hSB : SB 0 A) (hn : 1 ≤ n ∧ n ≤ 20) (hq : 0 ≤ A 207 0 0 ∧ A 207 0 0 + n ≤ A 201 0 0) (hb : bB (m_kil μ n A)) (hG : Gok μ G G' A (m_kil μ n A)) : LIV μ G' ρ (m_kil μ n A) := by
  have hl := hSB.1.2
  have hX : ∀ {c : Nat} {b j : Int}, c ≠ 204 → c ≠ 205 → c ≠ 206 → c ≠ 240 → m_psh 0 n (m_rd n A) c b j = A c b j := fun z1 z2 z3 z4 => by rw [psh_at2 ⟨z1, z2, z3⟩]; unfold m_rd; rw [fl_at z4]
  have rdE : ∀ {c : Nat} {b j : Int}, c ≠ 240 → m_rd n A c b j = A c b j := fun z => by unfold m_rd; rw [fl_at z]
  have k0 : ∀ {c : Nat} {b j : Int}, (c < 200 ∨ 209 < c) → c ≠ 212 → c ≠ 120 → c ≠ 240 → m_kilA μ n A c b j = A c b j := fun z1 z2 z3 z4 => by
    unfold m_kilA; rw [del_o ⟨z2, z3⟩, closes_at (by omega), hX (by omega) (by omega) (by omega) z4]
  have r0 : ∀ {X : Mm} {c : Nat} {b j : Int}, c ≠ 136 → m_rs4 μ X c b j = X c b j := fun z => by unfold m_rs4; exact up_k _ z _ _ _ _ _
  have e207 : m_psh 0 n (m_rd n A) 207 0 0 = A 207 0 0 := hX (by decide) (by decide) (by decide) (by decide)
  have kA : m_kilA μ n A = m_del μ (A 207 0 0) n (m_psh 0 n (m_rd n A)) := by unfold m_kilA; rw [e207]
  have k120 : m_kilA μ n A 120 μ.1 0 = A 120 μ.1 0 + 1 := by rw [kA, del_120, hX (by decide) (by decide) (by decide) (by decide)]
  have k212 : ∀ j, m_kilA μ n A 212 0 j = if j = A 120 μ.1 0 then 1 + 8 * A 207 0 0 + 4096 * n else A 212 0 j := fun j => by
    rw [kA, del_212, hX (by decide) (by decide) (by decide) (by decide), hX (by decide) (by decide) (by decide) (by decide)]
  have k45 : ∀ {c : Nat} {j : Int}, 204 ≤ c → c ≤ 206 → m_kilA μ n A c 0 j = m_psh 0 n (m_rd n A) c 0 j := fun z1 z2 => by rw [kA, del_o (by omega), closes_at (by omega)]
  have k203 : ∀ (c : Nat) (j : Int), 200 ≤ c → c ≤ 203 → m_kilA μ n A c 0 j = m_del μ (A 207 0 0) n A c 0 j := fun c j z1 z2 => by
    rw [kA, del_o (by omega), del_o (by omega)]
    exact cls_cg (fun k j a b d e f => hX d e f (by omega)) c j z1 (by omega) (by omega) (by omega) (by omega)
  have d0 : ∀ {c : Nat} {a i : Int}, c ≠ 212 → c ≠ 120 → (c < 200 ∨ (202 < c ∧ c < 208) ∨ 209 < c) → m_del μ (A 207 0 0) n A c a i = A c a i := fun x y z => by rw [del_o ⟨x, y⟩, closes_at z]
  have kl120 : A 120 μ.1 0 + 1 ≤ m_kil μ n A 120 μ.1 0 := by
    unfold m_kil; rw [r0 (by decide)]
    by_cases y : m_kilA μ n A 211 0 4 = 1
    · rw [if_pos y, psS_120, k120]; omega
    · rw [if_neg y, k120]; omega
  have kl212 : m_kil μ n A 212 0 (A 120 μ.1 0) = 1 + 8 * A 207 0 0 + 4096 * n := by
    unfold m_kil; rw [r0 (by decide)]
    by_cases y : m_kilA μ n A 211 0 4 = 1
    · rw [if_pos y, psS_212, k120, if_neg (by omega), k212, if_pos rfl]
    · rw [if_neg y, k212, if_pos rfl]
  have e2 : wsz (1 + 8 * A 207 0 0 + 4096 * n) = n := by unfold wsz; rw [if_neg (by omega)]; omega
  have hB1 : LIV μ G' ρ (m_del μ (A 207 0 0) n A) := h.del ⟨h121.1, by omega⟩ hl ⟨hq.1, by omega, hq.2⟩ hG.1 (fun j j0 j1 => by
    have := (hG.2 (A 120 μ.1 0) (Int.le_refl _) (by omega) (by rw [kl212]; omega)).2 j j0 (by rw [kl212, e2]; exact j1)
    rw [this, kl212, show (1 + 8 * A 207 0 0 + 4096 * n) / 8 % 512 = A 207 0 0 by omega])
  have hlen : m_kilA μ n A 205 0 (4 * 4) = n := by
    rw [k45 (by decide) (by decide), psh_205, if_pos (by decide)]
  have hchr : ∀ i, 0 ≤ i → i < n → m_kilA μ n A 206 0 (80 * 4 + i) = A 200 0 (A 207 0 0 + i) := fun i i0 i1 => by
    rw [k45 (by decide) (by decide), psh_206, if_pos (by omega)]
    unfold m_rd
    rw [fl_v, if_pos (by omega), show 80 * 4 + i - (400 * 0 + 80 * 4 + 20 * 0) = i by omega]
  have hch : ∀ i, 0 ≤ i → i < n → 0 ≤ A 200 0 (A 207 0 0 + i) ∧ A 200 0 (A 207 0 0 + i) ≤ 126 := fun i i0 i1 => hSB.2.1 _ (by omega) (by omega)
  by_cases y : A 211 0 4 = 1
  · have yk : m_kilA μ n A 211 0 4 = 1 := by rw [k0 (by decide) (by decide) (by decide) (by decide)]; exact y
    have eK : m_kil μ n A = m_rs4 μ (m_psS μ 5 0 n 4 (m_kilA μ n A)) := by unfold m_kil; rw [if_pos yk]
    have kc : ∀ i, 0 ≤ i → i < m_kilA μ n A 205 0 (4 * 4) → 0 ≤ m_kilA μ n A 206 0 (80 * 4 + i) ∧ m_kilA μ n A 206 0 (80 * 4 + i) ≤ 126 := fun i i0 i1 => by rw [hlen] at i1; rw [hchr i i0 i1]; exact hch i i0 i1
    have k121 : m_kilA μ n A 121 μ.1 0 = A 121 μ.1 0 := k0 (by decide) (by decide) (by decide) (by decide)
    have hpr : ∀ {X : Mm} {j : Int}, pby (m_rs4 μ X) j = pby X j := pby_cong (r0 (by decide))
    have hap : AP μ (m_kilA μ n A) (m_psS μ 5 0 n 4 (m_kilA μ n A)) := psS_AP
    rw [eK] at hb ⊢
    refine hB1.psh (k := n) (ch := fun j => A 200 0 (A 207 0 0 + j)) (Z := fun c a i => if c = 240 then m_rd n A c a i else m_del μ (A 207 0 0) n A c a i) (by rw [d0 (by decide) (by decide) (by decide)]; omega) (by rw [d0 (by decide) (by decide) (by decide)]; exact y) ⟨by omega, hn.2⟩ (fun i z1 z2 => by rw [d0 (by decide) (by decide) (by decide)]; exact hSB.2.2.2.1 i z1 z2) (fun c j z1 z2 => if_neg (by omega)) (fun j j0 j1 => ?_) (fun c j z1 z2 => ?_) ?_ ?_ ?_ ?_ (fun j j0 j1 => ?_) ?_ (fun j j0 j1 => ?_) (fun i i0 i1 => ?_) hb ?_ (fun r => ?_) (fun _ _ _ => rfl)
    · rw [if_pos rfl]; unfold m_rd; rw [fl_v, if_pos (by omega)]
    · rw [r0 (by omega), psS_o (by omega)]
      by_cases y4 : 204 ≤ c
      · rw [k45 y4 z2]
        have zz : ∀ {c : Nat} {j : Int}, 204 ≤ c → c ≤ 206 → (if c = 240 then m_rd n A c 0 j else m_del μ (A 207 0 0) n A c 0 j) = m_rd n A c 0 j := fun u1 u2 => by rw [if_neg (by omega), d0 (by omega) (by omega) (by omega), rdE (by omega)]
        have hc : c = 204 ∨ c = 205 ∨ c = 206 := by omega
        rcases hc with rfl | rfl | rfl
        · rw [psh_204, psh_204]; simp only [zz (c := 204) (by decide) (by decide)]
        · rw [psh_205, psh_205]; simp only [zz (c := 204) (by decide) (by decide), zz (c := 205) (by decide) (by decide)]
        · rw [psh_206, psh_206]; simp only [zz (c := 204) (by decide) (by decide), zz (c := 206) (by decide) (by decide), if_true]
      · rw [k203 c j z1 (by omega), psh_at2 (by omega), if_neg (by omega)]
    · rw [r0 (by decide), psS_120, k120, del_120]
    · rw [r0 (by decide), psS_121, hlen, k121, d0 (by decide) (by decide) (by decide)]; omega
    · rw [r0 (by decide), psS_o (by decide), k0 (by decide) (by decide) (by decide) (by decide), d0 (by decide) (by decide) (by decide)]
    · rw [r0 (by decide), psS_o (by decide), k0 (by decide) (by decide) (by decide) (by decide), d0 (by decide) (by decide) (by decide)]
    · rw [del_120] at j1
      rw [r0 (by decide), psS_212, k120, if_neg (by omega), k212, del_212]
    · rw [r0 (by decide), psS_212, k120, del_120, if_pos rfl]
    · rw [d0 (by decide) (by decide) (by decide)] at j1
      rw [hpr, hap.2.2.2 j j0 (by rw [k121]; exact j1)]
      rw [pby_cong (k0 (by decide) (by decide) (by decide) (by decide)), pby_cong (d0 (by decide) (by decide) (by decide))]
    · rw [hpr, d0 (by decide) (by decide) (by decide), ← k121, psS_pv (by rw [k121]; exact h121.1) kc i i0 (by rw [hlen]; exact i1)]
      exact hchr i i0 i1
    · exact (psS_bP (h.b0.2.2.1.cong fun i => k0 (by decide) (by decide) (by decide) (by decide)) (by rw [k121]; exact h121.1) kc).cong fun i => r0 (by decide)
    · rw [r0 (by decide), psS_o (by decide), k0 (by decide) (by decide) (by decide) (by decide), d0 (by decide) (by decide) (by decide)]
  · have yk : ¬ m_kilA μ n A 211 0 4 = 1 := by rw [k0 (by decide) (by decide) (by decide) (by decide)]; exact y
    have eK : m_kil μ n A = m_rs4 μ (m_kilA μ n A) := by unfold m_kil; rw [if_neg yk]
    rw [eK] at hb ⊢
    refine hB1.keep ?_ ?_ ?_ ?_ (fun j j0 j1 => ?_) (fun j j0 j1 => ?_) hb (h.b0.2.2.1.cong fun i => ?_) (fun r => ?_) (EQv_but (s := 4) (fun i z1 z2 => by rw [d0 (by decide) (by decide) (by decide)]; exact hSB.2.2.2.1 i z1 z2) (fun i z1 z2 => by rw [d0 (by decide) (by decide) (by decide)]; exact hSB.2.2.2.2.1 i z1 z2) (by show ¬ m_del μ (A 207 0 0) n A 211 0 4 = 1; rw [d0 (by decide) (by decide) (by decide)]; exact y) (by decide) (fun c j z1 z2 => ?_) (fun j z => ?_) (fun j z => ?_) (fun j z => ?_))
    · rw [r0 (by decide), k120, del_120]
    · rw [r0 (by decide), k0 (by decide) (by decide) (by decide) (by decide), d0 (by decide) (by decide) (by decide)]
    · rw [r0 (by decide), k0 (by decide) (by decide) (by decide) (by decide), d0 (by decide) (by decide) (by decide)]
    · rw [r0 (by decide), k0 (by decide) (by decide) (by decide) (by decide), d0 (by decide) (by decide) (by decide)]
    · rw [r0 (by decide), k212, del_212]
    · exact (pby_cong ((r0 (by decide)).trans (k0 (by decide) (by decide) (by decide) (by decide)))).trans (pby_cong (d0 (by decide) (by decide) (by decide))).symm
    · rw [r0 (by decide), k0 (by decide) (by decide) (by decide) (by decide)]
    · rw [r0 (by decide), k0 (by decide) (by decide) (by decide) (by decide), d0 (by decide) (by decide) (by decide)]
    · rw [r0 (by omega)]; exact k203 c j z1 z2
    · rw [r0 (by decide), k45 (by decide) (by decide), psh_204, if_neg (by omega), rdE (by decide), d0 (by decide) (by decide) (by decide)]
    · have hn4 : (if m_rd n A 204 0 (5 * 0 + 4) < 4 then m_rd n A 204 0 (5 * 0 + 4) + 1 else 4) ≤ 4 := by split <;> omega
      rw [r0 (by decide), k45 (by decide) (by decide), psh_205, if_neg (by omega), if_neg (by omega), rdE (by decide), d0 (by decide) (by decide) (by decide)]
    · have hn4 : (if m_rd n A 204 0 (5 * 0 + 4) < 4 then m_rd n A 204 0 (5 * 0 + 4) + 1 else 4) ≤ 4 := by split <;> omega
      rw [r0 (by decide), k45 (by decide) (by decide), psh_206, if_neg (by omega), if_neg (by omega), rdE (by decide), d0 (by decide) (by decide) (by decide)]
end LVD
