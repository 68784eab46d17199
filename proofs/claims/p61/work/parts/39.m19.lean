/-! playing a step in state 1 -/
theorem pby_rng {w : Mm} {j : Int} : 0 ≤ pby w j ∧ pby w j ≤ 255 := by
  unfold pby
  have hr : 0 ≤ j % 4 ∧ j % 4 < 4 := by omega
  rw [wget_bv hr]
  have h : (((I (w 213 0 (j / 4))).toBitVec.sshiftRight (8 * (j % 4).toNat)) &&& 255#32).toNat ≤ 255 := by
    rw [BitVec.toNat_and]; exact Nat.and_le_right
  rw [BitVec.toInt_eq_toNat_cond]
  split <;> omega
def m_opn1 (q v t : Int) (w : Mm) : Mm := fl (m_opens 1 q v w) 200 (400 + q) v (fun i => pby w (t + (i - (400 + q))))
def m_buf (v t : Int) (w : Mm) : Mm := fl w 240 0 v (fun i => pby w (t + i))
def m_sto (v t : Int) (w : Mm) : Nat → Int × Mm
  | 0 => (t + 1, up w 204 0 (5 + v) (pby w t))
  | n + 1 => ((m_sto v t w n).1 + (pby w (m_sto v t w n).1 + 1), fl (up (m_sto v t w n).2 205 0 (20 + 4 * v + n) (pby w (m_sto v t w n).1)) 206 (400 + 80 * v + 20 * n) (pby w (m_sto v t w n).1) (fun i => pby w ((m_sto v t w n).1 + 1 + (i - (400 + 80 * v + 20 * n)))))
def m_ply (k p v t : Int) (w : Mm) : Int × Mm :=
  if k = 0 then (v, m_opn1 p v t w) else if k = 1 then (0, m_closes 1 p v w) else if k = 2 then (0, up w 200 0 (400 + p) v)
  else if k = 3 then (0, up (up w 202 0 (6 + v / 2) (if p = 511 then -1 else p)) 203 0 (6 + v / 2) (v % 2)) else if k = 6 then (0, m_trn 1 w)
  else if k ≠ 4 then (if k = 5 then (v, m_psh 1 v (m_buf v t w)) else (v, m_tak 1 p 0 v (up (m_buf v t w) 204 0 (5 + p) 1)))
  else ((m_sto v t w (pby w t).toNat).1 - t, (m_sto v t w (pby w t).toNat).2)
def m_play (x t : Int) (w : Mm) : Int × Mm := m_ply (x % 8) (x / 8 % 512) (x / 4096) t w
/-- the step may be played -/
def LGs (k p v t : Int) (w : Mm) : Prop := (0 ≤ t ∧ t ≤ 520000) ∧ (0 ≤ v ∧ v < 4096) ∧ (0 ≤ p ∧ p < 512) ∧ (k = 0 → p ≤ w 201 0 1 ∧ w 201 0 1 + v ≤ 400) ∧ (k = 1 → p + v ≤ w 201 0 1) ∧ (k = 2 → p < w 201 0 1 ∧ v ≤ 126) ∧ (k = 3 → v ≤ 11 ∧ (p = 511 ∨ p ≤ w 201 0 1)) ∧ (k = 4 → v ≤ 4) ∧ (k = 5 → v ≤ 20) ∧ (k = 6 → 1 ≤ w 204 0 9) ∧ (k = 7 → p ≤ 3 ∧ v ≤ 20)
def LGb (k v t : Int) (w : Mm) : Prop := (k ≠ 4 → ∀ i, 0 ≤ i → i < v → pby w (t + i) ≤ 126)
def LGc (k v t : Int) (w : Mm) : Prop := k = 4 → pby w t ≤ 4 ∧ ∀ n : Nat, (n : Int) < pby w t → pby w (m_sto v t w n).1 ≤ 20 ∧ ∀ i, 0 ≤ i → i < pby w (m_sto v t w n).1 → pby w ((m_sto v t w n).1 + 1 + i) ≤ 126
theorem pby_fl {w : Mm} {c : Nat} {lo n j : Int} {f : Int → Int} (h : c ≠ 213) : pby (fl w c lo n f) j = pby w j := pby_cong (fl_at (by omega))
theorem pby_up {w : Mm} {c : Nat} {a i v j : Int} (h : c ≠ 213) : pby (up w c a i v) j = pby w j := pby_cong (up_k _ (by omega) _ _ _ _ _)
theorem pby_op {w : Mm} {s q k j : Int} : pby (m_opens s q k w) j = pby w j := pby_cong (opens_at (by omega))
theorem sto_at {v t : Int} {w : Mm} {c : Nat} {a i : Int} (h : c ≠ 204 ∧ c ≠ 205 ∧ c ≠ 206) : ∀ n, (m_sto v t w n).2 c a i = w c a i
  | 0 => up_k _ h.1 _ _ _ _ _
  | n + 1 => by
    simp only [m_sto]
    rw [fl_at h.2.2, up_k _ h.2.1, sto_at h n]
theorem pby_sto {v t j : Int} {w : Mm} {n : Nat} : pby (m_sto v t w n).2 j = pby w j := pby_cong (sto_at (by omega) n)
theorem sto_204 {v t : Int} {w : Mm} : ∀ n, (m_sto v t w n).2 204 0 (5 + v) = pby w t
  | 0 => up_s _ _ _ _ _
  | n + 1 => by
    simp only [m_sto]
    rw [fl_at (by decide), up_k _ (by decide), sto_204 n]
theorem sto_rng {v t : Int} {w : Mm} (h : ∀ n : Nat, (n : Int) < pby w t → pby w (m_sto v t w n).1 ≤ 20) : ∀ n : Nat, (n : Int) ≤ pby w t → t + 1 ≤ (m_sto v t w n).1 ∧ (m_sto v t w n).1 ≤ t + 1 + 21 * n
  | 0, _ => by show t + 1 ≤ t + 1 ∧ t + 1 ≤ t + 1 + 21 * 0; omega
  | n + 1, hn => by
    have h1 := sto_rng h n (by omega)
    have h2 := h n (by omega)
    have h3 := pby_rng (w := w) (j := (m_sto v t w n).1)
    show t + 1 ≤ (m_sto v t w n).1 + (pby w (m_sto v t w n).1 + 1) ∧ _ ≤ _
    show t + 1 ≤ (m_sto v t w n).1 + (pby w (m_sto v t w n).1 + 1) ∧ (m_sto v t w n).1 + (pby w (m_sto v t w n).1 + 1) ≤ t + 1 + 21 * ((n + 1 : Nat) : Int)
    omega
