/-! traces: where the characters of the text steps of a change come to lie -/
abbrev mvI (a b q : Int) : Prop := q < a ∨ (q = a ∧ a < b)
def m_mvR (μ : MU) (a b q : Int) (w : Mm) : Mm := up w 138 μ.1 0 (bi (w 138 μ.1 0 ≠ 0 ∨ (a ≤ q ∧ q < b)))
def m_mvI (μ : MU) (t a b q k : Int) (w : Mm) : Mm := up (up (up w 138 μ.1 0 (bi (w 138 μ.1 0 ≠ 0 ∨ (a < q ∧ q < b) ∨ (q = a ∧ a = b)))) 244 0 t (a + if mvI a b q then k else 0)) 245 0 t (b + if mvI a b q then k else 0)
def m_mvD (μ : MU) (t a b q k y : Int) (w : Mm) : Mm := up (up (up (up w 138 μ.1 0 (bi (w 138 μ.1 0 ≠ 0 ∨ (¬ q + k ≤ a ∧ q < b)))) 244 0 t (a - if q + k ≤ a then k else 0)) 245 0 t (b - if q + k ≤ a then k else 0)) 246 0 (8 * t + if y < 0 then 0 else y) (if y < 0 then w 246 0 (8 * t) else if q + k ≤ a then 1 else 0)
def m_mov (μ : MU) (t d q k y : Int) (w : Mm) : Mm := if d = 2 then m_mvR μ (w 244 0 t) (w 245 0 t) q w else if d = 0 then m_mvI μ t (w 244 0 t) (w 245 0 t) q k w else m_mvD μ t (w 244 0 t) (w 245 0 t) q k y w
