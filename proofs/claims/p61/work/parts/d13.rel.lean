/-! p61: the world when the law begins; small things of the law's loop -/
def AV : Mm := fun c a i => if a = -1 then vin c else if c = 202 ∨ c = 232 ∨ c = 227 then -1 else if c = 216 ∧ i = 0 then 1 else if (c = 217 ∨ c = 221) ∧ i = 0 then -1 else 0
abbrev μ6 : MU := (-1, fun _ => 0)
section IN6
variable {w1 w A : Mm} {f n g rc k l : Int} {μ : MU} {γ : LC}
theorem wcl_ge {c : Nat} {a i : Int} (h : 120 ≤ c) : wcl w1 AV c a i = AV c a i := by unfold wcl; rw [if_neg (by omega)]
theorem wcl_lt {c : Nat} {a i : Int} (h : c < 120) : wcl w1 AV c a i = w1 c a i := by unfold wcl; rw [if_pos h]
theorem AV_ai : AI μ6 (wcl w1 AV) := by
  refine ⟨fun c c0 c1 => ?_, fun c i x1 x2 x3 x4 x5 x6 x7 x8 => ?_, ⟨?_, ?_, ?_⟩, fun i i0 i1 => ?_, fun i i0 i1 => ?_, fun i i0 i1 => ?_⟩
  · rw [wcl_ge c0]; unfold AV; rw [if_pos rfl]
  · rw [wcl_ge (by omega)]; unfold AV; rw [if_neg (by decide), if_neg (by omega), if_neg (by omega), if_neg (by omega)]
  · rw [wcl_ge (by decide)]; rfl
  · rw [wcl_ge (by decide)]; rfl
  · rw [wcl_ge (by decide)]; rfl
  · rw [wcl_ge (by decide)]; rfl
  · rw [wcl_ge (by decide)]; rfl
  · rw [wcl_ge (by decide)]; rfl
theorem ini_lg (h1 : FIi f (fun a => if a = f then 1 else 0) (newO (fun _ _ _ => 0) f 13) 4 w1) : LG μ6 f 0 0 0 w1 (wcl w1 AV) ∧ NLs (wcl w1 AV) ∧ ∀ i, wcl w1 AV 211 0 i ≠ 1 := by
  obtain ⟨c, N, hN, hI, hM, hu⟩ := h1
  have hA : AI μ6 (wcl w1 AV) := AV_ai
  have hI2 : INC c (wcl w1 AV) f N := hI
  have hM2 : MCi c (wcl w1 AV) f 4 := hM
  obtain ⟨p, hC⟩ := ini_rel hI2 hM2 (fun a ha => hN.2.1.1 a (by rw [wcl_lt (by decide)] at ha; exact ha)) hA
  have n134 : wcl w1 AV 134 μ6.1 0 = 0 := hA.v (by decide) rfl
  have n135 : wcl w1 AV 135 μ6.1 0 = -1 := hA.v (by decide) rfl
  have n132 : wcl w1 AV 132 μ6.1 0 = 0 := hA.v (by decide) rfl
  have n133 : wcl w1 AV 133 μ6.1 0 = -1 := hA.v (by decide) rfl
  refine ⟨⟨⟨⟨p, hC.lt120 fun c a i z => (wcl_lt z).symm⟩, ⟨?_, ?_⟩, hA.rb, hA.ptx, hA.ivs⟩, n132, by rw [n133]; decide, fun i i0 i1 => hA.2.2.2.2.2 i i0 i1, by unfold FAp; rw [n134, n135]; decide⟩, fun j _ _ => hA.z (by decide) j, fun i => by rw [hA.z (by decide)]; decide⟩
  · obtain ⟨-, -, -, -, -, -, -, ⟨-, z⟩, -⟩ := hI
    rw [z.1]; exact n134.symm
  · obtain ⟨-, -, -, -, -, -, -, ⟨-, z⟩, -⟩ := hI
    rw [z.2]; exact n135.symm
theorem LG.cur (h : LG μ f n g rc w A) : 0 ≤ A 126 μ.1 0 ∧ A 126 μ.1 0 ≤ 100000 ∨ 100000 < n := by
  obtain ⟨⟨-, -, hB, -⟩, -⟩ := h
  have hT := hB.2.1.2.2.2.1
  have h1 := hT.1.2; have h2 := hT.2.2.1
  omega
theorem LG.cur0 (h : LG μ f n g rc w A) : 0 ≤ A 126 μ.1 0 := h.1.2.2.1.2.1.2.2.2.1.2.2.1.1
theorem LG.len (h : LG μ f n g rc w A) : 0 ≤ A 201 0 0 ∧ A 201 0 0 ≤ 400 := h.1.2.2.1.1.1.1
theorem LG.nod (h : LG μ f n g rc w A) : 1 ≤ A 125 μ.1 0 := h.1.2.2.1.2.1.2.2.2.1.2.1.1
theorem LG.isn (h : LG μ f n g rc w A) : isN μ (A 126 μ.1 0) A := by
  obtain ⟨⟨⟨p, hC⟩, -, hB, -⟩, -⟩ := h
  exact now_n hC hB
theorem LG.sym {B : Mm} (h : LG μ f n g rc w A) (hk : isN μ k A) (hl : isN μ l A) : m_dist A k l = m_dist A l k := by
  obtain ⟨⟨⟨p, hC⟩, -, hB, -⟩, -⟩ := h
  exact dist_sym hB.2.1.2.2.2.1 hC.2.1.1.1.1 (isN_al hk) (isN_al hl)
/-! the law's queries, out of what stands between the calls -/
variable {c : Int}
theorem z_length (h : LG μ f n g rc w A) : KI γ 1 mX12_length [rv f] w 0 0 (fun r w' => r = A 201 0 0 ∧ w' = w) NX := by
  obtain ⟨⟨⟨p, hC⟩, -⟩, -⟩ := h; exact y_length hC
theorem z_now (h : LG μ f n g rc w A) : KI γ 1 mX12_now [rv f] w 0 0 (fun r w' => r = A 126 μ.1 0 ∧ w' = w) NX := by
  obtain ⟨⟨⟨p, hC⟩, -, hB, -⟩, -⟩ := h; exact y_now hC hB
theorem z_nodes (h : LG μ f n g rc w A) (hW : WI w) : KI γ 2 mX12_nodes [rv f] w 0 0 (fun r w' => r = A 125 μ.1 0 ∧ w' = w) NX := by
  obtain ⟨⟨⟨p, hC⟩, -, hB, -⟩, -⟩ := h; exact y_nodes hC hW hB
theorem z_failureReason (h : LG μ f n g rc w A) : KI γ 1 mX12_failureReason [rv f] w 0 0 (fun r w' => r = A 134 μ.1 0 ∧ w' = w) NX := by
  obtain ⟨⟨⟨p, hC⟩, hV, -⟩, -⟩ := h; exact y_failureReason hC hV
theorem z_failureCommand (h : LG μ f n g rc w A) : KI γ 1 mX12_failureCommand [rv f] w 0 0 (fun r w' => r = A 135 μ.1 0 ∧ w' = w) NX := by
  obtain ⟨⟨⟨p, hC⟩, hV, -⟩, -⟩ := h; exact y_failureCommand hC hV
theorem z_bookmarkAt (h : LG μ f n g rc w A) (hn : 0 ≤ n ∧ n ≤ 500) (hW : WI w) (hc : 0 ≤ c ∧ c ≤ 4) : KI γ 7 mX12_bookmarkAt [rv f, .int (I c)] w 1 6 (fun r w' => r = -1 ∧ w' = w) NX := by
  obtain ⟨⟨⟨p, hC⟩, -, hB, -⟩, -, -, h4, -⟩ := h
  refine (y_bookmarkAt hC hW hB (by omega) hc).imp (fun r w' z => ⟨z.1.trans (h4 c hc.1 (by omega)), z.2⟩) (fun _ _ z => z)
theorem z_lengthByReplay (h : LG μ f n 0 rc w A) (hn : 0 ≤ n ∧ n ≤ 500) (hW : WI w) (hk : A 126 μ.1 0 = k) : KI γ 8 mX12_lengthByReplay [rv f, .int (I k)] w 1 6 (fun r w' => r = A 201 0 0 ∧ w' = w) NX := by
  obtain ⟨⟨⟨p, hC⟩, -, hB, -⟩, hg, -⟩ := h
  subst hk
  exact y_lengthByReplay hC hW hB (by omega) hg
theorem z_stepsOf (h : LG μ f n g rc w A) (hn : 0 ≤ n ∧ n ≤ 500) (hW : WI w) (hk : isN μ k A) (h1 : 1 ≤ k) : KI γ 8 mX12_stepsOf [rv f, .int (I k)] w 1 6 (fun r w' => 1 ≤ r ∧ w' = w) NX := by
  obtain ⟨⟨⟨p, hC⟩, -, hB, -⟩, -⟩ := id h
  have hT := hB.2.1.2.2.2.1.1
  refine (y_stepsOf hC hW hB (by have := hk.1; omega) hk).imp (fun r w' z => ⟨by rw [z.1]; exact (h.steps hn hC hk h1).2, z.2⟩) (fun _ _ z => z)
theorem z_par (h : LG μ f n g rc w A) (hn : 0 ≤ n ∧ n ≤ 500) (hk : isN μ k A) (h1 : 1 ≤ k) : 0 ≤ A 217 0 k := by
  obtain ⟨⟨⟨p, hC⟩, -⟩, -⟩ := id h
  exact (h.steps hn hC hk h1).1
end IN6
