/-! within a call: what stands between calls, and the call's beginning kept -/
def CHK (p : RP) (μ : MU) (f : Int) (w A : Mm) : Prop :=
  CHB p μ f (lvL p μ A) w A ∧ (SVd p w A (w 42 f 0) 2 (lvK (ps_ p) μ A 2) ∧ (A 122 μ.1 0 ≤ A 214 0 2 ∧ A 214 0 2 ≤ A 120 μ.1 0) ∧ A 215 0 2 ≤ A 121 μ.1 0) ∧ LIV μ (pg_ p) (pr_ p (A 126 μ.1 0)) (m_rest μ 2 1 A)
section CHKs
variable {p : RP} {w w1 w' A A' : Mm} {μ : MU} {f g S P M cc a b r k v : Int} {L : List Int} {σ : Int → Int} {c : Int → Int} {G : Int → Int → Int}
theorem RLm.nd1 (h : RLm p μ f L w A) : ∀ (n : Nat) (i : Int), 0 ≤ i → i + n ≤ A 120 μ.1 0 → ((rng n i).map (ps_ p)).Nodup := by
  have hinj : ∀ i j, 0 ≤ i → i < A 120 μ.1 0 → 0 ≤ j → j < A 120 μ.1 0 → ps_ p i = ps_ p j → i = j := fun i j i0 i1 j0 j1 e => by
    have a1 : pc_ p (ps_ p i) = -(i + 1) := (h.2.2.2 i i0 i1).1.2
    have a2 : pc_ p (ps_ p j) = -(j + 1) := (h.2.2.2 j j0 j1).1.2
    rw [e] at a1; omega
  intro n
  induction n with
  | zero => intro i _ _; exact List.nodup_nil
  | succ n ih =>
    intro i i0 i1
    simp only [rng, List.map_cons, List.nodup_cons]
    refine ⟨fun hm => ?_, ih (i + 1) (by omega) (by omega)⟩
    obtain ⟨j, hj, e⟩ := List.mem_map.mp hm
    have := rng_mem.mp hj
    have := hinj j i (by omega) (by omega) (by omega) (by omega) e
    omega
theorem lvK_pre (hl : A 122 μ.1 0 ≤ A 214 0 k ∧ A 214 0 k ≤ A 120 μ.1 0) : lvS σ μ A = lvK σ μ A k ++ (rng (A 120 μ.1 0 - A 214 0 k).toNat (A 214 0 k)).map σ := by
  unfold lvS lvK
  rw [show (A 120 μ.1 0 - A 122 μ.1 0).toNat = (A 214 0 k - A 122 μ.1 0).toNat + (A 120 μ.1 0 - A 214 0 k).toNat by omega, rng_app, List.map_append, show A 122 μ.1 0 + ((A 214 0 k - A 122 μ.1 0).toNat : Int) = A 214 0 k by omega]
theorem CHK.kpb (h : CHK p μ f w A) (h2 : SB 2 A) : KPb p μ f (lvL p μ A) (lvK (ps_ p) μ A 2) w A :=
  ⟨h.2.1.1, ⟨_, lvK_pre h.2.1.2.1⟩, h.1.1.nd1 _ _ h.1.2.2.b0.1.1 (by have := h.2.1.2.1; omega), h2, h.2.1.2.1⟩
theorem CHK.lk (h : CHK p μ f w A) : ∀ x ∈ lvK (ps_ p) μ A 2, pc_ p x ≤ -1 := by
  intro x hx
  have hl := h.1.2.2.b0.1
  have h3 := h.2.1.2.1
  obtain ⟨i, hi, rfl⟩ := List.mem_map.mp hx
  have hi := rng_mem.mp hi
  have := (h.1.1.2.2.2 i (by omega) (by omega)).1.2
  omega
/-- the same live state, steps, pool and tree -/
theorem CHB.cgA (h : CHB p μ f (lvL p μ A) w A) (hR : RLm p μ f (lvL p μ A) w' A') (hT : TB μ M A) (hM : M ≤ 600) (s1 : SB 1 A) (e : ∀ (c : Nat) (a i : Int), (120 ≤ c ∧ c ≤ 126) ∨ (200 ≤ c ∧ c ≤ 213) ∨ (216 ≤ c ∧ c ≤ 225) ∨ c = 227 ∨ c = 240 → A' c a i = A c a i) : CHB p μ f (lvL p μ A') w' A' := by
  obtain ⟨h1, h2, h3⟩ := h
  have eL : lvL p μ A' = lvL p μ A := by unfold lvL; rw [e 120 _ _ (by decide), e 122 _ _ (by decide)]
  have hb : bB A' := h3.b0.2.2.2.cong fun i => e _ _ _ (by decide)
  have h6 : bPb A' := h3.b0.2.2.1.cong fun i => e _ _ _ (by decide)
  refine ⟨by rw [eL]; exact hR, h2.app hT hM s1 h3.b0.2.2.2 h3.b0.2.2.1 (TSx.of (fun c a i z => e c a i (by omega)) (fun i _ _ => e _ _ _ (by decide)) (fun j _ _ => pby_cong (e _ _ _ (by decide)))) h6 (fun _ _ _ => rfl), ?_⟩
  rw [e 126 _ _ (by decide)]
  exact h3.cg hb (fun c a i z => e c a i (by omega))
/-- the reference's own numbers, that no object shows -/
theorem RLm.o34 (h : RLm p μ f L w A) {c : Nat} (hc : 134 ≤ c ∧ c ≤ 139) {a i : Int} : RLm p μ f L w (up A c a i v) := by
  refine h.sc (fun _ _ _ _ => rfl) (fun c' a' i' z => up_k _ (by omega) _ _ _ _ _) ?_
  have := h.1.2.1
  unfold vSc at this ⊢
  rw [up_k _ (show 133 ≠ c by omega), up_k _ (show 132 ≠ c by omega), up_k _ (show 131 ≠ c by omega), up_k _ (show 130 ≠ c by omega), up_k _ (show 129 ≠ c by omega)]
  refine ⟨this.1, this.2.1, fun j j0 j1 => ?_, this.2.2.2⟩
  rw [up_k _ (show 211 ≠ c by omega)]; exact this.2.2.1 j j0 j1
theorem CHB.o34 (h : CHB p μ f (lvL p μ A) w A) (hT : TB μ M A) (hM : M ≤ 600) (s1 : SB 1 A) {c : Nat} (hc : 134 ≤ c ∧ c ≤ 139) {a i : Int} : CHB p μ f (lvL p μ (up A c a i v)) w (up A c a i v) :=
  h.cgA (h.1.o34 hc) hT hM s1 fun c' a' i' z => up_k _ (by omega) _ _ _ _ _
/-- a call is prepared -/
theorem CHB.sav (h : CHB p μ f (lvL p μ A) w A) (hT : TB μ M A) (hM : M ≤ 600) (s1 : SB 1 A) (hSB : SB 0 A) (hR : RLm p μ f (lvL p μ A) w1 (m_saves μ 2 A)) : CHB p μ f (lvL p μ (m_saves μ 2 A)) w1 (m_saves μ 2 A) := by
  obtain ⟨h1, h2, h3⟩ := h
  have e : ∀ {c : Nat} {x i : Int}, c < 200 ∨ (210 < c ∧ c ≠ 214 ∧ c ≠ 215) → m_saves μ 2 A c x i = A c x i := fun z => saves_at z
  have eL : lvL p μ (m_saves μ 2 A) = lvL p μ A := by unfold lvL; rw [e (by decide), e (by decide)]
  refine ⟨by rw [eL]; exact hR, h2.app hT hM s1 h3.b0.2.2.2 h3.b0.2.2.1 (TSx.of (fun c a i z => e (by omega)) (fun i _ _ => e (by decide)) (fun j _ _ => pby_cong (e (by decide)))) (h3.b0.2.2.1.cong fun i => e (by decide)) (fun _ _ _ => rfl), ?_⟩
  rw [e (c := 126) (by decide)]
  refine h3.keep (e (by decide)) (e (by decide)) (e (by decide)) (e (by decide)) (fun j _ _ => e (by decide)) (fun j _ _ => pby_cong (e (by decide))) (h3.b0.2.2.2.cong fun i => e (by decide)) (h3.b0.2.2.1.cong fun i => e (by decide)) (fun r => e (by decide)) ((EQv.s0 hSB.2.2.2.2.1 hSB.2.2.2.1 hSB.1 fun k i x y i0 i1 => ?_).mono fun _ _ _ _ => trivial)
  rw [saves_cpy k i x (by omega)]
  exact cpy_o ⟨x, by omega⟩ (Or.inl (by omega)) hSB.1.2
theorem CHK.ini (h : CHB p μ f (lvL p μ A) w A) (hT : TB μ M A) (hM : M ≤ 600) (s1 : SB 1 A) (hSB : SB 0 A) (hR : RLm p μ f (lvL p μ A) w1 (m_saves μ 2 A)) (hs : SVd p w1 (m_saves μ 2 A) (w1 42 f 0) 2 (lvL p μ A)) : CHK p μ f w1 (m_saves μ 2 A) := by
  have e : ∀ {c : Nat} {x i : Int}, c < 200 ∨ (210 < c ∧ c ≠ 214 ∧ c ≠ 215) → m_saves μ 2 A c x i = A c x i := fun z => saves_at z
  have hl := h.2.2.b0.1
  have hLK : lvK (ps_ p) μ (m_saves μ 2 A) 2 = lvL p μ A := by unfold lvK lvL; rw [saves_214.1, e (c := 122) (by decide)]
  refine ⟨h.sav hT hM s1 hSB hR, ⟨by rw [hLK]; exact hs, by rw [saves_214.1, e (c := 122) (by decide), e (c := 120) (by decide)]; omega, by rw [saves_214.2, e (c := 121) (by decide)]; exact Int.le_refl _⟩, ?_⟩
  rw [e (c := 126) (by decide)]
  exact h.2.2.savR (by decide) hSB
/-- a command is done -/
theorem CHK.does (h : CHK p μ f w A) (hT : TB μ M A) (hM : M ≤ 600) (s1 : SB 1 A) (hz : A 123 μ.1 0 ≤ A 121 μ.1 0) (hB : LB μ S P A) (hP : P ≤ 519900) (h2 : SB 2 A) (hv : CV cc a b) (hcc : cc ≤ 14) (hp : PFR p μ f (lvL p μ A) w A cc a b r w') :
    (∃ p', CHK p' μ f w' (m_does μ cc a b A).2) ∧ UPG f w w' := by
  have hlk := h.lk
  obtain ⟨⟨h1, h9, hl1⟩, ⟨hs1, hs2, hs3⟩, hl2⟩ := h
  obtain ⟨-, ⟨c2, σ2, G2, r1, r2, r3, ⟨r4, r5⟩, r6⟩, -⟩ := hp
  have hlo := LO.does hB hv hcc
  have hap : AP μ A (m_does μ cc a b A).2 := AP.does
  have hb : bB (m_does μ cc a b A).2 := (hB.does hv).2.2.1
  obtain ⟨A', hA'⟩ : ∃ A', A' = (m_does μ cc a b A).2 := ⟨_, rfl⟩
  have hN := hB.2.2.2.2
  have hG : Gok μ (pg_ p) G2 A (m_does μ cc a b A).2 := ⟨fun k k0 k1 => (r3 k k1).2, r6⟩
  have hLV := hl1.does (by have := hN.2; omega) hB.1 hB.2.1 hv hcc hb hG
  rw [← hA'] at hlo hap hLV r1 r2 hb ⊢
  have e122 : A' 122 μ.1 0 = A 122 μ.1 0 := hlo.2 _ _ _ (by decide) (by decide)
  have e123 : A' 123 μ.1 0 = A 123 μ.1 0 := hlo.2 _ _ _ (by decide) (by decide)
  have e126 : A' 126 μ.1 0 = A 126 μ.1 0 := hlo.2 _ _ _ (by decide) (by decide)
  have e214 : A' 214 0 2 = A 214 0 2 := hlo.2 _ _ _ (by decide) (by decide)
  have e215 : A' 215 0 2 = A 215 0 2 := hlo.2 _ _ _ (by decide) (by decide)
  have hl := hl1.b0.1
  have hf := h1.1.2.1.1
  have hd2 := h1.1.2.2.1.2.1
  have hst := SDb.std (lo := A 122 μ.1 0) (b0 := 10) (Or.inl rfl)
  have e42 : w' 42 f 0 = w 42 f 0 := ed_fr hf r4 hst hl.1 (by decide)
  have h6 : bPb A' := hLV.b0.2.2.1
  have hlos : ∀ (c : Nat) (a i : Int), (122 ≤ c ∧ c ≤ 126) ∨ c = 211 ∨ (216 ≤ c ∧ c ≤ 225) ∨ c = 227 → A' c a i = A c a i := fun c a i z => hlo.2 c a i (by omega) (by
    rcases z with z | z | z | z
    · have : c = 122 ∨ c = 123 ∨ c = 124 ∨ c = 125 ∨ c = 126 := by omega
      rcases this with rfl | rfl | rfl | rfl | rfl <;> decide
    · subst z; decide
    · have : c = 216 ∨ c = 217 ∨ c = 218 ∨ c = 219 ∨ c = 220 ∨ c = 221 ∨ c = 222 ∨ c = 223 ∨ c = 224 ∨ c = 225 := by omega
      rcases this with rfl | rfl | rfl | rfl | rfl | rfl | rfl | rfl | rfl | rfl <;> decide
    · subst z; decide)
  refine ⟨⟨pU p c2 σ2 G2, ⟨?_, ?_, ?_⟩, ⟨?_, by rw [e122, e214]; omega, by rw [e215]; have := hap.2.1; omega⟩, ?_⟩, r4.toG hf h1.1.2.2.2.2.2.1 (fun k z1 z => by unfold SDb at z; omega) (fun k z => by unfold SDb at z; omega)⟩
  · have q := lvS_app (σ' := σ2) (A' := A') hl.2 r2 e122 (fun k hk => (r3 k hk).1)
    show RLm _ μ f (lvS σ2 μ A') w' A'
    rw [← q]; exact r1
  · exact h9.app hT hM s1 hl1.b0.2.2.2 hl1.b0.2.2.1 (TSx.of hlos (fun i i0 i1 => hap.2.2.1 i i0 (by omega)) (fun j j0 j1 => hap.2.2.2 j j0 (by omega))) h6 (fun k k0 k1 => (r3 k (by omega)).2)
  · rw [e126]; exact hLV
  · rw [e42]
    have q : lvK σ2 μ A' 2 = lvK (ps_ p) μ A 2 := by
      unfold lvK; rw [e214, e122]
      exact List.map_congr_left fun i hi => (r3 i (by have := rng_mem.mp hi; omega)).1
    show SVd _ w' A' (w 42 f 0) 2 (lvK σ2 μ A' 2)
    rw [q]
    exact hs1.frL hd2.1 hd2.2 (Or.inl rfl) (by decide) h2.2.2.2.2.1 r4 r5 (fun b' k x y z => by unfold SDb at z; omega) (fun k z => by unfold SDb at z; omega) hlk (fun b x z => by unfold SDb at z; omega) (hlo.slb (by decide))
  · rw [e126]
    exact hl2.keepR (by decide) h2 (hlo.slb (by decide)) e214 e215 e122 e123 (fun j j0 j1 => hap.2.2.1 j j0 (by omega)) (fun j j0 j1 => hap.2.2.2 j j0 (by omega)) hb hLV.b0.2.2.1 (fun r => hlo.2 _ _ _ (by decide) (by decide)) (fun k k0 k1 => (r3 k (by omega)).2)
end CHKs
