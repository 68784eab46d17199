/-! THE LAW'S LOOP: its cases -/
section LSC
variable {κ : KC} {P S : Nat} {w A : Mm} {b L : Nat} {xs : Nat → Int32} {μ : MU} {f n g rc l T nn v q hd : Int}
set_option maxRecDepth 4000 in
theorem la_J (hO : Ok κ RL cL_law) (hD : Dp κ 60) (h : LG μ f n g rc w A) (hn : 0 ≤ n ∧ n ≤ 490) (hg : g = 0 ∨ g = 1) (hrc : rc = 0 ∨ rc = 1) (hv : IR v)  (kk : ∀ w' B g' rc', LG μ f (n + 2) g' rc' w' B → (g' = 0 ∨ g' = 1) → (rc' = 0 ∨ rc' = 1) → X κ P S w' 731 (lsT b f g' l rc' T nn v q hd) []) : X κ (P + 200) (S + 15000) w 622 (lsT b f g l rc T nn v q hd) [] := by
  show X κ (P + 200) (S + 15000) w 622 [some (.ref b), some (rv f), some (.int (I g)), some (.int (I l)), some (.int (I rc)), some (.int (I 1)), some (.int (I T)), some (.int (I nn)), some (.int (I v)), some (.int (I q)), some (.int (I hd)), none, none, none] []
  refine X_wi (fun hW => ?_)
  have hE := h
  have t0 : w 0 f 0 = 13 := h.t0
  have hlen := h.len
  refine X_aload_n 623 hO dL_law_622 rfl rfl ?_
  refine X_iload 625 hO dL_law_623 rfl rfl ?_
  refine X_iconst 626 hO dL_law_625 rfl ?_
  obtain ⟨z_626, hz_626, hzr_626⟩ := I_any (I v >>> (I 3 &&& 31))
  refine X_ishr 627 hO dL_law_626 rfl (hz_626) ?_
  refine X_iconst 628 hO dL_law_627 rfl ?_
  refine X_kSi 631 hO hD lL_9 [_, _] rfl dL_law_628 rfl (L_low _ _ _ _ (by omega) (by omega)) (by decide) (by simp [rv_cat, int_cat]) (by first | decide | exact Nat.zero_le _ | omega) (by first | decide | exact Nat.zero_le _ | omega) (fun r_628 w_628 hr_628 hp_628 => ?_) (fun E w_ hx_ => hx_.elim)
  obtain ⟨hl_628, e_628⟩ := hp_628
  subst w_628
  refine X_bipush 633 hO dL_law_631 rfl (by decide) ?_
  refine X_iload 635 hO dL_law_633 rfl rfl ?_
  refine X_iconst 636 hO dL_law_635 rfl ?_
  obtain ⟨z_636, hz_636, hzr_636⟩ := I_any (I v >>> (I 5 &&& 31))
  refine X_ishr 637 hO dL_law_636 rfl (hz_636) ?_
  refine X_iconst 638 hO dL_law_637 rfl ?_
  refine X_kSi 641 hO hD lL_9 [_, _] rfl dL_law_638 rfl (L_low _ _ _ _ (by omega) (by omega)) (by decide) (by simp [rv_cat, int_cat]) (by first | decide | exact Nat.zero_le _ | omega) (by first | decide | exact Nat.zero_le _ | omega) (fun r_638 w_638 hr_638 hp_638 => ?_) (fun E w_ hx_ => hx_.elim)
  obtain ⟨hl_638, e_638⟩ := hp_638
  subst w_638
  refine X_iadd 642 hO dL_law_641 rfl ?_
  refine X_bipush 644 hO dL_law_642 rfl (by decide) ?_
  refine X_iload 646 hO dL_law_644 rfl rfl ?_
  refine X_bipush 648 hO dL_law_646 rfl (by decide) ?_
  obtain ⟨z_648, hz_648, hzr_648⟩ := I_any (I v >>> (I 7 &&& 31))
  refine X_ishr 649 hO dL_law_648 rfl (hz_648) ?_
  refine X_iconst 650 hO dL_law_649 rfl ?_
  refine X_kSi 653 hO hD lL_9 [_, _] rfl dL_law_650 rfl (L_low _ _ _ _ (by omega) (by omega)) (by decide) (by simp [rv_cat, int_cat]) (by first | decide | exact Nat.zero_le _ | omega) (by first | decide | exact Nat.zero_le _ | omega) (fun r_650 w_650 hr_650 hp_650 => ?_) (fun E w_ hx_ => hx_.elim)
  obtain ⟨hl_650, e_650⟩ := hp_650
  subst w_650
  refine X_iadd 654 hO dL_law_653 rfl ?_
  refine X_iload 656 hO dL_law_654 rfl rfl ?_
  refine X_bipush 658 hO dL_law_656 rfl (by decide) ?_
  obtain ⟨z_658, hz_658, hzr_658⟩ := I_any (I v >>> (I 9 &&& 31))
  refine X_ishr 659 hO dL_law_658 rfl (hz_658) ?_
  refine X_iconst 660 hO dL_law_659 rfl ?_
  refine X_kSi 663 hO hD lL_9 [_, _] rfl dL_law_660 rfl (L_low _ _ _ _ (by omega) (by omega)) (by decide) (by simp [rv_cat, int_cat]) (by first | decide | exact Nat.zero_le _ | omega) (by first | decide | exact Nat.zero_le _ | omega) (fun r_660 w_660 hr_660 hp_660 => ?_) (fun E w_ hx_ => hx_.elim)
  obtain ⟨hl_660, e_660⟩ := hp_660
  subst w_660
  refine X_kVv (t := 13) 666 hO hD lL_186 rfl (by decide) [_, _, _, _] rfl dL_law_663 rfl (by first | assumption | omega | (simp (disch := first | decide | assumption | omega) only [up_k, up_s, up_a, up_i, flA_k, flA_a, newO_o, newA_o]; first | assumption | omega)) (lg_listen hE (by omega) (by omega) ⟨by right; omega, by right; omega, by omega, by omega⟩) (by decide) (by simp [rv_cat, int_cat]) (by first | decide | exact Nat.zero_le _ | omega) (by first | decide | exact Nat.zero_le _ | omega) (fun w_663 hp_663 => ?_) (fun E w_ hx_ => hx_.elim)
  obtain ⟨B_663, hE⟩ := hp_663
  have t0_663 : w_663 0 f 0 = 13 := hE.t0
  refine X_wi (fun hW_663 => ?_)
  refine X_goto hO dL_law_666 (tgt := 731) rfl ?_
  exact X_wk (by simp only [lwk, lset, true_or, or_true, and_self]) (X_mono (by omega) (by omega) (kk _ _ _ _ (hE.mono (by omega)) (by omega) (by omega)))
set_option maxRecDepth 4000 in
theorem la_K (hO : Ok κ RL cL_law) (hD : Dp κ 60) (h : LG μ f n g rc w A) (hn : 0 ≤ n ∧ n ≤ 490) (hg : g = 0 ∨ g = 1) (hrc : rc = 0 ∨ rc = 1) (hv : IR v)  (kk : ∀ w' B g' rc', LG μ f (n + 2) g' rc' w' B → (g' = 0 ∨ g' = 1) → (rc' = 0 ∨ rc' = 1) → X κ P S w' 731 (lsT b f g' l rc' T nn v q hd) []) : X κ (P + 200) (S + 15000) w 669 (lsT b f g l rc T nn v q hd) [] := by
  show X κ (P + 200) (S + 15000) w 669 [some (.ref b), some (rv f), some (.int (I g)), some (.int (I l)), some (.int (I rc)), some (.int (I 1)), some (.int (I T)), some (.int (I nn)), some (.int (I v)), some (.int (I q)), some (.int (I hd)), none, none, none] []
  refine X_wi (fun hW => ?_)
  have hE := h
  have t0 : w 0 f 0 = 13 := h.t0
  have hlen := h.len
  refine X_aload_n 670 hO dL_law_669 rfl rfl ?_
  refine X_iconst 671 hO dL_law_670 rfl ?_
  refine X_iload 673 hO dL_law_671 rfl rfl ?_
  refine X_bipush 675 hO dL_law_673 rfl (by decide) ?_
  refine X_kSi 678 hO hD lL_9 [_, _] rfl dL_law_675 rfl (L_low _ _ _ _ (by omega) (by omega)) (by decide) (by simp [rv_cat, int_cat]) (by first | decide | exact Nat.zero_le _ | omega) (by first | decide | exact Nat.zero_le _ | omega) (fun r_675 w_675 hr_675 hp_675 => ?_) (fun E w_ hx_ => hx_.elim)
  obtain ⟨hl_675, e_675⟩ := hp_675
  subst w_675
  refine X_iadd 679 hO dL_law_678 rfl ?_
  refine X_kVv (t := 13) 682 hO hD lL_190 rfl (by decide) [_] rfl dL_law_679 rfl (by first | assumption | omega | (simp (disch := first | decide | assumption | omega) only [up_k, up_s, up_a, up_i, flA_k, flA_a, newO_o, newA_o]; first | assumption | omega)) (lg_pass hE (by omega) (by omega)) (by decide) (by simp [rv_cat, int_cat]) (by first | decide | exact Nat.zero_le _ | omega) (by first | decide | exact Nat.zero_le _ | omega) (fun w_679 hp_679 => ?_) (fun E w_ hx_ => hx_.elim)
  obtain ⟨B_679, hE⟩ := hp_679
  have t0_679 : w_679 0 f 0 = 13 := hE.t0
  refine X_wi (fun hW_679 => ?_)
  refine X_aload_n 683 hO dL_law_682 rfl rfl ?_
  refine X_iload 685 hO dL_law_683 rfl rfl ?_
  refine X_iconst 686 hO dL_law_685 rfl ?_
  refine X_kSi 689 hO hD lL_9 [_, _] rfl dL_law_686 rfl (L_low _ _ _ _ (by omega) (by omega)) (by decide) (by simp [rv_cat, int_cat]) (by first | decide | exact Nat.zero_le _ | omega) (by first | decide | exact Nat.zero_le _ | omega) (fun r_686 w_686 hr_686 hp_686 => ?_) (fun E w_ hx_ => hx_.elim)
  obtain ⟨hl_686, e_686⟩ := hp_686
  subst w_686
  refine X_kVi (t := 13) 692 hO hD lL_193 rfl (by decide) [_] rfl dL_law_689 rfl (by first | assumption | omega | (simp (disch := first | decide | assumption | omega) only [up_k, up_s, up_a, up_i, flA_k, flA_a, newO_o, newA_o]; first | assumption | omega)) (z_bookmarkAt hE (by omega) hW_679 (by omega)) (by decide) (by simp [rv_cat, int_cat]) (by first | decide | exact Nat.zero_le _ | omega) (by first | decide | exact Nat.zero_le _ | omega) (fun r_689 w_689 hr_689 hp_689 => ?_) (fun E w_ hx_ => hx_.elim)
  obtain ⟨he_689, e_689⟩ := hp_689
  subst w_689
  refine X_iconst 693 hO dL_law_692 rfl ?_
  refine X_icmp_ne 696 728 hO dL_law_693 rfl rfl (by omega) (by omega) (fun hc_693 => ?_) (fun hc_693 => ?_)
  ·
    exact absurd hc_693 (by omega)
  ·
    refine X_iload 698 hO dL_law_696 rfl rfl ?_
    refine X_bipush 700 hO dL_law_698 rfl (by decide) ?_
    refine X_kSi 703 hO hD lL_9 [_, _] rfl dL_law_700 rfl (L_low _ _ _ _ (by omega) (by omega)) (by decide) (by simp [rv_cat, int_cat]) (by first | decide | exact Nat.zero_le _ | omega) (by first | decide | exact Nat.zero_le _ | omega) (fun r_700 w_700 hr_700 hp_700 => ?_) (fun E w_ hx_ => hx_.elim)
    obtain ⟨hl_700, e_700⟩ := hp_700
    subst w_700
    refine X_if_gt 706 724 hO dL_law_703 rfl rfl (by omega) (fun hc_703 => ?_) (fun hc_703 => ?_)
    ·
      refine X_iconst 725 hO dL_law_724 rfl ?_
      refine X_goto hO dL_law_725 (tgt := 729) rfl ?_
      refine X_istore 731 hO dL_law_729 rfl rfl ?_
      exact X_wk (by simp only [lwk, lset, true_or, or_true, and_self]) (X_mono (by omega) (by omega) (kk _ _ _ _ (hE.mono (by omega)) (by omega) (by omega)))
    ·
      refine X_aload_n 707 hO dL_law_706 rfl rfl ?_
      refine X_iconst 708 hO dL_law_707 rfl ?_
      refine X_iload 710 hO dL_law_708 rfl rfl ?_
      refine X_iconst 711 hO dL_law_710 rfl ?_
      obtain ⟨z_711, hz_711, hzr_711⟩ := I_any (I v >>> (I 3 &&& 31))
      refine X_ishr 712 hO dL_law_711 rfl (hz_711) ?_
      refine X_bipush 714 hO dL_law_712 rfl (by decide) ?_
      refine X_kSi 717 hO hD lL_9 [_, _] rfl dL_law_714 rfl (L_low _ _ _ _ (by omega) (by omega)) (by decide) (by simp [rv_cat, int_cat]) (by first | decide | exact Nat.zero_le _ | omega) (by first | decide | exact Nat.zero_le _ | omega) (fun r_714 w_714 hr_714 hp_714 => ?_) (fun E w_ hx_ => hx_.elim)
      obtain ⟨hl_714, e_714⟩ := hp_714
      subst w_714
      refine X_iadd 718 hO dL_law_717 rfl ?_
      refine X_kVi (t := 13) 721 hO hD lL_196 rfl (by decide) [_] rfl dL_law_718 rfl (by first | assumption | omega | (simp (disch := first | decide | assumption | omega) only [up_k, up_s, up_a, up_i, flA_k, flA_a, newO_o, newA_o]; first | assumption | omega)) (lg_setBudget hE (by omega) (by omega)) (by decide) (by simp [rv_cat, int_cat]) (by first | decide | exact Nat.zero_le _ | omega) (by first | decide | exact Nat.zero_le _ | omega) (fun r_718 w_718 hr_718 hp_718 => ?_) (fun E w_ hx_ => hx_.elim)
      obtain ⟨hA_718, B_718, hE⟩ := hp_718
      have t0_718 : w_718 0 f 0 = 13 := hE.t0
      refine X_wi (fun hW_718 => ?_)
      refine X_if_lt 724 728 hO dL_law_721 rfl rfl (by omega) (fun hc_721 => ?_) (fun hc_721 => ?_)
      ·
        exact absurd hc_721 (by omega)
      ·
        refine X_iconst 725 hO dL_law_724 rfl ?_
        refine X_goto hO dL_law_725 (tgt := 729) rfl ?_
        refine X_istore 731 hO dL_law_729 rfl rfl ?_
        exact X_wk (by simp only [lwk, lset, true_or, or_true, and_self]) (X_mono (by omega) (by omega) (kk _ _ _ _ (hE.mono (by omega)) (by omega) (by omega)))
set_option maxRecDepth 4000 in
theorem la_t1 (hO : Ok κ RL cL_law) (hD : Dp κ 60) (h : LG μ f n g rc w A) (hn : 0 ≤ n ∧ n ≤ 490) (hg : g = 0 ∨ g = 1) (hrc : rc = 0 ∨ rc = 1) (hv : IR v) (hl : IR l) (kk : ∀ w' B l', LG μ f n g rc w' B → IR l' → X κ P S w' 801 (lsT b f g l' rc T nn v q hd) []) : X κ (P + 200) (S + 1500) w 731 (lsT b f g l rc T nn v q hd) [] := by
  show X κ (P + 200) (S + 1500) w 731 [some (.ref b), some (rv f), some (.int (I g)), some (.int (I l)), some (.int (I rc)), some (.int (I 1)), some (.int (I T)), some (.int (I nn)), some (.int (I v)), some (.int (I q)), some (.int (I hd)), none, none, none] []
  refine X_wi (fun hW => ?_)
  have hE := h
  have t0 : w 0 f 0 = 13 := h.t0
  have hlen := h.len
  refine X_iload 733 hO dL_law_731 rfl rfl ?_
  refine X_if_eq 736 768 hO dL_law_733 rfl rfl (by omega) (fun hc_733 => ?_) (fun hc_733 => ?_)
  ·
    exact absurd hc_733 (by omega)
  ·
    refine X_aload_n 737 hO dL_law_736 rfl rfl ?_
    refine X_kSi 740 hO hD lL_144 [_] rfl dL_law_737 rfl (L_text hE (by omega)) (by decide) (by simp [rv_cat, int_cat]) (by first | decide | exact Nat.zero_le _ | omega) (by first | decide | exact Nat.zero_le _ | omega) (fun r_737 w_737 hr_737 hp_737 => ?_) (fun E w_ hx_ => hx_.elim)
    obtain ⟨he_737, e_737⟩ := hp_737
    subst w_737
    refine X_if_eq 743 768 hO dL_law_740 rfl rfl (by omega) (fun hc_740 => ?_) (fun hc_740 => ?_)
    ·
      try simp only [bi_0, bi_ne, ne_eq, Classical.not_not] at hc_740
      exact absurd hc_740 (by omega)
    ·
      try simp only [bi_0, bi_ne, ne_eq, Classical.not_not] at hc_740
      refine X_iload_n 744 hO dL_law_743 rfl rfl ?_
      refine X_if_ne 747 756 hO dL_law_744 rfl rfl (by omega) (fun hc_744 => ?_) (fun hc_744 => ?_)
      ·
        have hnod := hE.nod
        refine X_aload_n 757 hO dL_law_756 rfl rfl ?_
        refine X_kVi (t := 13) 760 hO hD lL_199 rfl (by decide) [] rfl dL_law_757 rfl (by first | assumption | omega | (simp (disch := first | decide | assumption | omega) only [up_k, up_s, up_a, up_i, flA_k, flA_a, newO_o, newA_o]; first | assumption | omega)) (z_nodes hE hW) (by decide) (by simp [rv_cat, int_cat]) (by first | decide | exact Nat.zero_le _ | omega) (by first | decide | exact Nat.zero_le _ | omega) (fun r_757 w_757 hr_757 hp_757 => ?_) (fun E w_ hx_ => hx_.elim)
        obtain ⟨he_757, e_757⟩ := hp_757
        subst w_757
        refine X_iconst 761 hO dL_law_760 rfl ?_
        refine X_icmp_lt 764 768 hO dL_law_761 rfl rfl (by omega) (by omega) (fun hc_761 => ?_) (fun hc_761 => ?_)
        ·
          exact absurd hc_761 (by omega)
        ·
          refine X_iconst 765 hO dL_law_764 rfl ?_
          refine X_goto hO dL_law_765 (tgt := 769) rfl ?_
          refine X_istore 771 hO dL_law_769 rfl rfl ?_
          refine X_iload 773 hO dL_law_771 rfl rfl ?_
          refine X_if_eq 776 799 hO dL_law_773 rfl rfl (by omega) (fun hc_773 => ?_) (fun hc_773 => ?_)
          ·
            exact absurd hc_773 (by omega)
          ·
            refine X_iload_n 777 hO dL_law_776 rfl rfl ?_
            refine X_if_ne 780 799 hO dL_law_777 rfl rfl (by omega) (fun hc_777 => ?_) (fun hc_777 => ?_)
            ·
              refine X_iload_n 800 hO dL_law_799 rfl rfl ?_
              refine X_istore_n 801 hO dL_law_800 rfl rfl ?_
              exact X_wk (by simp only [lwk, lset, true_or, or_true, and_self]) (X_mono (by omega) (by omega) (kk w A l hE hl))
            ·
              refine X_iload 782 hO dL_law_780 rfl rfl ?_
              refine X_iconst 783 hO dL_law_782 rfl ?_
              obtain ⟨z_783, hz_783, hzr_783⟩ := I_any (I v >>> (I 5 &&& 31))
              refine X_ishr 784 hO dL_law_783 rfl (hz_783) ?_
              refine X_bipush 786 hO dL_law_784 rfl (by decide) ?_
              refine X_kSi 789 hO hD lL_9 [_, _] rfl dL_law_786 rfl (L_low _ _ _ _ (by omega) (by omega)) (by decide) (by simp [rv_cat, int_cat]) (by first | decide | exact Nat.zero_le _ | omega) (by first | decide | exact Nat.zero_le _ | omega) (fun r_786 w_786 hr_786 hp_786 => ?_) (fun E w_ hx_ => hx_.elim)
              obtain ⟨hl_786, e_786⟩ := hp_786
              subst w_786
              refine X_if_ne 792 799 hO dL_law_789 rfl rfl (by omega) (fun hc_789 => ?_) (fun hc_789 => ?_)
              ·
                refine X_iload_n 800 hO dL_law_799 rfl rfl ?_
                refine X_istore_n 801 hO dL_law_800 rfl rfl ?_
                exact X_wk (by simp only [lwk, lset, true_or, or_true, and_self]) (X_mono (by omega) (by omega) (kk w A l hE hl))
              ·
                refine X_aload_n 793 hO dL_law_792 rfl rfl ?_
                refine X_kVi (t := 13) 796 hO hD lL_111 rfl (by decide) [] rfl dL_law_793 rfl (by first | assumption | omega | (simp (disch := first | decide | assumption | omega) only [up_k, up_s, up_a, up_i, flA_k, flA_a, newO_o, newA_o]; first | assumption | omega)) (z_now hE) (by decide) (by simp [rv_cat, int_cat]) (by first | decide | exact Nat.zero_le _ | omega) (by first | decide | exact Nat.zero_le _ | omega) (fun r_793 w_793 hr_793 hp_793 => ?_) (fun E w_ hx_ => hx_.elim)
                obtain ⟨he_793, e_793⟩ := hp_793
                subst w_793
                refine X_goto hO dL_law_796 (tgt := 800) rfl ?_
                refine X_istore_n 801 hO dL_law_800 rfl rfl ?_
                exact X_wk (by simp only [lwk, lset, true_or, or_true, and_self]) (X_mono (by omega) (by omega) (kk w A r_793 hE hr_793))
      ·
        have hnod := hE.nod
        refine X_aload_n 748 hO dL_law_747 rfl rfl ?_
        refine X_iload 750 hO dL_law_748 rfl rfl ?_
        refine X_kSi 753 hO hD lL_148 [_, _] rfl dL_law_750 rfl (L_replayed (g := 0) (g0 (by omega) hE) (by omega) hv) (by decide) (by simp [rv_cat, int_cat]) (by first | decide | exact Nat.zero_le _ | omega) (by first | decide | exact Nat.zero_le _ | omega) (fun r_750 w_750 hr_750 hp_750 => ?_) (fun E w_ hx_ => hx_.elim)
        obtain ⟨he_750, e_750⟩ := hp_750
        subst w_750
        refine X_if_eq 756 768 hO dL_law_753 rfl rfl (by omega) (fun hc_753 => ?_) (fun hc_753 => ?_)
        ·
          try simp only [bi_0, bi_ne, ne_eq, Classical.not_not] at hc_753
          exact absurd hc_753 (by omega)
        ·
          try simp only [bi_0, bi_ne, ne_eq, Classical.not_not] at hc_753
          refine X_aload_n 757 hO dL_law_756 rfl rfl ?_
          refine X_kVi (t := 13) 760 hO hD lL_199 rfl (by decide) [] rfl dL_law_757 rfl (by first | assumption | omega | (simp (disch := first | decide | assumption | omega) only [up_k, up_s, up_a, up_i, flA_k, flA_a, newO_o, newA_o]; first | assumption | omega)) (z_nodes hE hW) (by decide) (by simp [rv_cat, int_cat]) (by first | decide | exact Nat.zero_le _ | omega) (by first | decide | exact Nat.zero_le _ | omega) (fun r_757 w_757 hr_757 hp_757 => ?_) (fun E w_ hx_ => hx_.elim)
          obtain ⟨he_757, e_757⟩ := hp_757
          subst w_757
          refine X_iconst 761 hO dL_law_760 rfl ?_
          refine X_icmp_lt 764 768 hO dL_law_761 rfl rfl (by omega) (by omega) (fun hc_761 => ?_) (fun hc_761 => ?_)
          ·
            exact absurd hc_761 (by omega)
          ·
            refine X_iconst 765 hO dL_law_764 rfl ?_
            refine X_goto hO dL_law_765 (tgt := 769) rfl ?_
            refine X_istore 771 hO dL_law_769 rfl rfl ?_
            refine X_iload 773 hO dL_law_771 rfl rfl ?_
            refine X_if_eq 776 799 hO dL_law_773 rfl rfl (by omega) (fun hc_773 => ?_) (fun hc_773 => ?_)
            ·
              exact absurd hc_773 (by omega)
            ·
              refine X_iload_n 777 hO dL_law_776 rfl rfl ?_
              refine X_if_ne 780 799 hO dL_law_777 rfl rfl (by omega) (fun hc_777 => ?_) (fun hc_777 => ?_)
              ·
                refine X_iload_n 800 hO dL_law_799 rfl rfl ?_
                refine X_istore_n 801 hO dL_law_800 rfl rfl ?_
                exact X_wk (by simp only [lwk, lset, true_or, or_true, and_self]) (X_mono (by omega) (by omega) (kk w A l hE hl))
              ·
                refine X_iload 782 hO dL_law_780 rfl rfl ?_
                refine X_iconst 783 hO dL_law_782 rfl ?_
                obtain ⟨z_783, hz_783, hzr_783⟩ := I_any (I v >>> (I 5 &&& 31))
                refine X_ishr 784 hO dL_law_783 rfl (hz_783) ?_
                refine X_bipush 786 hO dL_law_784 rfl (by decide) ?_
                refine X_kSi 789 hO hD lL_9 [_, _] rfl dL_law_786 rfl (L_low _ _ _ _ (by omega) (by omega)) (by decide) (by simp [rv_cat, int_cat]) (by first | decide | exact Nat.zero_le _ | omega) (by first | decide | exact Nat.zero_le _ | omega) (fun r_786 w_786 hr_786 hp_786 => ?_) (fun E w_ hx_ => hx_.elim)
                obtain ⟨hl_786, e_786⟩ := hp_786
                subst w_786
                refine X_if_ne 792 799 hO dL_law_789 rfl rfl (by omega) (fun hc_789 => ?_) (fun hc_789 => ?_)
                ·
                  refine X_iload_n 800 hO dL_law_799 rfl rfl ?_
                  refine X_istore_n 801 hO dL_law_800 rfl rfl ?_
                  exact X_wk (by simp only [lwk, lset, true_or, or_true, and_self]) (X_mono (by omega) (by omega) (kk w A l hE hl))
                ·
                  refine X_aload_n 793 hO dL_law_792 rfl rfl ?_
                  refine X_kVi (t := 13) 796 hO hD lL_111 rfl (by decide) [] rfl dL_law_793 rfl (by first | assumption | omega | (simp (disch := first | decide | assumption | omega) only [up_k, up_s, up_a, up_i, flA_k, flA_a, newO_o, newA_o]; first | assumption | omega)) (z_now hE) (by decide) (by simp [rv_cat, int_cat]) (by first | decide | exact Nat.zero_le _ | omega) (by first | decide | exact Nat.zero_le _ | omega) (fun r_793 w_793 hr_793 hp_793 => ?_) (fun E w_ hx_ => hx_.elim)
                  obtain ⟨he_793, e_793⟩ := hp_793
                  subst w_793
                  refine X_goto hO dL_law_796 (tgt := 800) rfl ?_
                  refine X_istore_n 801 hO dL_law_800 rfl rfl ?_
                  exact X_wk (by simp only [lwk, lset, true_or, or_true, and_self]) (X_mono (by omega) (by omega) (kk w A r_793 hE hr_793))
set_option maxRecDepth 4000 in
theorem la_t2 (hO : Ok κ RL cL_law) (hD : Dp κ 60) (h : LG μ f n g rc w A) (hn : 0 ≤ n ∧ n ≤ 490) (hg : g = 0 ∨ g = 1) (hrc : rc = 0 ∨ rc = 1) (hv : IR v) (hl : IR l) (kk : ∀ w' B, LG μ f (n + 2) g rc w' B → X κ P S w' 897 (lsT b f g l rc T nn v q hd) []) : X κ (P + 200) (S + 1500) w 801 (lsT b f g l rc T nn v q hd) [] := by
  show X κ (P + 200) (S + 1500) w 801 [some (.ref b), some (rv f), some (.int (I g)), some (.int (I l)), some (.int (I rc)), some (.int (I 1)), some (.int (I T)), some (.int (I nn)), some (.int (I v)), some (.int (I q)), some (.int (I hd)), none, none, none] []
  refine X_wi (fun hW => ?_)
  have hE := h
  have t0 : w 0 f 0 = 13 := h.t0
  have hlen := h.len
  refine X_iload 803 hO dL_law_801 rfl rfl ?_
  refine X_if_eq 806 897 hO dL_law_803 rfl rfl (by omega) (fun hc_803 => ?_) (fun hc_803 => ?_)
  ·
    exact absurd hc_803 (by omega)
  ·
    refine X_iload_n 807 hO dL_law_806 rfl rfl ?_
    refine X_if_ne 810 897 hO dL_law_807 rfl rfl (by omega) (fun hc_807 => ?_) (fun hc_807 => ?_)
    ·
      exact X_wk (by simp only [lwk, lset, true_or, or_true, and_self]) (X_mono (by omega) (by omega) (kk _ _ (hE.mono (by omega))))
    ·
      refine X_iload 812 hO dL_law_810 rfl rfl ?_
      refine X_bipush 814 hO dL_law_812 rfl (by decide) ?_
      obtain ⟨z_814, hz_814, hzr_814⟩ := I_any (I v >>> (I 6 &&& 31))
      refine X_ishr 815 hO dL_law_814 rfl (hz_814) ?_
      refine X_bipush 817 hO dL_law_815 rfl (by decide) ?_
      refine X_kSi 820 hO hD lL_9 [_, _] rfl dL_law_817 rfl (L_low _ _ _ _ (by omega) (by omega)) (by decide) (by simp [rv_cat, int_cat]) (by first | decide | exact Nat.zero_le _ | omega) (by first | decide | exact Nat.zero_le _ | omega) (fun r_817 w_817 hr_817 hp_817 => ?_) (fun E w_ hx_ => hx_.elim)
      obtain ⟨hl_817, e_817⟩ := hp_817
      subst w_817
      refine X_if_ne 823 897 hO dL_law_820 rfl rfl (by omega) (fun hc_820 => ?_) (fun hc_820 => ?_)
      ·
        exact X_wk (by simp only [lwk, lset, true_or, or_true, and_self]) (X_mono (by omega) (by omega) (kk _ _ (hE.mono (by omega))))
      ·
        refine X_aload_n 824 hO dL_law_823 rfl rfl ?_
        refine X_iload_n 825 hO dL_law_824 rfl rfl ?_
        refine X_kWi 828 hO hD sL_parent [_, _] (rest := []) rfl dL_law_825 rfl (L_parent _ hE (by omega) hl) (by decide) (by simp [rv_cat, int_cat]) (by omega) (by omega) (fun r_825 w_825 hr_825 hp_825 => ?_)
        obtain ⟨e_825, hi_825⟩ := hp_825
        subst w_825
        refine X_bipush 830 hO dL_law_828 rfl (by decide) ?_
        refine X_icmp_eq 833 897 hO dL_law_830 rfl rfl (by omega) (by omega) (fun hc_830 => ?_) (fun hc_830 => ?_)
        ·
          exact X_wk (by simp only [lwk, lset, true_or, or_true, and_self]) (X_mono (by omega) (by omega) (kk _ _ (hE.mono (by omega))))
        ·
          have hN : isN μ l A := by rcases hi_825 with y | y; exact y.1; exact absurd y.2 hc_830
          refine X_aload_n 834 hO dL_law_833 rfl rfl ?_
          refine X_kVi (t := 13) 837 hO hD lL_111 rfl (by decide) [] rfl dL_law_834 rfl (by first | assumption | omega | (simp (disch := first | decide | assumption | omega) only [up_k, up_s, up_a, up_i, flA_k, flA_a, newO_o, newA_o]; first | assumption | omega)) (z_now hE) (by decide) (by simp [rv_cat, int_cat]) (by first | decide | exact Nat.zero_le _ | omega) (by first | decide | exact Nat.zero_le _ | omega) (fun r_834 w_834 hr_834 hp_834 => ?_) (fun E w_ hx_ => hx_.elim)
          obtain ⟨he_834, e_834⟩ := hp_834
          subst w_834
          subst r_834
          refine X_istore 839 hO dL_law_837 rfl rfl ?_
          refine X_aload_n 840 hO dL_law_839 rfl rfl ?_
          refine X_iload_n 841 hO dL_law_840 rfl rfl ?_
          refine X_kVi (t := 13) 844 hO hD lL_202 rfl (by decide) [_] rfl dL_law_841 rfl (by first | assumption | omega | (simp (disch := first | decide | assumption | omega) only [up_k, up_s, up_a, up_i, flA_k, flA_a, newO_o, newA_o]; first | assumption | omega)) (lg_walk (g0 (by omega) hE) (by omega) hN) (by decide) (by simp [rv_cat, int_cat]) (by first | decide | exact Nat.zero_le _ | omega) (by first | decide | exact Nat.zero_le _ | omega) (fun r_841 w_841 hr_841 hp_841 => ?_) (fun E w_ hx_ => hx_.elim)
          obtain ⟨hd_841, B_841, hE2, hcu_841, htr_841⟩ := hp_841
          have t0_841 : w_841 0 f 0 = 13 := hE2.t0
          refine X_wi (fun hW_841 => ?_)
          refine X_istore 846 hO dL_law_844 rfl rfl ?_
          refine X_aload_n 847 hO dL_law_846 rfl rfl ?_
          refine X_kVi (t := 13) 850 hO hD lL_99 rfl (by decide) [] rfl dL_law_847 rfl (by first | assumption | omega | (simp (disch := first | decide | assumption | omega) only [up_k, up_s, up_a, up_i, flA_k, flA_a, newO_o, newA_o]; first | assumption | omega)) (z_length hE2) (by decide) (by simp [rv_cat, int_cat]) (by first | decide | exact Nat.zero_le _ | omega) (by first | decide | exact Nat.zero_le _ | omega) (fun r_847 w_847 hr_847 hp_847 => ?_) (fun E w_ hx_ => hx_.elim)
          obtain ⟨he_847, e_847⟩ := hp_847
          subst w_847
          refine X_istore 852 hO dL_law_850 rfl rfl ?_
          refine X_aload_n 853 hO dL_law_852 rfl rfl ?_
          refine X_kVi (t := 13) 856 hO hD lL_111 rfl (by decide) [] rfl dL_law_853 rfl (by first | assumption | omega | (simp (disch := first | decide | assumption | omega) only [up_k, up_s, up_a, up_i, flA_k, flA_a, newO_o, newA_o]; first | assumption | omega)) (z_now hE2) (by decide) (by simp [rv_cat, int_cat]) (by first | decide | exact Nat.zero_le _ | omega) (by first | decide | exact Nat.zero_le _ | omega) (fun r_853 w_853 hr_853 hp_853 => ?_) (fun E w_ hx_ => hx_.elim)
          obtain ⟨he_853, e_853⟩ := hp_853
          subst w_853
          refine X_iload_n 857 hO dL_law_856 rfl rfl ?_
          refine X_icmp_ne 860 894 hO dL_law_857 rfl rfl (by omega) (by omega) (fun hc_857 => ?_) (fun hc_857 => ?_)
          ·
            exact absurd hc_857 (by omega)
          ·
            refine X_aload_n 861 hO dL_law_860 rfl rfl ?_
            refine X_iload_n 862 hO dL_law_861 rfl rfl ?_
            refine X_kVi (t := 13) 865 hO hD lL_114 rfl (by decide) [_] rfl dL_law_862 rfl (by first | assumption | omega | (simp (disch := first | decide | assumption | omega) only [up_k, up_s, up_a, up_i, flA_k, flA_a, newO_o, newA_o]; first | assumption | omega)) (z_lengthByReplay hE2 (by omega) hW_841 hcu_841) (by decide) (by simp [rv_cat, int_cat]) (by first | decide | exact Nat.zero_le _ | omega) (by first | decide | exact Nat.zero_le _ | omega) (fun r_862 w_862 hr_862 hp_862 => ?_) (fun E w_ hx_ => hx_.elim)
            obtain ⟨he_862, e_862⟩ := hp_862
            subst w_862
            refine X_iload 867 hO dL_law_865 rfl rfl ?_
            refine X_icmp_ne 870 894 hO dL_law_867 rfl rfl (by omega) (by omega) (fun hc_867 => ?_) (fun hc_867 => ?_)
            ·
              exact absurd hc_867 (by omega)
            ·
              refine X_aload_n 871 hO dL_law_870 rfl rfl ?_
              refine X_iload 873 hO dL_law_871 rfl rfl ?_
              refine X_kVi (t := 13) 876 hO hD lL_202 rfl (by decide) [_] rfl dL_law_873 rfl (by first | assumption | omega | (simp (disch := first | decide | assumption | omega) only [up_k, up_s, up_a, up_i, flA_k, flA_a, newO_o, newA_o]; first | assumption | omega)) (lg_walk hE2 (by omega) (htr_841.n.mpr h.isn)) (by decide) (by simp [rv_cat, int_cat]) (by first | decide | exact Nat.zero_le _ | omega) (by first | decide | exact Nat.zero_le _ | omega) (fun r_873 w_873 hr_873 hp_873 => ?_) (fun E w_ hx_ => hx_.elim)
              obtain ⟨hd_873, B_873, hE3, hcu_873, htr_873⟩ := hp_873
              have hE := gg (show g = 0 by omega) hE3
              have t0_873 : w_873 0 f 0 = 13 := hE3.t0
              refine X_wi (fun hW_873 => ?_)
              refine X_iload 878 hO dL_law_876 rfl rfl ?_
              refine X_icmp_ne 881 894 hO dL_law_878 rfl rfl (by omega) (by omega) (fun hc_878 => ?_) (fun hc_878 => ?_)
              ·
                exact absurd (by rw [hd_873, hd_841, hcu_841, dist_tr htr_841]; exact h.sym (B := A) hN h.isn) hc_878
              ·
                refine X_aload_n 882 hO dL_law_881 rfl rfl ?_
                refine X_iload 884 hO dL_law_882 rfl rfl ?_
                refine X_kSi 887 hO hD lL_148 [_, _] rfl dL_law_884 rfl (L_replayed (g := 0) hE3 (by omega) hv) (by decide) (by simp [rv_cat, int_cat]) (by first | decide | exact Nat.zero_le _ | omega) (by first | decide | exact Nat.zero_le _ | omega) (fun r_884 w_884 hr_884 hp_884 => ?_) (fun E w_ hx_ => hx_.elim)
                obtain ⟨he_884, e_884⟩ := hp_884
                subst w_884
                refine X_if_eq 890 894 hO dL_law_887 rfl rfl (by omega) (fun hc_887 => ?_) (fun hc_887 => ?_)
                ·
                  try simp only [bi_0, bi_ne, ne_eq, Classical.not_not] at hc_887
                  exact absurd hc_887 (by omega)
                ·
                  try simp only [bi_0, bi_ne, ne_eq, Classical.not_not] at hc_887
                  refine X_iconst 891 hO dL_law_890 rfl ?_
                  refine X_goto hO dL_law_891 (tgt := 895) rfl ?_
                  refine X_istore 897 hO dL_law_895 rfl rfl ?_
                  exact X_wk (by simp only [lwk, lset, true_or, or_true, and_self]) (X_mono (by omega) (by omega) (kk _ _ (hE.mono (by omega))))
end LSC
