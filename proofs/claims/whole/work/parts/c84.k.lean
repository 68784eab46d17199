/-! THE LAW'S LOOP: its cases, 3 -/
section LW2
variable {κ : KC} {P S : Nat} {w : Mm} {b L : Nat} {xs : Nat → Int32} {μ : MU} {f o n i : Int}
theorem la_30 (hO : Ok κ RL cL_law) (hD : Dp κ 60) (hs : SCR κ b L xs) (hw : LAW μ f o n w) (hn : 0 ≤ n ∧ n ≤ 511) (hi : 0 ≤ i ∧ i + 5 ≤ L) (kk : ∀ w', LAW μ f o (n + 1) w' → X κ P S w' 3096 (lsL b f μ o i) []) : X κ (P + 175) (S + 13300) w 1820 (lsL b f μ o i) [] := by
  obtain ⟨hX, hbl, hbA, hL⟩ := hs
  obtain ⟨A, hI, hR, hT⟩ := hw
  refine X_wi (fun hW => ?_)
  show X κ _ _ w 1820 [some (.ref b), some (rv f), some (rv μ.1), some (rv o), some (.int (I i)), none, none] []
  refine X_aload_n 1821 hO dL_law_1820 rfl rfl ?_
  refine X_aload_nR 1822 hO dL_law_1821 rfl rfl ?_
  refine X_iload 1824 hO dL_law_1822 rfl rfl ?_
  refine X_iconst 1825 hO dL_law_1824 rfl ?_
  refine X_iadd 1826 hO dL_law_1825 rfl ?_
  refine X_sld (i := i + 1) 1827 hO hX hbl hbA (by omega) hL dL_law_1826 rfl (fun v1 hv1 hrv1 => ?_)
  refine X_aload_nR 1828 hO dL_law_1827 rfl rfl ?_
  refine X_iload 1830 hO dL_law_1828 rfl rfl ?_
  refine X_iconst 1831 hO dL_law_1830 rfl ?_
  refine X_iadd 1832 hO dL_law_1831 rfl ?_
  refine X_sld (i := i + 2) 1833 hO hX hbl hbA (by omega) hL dL_law_1832 rfl (fun v2 hv2 hrv2 => ?_)
  refine X_aload_nR 1834 hO dL_law_1833 rfl rfl ?_
  refine X_iload 1836 hO dL_law_1834 rfl rfl ?_
  refine X_iconst 1837 hO dL_law_1836 rfl ?_
  refine X_iadd 1838 hO dL_law_1837 rfl ?_
  refine X_sld (i := i + 3) 1839 hO hX hbl hbA (by omega) hL dL_law_1838 rfl (fun v3 hv3 hrv3 => ?_)
  refine X_aload_nR 1840 hO dL_law_1839 rfl rfl ?_
  refine X_iload 1842 hO dL_law_1840 rfl rfl ?_
  refine X_iconst 1843 hO dL_law_1842 rfl ?_
  refine X_iadd 1844 hO dL_law_1843 rfl ?_
  refine X_sld (i := i + 4) 1845 hO hX hbl hbA (by omega) hL dL_law_1844 rfl (fun v4 hv4 hrv4 => ?_)
  refine X_callSX 1848 hO hD sL_listen [_, _, _, _, _] (rest := []) rfl dL_law_1845 rfl (L_listen hI hR hT hn hrv1 hrv2 hrv3 hrv4) (by decide) (by decide) (by omega) (by omega) (fun v_ w1 hp => ?_)
  obtain ⟨k, rfl, hk, B, hm, hb, dd, hd, hM⟩ := hp
  have hkr : IR k := by omega
  show X κ _ _ _ 1848 _ [.int (I k)]
  refine X_istore 1850 hO dL_law_1848 rfl rfl ?_
  refine X_aload_n 1851 hO dL_law_1850 rfl rfl ?_
  refine X_aload_nR 1852 hO dL_law_1851 rfl rfl ?_
  refine X_iload 1854 hO dL_law_1852 rfl rfl ?_
  refine X_iconst 1855 hO dL_law_1854 rfl ?_
  refine X_iadd 1856 hO dL_law_1855 rfl ?_
  refine X_sld (i := i + 1) 1857 hO hX hbl hbA (by omega) hL dL_law_1856 rfl (fun u1 hu1 hru1 => ?_)
  rw [show u1 = v1 from hu1.trans hv1.symm]
  refine X_aload_nR 1858 hO dL_law_1857 rfl rfl ?_
  refine X_iload 1860 hO dL_law_1858 rfl rfl ?_
  refine X_iconst 1861 hO dL_law_1860 rfl ?_
  refine X_iadd 1862 hO dL_law_1861 rfl ?_
  refine X_sld (i := i + 2) 1863 hO hX hbl hbA (by omega) hL dL_law_1862 rfl (fun u2 hu2 hru2 => ?_)
  rw [show u2 = v2 from hu2.trans hv2.symm]
  refine X_aload_nR 1864 hO dL_law_1863 rfl rfl ?_
  refine X_iload 1866 hO dL_law_1864 rfl rfl ?_
  refine X_iconst 1867 hO dL_law_1866 rfl ?_
  refine X_iadd 1868 hO dL_law_1867 rfl ?_
  refine X_sld (i := i + 3) 1869 hO hX hbl hbA (by omega) hL dL_law_1868 rfl (fun u3 hu3 hru3 => ?_)
  rw [show u3 = v3 from hu3.trans hv3.symm]
  refine X_aload_nR 1870 hO dL_law_1869 rfl rfl ?_
  refine X_iload 1872 hO dL_law_1870 rfl rfl ?_
  refine X_iconst 1873 hO dL_law_1872 rfl ?_
  refine X_iadd 1874 hO dL_law_1873 rfl ?_
  refine X_sld (i := i + 4) 1875 hO hX hbl hbA (by omega) hL dL_law_1874 rfl (fun u4 hu4 hru4 => ?_)
  rw [show u4 = v4 from hu4.trans hv4.symm]
  refine XM_callVv 1878 hO hD hm.2.1 lL_278 [_, _, _, _] (rest := []) rfl dL_law_1875 rfl (fun _ => hM) (by omega) (by decide) (fun w2 hp2 hR2 => ?_)
  subst w2
  have hlw := hm.lw hR2
  refine X_aload_n 1879 hO dL_law_1878 rfl rfl ?_
  refine XM_callVi 1882 hO hD hR2 lL_180 [] (rest := []) rfl dL_law_1879 rfl (c_thrown _ _ _) (by decide) (by decide) (fun t3 w3 ht3 hp3 hR3 => ?_)
  obtain ⟨e1, e2⟩ := hp3
  subst t3
  subst w3
  rw [show pc (KLw μ) w1 B 139 μ.1 0 = k from (pcm (by decide)).trans hb]
  refine X_iload 1884 hO dL_law_1882 rfl rfl ?_
  refine X_icmp_eq 1887 1889 hO dL_law_1884 rfl rfl hkr hkr (fun _ => ?_) (fun h => absurd rfl h)
  refine X_goto (tgt := 3096) hO dL_law_1889 rfl ?_
  exact X_wk (by simp only [lwk, lset, true_or, or_true, and_self]) (X_mono (by omega) (by omega) (kk _ hlw))
theorem la_31 (hO : Ok κ RL cL_law) (hD : Dp κ 60) (hs : SCR κ b L xs) (hw : LAW μ f o n w) (hn : 0 ≤ n ∧ n ≤ 511) (hi : 0 ≤ i ∧ i + 5 ≤ L) (kk : ∀ w', LAW μ f o (n + 1) w' → X κ P S w' 3096 (lsL b f μ o i) []) : X κ (P + 175) (S + 13300) w 1892 (lsL b f μ o i) [] := by
  obtain ⟨hX, hbl, hbA, hL⟩ := hs
  obtain ⟨A, hI, hR, hT⟩ := hw
  refine X_wi (fun hW => ?_)
  show X κ _ _ w 1892 [some (.ref b), some (rv f), some (rv μ.1), some (rv o), some (.int (I i)), none, none] []
  refine X_aload_n 1893 hO dL_law_1892 rfl rfl ?_
  refine X_aload_nR 1894 hO dL_law_1893 rfl rfl ?_
  refine X_iload 1896 hO dL_law_1894 rfl rfl ?_
  refine X_iconst 1897 hO dL_law_1896 rfl ?_
  refine X_iadd 1898 hO dL_law_1897 rfl ?_
  refine X_sld (i := i + 1) 1899 hO hX hbl hbA (by omega) hL dL_law_1898 rfl (fun v1 hv1 hrv1 => ?_)
  refine X_aload_n 1900 hO dL_law_1899 rfl rfl ?_
  refine X_callSX 1903 hO hD sL_unlisten [_, _, _] (rest := []) rfl dL_law_1900 rfl (L_unlisten hI hR hT hn hrv1) (by decide) (by decide) (by omega) (by omega) (fun v_ w1 hp => ?_)
  obtain ⟨k, r, w', x, rfl, hk, ⟨B, hm, hb, dd, hd, hM⟩, rfl, hxr, h01⟩ := hp
  have hkr : IR k := by omega
  show X κ _ _ _ 1903 _ [.int (I k)]
  refine X_istore 1905 hO dL_law_1903 rfl rfl ?_
  refine X_aload_n 1906 hO dL_law_1905 rfl rfl ?_
  refine X_aload_nR 1907 hO dL_law_1906 rfl rfl ?_
  refine X_iload 1909 hO dL_law_1907 rfl rfl ?_
  refine X_iconst 1910 hO dL_law_1909 rfl ?_
  refine X_iadd 1911 hO dL_law_1910 rfl ?_
  refine X_sld (i := i + 1) 1912 hO hX hbl hbA (by omega) hL dL_law_1911 rfl (fun u1 hu1 hru1 => ?_)
  rw [show u1 = v1 from hu1.trans hv1.symm]
  refine XM_callVi 1915 hO hD hm.2.1.up4 lL_281 [_] (rest := []) rfl dL_law_1912 rfl (fun _ => hM x) (by omega) (by decide) (fun r2 w2 hr2 hp2 hR2 => ?_)
  obtain ⟨e1, e2⟩ := hp2
  subst r2
  subst w2
  have hlw := hm.up4.lw hR2
  refine X_istore 1917 hO dL_law_1915 rfl rfl ?_
  refine X_aload_n 1918 hO dL_law_1917 rfl rfl ?_
  refine XM_callVi 1921 hO hD hR2 lL_180 [] (rest := []) rfl dL_law_1918 rfl (c_thrown _ _ _) (by decide) (by decide) (fun t3 w3 ht3 hp3 hR3 => ?_)
  obtain ⟨e1, e2⟩ := hp3
  subst t3
  subst w3
  rw [show pc (KLw μ) (up w' 4 o 0 x) B 139 μ.1 0 = k from (pcm (by decide)).trans hb]
  refine X_iload 1923 hO dL_law_1921 rfl rfl ?_
  refine X_icmp_eq 1926 1928 hO dL_law_1923 rfl rfl hkr hkr (fun _ => ?_) (fun h => absurd rfl h)
  refine X_iload 1930 hO dL_law_1928 rfl rfl ?_
  refine X_if_ne 1933 1952 hO dL_law_1930 rfl rfl hkr (fun hk0 => ?_) (fun hk0 => ?_)
  · exact X_goto (tgt := 3096) hO dL_law_1952 rfl (X_wk (by simp only [lwk, lset, true_or, or_true, and_self]) (X_mono (by omega) (by omega) (kk _ hlw)))
  · have hx0 := hxr hk0
    refine X_aload_n 1934 hO dL_law_1933 rfl rfl ?_
    refine X_iconst 1935 hO dL_law_1934 rfl ?_
    refine X_lald (z := o) (i := 0) 1936 hO dL_law_1935 rfl hm.out2.1 (by rw [hm.out2.2]; decide) ?_
    rw [show pc (KLw μ) (up w' 4 o 0 x) B 4 o 0 = r from MID.at4.trans hx0]
    refine X_iload 1938 hO dL_law_1936 rfl rfl ?_
    refine X_if_eq 1941 1945 hO dL_law_1938 rfl rfl hr2 (fun hz => ?_) (fun hz => ?_)
    · subst hz
      exact X_lconst 1946 hO dL_law_1945 rfl (X_lcmpE 1947 hO dL_law_1946 rfl (X_if_eq 1950 1952 hO dL_law_1947 rfl rfl (by decide) (fun _ => X_goto (tgt := 3096) hO dL_law_1952 rfl (X_wk (by simp only [lwk, lset, true_or, or_true, and_self]) (X_mono (by omega) (by omega) (kk _ hlw)))) (fun h => absurd rfl h)))
    · have hz1 : r = 1 := by have := h01 hk0; omega
      subst hz1
      exact X_lconst 1942 hO dL_law_1941 rfl (X_goto (tgt := 1946) hO dL_law_1942 rfl (X_lcmpE 1947 hO dL_law_1946 rfl (X_if_eq 1950 1952 hO dL_law_1947 rfl rfl (by decide) (fun _ => X_goto (tgt := 3096) hO dL_law_1952 rfl (X_wk (by simp only [lwk, lset, true_or, or_true, and_self]) (X_mono (by omega) (by omega) (kk _ hlw)))) (fun h => absurd rfl h))))
theorem la_32 (hO : Ok κ RL cL_law) (hD : Dp κ 60) (hs : SCR κ b L xs) (hw : LAW μ f o n w) (hn : 0 ≤ n ∧ n ≤ 511) (hi : 0 ≤ i ∧ i + 5 ≤ L) (kk : ∀ w', LAW μ f o (n + 1) w' → X κ P S w' 3096 (lsL b f μ o i) []) : X κ (P + 175) (S + 13300) w 1955 (lsL b f μ o i) [] := by
  obtain ⟨hX, hbl, hbA, hL⟩ := hs
  obtain ⟨A, hI, hR, hT⟩ := hw
  refine X_wi (fun hW => ?_)
  show X κ _ _ w 1955 [some (.ref b), some (rv f), some (rv μ.1), some (rv o), some (.int (I i)), none, none] []
  refine X_aload_n 1956 hO dL_law_1955 rfl rfl ?_
  refine X_kVi (t := 13) 1959 hO hD lL_282 rfl (by decide) [] rfl dL_law_1956 rfl hI.t0 (lo_length hI hR hT hn hW) (by decide) (by decide) (by omega) (by omega) (fun r w' hr hp => ?_) (fun _ _ h => h.elim)
  obtain ⟨B, hm, hb, dd, hd, hM⟩ := hp
  have hM := hM (w' 4 o 0)
  rw [up_self] at hM
  refine X_aload_n 1960 hO dL_law_1959 rfl rfl ?_
  refine XM_callVi 1963 hO hD hm.2.1 lL_285 [] (rest := [_]) rfl dL_law_1960 rfl (fun _ => hM) (by omega) (by simp [rv_cat, int_cat]) (fun r2 w2 hr2 hp2 hR2 => ?_)
  obtain ⟨e1, e2⟩ := hp2
  subst r2
  subst w2
  have hlw := hm.lw hR2
  refine X_icmp_eq 1966 3096 hO dL_law_1963 rfl rfl hr hr (fun _ => ?_) (fun h => absurd rfl h)
  exact X_wk (by simp only [lwk, lset, true_or, or_true, and_self]) (X_mono (by omega) (by omega) (kk _ hlw))
theorem la_33 (hO : Ok κ RL cL_law) (hD : Dp κ 60) (hs : SCR κ b L xs) (hw : LAW μ f o n w) (hn : 0 ≤ n ∧ n ≤ 511) (hi : 0 ≤ i ∧ i + 5 ≤ L) (kk : ∀ w', LAW μ f o (n + 1) w' → X κ P S w' 3096 (lsL b f μ o i) []) : X κ (P + 175) (S + 13300) w 1968 (lsL b f μ o i) [] := by
  obtain ⟨hX, hbl, hbA, hL⟩ := hs
  obtain ⟨A, hI, hR, hT⟩ := hw
  refine X_wi (fun hW => ?_)
  show X κ _ _ w 1968 [some (.ref b), some (rv f), some (rv μ.1), some (rv o), some (.int (I i)), none, none] []
  refine X_aload_n 1969 hO dL_law_1968 rfl rfl ?_
  refine X_aload_nR 1970 hO dL_law_1969 rfl rfl ?_
  refine X_iload 1972 hO dL_law_1970 rfl rfl ?_
  refine X_iconst 1973 hO dL_law_1972 rfl ?_
  refine X_iadd 1974 hO dL_law_1973 rfl ?_
  refine X_sld (i := i + 1) 1975 hO hX hbl hbA (by omega) hL dL_law_1974 rfl (fun v1 hv1 hrv1 => ?_)
  refine X_aload_n 1976 hO dL_law_1975 rfl rfl ?_
  refine X_callSX 1979 hO hD sL_charAt [_, _, _] (rest := []) rfl dL_law_1976 rfl (L_charAt hI hR hT hn hrv1) (by decide) (by decide) (by omega) (by omega) (fun v_ w1 hp => ?_)
  obtain ⟨k, r, w', x, rfl, hk, ⟨B, hm, hb, dd, hd, hM⟩, rfl, hxr⟩ := hp
  have hkr : IR k := by omega
  show X κ _ _ _ 1979 _ [.int (I k)]
  refine X_istore 1981 hO dL_law_1979 rfl rfl ?_
  refine X_aload_n 1982 hO dL_law_1981 rfl rfl ?_
  refine X_aload_nR 1983 hO dL_law_1982 rfl rfl ?_
  refine X_iload 1985 hO dL_law_1983 rfl rfl ?_
  refine X_iconst 1986 hO dL_law_1985 rfl ?_
  refine X_iadd 1987 hO dL_law_1986 rfl ?_
  refine X_sld (i := i + 1) 1988 hO hX hbl hbA (by omega) hL dL_law_1987 rfl (fun u1 hu1 hru1 => ?_)
  rw [show u1 = v1 from hu1.trans hv1.symm]
  refine XM_callVi 1991 hO hD hm.2.1.up4 lL_288 [_] (rest := []) rfl dL_law_1988 rfl (fun _ => hM x) (by omega) (by decide) (fun r2 w2 hr2 hp2 hR2 => ?_)
  obtain ⟨e1, e2⟩ := hp2
  subst r2
  subst w2
  have hlw := hm.up4.lw hR2
  refine X_istore 1993 hO dL_law_1991 rfl rfl ?_
  refine X_aload_n 1994 hO dL_law_1993 rfl rfl ?_
  refine XM_callVi 1997 hO hD hR2 lL_180 [] (rest := []) rfl dL_law_1994 rfl (c_thrown _ _ _) (by decide) (by decide) (fun t3 w3 ht3 hp3 hR3 => ?_)
  obtain ⟨e1, e2⟩ := hp3
  subst t3
  subst w3
  rw [show pc (KLw μ) (up w' 4 o 0 x) B 139 μ.1 0 = k from (pcm (by decide)).trans hb]
  refine X_iload 1999 hO dL_law_1997 rfl rfl ?_
  refine X_icmp_eq 2002 2004 hO dL_law_1999 rfl rfl hkr hkr (fun _ => ?_) (fun h => absurd rfl h)
  refine X_iload 2006 hO dL_law_2004 rfl rfl ?_
  refine X_if_ne 2009 2021 hO dL_law_2006 rfl rfl hkr (fun hk0 => ?_) (fun hk0 => ?_)
  · exact X_goto (tgt := 3096) hO dL_law_2021 rfl (X_wk (by simp only [lwk, lset, true_or, or_true, and_self]) (X_mono (by omega) (by omega) (kk _ hlw)))
  · have hx0 := hxr hk0
    refine X_aload_n 2010 hO dL_law_2009 rfl rfl ?_
    refine X_iconst 2011 hO dL_law_2010 rfl ?_
    refine X_lald (z := o) (i := 0) 2012 hO dL_law_2011 rfl hm.out2.1 (by rw [hm.out2.2]; decide) ?_
    rw [show pc (KLw μ) (up w' 4 o 0 x) B 4 o 0 = r from MID.at4.trans hx0]
    refine X_iload 2014 hO dL_law_2012 rfl rfl ?_
    refine X_i2l 2015 hO dL_law_2014 rfl hr2 ?_
    refine X_lcmpE 2016 hO dL_law_2015 rfl ?_
    exact X_if_eq 2019 2021 hO dL_law_2016 rfl rfl (by decide) (fun _ => X_goto (tgt := 3096) hO dL_law_2021 rfl (X_wk (by simp only [lwk, lset, true_or, or_true, and_self]) (X_mono (by omega) (by omega) (kk _ hlw)))) (fun h => absurd rfl h)
theorem la_34 (hO : Ok κ RL cL_law) (hD : Dp κ 60) (hs : SCR κ b L xs) (hw : LAW μ f o n w) (hn : 0 ≤ n ∧ n ≤ 511) (hi : 0 ≤ i ∧ i + 5 ≤ L) (kk : ∀ w', LAW μ f o (n + 1) w' → X κ P S w' 3096 (lsL b f μ o i) []) : X κ (P + 175) (S + 13300) w 2024 (lsL b f μ o i) [] := by
  obtain ⟨hX, hbl, hbA, hL⟩ := hs
  obtain ⟨A, hI, hR, hT⟩ := hw
  refine X_wi (fun hW => ?_)
  show X κ _ _ w 2024 [some (.ref b), some (rv f), some (rv μ.1), some (rv o), some (.int (I i)), none, none] []
  refine X_aload_n 2025 hO dL_law_2024 rfl rfl ?_
  refine X_kVi (t := 13) 2028 hO hD lL_289 rfl (by decide) [] rfl dL_law_2025 rfl hI.t0 (lo_point hI hR hT hn hW) (by decide) (by decide) (by omega) (by omega) (fun r w' hr hp => ?_) (fun _ _ h => h.elim)
  obtain ⟨B, hm, hb, dd, hd, hM⟩ := hp
  have hM := hM (w' 4 o 0)
  rw [up_self] at hM
  refine X_aload_n 2029 hO dL_law_2028 rfl rfl ?_
  refine XM_callVi 2032 hO hD hm.2.1 lL_292 [] (rest := [_]) rfl dL_law_2029 rfl (fun _ => hM) (by omega) (by simp [rv_cat, int_cat]) (fun r2 w2 hr2 hp2 hR2 => ?_)
  obtain ⟨e1, e2⟩ := hp2
  subst r2
  subst w2
  have hlw := hm.lw hR2
  refine X_icmp_eq 2035 3096 hO dL_law_2032 rfl rfl hr hr (fun _ => ?_) (fun h => absurd rfl h)
  exact X_wk (by simp only [lwk, lset, true_or, or_true, and_self]) (X_mono (by omega) (by omega) (kk _ hlw))
theorem la_35 (hO : Ok κ RL cL_law) (hD : Dp κ 60) (hs : SCR κ b L xs) (hw : LAW μ f o n w) (hn : 0 ≤ n ∧ n ≤ 511) (hi : 0 ≤ i ∧ i + 5 ≤ L) (kk : ∀ w', LAW μ f o (n + 1) w' → X κ P S w' 3096 (lsL b f μ o i) []) : X κ (P + 175) (S + 13300) w 2037 (lsL b f μ o i) [] := by
  obtain ⟨hX, hbl, hbA, hL⟩ := hs
  obtain ⟨A, hI, hR, hT⟩ := hw
  refine X_wi (fun hW => ?_)
  show X κ _ _ w 2037 [some (.ref b), some (rv f), some (rv μ.1), some (rv o), some (.int (I i)), none, none] []
  refine X_aload_n 2038 hO dL_law_2037 rfl rfl ?_
  refine X_kVi (t := 13) 2041 hO hD lL_293 rfl (by decide) [] rfl dL_law_2038 rfl hI.t0 (lo_lines hI hR hT hn hW) (by decide) (by decide) (by omega) (by omega) (fun r w' hr hp => ?_) (fun _ _ h => h.elim)
  obtain ⟨B, hm, hb, dd, hd, hM⟩ := hp
  have hM := hM (w' 4 o 0)
  rw [up_self] at hM
  refine X_aload_n 2042 hO dL_law_2041 rfl rfl ?_
  refine XM_callVi 2045 hO hD hm.2.1 lL_296 [] (rest := [_]) rfl dL_law_2042 rfl (fun _ => hM) (by omega) (by simp [rv_cat, int_cat]) (fun r2 w2 hr2 hp2 hR2 => ?_)
  obtain ⟨e1, e2⟩ := hp2
  subst r2
  subst w2
  have hlw := hm.lw hR2
  refine X_icmp_eq 2048 3096 hO dL_law_2045 rfl rfl hr hr (fun _ => ?_) (fun h => absurd rfl h)
  exact X_wk (by simp only [lwk, lset, true_or, or_true, and_self]) (X_mono (by omega) (by omega) (kk _ hlw))
theorem la_36 (hO : Ok κ RL cL_law) (hD : Dp κ 60) (hs : SCR κ b L xs) (hw : LAW μ f o n w) (hn : 0 ≤ n ∧ n ≤ 511) (hi : 0 ≤ i ∧ i + 5 ≤ L) (kk : ∀ w', LAW μ f o (n + 1) w' → X κ P S w' 3096 (lsL b f μ o i) []) : X κ (P + 175) (S + 13300) w 2050 (lsL b f μ o i) [] := by
  obtain ⟨hX, hbl, hbA, hL⟩ := hs
  obtain ⟨A, hI, hR, hT⟩ := hw
  refine X_wi (fun hW => ?_)
  show X κ _ _ w 2050 [some (.ref b), some (rv f), some (rv μ.1), some (rv o), some (.int (I i)), none, none] []
  refine X_aload_n 2051 hO dL_law_2050 rfl rfl ?_
  refine X_aload_nR 2052 hO dL_law_2051 rfl rfl ?_
  refine X_iload 2054 hO dL_law_2052 rfl rfl ?_
  refine X_iconst 2055 hO dL_law_2054 rfl ?_
  refine X_iadd 2056 hO dL_law_2055 rfl ?_
  refine X_sld (i := i + 1) 2057 hO hX hbl hbA (by omega) hL dL_law_2056 rfl (fun v1 hv1 hrv1 => ?_)
  refine X_aload_n 2058 hO dL_law_2057 rfl rfl ?_
  refine X_callSX 2061 hO hD sL_lineOf [_, _, _] (rest := []) rfl dL_law_2058 rfl (L_lineOf hI hR hT hn hrv1) (by decide) (by decide) (by omega) (by omega) (fun v_ w1 hp => ?_)
  obtain ⟨k, r, w', x, rfl, hk, ⟨B, hm, hb, dd, hd, hM⟩, rfl, hxr⟩ := hp
  have hkr : IR k := by omega
  show X κ _ _ _ 2061 _ [.int (I k)]
  refine X_istore 2063 hO dL_law_2061 rfl rfl ?_
  refine X_aload_n 2064 hO dL_law_2063 rfl rfl ?_
  refine X_aload_nR 2065 hO dL_law_2064 rfl rfl ?_
  refine X_iload 2067 hO dL_law_2065 rfl rfl ?_
  refine X_iconst 2068 hO dL_law_2067 rfl ?_
  refine X_iadd 2069 hO dL_law_2068 rfl ?_
  refine X_sld (i := i + 1) 2070 hO hX hbl hbA (by omega) hL dL_law_2069 rfl (fun u1 hu1 hru1 => ?_)
  rw [show u1 = v1 from hu1.trans hv1.symm]
  refine XM_callVi 2073 hO hD hm.2.1.up4 lL_299 [_] (rest := []) rfl dL_law_2070 rfl (fun _ => hM x) (by omega) (by decide) (fun r2 w2 hr2 hp2 hR2 => ?_)
  obtain ⟨e1, e2⟩ := hp2
  subst r2
  subst w2
  have hlw := hm.up4.lw hR2
  refine X_istore 2075 hO dL_law_2073 rfl rfl ?_
  refine X_aload_n 2076 hO dL_law_2075 rfl rfl ?_
  refine XM_callVi 2079 hO hD hR2 lL_180 [] (rest := []) rfl dL_law_2076 rfl (c_thrown _ _ _) (by decide) (by decide) (fun t3 w3 ht3 hp3 hR3 => ?_)
  obtain ⟨e1, e2⟩ := hp3
  subst t3
  subst w3
  rw [show pc (KLw μ) (up w' 4 o 0 x) B 139 μ.1 0 = k from (pcm (by decide)).trans hb]
  refine X_iload 2081 hO dL_law_2079 rfl rfl ?_
  refine X_icmp_eq 2084 2086 hO dL_law_2081 rfl rfl hkr hkr (fun _ => ?_) (fun h => absurd rfl h)
  refine X_iload 2088 hO dL_law_2086 rfl rfl ?_
  refine X_if_ne 2091 2103 hO dL_law_2088 rfl rfl hkr (fun hk0 => ?_) (fun hk0 => ?_)
  · exact X_goto (tgt := 3096) hO dL_law_2103 rfl (X_wk (by simp only [lwk, lset, true_or, or_true, and_self]) (X_mono (by omega) (by omega) (kk _ hlw)))
  · have hx0 := hxr hk0
    refine X_aload_n 2092 hO dL_law_2091 rfl rfl ?_
    refine X_iconst 2093 hO dL_law_2092 rfl ?_
    refine X_lald (z := o) (i := 0) 2094 hO dL_law_2093 rfl hm.out2.1 (by rw [hm.out2.2]; decide) ?_
    rw [show pc (KLw μ) (up w' 4 o 0 x) B 4 o 0 = r from MID.at4.trans hx0]
    refine X_iload 2096 hO dL_law_2094 rfl rfl ?_
    refine X_i2l 2097 hO dL_law_2096 rfl hr2 ?_
    refine X_lcmpE 2098 hO dL_law_2097 rfl ?_
    exact X_if_eq 2101 2103 hO dL_law_2098 rfl rfl (by decide) (fun _ => X_goto (tgt := 3096) hO dL_law_2103 rfl (X_wk (by simp only [lwk, lset, true_or, or_true, and_self]) (X_mono (by omega) (by omega) (kk _ hlw)))) (fun h => absurd rfl h)
theorem la_37 (hO : Ok κ RL cL_law) (hD : Dp κ 60) (hs : SCR κ b L xs) (hw : LAW μ f o n w) (hn : 0 ≤ n ∧ n ≤ 511) (hi : 0 ≤ i ∧ i + 5 ≤ L) (kk : ∀ w', LAW μ f o (n + 1) w' → X κ P S w' 3096 (lsL b f μ o i) []) : X κ (P + 175) (S + 13300) w 2106 (lsL b f μ o i) [] := by
  obtain ⟨hX, hbl, hbA, hL⟩ := hs
  obtain ⟨A, hI, hR, hT⟩ := hw
  refine X_wi (fun hW => ?_)
  show X κ _ _ w 2106 [some (.ref b), some (rv f), some (rv μ.1), some (rv o), some (.int (I i)), none, none] []
  refine X_aload_n 2107 hO dL_law_2106 rfl rfl ?_
  refine X_aload_nR 2108 hO dL_law_2107 rfl rfl ?_
  refine X_iload 2110 hO dL_law_2108 rfl rfl ?_
  refine X_iconst 2111 hO dL_law_2110 rfl ?_
  refine X_iadd 2112 hO dL_law_2111 rfl ?_
  refine X_sld (i := i + 1) 2113 hO hX hbl hbA (by omega) hL dL_law_2112 rfl (fun v1 hv1 hrv1 => ?_)
  refine X_aload_n 2114 hO dL_law_2113 rfl rfl ?_
  refine X_callSX 2117 hO hD sL_lineStart [_, _, _] (rest := []) rfl dL_law_2114 rfl (L_lineStart hI hR hT hn hrv1) (by decide) (by decide) (by omega) (by omega) (fun v_ w1 hp => ?_)
  obtain ⟨k, r, w', x, rfl, hk, ⟨B, hm, hb, dd, hd, hM⟩, rfl, hxr⟩ := hp
  have hkr : IR k := by omega
  show X κ _ _ _ 2117 _ [.int (I k)]
  refine X_istore 2119 hO dL_law_2117 rfl rfl ?_
  refine X_aload_n 2120 hO dL_law_2119 rfl rfl ?_
  refine X_aload_nR 2121 hO dL_law_2120 rfl rfl ?_
  refine X_iload 2123 hO dL_law_2121 rfl rfl ?_
  refine X_iconst 2124 hO dL_law_2123 rfl ?_
  refine X_iadd 2125 hO dL_law_2124 rfl ?_
  refine X_sld (i := i + 1) 2126 hO hX hbl hbA (by omega) hL dL_law_2125 rfl (fun u1 hu1 hru1 => ?_)
  rw [show u1 = v1 from hu1.trans hv1.symm]
  refine XM_callVi 2129 hO hD hm.2.1.up4 lL_302 [_] (rest := []) rfl dL_law_2126 rfl (fun _ => hM x) (by omega) (by decide) (fun r2 w2 hr2 hp2 hR2 => ?_)
  obtain ⟨e1, e2⟩ := hp2
  subst r2
  subst w2
  have hlw := hm.up4.lw hR2
  refine X_istore 2131 hO dL_law_2129 rfl rfl ?_
  refine X_aload_n 2132 hO dL_law_2131 rfl rfl ?_
  refine XM_callVi 2135 hO hD hR2 lL_180 [] (rest := []) rfl dL_law_2132 rfl (c_thrown _ _ _) (by decide) (by decide) (fun t3 w3 ht3 hp3 hR3 => ?_)
  obtain ⟨e1, e2⟩ := hp3
  subst t3
  subst w3
  rw [show pc (KLw μ) (up w' 4 o 0 x) B 139 μ.1 0 = k from (pcm (by decide)).trans hb]
  refine X_iload 2137 hO dL_law_2135 rfl rfl ?_
  refine X_icmp_eq 2140 2142 hO dL_law_2137 rfl rfl hkr hkr (fun _ => ?_) (fun h => absurd rfl h)
  refine X_iload 2144 hO dL_law_2142 rfl rfl ?_
  refine X_if_ne 2147 2159 hO dL_law_2144 rfl rfl hkr (fun hk0 => ?_) (fun hk0 => ?_)
  · exact X_goto (tgt := 3096) hO dL_law_2159 rfl (X_wk (by simp only [lwk, lset, true_or, or_true, and_self]) (X_mono (by omega) (by omega) (kk _ hlw)))
  · have hx0 := hxr hk0
    refine X_aload_n 2148 hO dL_law_2147 rfl rfl ?_
    refine X_iconst 2149 hO dL_law_2148 rfl ?_
    refine X_lald (z := o) (i := 0) 2150 hO dL_law_2149 rfl hm.out2.1 (by rw [hm.out2.2]; decide) ?_
    rw [show pc (KLw μ) (up w' 4 o 0 x) B 4 o 0 = r from MID.at4.trans hx0]
    refine X_iload 2152 hO dL_law_2150 rfl rfl ?_
    refine X_i2l 2153 hO dL_law_2152 rfl hr2 ?_
    refine X_lcmpE 2154 hO dL_law_2153 rfl ?_
    exact X_if_eq 2157 2159 hO dL_law_2154 rfl rfl (by decide) (fun _ => X_goto (tgt := 3096) hO dL_law_2159 rfl (X_wk (by simp only [lwk, lset, true_or, or_true, and_self]) (X_mono (by omega) (by omega) (kk _ hlw)))) (fun h => absurd rfl h)
theorem la_38 (hO : Ok κ RL cL_law) (hD : Dp κ 60) (hs : SCR κ b L xs) (hw : LAW μ f o n w) (hn : 0 ≤ n ∧ n ≤ 511) (hi : 0 ≤ i ∧ i + 5 ≤ L) (kk : ∀ w', LAW μ f o (n + 1) w' → X κ P S w' 3096 (lsL b f μ o i) []) : X κ (P + 175) (S + 13300) w 2162 (lsL b f μ o i) [] := by
  obtain ⟨hX, hbl, hbA, hL⟩ := hs
  obtain ⟨A, hI, hR, hT⟩ := hw
  refine X_wi (fun hW => ?_)
  show X κ _ _ w 2162 [some (.ref b), some (rv f), some (rv μ.1), some (rv o), some (.int (I i)), none, none] []
  refine X_aload_n 2163 hO dL_law_2162 rfl rfl ?_
  refine X_aload_nR 2164 hO dL_law_2163 rfl rfl ?_
  refine X_iload 2166 hO dL_law_2164 rfl rfl ?_
  refine X_iconst 2167 hO dL_law_2166 rfl ?_
  refine X_iadd 2168 hO dL_law_2167 rfl ?_
  refine X_sld (i := i + 1) 2169 hO hX hbl hbA (by omega) hL dL_law_2168 rfl (fun v1 hv1 hrv1 => ?_)
  refine X_aload_n 2170 hO dL_law_2169 rfl rfl ?_
  refine X_callSX 2173 hO hD sL_markAt [_, _, _] (rest := []) rfl dL_law_2170 rfl (L_markAt hI hR hT hn hrv1) (by decide) (by decide) (by omega) (by omega) (fun v_ w1 hp => ?_)
  obtain ⟨k, r, w', x, rfl, hk, ⟨B, hm, hb, dd, hd, hM⟩, rfl, hxr⟩ := hp
  have hkr : IR k := by omega
  show X κ _ _ _ 2173 _ [.int (I k)]
  refine X_istore 2175 hO dL_law_2173 rfl rfl ?_
  refine X_aload_n 2176 hO dL_law_2175 rfl rfl ?_
  refine X_aload_nR 2177 hO dL_law_2176 rfl rfl ?_
  refine X_iload 2179 hO dL_law_2177 rfl rfl ?_
  refine X_iconst 2180 hO dL_law_2179 rfl ?_
  refine X_iadd 2181 hO dL_law_2180 rfl ?_
  refine X_sld (i := i + 1) 2182 hO hX hbl hbA (by omega) hL dL_law_2181 rfl (fun u1 hu1 hru1 => ?_)
  rw [show u1 = v1 from hu1.trans hv1.symm]
  refine XM_callVi 2185 hO hD hm.2.1.up4 lL_305 [_] (rest := []) rfl dL_law_2182 rfl (fun _ => hM x) (by omega) (by decide) (fun r2 w2 hr2 hp2 hR2 => ?_)
  obtain ⟨e1, e2⟩ := hp2
  subst r2
  subst w2
  have hlw := hm.up4.lw hR2
  refine X_istore 2187 hO dL_law_2185 rfl rfl ?_
  refine X_aload_n 2188 hO dL_law_2187 rfl rfl ?_
  refine XM_callVi 2191 hO hD hR2 lL_180 [] (rest := []) rfl dL_law_2188 rfl (c_thrown _ _ _) (by decide) (by decide) (fun t3 w3 ht3 hp3 hR3 => ?_)
  obtain ⟨e1, e2⟩ := hp3
  subst t3
  subst w3
  rw [show pc (KLw μ) (up w' 4 o 0 x) B 139 μ.1 0 = k from (pcm (by decide)).trans hb]
  refine X_iload 2193 hO dL_law_2191 rfl rfl ?_
  refine X_icmp_eq 2196 2198 hO dL_law_2193 rfl rfl hkr hkr (fun _ => ?_) (fun h => absurd rfl h)
  refine X_iload 2200 hO dL_law_2198 rfl rfl ?_
  refine X_if_ne 2203 2215 hO dL_law_2200 rfl rfl hkr (fun hk0 => ?_) (fun hk0 => ?_)
  · exact X_goto (tgt := 3096) hO dL_law_2215 rfl (X_wk (by simp only [lwk, lset, true_or, or_true, and_self]) (X_mono (by omega) (by omega) (kk _ hlw)))
  · have hx0 := hxr hk0
    refine X_aload_n 2204 hO dL_law_2203 rfl rfl ?_
    refine X_iconst 2205 hO dL_law_2204 rfl ?_
    refine X_lald (z := o) (i := 0) 2206 hO dL_law_2205 rfl hm.out2.1 (by rw [hm.out2.2]; decide) ?_
    rw [show pc (KLw μ) (up w' 4 o 0 x) B 4 o 0 = r from MID.at4.trans hx0]
    refine X_iload 2208 hO dL_law_2206 rfl rfl ?_
    refine X_i2l 2209 hO dL_law_2208 rfl hr2 ?_
    refine X_lcmpE 2210 hO dL_law_2209 rfl ?_
    exact X_if_eq 2213 2215 hO dL_law_2210 rfl rfl (by decide) (fun _ => X_goto (tgt := 3096) hO dL_law_2215 rfl (X_wk (by simp only [lwk, lset, true_or, or_true, and_self]) (X_mono (by omega) (by omega) (kk _ hlw)))) (fun h => absurd rfl h)
theorem la_39 (hO : Ok κ RL cL_law) (hD : Dp κ 60) (hs : SCR κ b L xs) (hw : LAW μ f o n w) (hn : 0 ≤ n ∧ n ≤ 511) (hi : 0 ≤ i ∧ i + 5 ≤ L) (kk : ∀ w', LAW μ f o (n + 1) w' → X κ P S w' 3096 (lsL b f μ o i) []) : X κ (P + 175) (S + 13300) w 2218 (lsL b f μ o i) [] := by
  obtain ⟨hX, hbl, hbA, hL⟩ := hs
  obtain ⟨A, hI, hR, hT⟩ := hw
  refine X_wi (fun hW => ?_)
  show X κ _ _ w 2218 [some (.ref b), some (rv f), some (rv μ.1), some (rv o), some (.int (I i)), none, none] []
  refine X_aload_n 2219 hO dL_law_2218 rfl rfl ?_
  refine X_kVi (t := 13) 2222 hO hD lL_306 rfl (by decide) [] rfl dL_law_2219 rfl hI.t0 (lo_viewStart hI hR hT hn hW) (by decide) (by decide) (by omega) (by omega) (fun r w' hr hp => ?_) (fun _ _ h => h.elim)
  obtain ⟨B, hm, hb, dd, hd, hM⟩ := hp
  have hM := hM (w' 4 o 0)
  rw [up_self] at hM
  refine X_aload_n 2223 hO dL_law_2222 rfl rfl ?_
  refine XM_callVi 2226 hO hD hm.2.1 lL_309 [] (rest := [_]) rfl dL_law_2223 rfl (fun _ => hM) (by omega) (by simp [rv_cat, int_cat]) (fun r2 w2 hr2 hp2 hR2 => ?_)
  obtain ⟨e1, e2⟩ := hp2
  subst r2
  subst w2
  have hlw := hm.lw hR2
  refine X_icmp_eq 2229 3096 hO dL_law_2226 rfl rfl hr hr (fun _ => ?_) (fun h => absurd rfl h)
  exact X_wk (by simp only [lwk, lset, true_or, or_true, and_self]) (X_mono (by omega) (by omega) (kk _ hlw))
theorem la_40 (hO : Ok κ RL cL_law) (hD : Dp κ 60) (hs : SCR κ b L xs) (hw : LAW μ f o n w) (hn : 0 ≤ n ∧ n ≤ 511) (hi : 0 ≤ i ∧ i + 5 ≤ L) (kk : ∀ w', LAW μ f o (n + 1) w' → X κ P S w' 3096 (lsL b f μ o i) []) : X κ (P + 175) (S + 13300) w 2231 (lsL b f μ o i) [] := by
  obtain ⟨hX, hbl, hbA, hL⟩ := hs
  obtain ⟨A, hI, hR, hT⟩ := hw
  refine X_wi (fun hW => ?_)
  show X κ _ _ w 2231 [some (.ref b), some (rv f), some (rv μ.1), some (rv o), some (.int (I i)), none, none] []
  refine X_aload_n 2232 hO dL_law_2231 rfl rfl ?_
  refine X_kVi (t := 13) 2235 hO hD lL_310 rfl (by decide) [] rfl dL_law_2232 rfl hI.t0 (lo_viewEnd hI hR hT hn hW) (by decide) (by decide) (by omega) (by omega) (fun r w' hr hp => ?_) (fun _ _ h => h.elim)
  obtain ⟨B, hm, hb, dd, hd, hM⟩ := hp
  have hM := hM (w' 4 o 0)
  rw [up_self] at hM
  refine X_aload_n 2236 hO dL_law_2235 rfl rfl ?_
  refine XM_callVi 2239 hO hD hm.2.1 lL_313 [] (rest := [_]) rfl dL_law_2236 rfl (fun _ => hM) (by omega) (by simp [rv_cat, int_cat]) (fun r2 w2 hr2 hp2 hR2 => ?_)
  obtain ⟨e1, e2⟩ := hp2
  subst r2
  subst w2
  have hlw := hm.lw hR2
  refine X_icmp_eq 2242 3096 hO dL_law_2239 rfl rfl hr hr (fun _ => ?_) (fun h => absurd rfl h)
  exact X_wk (by simp only [lwk, lset, true_or, or_true, and_self]) (X_mono (by omega) (by omega) (kk _ hlw))
theorem la_41 (hO : Ok κ RL cL_law) (hD : Dp κ 60) (hs : SCR κ b L xs) (hw : LAW μ f o n w) (hn : 0 ≤ n ∧ n ≤ 511) (hi : 0 ≤ i ∧ i + 5 ≤ L) (kk : ∀ w', LAW μ f o (n + 1) w' → X κ P S w' 3096 (lsL b f μ o i) []) : X κ (P + 175) (S + 13300) w 2244 (lsL b f μ o i) [] := by
  obtain ⟨hX, hbl, hbA, hL⟩ := hs
  obtain ⟨A, hI, hR, hT⟩ := hw
  refine X_wi (fun hW => ?_)
  show X κ _ _ w 2244 [some (.ref b), some (rv f), some (rv μ.1), some (rv o), some (.int (I i)), none, none] []
  refine X_aload_n 2245 hO dL_law_2244 rfl rfl ?_
  refine X_kVi (t := 13) 2248 hO hD lL_314 rfl (by decide) [] rfl dL_law_2245 rfl hI.t0 (lo_now hI hR hT hn hW) (by decide) (by decide) (by omega) (by omega) (fun r w' hr hp => ?_) (fun _ _ h => h.elim)
  obtain ⟨B, hm, hb, dd, hd, hM⟩ := hp
  have hM := hM (w' 4 o 0)
  rw [up_self] at hM
  refine X_aload_n 2249 hO dL_law_2248 rfl rfl ?_
  refine XM_callVi 2252 hO hD hm.2.1 lL_317 [] (rest := [_]) rfl dL_law_2249 rfl (fun _ => hM) (by omega) (by simp [rv_cat, int_cat]) (fun r2 w2 hr2 hp2 hR2 => ?_)
  obtain ⟨e1, e2⟩ := hp2
  subst r2
  subst w2
  have hlw := hm.lw hR2
  refine X_icmp_eq 2255 3096 hO dL_law_2252 rfl rfl hr hr (fun _ => ?_) (fun h => absurd rfl h)
  exact X_wk (by simp only [lwk, lset, true_or, or_true, and_self]) (X_mono (by omega) (by omega) (kk _ hlw))
theorem la_42 (hO : Ok κ RL cL_law) (hD : Dp κ 60) (hs : SCR κ b L xs) (hw : LAW μ f o n w) (hn : 0 ≤ n ∧ n ≤ 511) (hi : 0 ≤ i ∧ i + 5 ≤ L) (kk : ∀ w', LAW μ f o (n + 1) w' → X κ P S w' 3096 (lsL b f μ o i) []) : X κ (P + 175) (S + 13300) w 2257 (lsL b f μ o i) [] := by
  obtain ⟨hX, hbl, hbA, hL⟩ := hs
  obtain ⟨A, hI, hR, hT⟩ := hw
  refine X_wi (fun hW => ?_)
  show X κ _ _ w 2257 [some (.ref b), some (rv f), some (rv μ.1), some (rv o), some (.int (I i)), none, none] []
  refine X_aload_n 2258 hO dL_law_2257 rfl rfl ?_
  refine X_kVi (t := 13) 2261 hO hD lL_318 rfl (by decide) [] rfl dL_law_2258 rfl hI.t0 (lo_nodes hI hR hT hn hW) (by decide) (by decide) (by omega) (by omega) (fun r w' hr hp => ?_) (fun _ _ h => h.elim)
  obtain ⟨B, hm, hb, dd, hd, hM⟩ := hp
  have hM := hM (w' 4 o 0)
  rw [up_self] at hM
  refine X_aload_n 2262 hO dL_law_2261 rfl rfl ?_
  refine XM_callVi 2265 hO hD hm.2.1 lL_321 [] (rest := [_]) rfl dL_law_2262 rfl (fun _ => hM) (by omega) (by simp [rv_cat, int_cat]) (fun r2 w2 hr2 hp2 hR2 => ?_)
  obtain ⟨e1, e2⟩ := hp2
  subst r2
  subst w2
  have hlw := hm.lw hR2
  refine X_icmp_eq 2268 3096 hO dL_law_2265 rfl rfl hr hr (fun _ => ?_) (fun h => absurd rfl h)
  exact X_wk (by simp only [lwk, lset, true_or, or_true, and_self]) (X_mono (by omega) (by omega) (kk _ hlw))
theorem la_43 (hO : Ok κ RL cL_law) (hD : Dp κ 60) (hs : SCR κ b L xs) (hw : LAW μ f o n w) (hn : 0 ≤ n ∧ n ≤ 511) (hi : 0 ≤ i ∧ i + 5 ≤ L) (kk : ∀ w', LAW μ f o (n + 1) w' → X κ P S w' 3096 (lsL b f μ o i) []) : X κ (P + 175) (S + 13300) w 2270 (lsL b f μ o i) [] := by
  obtain ⟨hX, hbl, hbA, hL⟩ := hs
  obtain ⟨A, hI, hR, hT⟩ := hw
  refine X_wi (fun hW => ?_)
  show X κ _ _ w 2270 [some (.ref b), some (rv f), some (rv μ.1), some (rv o), some (.int (I i)), none, none] []
  refine X_aload_n 2271 hO dL_law_2270 rfl rfl ?_
  refine X_aload_nR 2272 hO dL_law_2271 rfl rfl ?_
  refine X_iload 2274 hO dL_law_2272 rfl rfl ?_
  refine X_iconst 2275 hO dL_law_2274 rfl ?_
  refine X_iadd 2276 hO dL_law_2275 rfl ?_
  refine X_sld (i := i + 1) 2277 hO hX hbl hbA (by omega) hL dL_law_2276 rfl (fun v1 hv1 hrv1 => ?_)
  refine X_aload_n 2278 hO dL_law_2277 rfl rfl ?_
  refine X_callSX 2281 hO hD sL_parentOf [_, _, _] (rest := []) rfl dL_law_2278 rfl (L_parentOf hI hR hT hn hrv1) (by decide) (by decide) (by omega) (by omega) (fun v_ w1 hp => ?_)
  obtain ⟨k, r, w', x, rfl, hk, ⟨B, hm, hb, dd, hd, hM⟩, rfl, hxr⟩ := hp
  have hkr : IR k := by omega
  show X κ _ _ _ 2281 _ [.int (I k)]
  refine X_istore 2283 hO dL_law_2281 rfl rfl ?_
  refine X_aload_n 2284 hO dL_law_2283 rfl rfl ?_
  refine X_aload_nR 2285 hO dL_law_2284 rfl rfl ?_
  refine X_iload 2287 hO dL_law_2285 rfl rfl ?_
  refine X_iconst 2288 hO dL_law_2287 rfl ?_
  refine X_iadd 2289 hO dL_law_2288 rfl ?_
  refine X_sld (i := i + 1) 2290 hO hX hbl hbA (by omega) hL dL_law_2289 rfl (fun u1 hu1 hru1 => ?_)
  rw [show u1 = v1 from hu1.trans hv1.symm]
  refine XM_callVi 2293 hO hD hm.2.1.up4 lL_324 [_] (rest := []) rfl dL_law_2290 rfl (fun _ => hM x) (by omega) (by decide) (fun r2 w2 hr2 hp2 hR2 => ?_)
  obtain ⟨e1, e2⟩ := hp2
  subst r2
  subst w2
  have hlw := hm.up4.lw hR2
  refine X_istore 2295 hO dL_law_2293 rfl rfl ?_
  refine X_aload_n 2296 hO dL_law_2295 rfl rfl ?_
  refine XM_callVi 2299 hO hD hR2 lL_180 [] (rest := []) rfl dL_law_2296 rfl (c_thrown _ _ _) (by decide) (by decide) (fun t3 w3 ht3 hp3 hR3 => ?_)
  obtain ⟨e1, e2⟩ := hp3
  subst t3
  subst w3
  rw [show pc (KLw μ) (up w' 4 o 0 x) B 139 μ.1 0 = k from (pcm (by decide)).trans hb]
  refine X_iload 2301 hO dL_law_2299 rfl rfl ?_
  refine X_icmp_eq 2304 2306 hO dL_law_2301 rfl rfl hkr hkr (fun _ => ?_) (fun h => absurd rfl h)
  refine X_iload 2308 hO dL_law_2306 rfl rfl ?_
  refine X_if_ne 2311 2323 hO dL_law_2308 rfl rfl hkr (fun hk0 => ?_) (fun hk0 => ?_)
  · exact X_goto (tgt := 3096) hO dL_law_2323 rfl (X_wk (by simp only [lwk, lset, true_or, or_true, and_self]) (X_mono (by omega) (by omega) (kk _ hlw)))
  · have hx0 := hxr hk0
    refine X_aload_n 2312 hO dL_law_2311 rfl rfl ?_
    refine X_iconst 2313 hO dL_law_2312 rfl ?_
    refine X_lald (z := o) (i := 0) 2314 hO dL_law_2313 rfl hm.out2.1 (by rw [hm.out2.2]; decide) ?_
    rw [show pc (KLw μ) (up w' 4 o 0 x) B 4 o 0 = r from MID.at4.trans hx0]
    refine X_iload 2316 hO dL_law_2314 rfl rfl ?_
    refine X_i2l 2317 hO dL_law_2316 rfl hr2 ?_
    refine X_lcmpE 2318 hO dL_law_2317 rfl ?_
    exact X_if_eq 2321 2323 hO dL_law_2318 rfl rfl (by decide) (fun _ => X_goto (tgt := 3096) hO dL_law_2323 rfl (X_wk (by simp only [lwk, lset, true_or, or_true, and_self]) (X_mono (by omega) (by omega) (kk _ hlw)))) (fun h => absurd rfl h)
theorem la_44 (hO : Ok κ RL cL_law) (hD : Dp κ 60) (hs : SCR κ b L xs) (hw : LAW μ f o n w) (hn : 0 ≤ n ∧ n ≤ 511) (hi : 0 ≤ i ∧ i + 5 ≤ L) (kk : ∀ w', LAW μ f o (n + 1) w' → X κ P S w' 3096 (lsL b f μ o i) []) : X κ (P + 175) (S + 13300) w 2326 (lsL b f μ o i) [] := by
  obtain ⟨hX, hbl, hbA, hL⟩ := hs
  obtain ⟨A, hI, hR, hT⟩ := hw
  refine X_wi (fun hW => ?_)
  show X κ _ _ w 2326 [some (.ref b), some (rv f), some (rv μ.1), some (rv o), some (.int (I i)), none, none] []
  refine X_aload_n 2327 hO dL_law_2326 rfl rfl ?_
  refine X_aload_nR 2328 hO dL_law_2327 rfl rfl ?_
  refine X_iload 2330 hO dL_law_2328 rfl rfl ?_
  refine X_iconst 2331 hO dL_law_2330 rfl ?_
  refine X_iadd 2332 hO dL_law_2331 rfl ?_
  refine X_sld (i := i + 1) 2333 hO hX hbl hbA (by omega) hL dL_law_2332 rfl (fun v1 hv1 hrv1 => ?_)
  refine X_aload_n 2334 hO dL_law_2333 rfl rfl ?_
  refine X_callSX 2337 hO hD sL_newestChild [_, _, _] (rest := []) rfl dL_law_2334 rfl (L_newestChild hI hR hT hn hrv1) (by decide) (by decide) (by omega) (by omega) (fun v_ w1 hp => ?_)
  obtain ⟨k, r, w', x, rfl, hk, ⟨B, hm, hb, dd, hd, hM⟩, rfl, hxr⟩ := hp
  have hkr : IR k := by omega
  show X κ _ _ _ 2337 _ [.int (I k)]
  refine X_istore 2339 hO dL_law_2337 rfl rfl ?_
  refine X_aload_n 2340 hO dL_law_2339 rfl rfl ?_
  refine X_aload_nR 2341 hO dL_law_2340 rfl rfl ?_
  refine X_iload 2343 hO dL_law_2341 rfl rfl ?_
  refine X_iconst 2344 hO dL_law_2343 rfl ?_
  refine X_iadd 2345 hO dL_law_2344 rfl ?_
  refine X_sld (i := i + 1) 2346 hO hX hbl hbA (by omega) hL dL_law_2345 rfl (fun u1 hu1 hru1 => ?_)
  rw [show u1 = v1 from hu1.trans hv1.symm]
  refine XM_callVi 2349 hO hD hm.2.1.up4 lL_327 [_] (rest := []) rfl dL_law_2346 rfl (fun _ => hM x) (by omega) (by decide) (fun r2 w2 hr2 hp2 hR2 => ?_)
  obtain ⟨e1, e2⟩ := hp2
  subst r2
  subst w2
  have hlw := hm.up4.lw hR2
  refine X_istore 2351 hO dL_law_2349 rfl rfl ?_
  refine X_aload_n 2352 hO dL_law_2351 rfl rfl ?_
  refine XM_callVi 2355 hO hD hR2 lL_180 [] (rest := []) rfl dL_law_2352 rfl (c_thrown _ _ _) (by decide) (by decide) (fun t3 w3 ht3 hp3 hR3 => ?_)
  obtain ⟨e1, e2⟩ := hp3
  subst t3
  subst w3
  rw [show pc (KLw μ) (up w' 4 o 0 x) B 139 μ.1 0 = k from (pcm (by decide)).trans hb]
  refine X_iload 2357 hO dL_law_2355 rfl rfl ?_
  refine X_icmp_eq 2360 2362 hO dL_law_2357 rfl rfl hkr hkr (fun _ => ?_) (fun h => absurd rfl h)
  refine X_iload 2364 hO dL_law_2362 rfl rfl ?_
  refine X_if_ne 2367 2379 hO dL_law_2364 rfl rfl hkr (fun hk0 => ?_) (fun hk0 => ?_)
  · exact X_goto (tgt := 3096) hO dL_law_2379 rfl (X_wk (by simp only [lwk, lset, true_or, or_true, and_self]) (X_mono (by omega) (by omega) (kk _ hlw)))
  · have hx0 := hxr hk0
    refine X_aload_n 2368 hO dL_law_2367 rfl rfl ?_
    refine X_iconst 2369 hO dL_law_2368 rfl ?_
    refine X_lald (z := o) (i := 0) 2370 hO dL_law_2369 rfl hm.out2.1 (by rw [hm.out2.2]; decide) ?_
    rw [show pc (KLw μ) (up w' 4 o 0 x) B 4 o 0 = r from MID.at4.trans hx0]
    refine X_iload 2372 hO dL_law_2370 rfl rfl ?_
    refine X_i2l 2373 hO dL_law_2372 rfl hr2 ?_
    refine X_lcmpE 2374 hO dL_law_2373 rfl ?_
    exact X_if_eq 2377 2379 hO dL_law_2374 rfl rfl (by decide) (fun _ => X_goto (tgt := 3096) hO dL_law_2379 rfl (X_wk (by simp only [lwk, lset, true_or, or_true, and_self]) (X_mono (by omega) (by omega) (kk _ hlw)))) (fun h => absurd rfl h)
end LW2
