/-! THE LAW'S LOOP: its cases, 2 -/
section LW1
variable {κ : KC} {P S : Nat} {w : Mm} {b L : Nat} {xs : Nat → Int32} {μ : MU} {f o n i : Int}
theorem la_15 (hO : Ok κ RL cL_law) (hD : Dp κ 60) (hs : SCR κ b L xs) (hw : LAW μ f o n w) (hn : 0 ≤ n ∧ n ≤ 511) (hi : 0 ≤ i ∧ i + 5 ≤ L) (kk : ∀ w', LAW μ f o (n + 1) w' → X κ P S w' 3096 (lsL b f μ o i) []) : X κ (P + 175) (S + 13300) w 1128 (lsL b f μ o i) [] := by
  obtain ⟨hX, hbl, hbA, hL⟩ := hs
  obtain ⟨A, hI, hR, hT⟩ := hw
  refine X_wi (fun hW => ?_)
  show X κ _ _ w 1128 [some (.ref b), some (rv f), some (rv μ.1), some (rv o), some (.int (I i)), none, none] []
  refine X_aload_n 1129 hO dL_law_1128 rfl rfl ?_
  refine X_aload_nR 1130 hO dL_law_1129 rfl rfl ?_
  refine X_iload 1132 hO dL_law_1130 rfl rfl ?_
  refine X_iconst 1133 hO dL_law_1132 rfl ?_
  refine X_iadd 1134 hO dL_law_1133 rfl ?_
  refine X_sld (i := i + 1) 1135 hO hX hbl hbA (by omega) hL dL_law_1134 rfl (fun v1 hv1 hrv1 => ?_)
  refine X_aload_nR 1136 hO dL_law_1135 rfl rfl ?_
  refine X_iload 1138 hO dL_law_1136 rfl rfl ?_
  refine X_iconst 1139 hO dL_law_1138 rfl ?_
  refine X_iadd 1140 hO dL_law_1139 rfl ?_
  refine X_sld (i := i + 2) 1141 hO hX hbl hbA (by omega) hL dL_law_1140 rfl (fun v2 hv2 hrv2 => ?_)
  refine X_aload_n 1142 hO dL_law_1141 rfl rfl ?_
  refine X_callSX 1145 hO hD sL_run [_, _, _, _] (rest := []) rfl dL_law_1142 rfl (L_run hI hR hT hn hrv1 hrv2) (by decide) (by decide) (by omega) (by omega) (fun v_ w1 hp => ?_)
  obtain ⟨k, r, w', x, rfl, hk, ⟨B, hm, hb, dd, hd, hM⟩, rfl, hxr⟩ := hp
  have hkr : IR k := by omega
  show X κ _ _ _ 1145 _ [.int (I k)]
  refine X_istore 1147 hO dL_law_1145 rfl rfl ?_
  refine X_aload_n 1148 hO dL_law_1147 rfl rfl ?_
  refine X_aload_nR 1149 hO dL_law_1148 rfl rfl ?_
  refine X_iload 1151 hO dL_law_1149 rfl rfl ?_
  refine X_iconst 1152 hO dL_law_1151 rfl ?_
  refine X_iadd 1153 hO dL_law_1152 rfl ?_
  refine X_sld (i := i + 1) 1154 hO hX hbl hbA (by omega) hL dL_law_1153 rfl (fun u1 hu1 hru1 => ?_)
  rw [show u1 = v1 from hu1.trans hv1.symm]
  refine X_aload_nR 1155 hO dL_law_1154 rfl rfl ?_
  refine X_iload 1157 hO dL_law_1155 rfl rfl ?_
  refine X_iconst 1158 hO dL_law_1157 rfl ?_
  refine X_iadd 1159 hO dL_law_1158 rfl ?_
  refine X_sld (i := i + 2) 1160 hO hX hbl hbA (by omega) hL dL_law_1159 rfl (fun u2 hu2 hru2 => ?_)
  rw [show u2 = v2 from hu2.trans hv2.symm]
  refine XM_callVi 1163 hO hD hm.2.1.up4 lL_230 [_, _] (rest := []) rfl dL_law_1160 rfl (fun _ => hM x) (by omega) (by decide) (fun r2 w2 hr2 hp2 hR2 => ?_)
  obtain ⟨e1, e2⟩ := hp2
  subst r2
  subst w2
  have hlw := hm.up4.lw hR2
  refine X_istore 1165 hO dL_law_1163 rfl rfl ?_
  refine X_aload_n 1166 hO dL_law_1165 rfl rfl ?_
  refine XM_callVi 1169 hO hD hR2 lL_180 [] (rest := []) rfl dL_law_1166 rfl (c_thrown _ _ _) (by decide) (by decide) (fun t3 w3 ht3 hp3 hR3 => ?_)
  obtain ⟨e1, e2⟩ := hp3
  subst t3
  subst w3
  rw [show pc (KLw μ) (up w' 4 o 0 x) B 139 μ.1 0 = k from (pcm (by decide)).trans hb]
  refine X_iload 1171 hO dL_law_1169 rfl rfl ?_
  refine X_icmp_eq 1174 1176 hO dL_law_1171 rfl rfl hkr hkr (fun _ => ?_) (fun h => absurd rfl h)
  refine X_iload 1178 hO dL_law_1176 rfl rfl ?_
  refine X_if_ne 1181 1193 hO dL_law_1178 rfl rfl hkr (fun hk0 => ?_) (fun hk0 => ?_)
  · exact X_goto (tgt := 3096) hO dL_law_1193 rfl (X_wk (by simp only [lwk, lset, true_or, or_true, and_self]) (X_mono (by omega) (by omega) (kk _ hlw)))
  · have hx0 := hxr hk0
    refine X_aload_n 1182 hO dL_law_1181 rfl rfl ?_
    refine X_iconst 1183 hO dL_law_1182 rfl ?_
    refine X_lald (z := o) (i := 0) 1184 hO dL_law_1183 rfl hm.out2.1 (by rw [hm.out2.2]; decide) ?_
    rw [show pc (KLw μ) (up w' 4 o 0 x) B 4 o 0 = r from MID.at4.trans hx0]
    refine X_iload 1186 hO dL_law_1184 rfl rfl ?_
    refine X_i2l 1187 hO dL_law_1186 rfl hr2 ?_
    refine X_lcmpE 1188 hO dL_law_1187 rfl ?_
    exact X_if_eq 1191 1193 hO dL_law_1188 rfl rfl (by decide) (fun _ => X_goto (tgt := 3096) hO dL_law_1193 rfl (X_wk (by simp only [lwk, lset, true_or, or_true, and_self]) (X_mono (by omega) (by omega) (kk _ hlw)))) (fun h => absurd rfl h)
theorem la_16 (hO : Ok κ RL cL_law) (hD : Dp κ 60) (hs : SCR κ b L xs) (hw : LAW μ f o n w) (hn : 0 ≤ n ∧ n ≤ 511) (hi : 0 ≤ i ∧ i + 5 ≤ L) (kk : ∀ w', LAW μ f o (n + 1) w' → X κ P S w' 3096 (lsL b f μ o i) []) : X κ (P + 175) (S + 13300) w 1196 (lsL b f μ o i) [] := by
  obtain ⟨hX, hbl, hbA, hL⟩ := hs
  obtain ⟨A, hI, hR, hT⟩ := hw
  refine X_wi (fun hW => ?_)
  show X κ _ _ w 1196 [some (.ref b), some (rv f), some (rv μ.1), some (rv o), some (.int (I i)), none, none] []
  refine X_aload_n 1197 hO dL_law_1196 rfl rfl ?_
  refine X_callSX 1200 hO hD sL_checkpoint [_] (rest := []) rfl dL_law_1197 rfl (L_checkpoint hI hR hT hn) (by decide) (by decide) (by omega) (by omega) (fun v_ w1 hp => ?_)
  obtain ⟨k, rfl, hk, B, hm, hb, dd, hd, hM⟩ := hp
  have hkr : IR k := by omega
  show X κ _ _ _ 1200 _ [.int (I k)]
  refine X_istore 1202 hO dL_law_1200 rfl rfl ?_
  refine X_aload_n 1203 hO dL_law_1202 rfl rfl ?_
  refine XM_callVv 1206 hO hD hm.2.1 lL_234 [] (rest := []) rfl dL_law_1203 rfl (fun _ => hM) (by omega) (by decide) (fun w2 hp2 hR2 => ?_)
  subst w2
  have hlw := hm.lw hR2
  refine X_aload_n 1207 hO dL_law_1206 rfl rfl ?_
  refine XM_callVi 1210 hO hD hR2 lL_180 [] (rest := []) rfl dL_law_1207 rfl (c_thrown _ _ _) (by decide) (by decide) (fun t3 w3 ht3 hp3 hR3 => ?_)
  obtain ⟨e1, e2⟩ := hp3
  subst t3
  subst w3
  rw [show pc (KLw μ) w1 B 139 μ.1 0 = k from (pcm (by decide)).trans hb]
  refine X_iload 1212 hO dL_law_1210 rfl rfl ?_
  refine X_icmp_eq 1215 1217 hO dL_law_1212 rfl rfl hkr hkr (fun _ => ?_) (fun h => absurd rfl h)
  refine X_goto (tgt := 3096) hO dL_law_1217 rfl ?_
  exact X_wk (by simp only [lwk, lset, true_or, or_true, and_self]) (X_mono (by omega) (by omega) (kk _ hlw))
theorem la_17 (hO : Ok κ RL cL_law) (hD : Dp κ 60) (hs : SCR κ b L xs) (hw : LAW μ f o n w) (hn : 0 ≤ n ∧ n ≤ 511) (hi : 0 ≤ i ∧ i + 5 ≤ L) (kk : ∀ w', LAW μ f o (n + 1) w' → X κ P S w' 3096 (lsL b f μ o i) []) : X κ (P + 175) (S + 13300) w 1220 (lsL b f μ o i) [] := by
  obtain ⟨hX, hbl, hbA, hL⟩ := hs
  obtain ⟨A, hI, hR, hT⟩ := hw
  refine X_wi (fun hW => ?_)
  show X κ _ _ w 1220 [some (.ref b), some (rv f), some (rv μ.1), some (rv o), some (.int (I i)), none, none] []
  refine X_aload_n 1221 hO dL_law_1220 rfl rfl ?_
  refine X_aload_nR 1222 hO dL_law_1221 rfl rfl ?_
  refine X_iload 1224 hO dL_law_1222 rfl rfl ?_
  refine X_iconst 1225 hO dL_law_1224 rfl ?_
  refine X_iadd 1226 hO dL_law_1225 rfl ?_
  refine X_sld (i := i + 1) 1227 hO hX hbl hbA (by omega) hL dL_law_1226 rfl (fun v1 hv1 hrv1 => ?_)
  refine X_callSX 1230 hO hD sL_record [_, _] (rest := []) rfl dL_law_1227 rfl (L_record hI hR hT hn hrv1) (by decide) (by decide) (by omega) (by omega) (fun v_ w1 hp => ?_)
  obtain ⟨k, rfl, hk, B, hm, hb, dd, hd, hM⟩ := hp
  have hkr : IR k := by omega
  show X κ _ _ _ 1230 _ [.int (I k)]
  refine X_istore 1232 hO dL_law_1230 rfl rfl ?_
  refine X_aload_n 1233 hO dL_law_1232 rfl rfl ?_
  refine X_aload_nR 1234 hO dL_law_1233 rfl rfl ?_
  refine X_iload 1236 hO dL_law_1234 rfl rfl ?_
  refine X_iconst 1237 hO dL_law_1236 rfl ?_
  refine X_iadd 1238 hO dL_law_1237 rfl ?_
  refine X_sld (i := i + 1) 1239 hO hX hbl hbA (by omega) hL dL_law_1238 rfl (fun u1 hu1 hru1 => ?_)
  rw [show u1 = v1 from hu1.trans hv1.symm]
  refine XM_callVv 1242 hO hD hm.2.1 lL_238 [_] (rest := []) rfl dL_law_1239 rfl (fun _ => hM) (by omega) (by decide) (fun w2 hp2 hR2 => ?_)
  subst w2
  have hlw := hm.lw hR2
  refine X_aload_n 1243 hO dL_law_1242 rfl rfl ?_
  refine XM_callVi 1246 hO hD hR2 lL_180 [] (rest := []) rfl dL_law_1243 rfl (c_thrown _ _ _) (by decide) (by decide) (fun t3 w3 ht3 hp3 hR3 => ?_)
  obtain ⟨e1, e2⟩ := hp3
  subst t3
  subst w3
  rw [show pc (KLw μ) w1 B 139 μ.1 0 = k from (pcm (by decide)).trans hb]
  refine X_iload 1248 hO dL_law_1246 rfl rfl ?_
  refine X_icmp_eq 1251 1253 hO dL_law_1248 rfl rfl hkr hkr (fun _ => ?_) (fun h => absurd rfl h)
  refine X_goto (tgt := 3096) hO dL_law_1253 rfl ?_
  exact X_wk (by simp only [lwk, lset, true_or, or_true, and_self]) (X_mono (by omega) (by omega) (kk _ hlw))
theorem la_18 (hO : Ok κ RL cL_law) (hD : Dp κ 60) (hs : SCR κ b L xs) (hw : LAW μ f o n w) (hn : 0 ≤ n ∧ n ≤ 511) (hi : 0 ≤ i ∧ i + 5 ≤ L) (kk : ∀ w', LAW μ f o (n + 1) w' → X κ P S w' 3096 (lsL b f μ o i) []) : X κ (P + 175) (S + 13300) w 1256 (lsL b f μ o i) [] := by
  obtain ⟨hX, hbl, hbA, hL⟩ := hs
  obtain ⟨A, hI, hR, hT⟩ := hw
  refine X_wi (fun hW => ?_)
  show X κ _ _ w 1256 [some (.ref b), some (rv f), some (rv μ.1), some (rv o), some (.int (I i)), none, none] []
  refine X_aload_n 1257 hO dL_law_1256 rfl rfl ?_
  refine X_aload_n 1258 hO dL_law_1257 rfl rfl ?_
  refine X_callSX 1261 hO hD sL_stop [_, _] (rest := []) rfl dL_law_1258 rfl (L_stop hI hR hT hn) (by decide) (by decide) (by omega) (by omega) (fun v_ w1 hp => ?_)
  obtain ⟨k, r, w', x, rfl, hk, ⟨B, hm, hb, dd, hd, hM⟩, rfl, hxr⟩ := hp
  have hkr : IR k := by omega
  show X κ _ _ _ 1261 _ [.int (I k)]
  refine X_istore 1263 hO dL_law_1261 rfl rfl ?_
  refine X_aload_n 1264 hO dL_law_1263 rfl rfl ?_
  refine XM_callVi 1267 hO hD hm.2.1.up4 lL_241 [] (rest := []) rfl dL_law_1264 rfl (fun _ => hM x) (by omega) (by decide) (fun r2 w2 hr2 hp2 hR2 => ?_)
  obtain ⟨e1, e2⟩ := hp2
  subst r2
  subst w2
  have hlw := hm.up4.lw hR2
  refine X_istore 1269 hO dL_law_1267 rfl rfl ?_
  refine X_aload_n 1270 hO dL_law_1269 rfl rfl ?_
  refine XM_callVi 1273 hO hD hR2 lL_180 [] (rest := []) rfl dL_law_1270 rfl (c_thrown _ _ _) (by decide) (by decide) (fun t3 w3 ht3 hp3 hR3 => ?_)
  obtain ⟨e1, e2⟩ := hp3
  subst t3
  subst w3
  rw [show pc (KLw μ) (up w' 4 o 0 x) B 139 μ.1 0 = k from (pcm (by decide)).trans hb]
  refine X_iload 1275 hO dL_law_1273 rfl rfl ?_
  refine X_icmp_eq 1278 1280 hO dL_law_1275 rfl rfl hkr hkr (fun _ => ?_) (fun h => absurd rfl h)
  refine X_iload 1282 hO dL_law_1280 rfl rfl ?_
  refine X_if_ne 1285 1297 hO dL_law_1282 rfl rfl hkr (fun hk0 => ?_) (fun hk0 => ?_)
  · exact X_goto (tgt := 3096) hO dL_law_1297 rfl (X_wk (by simp only [lwk, lset, true_or, or_true, and_self]) (X_mono (by omega) (by omega) (kk _ hlw)))
  · have hx0 := hxr hk0
    refine X_aload_n 1286 hO dL_law_1285 rfl rfl ?_
    refine X_iconst 1287 hO dL_law_1286 rfl ?_
    refine X_lald (z := o) (i := 0) 1288 hO dL_law_1287 rfl hm.out2.1 (by rw [hm.out2.2]; decide) ?_
    rw [show pc (KLw μ) (up w' 4 o 0 x) B 4 o 0 = r from MID.at4.trans hx0]
    refine X_iload 1290 hO dL_law_1288 rfl rfl ?_
    refine X_i2l 1291 hO dL_law_1290 rfl hr2 ?_
    refine X_lcmpE 1292 hO dL_law_1291 rfl ?_
    exact X_if_eq 1295 1297 hO dL_law_1292 rfl rfl (by decide) (fun _ => X_goto (tgt := 3096) hO dL_law_1297 rfl (X_wk (by simp only [lwk, lset, true_or, or_true, and_self]) (X_mono (by omega) (by omega) (kk _ hlw)))) (fun h => absurd rfl h)
theorem la_19 (hO : Ok κ RL cL_law) (hD : Dp κ 60) (hs : SCR κ b L xs) (hw : LAW μ f o n w) (hn : 0 ≤ n ∧ n ≤ 511) (hi : 0 ≤ i ∧ i + 5 ≤ L) (kk : ∀ w', LAW μ f o (n + 1) w' → X κ P S w' 3096 (lsL b f μ o i) []) : X κ (P + 175) (S + 13300) w 1300 (lsL b f μ o i) [] := by
  obtain ⟨hX, hbl, hbA, hL⟩ := hs
  obtain ⟨A, hI, hR, hT⟩ := hw
  refine X_wi (fun hW => ?_)
  show X κ _ _ w 1300 [some (.ref b), some (rv f), some (rv μ.1), some (rv o), some (.int (I i)), none, none] []
  refine X_aload_n 1301 hO dL_law_1300 rfl rfl ?_
  refine X_callSX 1304 hO hD sL_open [_] (rest := []) rfl dL_law_1301 rfl (L_open hI hR hT hn) (by decide) (by decide) (by omega) (by omega) (fun v_ w1 hp => ?_)
  obtain ⟨k, rfl, hk, B, hm, hb, dd, hd, hM⟩ := hp
  have hkr : IR k := by omega
  show X κ _ _ _ 1304 _ [.int (I k)]
  refine X_istore 1306 hO dL_law_1304 rfl rfl ?_
  refine X_aload_n 1307 hO dL_law_1306 rfl rfl ?_
  refine XM_callVv 1310 hO hD hm.2.1 lL_244 [] (rest := []) rfl dL_law_1307 rfl (fun _ => hM) (by omega) (by decide) (fun w2 hp2 hR2 => ?_)
  subst w2
  have hlw := hm.lw hR2
  refine X_aload_n 1311 hO dL_law_1310 rfl rfl ?_
  refine XM_callVi 1314 hO hD hR2 lL_180 [] (rest := []) rfl dL_law_1311 rfl (c_thrown _ _ _) (by decide) (by decide) (fun t3 w3 ht3 hp3 hR3 => ?_)
  obtain ⟨e1, e2⟩ := hp3
  subst t3
  subst w3
  rw [show pc (KLw μ) w1 B 139 μ.1 0 = k from (pcm (by decide)).trans hb]
  refine X_iload 1316 hO dL_law_1314 rfl rfl ?_
  refine X_icmp_eq 1319 1321 hO dL_law_1316 rfl rfl hkr hkr (fun _ => ?_) (fun h => absurd rfl h)
  refine X_goto (tgt := 3096) hO dL_law_1321 rfl ?_
  exact X_wk (by simp only [lwk, lset, true_or, or_true, and_self]) (X_mono (by omega) (by omega) (kk _ hlw))
theorem la_20 (hO : Ok κ RL cL_law) (hD : Dp κ 60) (hs : SCR κ b L xs) (hw : LAW μ f o n w) (hn : 0 ≤ n ∧ n ≤ 511) (hi : 0 ≤ i ∧ i + 5 ≤ L) (kk : ∀ w', LAW μ f o (n + 1) w' → X κ P S w' 3096 (lsL b f μ o i) []) : X κ (P + 175) (S + 13300) w 1324 (lsL b f μ o i) [] := by
  obtain ⟨hX, hbl, hbA, hL⟩ := hs
  obtain ⟨A, hI, hR, hT⟩ := hw
  refine X_wi (fun hW => ?_)
  show X κ _ _ w 1324 [some (.ref b), some (rv f), some (rv μ.1), some (rv o), some (.int (I i)), none, none] []
  refine X_aload_n 1325 hO dL_law_1324 rfl rfl ?_
  refine X_aload_n 1326 hO dL_law_1325 rfl rfl ?_
  refine X_callSX 1329 hO hD sL_close [_, _] (rest := []) rfl dL_law_1326 rfl (L_close hI hR hT hn) (by decide) (by decide) (by omega) (by omega) (fun v_ w1 hp => ?_)
  obtain ⟨k, r, w', x, rfl, hk, ⟨B, hm, hb, dd, hd, hM⟩, rfl, hxr⟩ := hp
  have hkr : IR k := by omega
  show X κ _ _ _ 1329 _ [.int (I k)]
  refine X_istore 1331 hO dL_law_1329 rfl rfl ?_
  refine X_aload_n 1332 hO dL_law_1331 rfl rfl ?_
  refine XM_callVi 1335 hO hD hm.2.1.up4 lL_247 [] (rest := []) rfl dL_law_1332 rfl (fun _ => hM x) (by omega) (by decide) (fun r2 w2 hr2 hp2 hR2 => ?_)
  obtain ⟨e1, e2⟩ := hp2
  subst r2
  subst w2
  have hlw := hm.up4.lw hR2
  refine X_istore 1337 hO dL_law_1335 rfl rfl ?_
  refine X_aload_n 1338 hO dL_law_1337 rfl rfl ?_
  refine XM_callVi 1341 hO hD hR2 lL_180 [] (rest := []) rfl dL_law_1338 rfl (c_thrown _ _ _) (by decide) (by decide) (fun t3 w3 ht3 hp3 hR3 => ?_)
  obtain ⟨e1, e2⟩ := hp3
  subst t3
  subst w3
  rw [show pc (KLw μ) (up w' 4 o 0 x) B 139 μ.1 0 = k from (pcm (by decide)).trans hb]
  refine X_iload 1343 hO dL_law_1341 rfl rfl ?_
  refine X_icmp_eq 1346 1348 hO dL_law_1343 rfl rfl hkr hkr (fun _ => ?_) (fun h => absurd rfl h)
  refine X_iload 1350 hO dL_law_1348 rfl rfl ?_
  refine X_if_ne 1353 1365 hO dL_law_1350 rfl rfl hkr (fun hk0 => ?_) (fun hk0 => ?_)
  · exact X_goto (tgt := 3096) hO dL_law_1365 rfl (X_wk (by simp only [lwk, lset, true_or, or_true, and_self]) (X_mono (by omega) (by omega) (kk _ hlw)))
  · have hx0 := hxr hk0
    refine X_aload_n 1354 hO dL_law_1353 rfl rfl ?_
    refine X_iconst 1355 hO dL_law_1354 rfl ?_
    refine X_lald (z := o) (i := 0) 1356 hO dL_law_1355 rfl hm.out2.1 (by rw [hm.out2.2]; decide) ?_
    rw [show pc (KLw μ) (up w' 4 o 0 x) B 4 o 0 = r from MID.at4.trans hx0]
    refine X_iload 1358 hO dL_law_1356 rfl rfl ?_
    refine X_i2l 1359 hO dL_law_1358 rfl hr2 ?_
    refine X_lcmpE 1360 hO dL_law_1359 rfl ?_
    exact X_if_eq 1363 1365 hO dL_law_1360 rfl rfl (by decide) (fun _ => X_goto (tgt := 3096) hO dL_law_1365 rfl (X_wk (by simp only [lwk, lset, true_or, or_true, and_self]) (X_mono (by omega) (by omega) (kk _ hlw)))) (fun h => absurd rfl h)
theorem la_21 (hO : Ok κ RL cL_law) (hD : Dp κ 60) (hs : SCR κ b L xs) (hw : LAW μ f o n w) (hn : 0 ≤ n ∧ n ≤ 511) (hi : 0 ≤ i ∧ i + 5 ≤ L) (kk : ∀ w', LAW μ f o (n + 1) w' → X κ P S w' 3096 (lsL b f μ o i) []) : X κ (P + 175) (S + 13300) w 1368 (lsL b f μ o i) [] := by
  obtain ⟨hX, hbl, hbA, hL⟩ := hs
  obtain ⟨A, hI, hR, hT⟩ := hw
  refine X_wi (fun hW => ?_)
  show X κ _ _ w 1368 [some (.ref b), some (rv f), some (rv μ.1), some (rv o), some (.int (I i)), none, none] []
  refine X_aload_n 1369 hO dL_law_1368 rfl rfl ?_
  refine X_aload_nR 1370 hO dL_law_1369 rfl rfl ?_
  refine X_iload 1372 hO dL_law_1370 rfl rfl ?_
  refine X_iconst 1373 hO dL_law_1372 rfl ?_
  refine X_iadd 1374 hO dL_law_1373 rfl ?_
  refine X_sld (i := i + 1) 1375 hO hX hbl hbA (by omega) hL dL_law_1374 rfl (fun v1 hv1 hrv1 => ?_)
  refine X_callSX 1378 hO hD sL_pass [_, _] (rest := []) rfl dL_law_1375 rfl (L_pass hI hR hT hn hrv1) (by decide) (by decide) (by omega) (by omega) (fun v_ w1 hp => ?_)
  obtain ⟨k, rfl, hk, B, hm, hb, dd, hd, hM⟩ := hp
  have hkr : IR k := by omega
  show X κ _ _ _ 1378 _ [.int (I k)]
  refine X_istore 1380 hO dL_law_1378 rfl rfl ?_
  refine X_aload_n 1381 hO dL_law_1380 rfl rfl ?_
  refine X_aload_nR 1382 hO dL_law_1381 rfl rfl ?_
  refine X_iload 1384 hO dL_law_1382 rfl rfl ?_
  refine X_iconst 1385 hO dL_law_1384 rfl ?_
  refine X_iadd 1386 hO dL_law_1385 rfl ?_
  refine X_sld (i := i + 1) 1387 hO hX hbl hbA (by omega) hL dL_law_1386 rfl (fun u1 hu1 hru1 => ?_)
  rw [show u1 = v1 from hu1.trans hv1.symm]
  refine XM_callVv 1390 hO hD hm.2.1 lL_250 [_] (rest := []) rfl dL_law_1387 rfl (fun _ => hM) (by omega) (by decide) (fun w2 hp2 hR2 => ?_)
  subst w2
  have hlw := hm.lw hR2
  refine X_aload_n 1391 hO dL_law_1390 rfl rfl ?_
  refine XM_callVi 1394 hO hD hR2 lL_180 [] (rest := []) rfl dL_law_1391 rfl (c_thrown _ _ _) (by decide) (by decide) (fun t3 w3 ht3 hp3 hR3 => ?_)
  obtain ⟨e1, e2⟩ := hp3
  subst t3
  subst w3
  rw [show pc (KLw μ) w1 B 139 μ.1 0 = k from (pcm (by decide)).trans hb]
  refine X_iload 1396 hO dL_law_1394 rfl rfl ?_
  refine X_icmp_eq 1399 1401 hO dL_law_1396 rfl rfl hkr hkr (fun _ => ?_) (fun h => absurd rfl h)
  refine X_goto (tgt := 3096) hO dL_law_1401 rfl ?_
  exact X_wk (by simp only [lwk, lset, true_or, or_true, and_self]) (X_mono (by omega) (by omega) (kk _ hlw))
theorem la_22 (hO : Ok κ RL cL_law) (hD : Dp κ 60) (hs : SCR κ b L xs) (hw : LAW μ f o n w) (hn : 0 ≤ n ∧ n ≤ 511) (hi : 0 ≤ i ∧ i + 5 ≤ L) (kk : ∀ w', LAW μ f o (n + 1) w' → X κ P S w' 3096 (lsL b f μ o i) []) : X κ (P + 175) (S + 13300) w 1404 (lsL b f μ o i) [] := by
  obtain ⟨hX, hbl, hbA, hL⟩ := hs
  obtain ⟨A, hI, hR, hT⟩ := hw
  refine X_wi (fun hW => ?_)
  show X κ _ _ w 1404 [some (.ref b), some (rv f), some (rv μ.1), some (rv o), some (.int (I i)), none, none] []
  refine X_aload_n 1405 hO dL_law_1404 rfl rfl ?_
  refine X_aload_nR 1406 hO dL_law_1405 rfl rfl ?_
  refine X_iload 1408 hO dL_law_1406 rfl rfl ?_
  refine X_iconst 1409 hO dL_law_1408 rfl ?_
  refine X_iadd 1410 hO dL_law_1409 rfl ?_
  refine X_sld (i := i + 1) 1411 hO hX hbl hbA (by omega) hL dL_law_1410 rfl (fun v1 hv1 hrv1 => ?_)
  refine X_callSX 1414 hO hD sL_track [_, _] (rest := []) rfl dL_law_1411 rfl (L_track hI hR hT hn hrv1) (by decide) (by decide) (by omega) (by omega) (fun v_ w1 hp => ?_)
  obtain ⟨k, rfl, hk, B, hm, hb, dd, hd, hM⟩ := hp
  have hkr : IR k := by omega
  show X κ _ _ _ 1414 _ [.int (I k)]
  refine X_istore 1416 hO dL_law_1414 rfl rfl ?_
  refine X_aload_n 1417 hO dL_law_1416 rfl rfl ?_
  refine X_aload_nR 1418 hO dL_law_1417 rfl rfl ?_
  refine X_iload 1420 hO dL_law_1418 rfl rfl ?_
  refine X_iconst 1421 hO dL_law_1420 rfl ?_
  refine X_iadd 1422 hO dL_law_1421 rfl ?_
  refine X_sld (i := i + 1) 1423 hO hX hbl hbA (by omega) hL dL_law_1422 rfl (fun u1 hu1 hru1 => ?_)
  rw [show u1 = v1 from hu1.trans hv1.symm]
  refine XM_callVv 1426 hO hD hm.2.1 lL_253 [_] (rest := []) rfl dL_law_1423 rfl (fun _ => hM) (by omega) (by decide) (fun w2 hp2 hR2 => ?_)
  subst w2
  have hlw := hm.lw hR2
  refine X_aload_n 1427 hO dL_law_1426 rfl rfl ?_
  refine XM_callVi 1430 hO hD hR2 lL_180 [] (rest := []) rfl dL_law_1427 rfl (c_thrown _ _ _) (by decide) (by decide) (fun t3 w3 ht3 hp3 hR3 => ?_)
  obtain ⟨e1, e2⟩ := hp3
  subst t3
  subst w3
  rw [show pc (KLw μ) w1 B 139 μ.1 0 = k from (pcm (by decide)).trans hb]
  refine X_iload 1432 hO dL_law_1430 rfl rfl ?_
  refine X_icmp_eq 1435 1437 hO dL_law_1432 rfl rfl hkr hkr (fun _ => ?_) (fun h => absurd rfl h)
  refine X_goto (tgt := 3096) hO dL_law_1437 rfl ?_
  exact X_wk (by simp only [lwk, lset, true_or, or_true, and_self]) (X_mono (by omega) (by omega) (kk _ hlw))
theorem la_23 (hO : Ok κ RL cL_law) (hD : Dp κ 60) (hs : SCR κ b L xs) (hw : LAW μ f o n w) (hn : 0 ≤ n ∧ n ≤ 511) (hi : 0 ≤ i ∧ i + 5 ≤ L) (kk : ∀ w', LAW μ f o (n + 1) w' → X κ P S w' 3096 (lsL b f μ o i) []) : X κ (P + 175) (S + 13300) w 1440 (lsL b f μ o i) [] := by
  obtain ⟨hX, hbl, hbA, hL⟩ := hs
  obtain ⟨A, hI, hR, hT⟩ := hw
  refine X_wi (fun hW => ?_)
  show X κ _ _ w 1440 [some (.ref b), some (rv f), some (rv μ.1), some (rv o), some (.int (I i)), none, none] []
  refine X_aload_n 1441 hO dL_law_1440 rfl rfl ?_
  refine X_aload_n 1442 hO dL_law_1441 rfl rfl ?_
  refine X_callSX 1445 hO hD sL_undo [_, _] (rest := []) rfl dL_law_1442 rfl (L_undo hI hR hT hn) (by decide) (by decide) (by omega) (by omega) (fun v_ w1 hp => ?_)
  obtain ⟨k, r, w', x, rfl, hk, ⟨B, hm, hb, dd, hd, hM⟩, rfl, hxr⟩ := hp
  have hkr : IR k := by omega
  show X κ _ _ _ 1445 _ [.int (I k)]
  refine X_istore 1447 hO dL_law_1445 rfl rfl ?_
  refine X_aload_n 1448 hO dL_law_1447 rfl rfl ?_
  refine XM_callVi 1451 hO hD hm.2.1.up4 lL_256 [] (rest := []) rfl dL_law_1448 rfl (fun _ => hM x) (by omega) (by decide) (fun r2 w2 hr2 hp2 hR2 => ?_)
  obtain ⟨e1, e2⟩ := hp2
  subst r2
  subst w2
  have hlw := hm.up4.lw hR2
  refine X_istore 1453 hO dL_law_1451 rfl rfl ?_
  refine X_aload_n 1454 hO dL_law_1453 rfl rfl ?_
  refine XM_callVi 1457 hO hD hR2 lL_180 [] (rest := []) rfl dL_law_1454 rfl (c_thrown _ _ _) (by decide) (by decide) (fun t3 w3 ht3 hp3 hR3 => ?_)
  obtain ⟨e1, e2⟩ := hp3
  subst t3
  subst w3
  rw [show pc (KLw μ) (up w' 4 o 0 x) B 139 μ.1 0 = k from (pcm (by decide)).trans hb]
  refine X_iload 1459 hO dL_law_1457 rfl rfl ?_
  refine X_icmp_eq 1462 1464 hO dL_law_1459 rfl rfl hkr hkr (fun _ => ?_) (fun h => absurd rfl h)
  refine X_iload 1466 hO dL_law_1464 rfl rfl ?_
  refine X_if_ne 1469 1481 hO dL_law_1466 rfl rfl hkr (fun hk0 => ?_) (fun hk0 => ?_)
  · exact X_goto (tgt := 3096) hO dL_law_1481 rfl (X_wk (by simp only [lwk, lset, true_or, or_true, and_self]) (X_mono (by omega) (by omega) (kk _ hlw)))
  · have hx0 := hxr hk0
    refine X_aload_n 1470 hO dL_law_1469 rfl rfl ?_
    refine X_iconst 1471 hO dL_law_1470 rfl ?_
    refine X_lald (z := o) (i := 0) 1472 hO dL_law_1471 rfl hm.out2.1 (by rw [hm.out2.2]; decide) ?_
    rw [show pc (KLw μ) (up w' 4 o 0 x) B 4 o 0 = r from MID.at4.trans hx0]
    refine X_iload 1474 hO dL_law_1472 rfl rfl ?_
    refine X_i2l 1475 hO dL_law_1474 rfl hr2 ?_
    refine X_lcmpE 1476 hO dL_law_1475 rfl ?_
    exact X_if_eq 1479 1481 hO dL_law_1476 rfl rfl (by decide) (fun _ => X_goto (tgt := 3096) hO dL_law_1481 rfl (X_wk (by simp only [lwk, lset, true_or, or_true, and_self]) (X_mono (by omega) (by omega) (kk _ hlw)))) (fun h => absurd rfl h)
theorem la_24 (hO : Ok κ RL cL_law) (hD : Dp κ 60) (hs : SCR κ b L xs) (hw : LAW μ f o n w) (hn : 0 ≤ n ∧ n ≤ 511) (hi : 0 ≤ i ∧ i + 5 ≤ L) (kk : ∀ w', LAW μ f o (n + 1) w' → X κ P S w' 3096 (lsL b f μ o i) []) : X κ (P + 175) (S + 13300) w 1484 (lsL b f μ o i) [] := by
  obtain ⟨hX, hbl, hbA, hL⟩ := hs
  obtain ⟨A, hI, hR, hT⟩ := hw
  refine X_wi (fun hW => ?_)
  show X κ _ _ w 1484 [some (.ref b), some (rv f), some (rv μ.1), some (rv o), some (.int (I i)), none, none] []
  refine X_aload_n 1485 hO dL_law_1484 rfl rfl ?_
  refine X_aload_n 1486 hO dL_law_1485 rfl rfl ?_
  refine X_callSX 1489 hO hD sL_redo [_, _] (rest := []) rfl dL_law_1486 rfl (L_redo hI hR hT hn) (by decide) (by decide) (by omega) (by omega) (fun v_ w1 hp => ?_)
  obtain ⟨k, r, w', x, rfl, hk, ⟨B, hm, hb, dd, hd, hM⟩, rfl, hxr⟩ := hp
  have hkr : IR k := by omega
  show X κ _ _ _ 1489 _ [.int (I k)]
  refine X_istore 1491 hO dL_law_1489 rfl rfl ?_
  refine X_aload_n 1492 hO dL_law_1491 rfl rfl ?_
  refine XM_callVi 1495 hO hD hm.2.1.up4 lL_259 [] (rest := []) rfl dL_law_1492 rfl (fun _ => hM x) (by omega) (by decide) (fun r2 w2 hr2 hp2 hR2 => ?_)
  obtain ⟨e1, e2⟩ := hp2
  subst r2
  subst w2
  have hlw := hm.up4.lw hR2
  refine X_istore 1497 hO dL_law_1495 rfl rfl ?_
  refine X_aload_n 1498 hO dL_law_1497 rfl rfl ?_
  refine XM_callVi 1501 hO hD hR2 lL_180 [] (rest := []) rfl dL_law_1498 rfl (c_thrown _ _ _) (by decide) (by decide) (fun t3 w3 ht3 hp3 hR3 => ?_)
  obtain ⟨e1, e2⟩ := hp3
  subst t3
  subst w3
  rw [show pc (KLw μ) (up w' 4 o 0 x) B 139 μ.1 0 = k from (pcm (by decide)).trans hb]
  refine X_iload 1503 hO dL_law_1501 rfl rfl ?_
  refine X_icmp_eq 1506 1508 hO dL_law_1503 rfl rfl hkr hkr (fun _ => ?_) (fun h => absurd rfl h)
  refine X_iload 1510 hO dL_law_1508 rfl rfl ?_
  refine X_if_ne 1513 1525 hO dL_law_1510 rfl rfl hkr (fun hk0 => ?_) (fun hk0 => ?_)
  · exact X_goto (tgt := 3096) hO dL_law_1525 rfl (X_wk (by simp only [lwk, lset, true_or, or_true, and_self]) (X_mono (by omega) (by omega) (kk _ hlw)))
  · have hx0 := hxr hk0
    refine X_aload_n 1514 hO dL_law_1513 rfl rfl ?_
    refine X_iconst 1515 hO dL_law_1514 rfl ?_
    refine X_lald (z := o) (i := 0) 1516 hO dL_law_1515 rfl hm.out2.1 (by rw [hm.out2.2]; decide) ?_
    rw [show pc (KLw μ) (up w' 4 o 0 x) B 4 o 0 = r from MID.at4.trans hx0]
    refine X_iload 1518 hO dL_law_1516 rfl rfl ?_
    refine X_i2l 1519 hO dL_law_1518 rfl hr2 ?_
    refine X_lcmpE 1520 hO dL_law_1519 rfl ?_
    exact X_if_eq 1523 1525 hO dL_law_1520 rfl rfl (by decide) (fun _ => X_goto (tgt := 3096) hO dL_law_1525 rfl (X_wk (by simp only [lwk, lset, true_or, or_true, and_self]) (X_mono (by omega) (by omega) (kk _ hlw)))) (fun h => absurd rfl h)
theorem la_25 (hO : Ok κ RL cL_law) (hD : Dp κ 60) (hs : SCR κ b L xs) (hw : LAW μ f o n w) (hn : 0 ≤ n ∧ n ≤ 511) (hi : 0 ≤ i ∧ i + 5 ≤ L) (kk : ∀ w', LAW μ f o (n + 1) w' → X κ P S w' 3096 (lsL b f μ o i) []) : X κ (P + 175) (S + 13300) w 1528 (lsL b f μ o i) [] := by
  obtain ⟨hX, hbl, hbA, hL⟩ := hs
  obtain ⟨A, hI, hR, hT⟩ := hw
  refine X_wi (fun hW => ?_)
  show X κ _ _ w 1528 [some (.ref b), some (rv f), some (rv μ.1), some (rv o), some (.int (I i)), none, none] []
  refine X_aload_n 1529 hO dL_law_1528 rfl rfl ?_
  refine X_aload_nR 1530 hO dL_law_1529 rfl rfl ?_
  refine X_iload 1532 hO dL_law_1530 rfl rfl ?_
  refine X_iconst 1533 hO dL_law_1532 rfl ?_
  refine X_iadd 1534 hO dL_law_1533 rfl ?_
  refine X_sld (i := i + 1) 1535 hO hX hbl hbA (by omega) hL dL_law_1534 rfl (fun v1 hv1 hrv1 => ?_)
  refine X_aload_n 1536 hO dL_law_1535 rfl rfl ?_
  refine X_callSX 1539 hO hD sL_walk [_, _, _] (rest := []) rfl dL_law_1536 rfl (L_walk hI hR hT hn hrv1) (by decide) (by decide) (by omega) (by omega) (fun v_ w1 hp => ?_)
  obtain ⟨k, r, w', x, rfl, hk, ⟨B, hm, hb, dd, hd, hM⟩, rfl, hxr⟩ := hp
  have hkr : IR k := by omega
  show X κ _ _ _ 1539 _ [.int (I k)]
  refine X_istore 1541 hO dL_law_1539 rfl rfl ?_
  refine X_aload_n 1542 hO dL_law_1541 rfl rfl ?_
  refine X_aload_nR 1543 hO dL_law_1542 rfl rfl ?_
  refine X_iload 1545 hO dL_law_1543 rfl rfl ?_
  refine X_iconst 1546 hO dL_law_1545 rfl ?_
  refine X_iadd 1547 hO dL_law_1546 rfl ?_
  refine X_sld (i := i + 1) 1548 hO hX hbl hbA (by omega) hL dL_law_1547 rfl (fun u1 hu1 hru1 => ?_)
  rw [show u1 = v1 from hu1.trans hv1.symm]
  refine XM_callVi 1551 hO hD hm.2.1.up4 lL_262 [_] (rest := []) rfl dL_law_1548 rfl (fun _ => hM x) (by omega) (by decide) (fun r2 w2 hr2 hp2 hR2 => ?_)
  obtain ⟨e1, e2⟩ := hp2
  subst r2
  subst w2
  have hlw := hm.up4.lw hR2
  refine X_istore 1553 hO dL_law_1551 rfl rfl ?_
  refine X_aload_n 1554 hO dL_law_1553 rfl rfl ?_
  refine XM_callVi 1557 hO hD hR2 lL_180 [] (rest := []) rfl dL_law_1554 rfl (c_thrown _ _ _) (by decide) (by decide) (fun t3 w3 ht3 hp3 hR3 => ?_)
  obtain ⟨e1, e2⟩ := hp3
  subst t3
  subst w3
  rw [show pc (KLw μ) (up w' 4 o 0 x) B 139 μ.1 0 = k from (pcm (by decide)).trans hb]
  refine X_iload 1559 hO dL_law_1557 rfl rfl ?_
  refine X_icmp_eq 1562 1564 hO dL_law_1559 rfl rfl hkr hkr (fun _ => ?_) (fun h => absurd rfl h)
  refine X_iload 1566 hO dL_law_1564 rfl rfl ?_
  refine X_if_ne 1569 1581 hO dL_law_1566 rfl rfl hkr (fun hk0 => ?_) (fun hk0 => ?_)
  · exact X_goto (tgt := 3096) hO dL_law_1581 rfl (X_wk (by simp only [lwk, lset, true_or, or_true, and_self]) (X_mono (by omega) (by omega) (kk _ hlw)))
  · have hx0 := hxr hk0
    refine X_aload_n 1570 hO dL_law_1569 rfl rfl ?_
    refine X_iconst 1571 hO dL_law_1570 rfl ?_
    refine X_lald (z := o) (i := 0) 1572 hO dL_law_1571 rfl hm.out2.1 (by rw [hm.out2.2]; decide) ?_
    rw [show pc (KLw μ) (up w' 4 o 0 x) B 4 o 0 = r from MID.at4.trans hx0]
    refine X_iload 1574 hO dL_law_1572 rfl rfl ?_
    refine X_i2l 1575 hO dL_law_1574 rfl hr2 ?_
    refine X_lcmpE 1576 hO dL_law_1575 rfl ?_
    exact X_if_eq 1579 1581 hO dL_law_1576 rfl rfl (by decide) (fun _ => X_goto (tgt := 3096) hO dL_law_1581 rfl (X_wk (by simp only [lwk, lset, true_or, or_true, and_self]) (X_mono (by omega) (by omega) (kk _ hlw)))) (fun h => absurd rfl h)
theorem la_26 (hO : Ok κ RL cL_law) (hD : Dp κ 60) (hs : SCR κ b L xs) (hw : LAW μ f o n w) (hn : 0 ≤ n ∧ n ≤ 511) (hi : 0 ≤ i ∧ i + 5 ≤ L) (kk : ∀ w', LAW μ f o (n + 1) w' → X κ P S w' 3096 (lsL b f μ o i) []) : X κ (P + 175) (S + 13300) w 1584 (lsL b f μ o i) [] := by
  obtain ⟨hX, hbl, hbA, hL⟩ := hs
  obtain ⟨A, hI, hR, hT⟩ := hw
  refine X_wi (fun hW => ?_)
  show X κ _ _ w 1584 [some (.ref b), some (rv f), some (rv μ.1), some (rv o), some (.int (I i)), none, none] []
  refine X_aload_n 1585 hO dL_law_1584 rfl rfl ?_
  refine X_aload_nR 1586 hO dL_law_1585 rfl rfl ?_
  refine X_iload 1588 hO dL_law_1586 rfl rfl ?_
  refine X_iconst 1589 hO dL_law_1588 rfl ?_
  refine X_iadd 1590 hO dL_law_1589 rfl ?_
  refine X_sld (i := i + 1) 1591 hO hX hbl hbA (by omega) hL dL_law_1590 rfl (fun v1 hv1 hrv1 => ?_)
  refine X_aload_nR 1592 hO dL_law_1591 rfl rfl ?_
  refine X_iload 1594 hO dL_law_1592 rfl rfl ?_
  refine X_iconst 1595 hO dL_law_1594 rfl ?_
  refine X_iadd 1596 hO dL_law_1595 rfl ?_
  refine X_sld (i := i + 2) 1597 hO hX hbl hbA (by omega) hL dL_law_1596 rfl (fun v2 hv2 hrv2 => ?_)
  refine X_aload_n 1598 hO dL_law_1597 rfl rfl ?_
  refine X_callSX 1601 hO hD sL_undoIn [_, _, _, _] (rest := []) rfl dL_law_1598 rfl (L_undoIn hI hR hT hn hrv1 hrv2) (by decide) (by decide) (by omega) (by omega) (fun v_ w1 hp => ?_)
  obtain ⟨k, r, w', x, rfl, hk, ⟨B, hm, hb, dd, hd, hM⟩, rfl, hxr⟩ := hp
  have hkr : IR k := by omega
  show X κ _ _ _ 1601 _ [.int (I k)]
  refine X_istore 1603 hO dL_law_1601 rfl rfl ?_
  refine X_aload_n 1604 hO dL_law_1603 rfl rfl ?_
  refine X_aload_nR 1605 hO dL_law_1604 rfl rfl ?_
  refine X_iload 1607 hO dL_law_1605 rfl rfl ?_
  refine X_iconst 1608 hO dL_law_1607 rfl ?_
  refine X_iadd 1609 hO dL_law_1608 rfl ?_
  refine X_sld (i := i + 1) 1610 hO hX hbl hbA (by omega) hL dL_law_1609 rfl (fun u1 hu1 hru1 => ?_)
  rw [show u1 = v1 from hu1.trans hv1.symm]
  refine X_aload_nR 1611 hO dL_law_1610 rfl rfl ?_
  refine X_iload 1613 hO dL_law_1611 rfl rfl ?_
  refine X_iconst 1614 hO dL_law_1613 rfl ?_
  refine X_iadd 1615 hO dL_law_1614 rfl ?_
  refine X_sld (i := i + 2) 1616 hO hX hbl hbA (by omega) hL dL_law_1615 rfl (fun u2 hu2 hru2 => ?_)
  rw [show u2 = v2 from hu2.trans hv2.symm]
  refine XM_callVi 1619 hO hD hm.2.1.up4 lL_265 [_, _] (rest := []) rfl dL_law_1616 rfl (fun _ => hM x) (by omega) (by decide) (fun r2 w2 hr2 hp2 hR2 => ?_)
  obtain ⟨e1, e2⟩ := hp2
  subst r2
  subst w2
  have hlw := hm.up4.lw hR2
  refine X_istore 1621 hO dL_law_1619 rfl rfl ?_
  refine X_aload_n 1622 hO dL_law_1621 rfl rfl ?_
  refine XM_callVi 1625 hO hD hR2 lL_180 [] (rest := []) rfl dL_law_1622 rfl (c_thrown _ _ _) (by decide) (by decide) (fun t3 w3 ht3 hp3 hR3 => ?_)
  obtain ⟨e1, e2⟩ := hp3
  subst t3
  subst w3
  rw [show pc (KLw μ) (up w' 4 o 0 x) B 139 μ.1 0 = k from (pcm (by decide)).trans hb]
  refine X_iload 1627 hO dL_law_1625 rfl rfl ?_
  refine X_icmp_eq 1630 1632 hO dL_law_1627 rfl rfl hkr hkr (fun _ => ?_) (fun h => absurd rfl h)
  refine X_iload 1634 hO dL_law_1632 rfl rfl ?_
  refine X_if_ne 1637 1649 hO dL_law_1634 rfl rfl hkr (fun hk0 => ?_) (fun hk0 => ?_)
  · exact X_goto (tgt := 3096) hO dL_law_1649 rfl (X_wk (by simp only [lwk, lset, true_or, or_true, and_self]) (X_mono (by omega) (by omega) (kk _ hlw)))
  · have hx0 := hxr hk0
    refine X_aload_n 1638 hO dL_law_1637 rfl rfl ?_
    refine X_iconst 1639 hO dL_law_1638 rfl ?_
    refine X_lald (z := o) (i := 0) 1640 hO dL_law_1639 rfl hm.out2.1 (by rw [hm.out2.2]; decide) ?_
    rw [show pc (KLw μ) (up w' 4 o 0 x) B 4 o 0 = r from MID.at4.trans hx0]
    refine X_iload 1642 hO dL_law_1640 rfl rfl ?_
    refine X_i2l 1643 hO dL_law_1642 rfl hr2 ?_
    refine X_lcmpE 1644 hO dL_law_1643 rfl ?_
    exact X_if_eq 1647 1649 hO dL_law_1644 rfl rfl (by decide) (fun _ => X_goto (tgt := 3096) hO dL_law_1649 rfl (X_wk (by simp only [lwk, lset, true_or, or_true, and_self]) (X_mono (by omega) (by omega) (kk _ hlw)))) (fun h => absurd rfl h)
theorem la_27 (hO : Ok κ RL cL_law) (hD : Dp κ 60) (hs : SCR κ b L xs) (hw : LAW μ f o n w) (hn : 0 ≤ n ∧ n ≤ 511) (hi : 0 ≤ i ∧ i + 5 ≤ L) (kk : ∀ w', LAW μ f o (n + 1) w' → X κ P S w' 3096 (lsL b f μ o i) []) : X κ (P + 175) (S + 13300) w 1652 (lsL b f μ o i) [] := by
  obtain ⟨hX, hbl, hbA, hL⟩ := hs
  obtain ⟨A, hI, hR, hT⟩ := hw
  refine X_wi (fun hW => ?_)
  show X κ _ _ w 1652 [some (.ref b), some (rv f), some (rv μ.1), some (rv o), some (.int (I i)), none, none] []
  refine X_aload_n 1653 hO dL_law_1652 rfl rfl ?_
  refine X_aload_nR 1654 hO dL_law_1653 rfl rfl ?_
  refine X_iload 1656 hO dL_law_1654 rfl rfl ?_
  refine X_iconst 1657 hO dL_law_1656 rfl ?_
  refine X_iadd 1658 hO dL_law_1657 rfl ?_
  refine X_sld (i := i + 1) 1659 hO hX hbl hbA (by omega) hL dL_law_1658 rfl (fun v1 hv1 hrv1 => ?_)
  refine X_aload_n 1660 hO dL_law_1659 rfl rfl ?_
  refine X_callSX 1663 hO hD sL_setBookmark [_, _, _] (rest := []) rfl dL_law_1660 rfl (L_setBookmark hI hR hT hn hrv1) (by decide) (by decide) (by omega) (by omega) (fun v_ w1 hp => ?_)
  obtain ⟨k, r, w', x, rfl, hk, ⟨B, hm, hb, dd, hd, hM⟩, rfl, hxr⟩ := hp
  have hkr : IR k := by omega
  show X κ _ _ _ 1663 _ [.int (I k)]
  refine X_istore 1665 hO dL_law_1663 rfl rfl ?_
  refine X_aload_n 1666 hO dL_law_1665 rfl rfl ?_
  refine X_aload_nR 1667 hO dL_law_1666 rfl rfl ?_
  refine X_iload 1669 hO dL_law_1667 rfl rfl ?_
  refine X_iconst 1670 hO dL_law_1669 rfl ?_
  refine X_iadd 1671 hO dL_law_1670 rfl ?_
  refine X_sld (i := i + 1) 1672 hO hX hbl hbA (by omega) hL dL_law_1671 rfl (fun u1 hu1 hru1 => ?_)
  rw [show u1 = v1 from hu1.trans hv1.symm]
  refine XM_callVi 1675 hO hD hm.2.1.up4 lL_268 [_] (rest := []) rfl dL_law_1672 rfl (fun _ => hM x) (by omega) (by decide) (fun r2 w2 hr2 hp2 hR2 => ?_)
  obtain ⟨e1, e2⟩ := hp2
  subst r2
  subst w2
  have hlw := hm.up4.lw hR2
  refine X_istore 1677 hO dL_law_1675 rfl rfl ?_
  refine X_aload_n 1678 hO dL_law_1677 rfl rfl ?_
  refine XM_callVi 1681 hO hD hR2 lL_180 [] (rest := []) rfl dL_law_1678 rfl (c_thrown _ _ _) (by decide) (by decide) (fun t3 w3 ht3 hp3 hR3 => ?_)
  obtain ⟨e1, e2⟩ := hp3
  subst t3
  subst w3
  rw [show pc (KLw μ) (up w' 4 o 0 x) B 139 μ.1 0 = k from (pcm (by decide)).trans hb]
  refine X_iload 1683 hO dL_law_1681 rfl rfl ?_
  refine X_icmp_eq 1686 1688 hO dL_law_1683 rfl rfl hkr hkr (fun _ => ?_) (fun h => absurd rfl h)
  refine X_iload 1690 hO dL_law_1688 rfl rfl ?_
  refine X_if_ne 1693 1705 hO dL_law_1690 rfl rfl hkr (fun hk0 => ?_) (fun hk0 => ?_)
  · exact X_goto (tgt := 3096) hO dL_law_1705 rfl (X_wk (by simp only [lwk, lset, true_or, or_true, and_self]) (X_mono (by omega) (by omega) (kk _ hlw)))
  · have hx0 := hxr hk0
    refine X_aload_n 1694 hO dL_law_1693 rfl rfl ?_
    refine X_iconst 1695 hO dL_law_1694 rfl ?_
    refine X_lald (z := o) (i := 0) 1696 hO dL_law_1695 rfl hm.out2.1 (by rw [hm.out2.2]; decide) ?_
    rw [show pc (KLw μ) (up w' 4 o 0 x) B 4 o 0 = r from MID.at4.trans hx0]
    refine X_iload 1698 hO dL_law_1696 rfl rfl ?_
    refine X_i2l 1699 hO dL_law_1698 rfl hr2 ?_
    refine X_lcmpE 1700 hO dL_law_1699 rfl ?_
    exact X_if_eq 1703 1705 hO dL_law_1700 rfl rfl (by decide) (fun _ => X_goto (tgt := 3096) hO dL_law_1705 rfl (X_wk (by simp only [lwk, lset, true_or, or_true, and_self]) (X_mono (by omega) (by omega) (kk _ hlw)))) (fun h => absurd rfl h)
theorem la_28 (hO : Ok κ RL cL_law) (hD : Dp κ 60) (hs : SCR κ b L xs) (hw : LAW μ f o n w) (hn : 0 ≤ n ∧ n ≤ 511) (hi : 0 ≤ i ∧ i + 5 ≤ L) (kk : ∀ w', LAW μ f o (n + 1) w' → X κ P S w' 3096 (lsL b f μ o i) []) : X κ (P + 175) (S + 13300) w 1708 (lsL b f μ o i) [] := by
  obtain ⟨hX, hbl, hbA, hL⟩ := hs
  obtain ⟨A, hI, hR, hT⟩ := hw
  refine X_wi (fun hW => ?_)
  show X κ _ _ w 1708 [some (.ref b), some (rv f), some (rv μ.1), some (rv o), some (.int (I i)), none, none] []
  refine X_aload_n 1709 hO dL_law_1708 rfl rfl ?_
  refine X_aload_nR 1710 hO dL_law_1709 rfl rfl ?_
  refine X_iload 1712 hO dL_law_1710 rfl rfl ?_
  refine X_iconst 1713 hO dL_law_1712 rfl ?_
  refine X_iadd 1714 hO dL_law_1713 rfl ?_
  refine X_sld (i := i + 1) 1715 hO hX hbl hbA (by omega) hL dL_law_1714 rfl (fun v1 hv1 hrv1 => ?_)
  refine X_aload_n 1716 hO dL_law_1715 rfl rfl ?_
  refine X_callSX 1719 hO hD sL_clearBookmark [_, _, _] (rest := []) rfl dL_law_1716 rfl (L_clearBookmark hI hR hT hn hrv1) (by decide) (by decide) (by omega) (by omega) (fun v_ w1 hp => ?_)
  obtain ⟨k, r, w', x, rfl, hk, ⟨B, hm, hb, dd, hd, hM⟩, rfl, hxr⟩ := hp
  have hkr : IR k := by omega
  show X κ _ _ _ 1719 _ [.int (I k)]
  refine X_istore 1721 hO dL_law_1719 rfl rfl ?_
  refine X_aload_n 1722 hO dL_law_1721 rfl rfl ?_
  refine X_aload_nR 1723 hO dL_law_1722 rfl rfl ?_
  refine X_iload 1725 hO dL_law_1723 rfl rfl ?_
  refine X_iconst 1726 hO dL_law_1725 rfl ?_
  refine X_iadd 1727 hO dL_law_1726 rfl ?_
  refine X_sld (i := i + 1) 1728 hO hX hbl hbA (by omega) hL dL_law_1727 rfl (fun u1 hu1 hru1 => ?_)
  rw [show u1 = v1 from hu1.trans hv1.symm]
  refine XM_callVi 1731 hO hD hm.2.1.up4 lL_271 [_] (rest := []) rfl dL_law_1728 rfl (fun _ => hM x) (by omega) (by decide) (fun r2 w2 hr2 hp2 hR2 => ?_)
  obtain ⟨e1, e2⟩ := hp2
  subst r2
  subst w2
  have hlw := hm.up4.lw hR2
  refine X_istore 1733 hO dL_law_1731 rfl rfl ?_
  refine X_aload_n 1734 hO dL_law_1733 rfl rfl ?_
  refine XM_callVi 1737 hO hD hR2 lL_180 [] (rest := []) rfl dL_law_1734 rfl (c_thrown _ _ _) (by decide) (by decide) (fun t3 w3 ht3 hp3 hR3 => ?_)
  obtain ⟨e1, e2⟩ := hp3
  subst t3
  subst w3
  rw [show pc (KLw μ) (up w' 4 o 0 x) B 139 μ.1 0 = k from (pcm (by decide)).trans hb]
  refine X_iload 1739 hO dL_law_1737 rfl rfl ?_
  refine X_icmp_eq 1742 1744 hO dL_law_1739 rfl rfl hkr hkr (fun _ => ?_) (fun h => absurd rfl h)
  refine X_iload 1746 hO dL_law_1744 rfl rfl ?_
  refine X_if_ne 1749 1761 hO dL_law_1746 rfl rfl hkr (fun hk0 => ?_) (fun hk0 => ?_)
  · exact X_goto (tgt := 3096) hO dL_law_1761 rfl (X_wk (by simp only [lwk, lset, true_or, or_true, and_self]) (X_mono (by omega) (by omega) (kk _ hlw)))
  · have hx0 := hxr hk0
    refine X_aload_n 1750 hO dL_law_1749 rfl rfl ?_
    refine X_iconst 1751 hO dL_law_1750 rfl ?_
    refine X_lald (z := o) (i := 0) 1752 hO dL_law_1751 rfl hm.out2.1 (by rw [hm.out2.2]; decide) ?_
    rw [show pc (KLw μ) (up w' 4 o 0 x) B 4 o 0 = r from MID.at4.trans hx0]
    refine X_iload 1754 hO dL_law_1752 rfl rfl ?_
    refine X_i2l 1755 hO dL_law_1754 rfl hr2 ?_
    refine X_lcmpE 1756 hO dL_law_1755 rfl ?_
    exact X_if_eq 1759 1761 hO dL_law_1756 rfl rfl (by decide) (fun _ => X_goto (tgt := 3096) hO dL_law_1761 rfl (X_wk (by simp only [lwk, lset, true_or, or_true, and_self]) (X_mono (by omega) (by omega) (kk _ hlw)))) (fun h => absurd rfl h)
theorem la_29 (hO : Ok κ RL cL_law) (hD : Dp κ 60) (hs : SCR κ b L xs) (hw : LAW μ f o n w) (hn : 0 ≤ n ∧ n ≤ 511) (hi : 0 ≤ i ∧ i + 5 ≤ L) (kk : ∀ w', LAW μ f o (n + 1) w' → X κ P S w' 3096 (lsL b f μ o i) []) : X κ (P + 175) (S + 13300) w 1764 (lsL b f μ o i) [] := by
  obtain ⟨hX, hbl, hbA, hL⟩ := hs
  obtain ⟨A, hI, hR, hT⟩ := hw
  refine X_wi (fun hW => ?_)
  show X κ _ _ w 1764 [some (.ref b), some (rv f), some (rv μ.1), some (rv o), some (.int (I i)), none, none] []
  refine X_aload_n 1765 hO dL_law_1764 rfl rfl ?_
  refine X_aload_nR 1766 hO dL_law_1765 rfl rfl ?_
  refine X_iload 1768 hO dL_law_1766 rfl rfl ?_
  refine X_iconst 1769 hO dL_law_1768 rfl ?_
  refine X_iadd 1770 hO dL_law_1769 rfl ?_
  refine X_sld (i := i + 1) 1771 hO hX hbl hbA (by omega) hL dL_law_1770 rfl (fun v1 hv1 hrv1 => ?_)
  refine X_aload_n 1772 hO dL_law_1771 rfl rfl ?_
  refine X_callSX 1775 hO hD sL_setBudget [_, _, _] (rest := []) rfl dL_law_1772 rfl (L_setBudget hI hR hT hn hrv1) (by decide) (by decide) (by omega) (by omega) (fun v_ w1 hp => ?_)
  obtain ⟨k, r, w', x, rfl, hk, ⟨B, hm, hb, dd, hd, hM⟩, rfl, hxr⟩ := hp
  have hkr : IR k := by omega
  show X κ _ _ _ 1775 _ [.int (I k)]
  refine X_istore 1777 hO dL_law_1775 rfl rfl ?_
  refine X_aload_n 1778 hO dL_law_1777 rfl rfl ?_
  refine X_aload_nR 1779 hO dL_law_1778 rfl rfl ?_
  refine X_iload 1781 hO dL_law_1779 rfl rfl ?_
  refine X_iconst 1782 hO dL_law_1781 rfl ?_
  refine X_iadd 1783 hO dL_law_1782 rfl ?_
  refine X_sld (i := i + 1) 1784 hO hX hbl hbA (by omega) hL dL_law_1783 rfl (fun u1 hu1 hru1 => ?_)
  rw [show u1 = v1 from hu1.trans hv1.symm]
  refine XM_callVi 1787 hO hD hm.2.1.up4 lL_274 [_] (rest := []) rfl dL_law_1784 rfl (fun _ => hM x) (by omega) (by decide) (fun r2 w2 hr2 hp2 hR2 => ?_)
  obtain ⟨e1, e2⟩ := hp2
  subst r2
  subst w2
  have hlw := hm.up4.lw hR2
  refine X_istore 1789 hO dL_law_1787 rfl rfl ?_
  refine X_aload_n 1790 hO dL_law_1789 rfl rfl ?_
  refine XM_callVi 1793 hO hD hR2 lL_180 [] (rest := []) rfl dL_law_1790 rfl (c_thrown _ _ _) (by decide) (by decide) (fun t3 w3 ht3 hp3 hR3 => ?_)
  obtain ⟨e1, e2⟩ := hp3
  subst t3
  subst w3
  rw [show pc (KLw μ) (up w' 4 o 0 x) B 139 μ.1 0 = k from (pcm (by decide)).trans hb]
  refine X_iload 1795 hO dL_law_1793 rfl rfl ?_
  refine X_icmp_eq 1798 1800 hO dL_law_1795 rfl rfl hkr hkr (fun _ => ?_) (fun h => absurd rfl h)
  refine X_iload 1802 hO dL_law_1800 rfl rfl ?_
  refine X_if_ne 1805 1817 hO dL_law_1802 rfl rfl hkr (fun hk0 => ?_) (fun hk0 => ?_)
  · exact X_goto (tgt := 3096) hO dL_law_1817 rfl (X_wk (by simp only [lwk, lset, true_or, or_true, and_self]) (X_mono (by omega) (by omega) (kk _ hlw)))
  · have hx0 := hxr hk0
    refine X_aload_n 1806 hO dL_law_1805 rfl rfl ?_
    refine X_iconst 1807 hO dL_law_1806 rfl ?_
    refine X_lald (z := o) (i := 0) 1808 hO dL_law_1807 rfl hm.out2.1 (by rw [hm.out2.2]; decide) ?_
    rw [show pc (KLw μ) (up w' 4 o 0 x) B 4 o 0 = r from MID.at4.trans hx0]
    refine X_iload 1810 hO dL_law_1808 rfl rfl ?_
    refine X_i2l 1811 hO dL_law_1810 rfl hr2 ?_
    refine X_lcmpE 1812 hO dL_law_1811 rfl ?_
    exact X_if_eq 1815 1817 hO dL_law_1812 rfl rfl (by decide) (fun _ => X_goto (tgt := 3096) hO dL_law_1817 rfl (X_wk (by simp only [lwk, lset, true_or, or_true, and_self]) (X_mono (by omega) (by omega) (kk _ hlw)))) (fun h => absurd rfl h)
end LW1
