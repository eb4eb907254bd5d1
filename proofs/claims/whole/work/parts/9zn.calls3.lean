/-! calls of the law, on -/
set_option maxHeartbeats 4000000 in
set_option maxRecDepth 100000 in
theorem l_build {g : aw_G} {nm : String} {b L : Nat} {xs : Nat → Int32} {v m : Nat → Nat} {X : List Nat} {ow : Nat} (T : LwS g nm b L xs m X ow) {c : Nat} (hc : 6 * c + 6 ≤ L) {S : aw_S} {k n : Nat} (I : LI v m X ow c S k n) (q : NX g v m X ow b c) : aw g 7 S k n (lvL b (v 4) (m 33) ow (nI (6 * c))) [] 1054 := by
  have K := T.1
  have hL9 := T.2.2.2.2.1
  obtain ⟨ad, ar, PA, ρ, Z, P, hC, hM, hJ, o1, n1, hk, hn⟩ := I
  have hn9 : 20 * c + 20 < 1000000000 := by omega
  refine a_aload_n K dL_law_1054 rfl ?_
  refine a_arg T (j := 1) hc (by decide) (by decide) rfl rfl dL_law_1055 dL_law_1056 dL_law_1058 dL_law_1059 dL_law_1060 ?_
  refine a_arg T (j := 2) hc (by decide) (by decide) rfl rfl dL_law_1061 dL_law_1062 dL_law_1064 dL_law_1065 dL_law_1066 ?_
  refine a_invV K (c_build hC hJ.1 (i := xs (6 * c + 1)) (m := xs (6 * c + 2))) my_X10_build ml_L_106 im_X10_build se_X10_build (ci := 10) (lw_i4 hC.1) (by decide) ⟨_, _, rfl⟩ rfl (by omega) (by omega) (by omega) rfl (Nat.le_of_ble_eq_true rfl) dL_law_1067 ?_
  intro r S1 hp
  obtain ⟨ad2, ar2, rfl, hC1, kX⟩ := hp
  have hM1 := RM_kM hM (T.kM kX)
  have ow1 := T.ow kX o1 n1
  refine a_aload_n K dL_law_1070 rfl ?_
  refine a_arg T (j := 1) hc (by decide) (by decide) rfl rfl dL_law_1071 dL_law_1072 dL_law_1074 dL_law_1075 dL_law_1076 ?_
  refine a_arg T (j := 2) hc (by decide) (by decide) rfl rfl dL_law_1077 dL_law_1078 dL_law_1080 dL_law_1081 dL_law_1082 ?_
  refine a_invV K (q_build hM1 hJ (by omega) (by omega) (i := xs (6 * c + 1)) (mm := xs (6 * c + 2))) my_X11_build ml_L_109 im_X11_build se_X11_build (ci := 11) (lm_o hM1.1) (by decide) ⟨_, _, rfl⟩ rfl (by omega) (by omega) (by omega) rfl (Nat.le_of_ble_eq_true rfl) dL_law_1083 ?_
  intro r S2 hp
  obtain ⟨ρ2, Z2, rfl, hM2, f⟩ := hp
  have hC2 := hC1.own f T.mX
  have ow2 := frS.ow f ow1
  refine a_icmp_eq K dL_law_1086 (tgt := 2036) (by decide) (fun _ => ?_) (fun z => absurd rfl z)
  exact q _ _ _ (LI.mk (by omega) hC2 hM2 (by omega) (by omega) (PJ_bldB hJ hn9 _ _ (fun j hj => (bAt_lt hj))) ow2.1 ow2.2 (by omega) (by omega))
set_option maxHeartbeats 4000000 in
set_option maxRecDepth 100000 in
theorem l_lay {g : aw_G} {nm : String} {b L : Nat} {xs : Nat → Int32} {v m : Nat → Nat} {X : List Nat} {ow : Nat} (T : LwS g nm b L xs m X ow) {c : Nat} (hc : 6 * c + 6 ≤ L) {S : aw_S} {k n : Nat} (I : LI v m X ow c S k n) (q : NX g v m X ow b c) : aw g 7 S k n (lvL b (v 4) (m 33) ow (nI (6 * c))) [] 1091 := by
  have K := T.1
  have hL9 := T.2.2.2.2.1
  obtain ⟨ad, ar, PA, ρ, Z, P, hC, hM, hJ, o1, n1, hk, hn⟩ := I
  have hn9 : 20 * c + 20 < 1000000000 := by omega
  refine a_aload_n K dL_law_1091 rfl ?_
  refine a_arg T (j := 1) hc (by decide) (by decide) rfl rfl dL_law_1092 dL_law_1093 dL_law_1095 dL_law_1096 dL_law_1097 ?_
  refine a_arg T (j := 2) hc (by decide) (by decide) rfl rfl dL_law_1098 dL_law_1099 dL_law_1101 dL_law_1102 dL_law_1103 ?_
  refine a_arg T (j := 3) hc (by decide) (by decide) rfl rfl dL_law_1104 dL_law_1105 dL_law_1107 dL_law_1108 dL_law_1109 ?_
  refine a_invV K (c_lay hC hJ.1 (i := xs (6 * c + 1)) (k := xs (6 * c + 2)) (w := xs (6 * c + 3))) my_X10_lay ml_L_110 im_X10_lay se_X10_lay (ci := 10) (lw_i4 hC.1) (by decide) ⟨_, _, rfl⟩ rfl (by omega) (by omega) (by omega) rfl (Nat.le_of_ble_eq_true rfl) dL_law_1110 ?_
  intro r S1 hp
  obtain ⟨ad2, ar2, rfl, hC1, kX⟩ := hp
  have hM1 := RM_kM hM (T.kM kX)
  have ow1 := T.ow kX o1 n1
  refine a_aload_n K dL_law_1113 rfl ?_
  refine a_arg T (j := 1) hc (by decide) (by decide) rfl rfl dL_law_1114 dL_law_1115 dL_law_1117 dL_law_1118 dL_law_1119 ?_
  refine a_arg T (j := 2) hc (by decide) (by decide) rfl rfl dL_law_1120 dL_law_1121 dL_law_1123 dL_law_1124 dL_law_1125 ?_
  refine a_arg T (j := 3) hc (by decide) (by decide) rfl rfl dL_law_1126 dL_law_1127 dL_law_1129 dL_law_1130 dL_law_1131 ?_
  refine a_invV K (q_lay hM1 hJ (by omega) (i := xs (6 * c + 1)) (k := xs (6 * c + 2)) (w := xs (6 * c + 3))) my_X11_lay ml_L_113 im_X11_lay se_X11_lay (ci := 11) (lm_o hM1.1) (by decide) ⟨_, _, rfl⟩ rfl (by omega) (by omega) (by omega) rfl (Nat.le_of_ble_eq_true rfl) dL_law_1132 ?_
  intro r S2 hp
  obtain ⟨ρ2, Z2, rfl, hM2, f⟩ := hp
  have hC2 := hC1.own f T.mX
  have ow2 := frS.ow f ow1
  refine a_icmp_eq K dL_law_1135 (tgt := 2036) (by decide) (fun _ => ?_) (fun z => absurd rfl z)
  exact q _ _ _ (LI.mk (by omega) hC2 hM2 (by omega) (by omega) (PJ_bldG hJ _ _ _ (fun j b hb hx => PJ_lay hJ hb hx)) ow2.1 ow2.2 (by omega) (by omega))
set_option maxHeartbeats 4000000 in
set_option maxRecDepth 100000 in
theorem l_take {g : aw_G} {nm : String} {b L : Nat} {xs : Nat → Int32} {v m : Nat → Nat} {X : List Nat} {ow : Nat} (T : LwS g nm b L xs m X ow) {c : Nat} (hc : 6 * c + 6 ≤ L) {S : aw_S} {k n : Nat} (I : LI v m X ow c S k n) (q : NX g v m X ow b c) : aw g 7 S k n (lvL b (v 4) (m 33) ow (nI (6 * c))) [] 1140 := by
  have K := T.1
  have hL9 := T.2.2.2.2.1
  obtain ⟨ad, ar, PA, ρ, Z, P, hC, hM, hJ, o1, n1, hk, hn⟩ := I
  have hn9 : 20 * c + 20 < 1000000000 := by omega
  refine a_aload_n K dL_law_1140 rfl ?_
  refine a_arg T (j := 1) hc (by decide) (by decide) rfl rfl dL_law_1141 dL_law_1142 dL_law_1144 dL_law_1145 dL_law_1146 ?_
  refine a_arg T (j := 2) hc (by decide) (by decide) rfl rfl dL_law_1147 dL_law_1148 dL_law_1150 dL_law_1151 dL_law_1152 ?_
  refine a_invV K (c_take hC hJ.1 (i := xs (6 * c + 1)) (k := xs (6 * c + 2))) my_X10_take ml_L_114 im_X10_take se_X10_take (ci := 10) (lw_i4 hC.1) (by decide) ⟨_, _, rfl⟩ rfl (by omega) (by omega) (by omega) rfl (Nat.le_of_ble_eq_true rfl) dL_law_1153 ?_
  intro r S1 hp
  obtain ⟨ad2, ar2, rfl, hC1, kX⟩ := hp
  have hM1 := RM_kM hM (T.kM kX)
  have ow1 := T.ow kX o1 n1
  refine a_aload_n K dL_law_1156 rfl ?_
  refine a_arg T (j := 1) hc (by decide) (by decide) rfl rfl dL_law_1157 dL_law_1158 dL_law_1160 dL_law_1161 dL_law_1162 ?_
  refine a_arg T (j := 2) hc (by decide) (by decide) rfl rfl dL_law_1163 dL_law_1164 dL_law_1166 dL_law_1167 dL_law_1168 ?_
  refine a_invV K (q_take hM1 hJ (by omega) (i := xs (6 * c + 1)) (k := xs (6 * c + 2))) my_X11_take ml_L_117 im_X11_take se_X11_take (ci := 11) (lm_o hM1.1) (by decide) ⟨_, _, rfl⟩ rfl (by omega) (by omega) (by omega) rfl (Nat.le_of_ble_eq_true rfl) dL_law_1169 ?_
  intro r S2 hp
  obtain ⟨ρ2, Z2, rfl, hM2, f⟩ := hp
  have hC2 := hC1.own f T.mX
  have ow2 := frS.ow f ow1
  refine a_icmp_eq K dL_law_1172 (tgt := 2036) (by decide) (fun _ => ?_) (fun z => absurd rfl z)
  exact q _ _ _ (LI.mk (by omega) hC2 hM2 (by omega) (by omega) (PJ_bldG hJ _ _ _ (fun j b hb _ => PJ_cut hJ hb)) ow2.1 ow2.2 (by omega) (by omega))
set_option maxHeartbeats 4000000 in
set_option maxRecDepth 100000 in
theorem l_add {g : aw_G} {nm : String} {b L : Nat} {xs : Nat → Int32} {v m : Nat → Nat} {X : List Nat} {ow : Nat} (T : LwS g nm b L xs m X ow) {c : Nat} (hc : 6 * c + 6 ≤ L) {S : aw_S} {k n : Nat} (I : LI v m X ow c S k n) (q : NX g v m X ow b c) : aw g 7 S k n (lvL b (v 4) (m 33) ow (nI (6 * c))) [] 1177 := by
  have K := T.1
  have hL9 := T.2.2.2.2.1
  obtain ⟨ad, ar, PA, ρ, Z, P, hC, hM, hJ, o1, n1, hk, hn⟩ := I
  have hn9 : 20 * c + 20 < 1000000000 := by omega
  refine a_aload_n K dL_law_1177 rfl ?_
  refine a_arg T (j := 1) hc (by decide) (by decide) rfl rfl dL_law_1178 dL_law_1179 dL_law_1181 dL_law_1182 dL_law_1183 ?_
  refine a_arg T (j := 2) hc (by decide) (by decide) rfl rfl dL_law_1184 dL_law_1185 dL_law_1187 dL_law_1188 dL_law_1189 ?_
  refine a_arg T (j := 3) hc (by decide) (by decide) rfl rfl dL_law_1190 dL_law_1191 dL_law_1193 dL_law_1194 dL_law_1195 ?_
  refine a_invV K (c_add hC hJ.1 (i := xs (6 * c + 1)) (k := xs (6 * c + 2)) (w := xs (6 * c + 3))) my_X10_add ml_L_118 im_X10_add se_X10_add (ci := 10) (lw_i4 hC.1) (by decide) ⟨_, _, rfl⟩ rfl (by omega) (by omega) (by omega) rfl (Nat.le_of_ble_eq_true rfl) dL_law_1196 ?_
  intro r S1 hp
  obtain ⟨ad2, ar2, rfl, hC1, kX⟩ := hp
  have hM1 := RM_kM hM (T.kM kX)
  have ow1 := T.ow kX o1 n1
  refine a_aload_n K dL_law_1199 rfl ?_
  refine a_arg T (j := 1) hc (by decide) (by decide) rfl rfl dL_law_1200 dL_law_1201 dL_law_1203 dL_law_1204 dL_law_1205 ?_
  refine a_arg T (j := 2) hc (by decide) (by decide) rfl rfl dL_law_1206 dL_law_1207 dL_law_1209 dL_law_1210 dL_law_1211 ?_
  refine a_arg T (j := 3) hc (by decide) (by decide) rfl rfl dL_law_1212 dL_law_1213 dL_law_1215 dL_law_1216 dL_law_1217 ?_
  refine a_invV K (q_add hM1 hJ (by omega) (i := xs (6 * c + 1)) (k := xs (6 * c + 2)) (w := xs (6 * c + 3))) my_X11_add ml_L_121 im_X11_add se_X11_add (ci := 11) (lm_o hM1.1) (by decide) ⟨_, _, rfl⟩ rfl (by omega) (by omega) (by omega) rfl (Nat.le_of_ble_eq_true rfl) dL_law_1218 ?_
  intro r S2 hp
  obtain ⟨ρ2, Z2, rfl, hM2, f⟩ := hp
  have hC2 := hC1.own f T.mX
  have ow2 := frS.ow f ow1
  refine a_icmp_eq K dL_law_1221 (tgt := 2036) (by decide) (fun _ => ?_) (fun z => absurd rfl z)
  exact q _ _ _ (LI.mk (by omega) hC2 hM2 (by omega) (by omega) (PJ_bldG hJ _ _ _ (fun j b hb hx => PJ_ad hJ hb hx)) ow2.1 ow2.2 (by omega) (by omega))
set_option maxHeartbeats 4000000 in
set_option maxRecDepth 100000 in
theorem l_cut {g : aw_G} {nm : String} {b L : Nat} {xs : Nat → Int32} {v m : Nat → Nat} {X : List Nat} {ow : Nat} (T : LwS g nm b L xs m X ow) {c : Nat} (hc : 6 * c + 6 ≤ L) {S : aw_S} {k n : Nat} (I : LI v m X ow c S k n) (q : NX g v m X ow b c) : aw g 7 S k n (lvL b (v 4) (m 33) ow (nI (6 * c))) [] 1226 := by
  have K := T.1
  have hL9 := T.2.2.2.2.1
  obtain ⟨ad, ar, PA, ρ, Z, P, hC, hM, hJ, o1, n1, hk, hn⟩ := I
  have hn9 : 20 * c + 20 < 1000000000 := by omega
  refine a_aload_n K dL_law_1226 rfl ?_
  refine a_arg T (j := 1) hc (by decide) (by decide) rfl rfl dL_law_1227 dL_law_1228 dL_law_1230 dL_law_1231 dL_law_1232 ?_
  refine a_arg T (j := 2) hc (by decide) (by decide) rfl rfl dL_law_1233 dL_law_1234 dL_law_1236 dL_law_1237 dL_law_1238 ?_
  refine a_arg T (j := 3) hc (by decide) (by decide) rfl rfl dL_law_1239 dL_law_1240 dL_law_1242 dL_law_1243 dL_law_1244 ?_
  refine a_invV K (c_cut hC hJ.1 (i := xs (6 * c + 1)) (a := xs (6 * c + 2)) (c := xs (6 * c + 3))) my_X10_cut ml_L_122 im_X10_cut se_X10_cut (ci := 10) (lw_i4 hC.1) (by decide) ⟨_, _, rfl⟩ rfl (by omega) (by omega) (by omega) rfl (Nat.le_of_ble_eq_true rfl) dL_law_1245 ?_
  intro r S1 hp
  obtain ⟨ad2, ar2, rfl, hC1, kX⟩ := hp
  have hM1 := RM_kM hM (T.kM kX)
  have ow1 := T.ow kX o1 n1
  refine a_aload_n K dL_law_1248 rfl ?_
  refine a_arg T (j := 1) hc (by decide) (by decide) rfl rfl dL_law_1249 dL_law_1250 dL_law_1252 dL_law_1253 dL_law_1254 ?_
  refine a_arg T (j := 2) hc (by decide) (by decide) rfl rfl dL_law_1255 dL_law_1256 dL_law_1258 dL_law_1259 dL_law_1260 ?_
  refine a_arg T (j := 3) hc (by decide) (by decide) rfl rfl dL_law_1261 dL_law_1262 dL_law_1264 dL_law_1265 dL_law_1266 ?_
  refine a_invV K (q_cut hM1 hJ (by omega) (i := xs (6 * c + 1)) (a := xs (6 * c + 2)) (c := xs (6 * c + 3))) my_X11_cut ml_L_125 im_X11_cut se_X11_cut (ci := 11) (lm_o hM1.1) (by decide) ⟨_, _, rfl⟩ rfl (by omega) (by omega) (by omega) rfl (Nat.le_of_ble_eq_true rfl) dL_law_1267 ?_
  intro r S2 hp
  obtain ⟨ρ2, Z2, rfl, hM2, f⟩ := hp
  have hC2 := hC1.own f T.mX
  have ow2 := frS.ow f ow1
  refine a_icmp_eq K dL_law_1270 (tgt := 2036) (by decide) (fun _ => ?_) (fun z => absurd rfl z)
  exact q _ _ _ (LI.mk (by omega) hC2 hM2 (by omega) (by omega) (PJ_bldG hJ _ _ _ (fun j b hb _ => PJ_cut hJ hb)) ow2.1 ow2.2 (by omega) (by omega))
set_option maxHeartbeats 4000000 in
set_option maxRecDepth 100000 in
theorem l_inc {g : aw_G} {nm : String} {b L : Nat} {xs : Nat → Int32} {v m : Nat → Nat} {X : List Nat} {ow : Nat} (T : LwS g nm b L xs m X ow) {c : Nat} (hc : 6 * c + 6 ≤ L) {S : aw_S} {k n : Nat} (I : LI v m X ow c S k n) (q : NX g v m X ow b c) : aw g 7 S k n (lvL b (v 4) (m 33) ow (nI (6 * c))) [] 1275 := by
  have K := T.1
  have hL9 := T.2.2.2.2.1
  obtain ⟨ad, ar, PA, ρ, Z, P, hC, hM, hJ, o1, n1, hk, hn⟩ := I
  have hn9 : 20 * c + 20 < 1000000000 := by omega
  refine a_aload_n K dL_law_1275 rfl ?_
  refine a_arg T (j := 1) hc (by decide) (by decide) rfl rfl dL_law_1276 dL_law_1277 dL_law_1279 dL_law_1280 dL_law_1281 ?_
  refine a_arg T (j := 2) hc (by decide) (by decide) rfl rfl dL_law_1282 dL_law_1283 dL_law_1285 dL_law_1286 dL_law_1287 ?_
  refine a_arg T (j := 3) hc (by decide) (by decide) rfl rfl dL_law_1288 dL_law_1289 dL_law_1291 dL_law_1292 dL_law_1293 ?_
  refine a_arg T (j := 4) hc (by decide) (by decide) rfl rfl dL_law_1294 dL_law_1295 dL_law_1297 dL_law_1298 dL_law_1299 ?_
  refine a_invV K (c_inc hC hJ.1 (i := xs (6 * c + 1)) (a := xs (6 * c + 2)) (c := xs (6 * c + 3)) (w := xs (6 * c + 4))) my_X10_inc ml_L_126 im_X10_inc se_X10_inc (ci := 10) (lw_i4 hC.1) (by decide) ⟨_, _, rfl⟩ rfl (by omega) (by omega) (by omega) rfl (Nat.le_of_ble_eq_true rfl) dL_law_1300 ?_
  intro r S1 hp
  obtain ⟨ad2, ar2, rfl, hC1, kX⟩ := hp
  have hM1 := RM_kM hM (T.kM kX)
  have ow1 := T.ow kX o1 n1
  refine a_aload_n K dL_law_1303 rfl ?_
  refine a_arg T (j := 1) hc (by decide) (by decide) rfl rfl dL_law_1304 dL_law_1305 dL_law_1307 dL_law_1308 dL_law_1309 ?_
  refine a_arg T (j := 2) hc (by decide) (by decide) rfl rfl dL_law_1310 dL_law_1311 dL_law_1313 dL_law_1314 dL_law_1315 ?_
  refine a_arg T (j := 3) hc (by decide) (by decide) rfl rfl dL_law_1316 dL_law_1317 dL_law_1319 dL_law_1320 dL_law_1321 ?_
  refine a_arg T (j := 4) hc (by decide) (by decide) rfl rfl dL_law_1322 dL_law_1323 dL_law_1325 dL_law_1326 dL_law_1327 ?_
  refine a_invV K (q_inc hM1 hJ (by omega) (i := xs (6 * c + 1)) (a := xs (6 * c + 2)) (c := xs (6 * c + 3)) (d := xs (6 * c + 4))) my_X11_inc ml_L_129 im_X11_inc se_X11_inc (ci := 11) (lm_o hM1.1) (by decide) ⟨_, _, rfl⟩ rfl (by omega) (by omega) (by omega) rfl (Nat.le_of_ble_eq_true rfl) dL_law_1328 ?_
  intro r S2 hp
  obtain ⟨ρ2, Z2, rfl, hM2, f⟩ := hp
  have hC2 := hC1.own f T.mX
  have ow2 := frS.ow f ow1
  refine a_icmp_eq K dL_law_1331 (tgt := 2036) (by decide) (fun _ => ?_) (fun z => absurd rfl z)
  exact q _ _ _ (LI.mk (by omega) hC2 hM2 (by omega) (by omega) (PJ_bldG hJ _ _ _ (fun j b hb _ => PJ_inc hJ hb)) ow2.1 ow2.2 (by omega) (by omega))
set_option maxHeartbeats 4000000 in
set_option maxRecDepth 100000 in
theorem l_snap {g : aw_G} {nm : String} {b L : Nat} {xs : Nat → Int32} {v m : Nat → Nat} {X : List Nat} {ow : Nat} (T : LwS g nm b L xs m X ow) {c : Nat} (hc : 6 * c + 6 ≤ L) {S : aw_S} {k n : Nat} (I : LI v m X ow c S k n) (q : NX g v m X ow b c) : aw g 7 S k n (lvL b (v 4) (m 33) ow (nI (6 * c))) [] 1336 := by
  have K := T.1
  have hL9 := T.2.2.2.2.1
  obtain ⟨ad, ar, PA, ρ, Z, P, hC, hM, hJ, o1, n1, hk, hn⟩ := I
  have hn9 : 20 * c + 20 < 1000000000 := by omega
  refine a_aload_n K dL_law_1336 rfl ?_
  refine a_arg T (j := 1) hc (by decide) (by decide) rfl rfl dL_law_1337 dL_law_1338 dL_law_1340 dL_law_1341 dL_law_1342 ?_
  refine a_invV K (c_snap hC (i := xs (6 * c + 1))) my_X10_snap ml_L_130 im_X10_snap se_X10_snap (ci := 10) (lw_i4 hC.1) (by decide) ⟨_, _, rfl⟩ rfl (by omega) (by omega) (by omega) rfl (Nat.le_of_ble_eq_true rfl) dL_law_1343 ?_
  intro r S1 hp
  obtain ⟨ad2, ar2, rfl, hC1, kX⟩ := hp
  have hM1 := RM_kM hM (T.kM kX)
  have ow1 := T.ow kX o1 n1
  refine a_aload_n K dL_law_1346 rfl ?_
  refine a_arg T (j := 1) hc (by decide) (by decide) rfl rfl dL_law_1347 dL_law_1348 dL_law_1350 dL_law_1351 dL_law_1352 ?_
  refine a_invV K (q_snap hM1 hJ (by omega) (i := xs (6 * c + 1))) my_X11_snap ml_L_133 im_X11_snap se_X11_snap (ci := 11) (lm_o hM1.1) (by decide) ⟨_, _, rfl⟩ rfl (by omega) (by omega) (by omega) rfl (Nat.le_of_ble_eq_true rfl) dL_law_1353 ?_
  intro r S2 hp
  obtain ⟨ρ2, Z2, rfl, hM2, f⟩ := hp
  have hC2 := hC1.own f T.mX
  have ow2 := frS.ow f ow1
  refine a_icmp_eq K dL_law_1356 (tgt := 2036) (by decide) (fun _ => ?_) (fun z => absurd rfl z)
  exact q _ _ _ (LI.mk (by omega) hC2 hM2 (by omega) (by omega) (PJ_bldG hJ _ _ _ (fun j b hb _ => PJ_snp hJ hn9 hb)) ow2.1 ow2.2 (by omega) (by omega))
set_option maxHeartbeats 4000000 in
set_option maxRecDepth 100000 in
theorem l_freeze {g : aw_G} {nm : String} {b L : Nat} {xs : Nat → Int32} {v m : Nat → Nat} {X : List Nat} {ow : Nat} (T : LwS g nm b L xs m X ow) {c : Nat} (hc : 6 * c + 6 ≤ L) {S : aw_S} {k n : Nat} (I : LI v m X ow c S k n) (q : NX g v m X ow b c) : aw g 7 S k n (lvL b (v 4) (m 33) ow (nI (6 * c))) [] 1361 := by
  have K := T.1
  have hL9 := T.2.2.2.2.1
  obtain ⟨ad, ar, PA, ρ, Z, P, hC, hM, hJ, o1, n1, hk, hn⟩ := I
  have hn9 : 20 * c + 20 < 1000000000 := by omega
  refine a_aload_n K dL_law_1361 rfl ?_
  refine a_arg T (j := 1) hc (by decide) (by decide) rfl rfl dL_law_1362 dL_law_1363 dL_law_1365 dL_law_1366 dL_law_1367 ?_
  refine a_invV K (c_freeze hC (i := xs (6 * c + 1))) my_X10_freeze ml_L_134 im_X10_freeze se_X10_freeze (ci := 10) (lw_i4 hC.1) (by decide) ⟨_, _, rfl⟩ rfl (by omega) (by omega) (by omega) rfl (Nat.le_of_ble_eq_true rfl) dL_law_1368 ?_
  intro r S1 hp
  obtain ⟨ad2, ar2, rfl, hC1, kX⟩ := hp
  have hM1 := RM_kM hM (T.kM kX)
  have ow1 := T.ow kX o1 n1
  refine a_aload_n K dL_law_1371 rfl ?_
  refine a_arg T (j := 1) hc (by decide) (by decide) rfl rfl dL_law_1372 dL_law_1373 dL_law_1375 dL_law_1376 dL_law_1377 ?_
  refine a_invV K (q_freeze hM1 hJ (by omega) (i := xs (6 * c + 1))) my_X11_freeze ml_L_137 im_X11_freeze se_X11_freeze (ci := 11) (lm_o hM1.1) (by decide) ⟨_, _, rfl⟩ rfl (by omega) (by omega) (by omega) rfl (Nat.le_of_ble_eq_true rfl) dL_law_1378 ?_
  intro r S2 hp
  obtain ⟨ρ2, Z2, rfl, hM2, f⟩ := hp
  have hC2 := hC1.own f T.mX
  have ow2 := frS.ow f ow1
  refine a_icmp_eq K dL_law_1381 (tgt := 2036) (by decide) (fun _ => ?_) (fun z => absurd rfl z)
  exact q _ _ _ (LI.mk (by omega) hC2 hM2 (by omega) (by omega) (PJ_bldG hJ _ _ _ (fun j b hb _ => PJ_frz hJ hn9 hb)) ow2.1 ow2.2 (by omega) (by omega))
set_option maxHeartbeats 4000000 in
set_option maxRecDepth 100000 in
theorem l_peek {g : aw_G} {nm : String} {b L : Nat} {xs : Nat → Int32} {v m : Nat → Nat} {X : List Nat} {ow : Nat} (T : LwS g nm b L xs m X ow) {c : Nat} (hc : 6 * c + 6 ≤ L) {S : aw_S} {k n : Nat} (I : LI v m X ow c S k n) (q : NX g v m X ow b c) : aw g 7 S k n (lvL b (v 4) (m 33) ow (nI (6 * c))) [] 1386 := by
  have K := T.1
  have hL9 := T.2.2.2.2.1
  obtain ⟨ad, ar, PA, ρ, Z, P, hC, hM, hJ, o1, n1, hk, hn⟩ := I
  have hn9 : 20 * c + 20 < 1000000000 := by omega
  refine a_aload_n K dL_law_1386 rfl ?_
  refine a_arg T (j := 1) hc (by decide) (by decide) rfl rfl dL_law_1387 dL_law_1388 dL_law_1390 dL_law_1391 dL_law_1392 ?_
  refine a_arg T (j := 2) hc (by decide) (by decide) rfl rfl dL_law_1393 dL_law_1394 dL_law_1396 dL_law_1397 dL_law_1398 ?_
  refine a_invV K (c_peek hC hJ.1 (i := xs (6 * c + 1)) (k := xs (6 * c + 2))) my_X10_peek ml_L_138 im_X10_peek se_X10_peek (ci := 10) (lw_i4 hC.1) (by decide) ⟨_, _, rfl⟩ rfl (by omega) (by omega) (by omega) rfl (Nat.le_of_ble_eq_true rfl) dL_law_1399 ?_
  intro r S1 hp
  obtain ⟨rfl, hC1, kX⟩ := hp
  have hM1 := RM_kM hM (T.kM kX)
  have ow1 := T.ow kX o1 n1
  refine a_aload_n K dL_law_1402 rfl ?_
  refine a_arg T (j := 1) hc (by decide) (by decide) rfl rfl dL_law_1403 dL_law_1404 dL_law_1406 dL_law_1407 dL_law_1408 ?_
  refine a_arg T (j := 2) hc (by decide) (by decide) rfl rfl dL_law_1409 dL_law_1410 dL_law_1412 dL_law_1413 dL_law_1414 ?_
  refine a_invV K (q_peek hM1 hJ (i := xs (6 * c + 1)) (k := xs (6 * c + 2))) my_X11_peek ml_L_141 im_X11_peek se_X11_peek (ci := 11) (lm_o hM1.1) (by decide) ⟨_, _, rfl⟩ rfl (by omega) (by omega) (by omega) rfl (Nat.le_of_ble_eq_true rfl) dL_law_1415 ?_
  intro r S2 hp
  obtain ⟨rfl, hM2, f⟩ := hp
  have hC2 := hC1.own f T.mX
  have ow2 := frS.ow f ow1
  refine a_icmp_eq K dL_law_1418 (tgt := 2036) (by decide) (fun _ => ?_) (fun z => absurd rfl z)
  exact q _ _ _ (LI.mk (by omega) hC2 hM2 (by omega) (by omega) (hJ.up (Nat.le_add_right _ 20)) ow2.1 ow2.2 (by omega) (by omega))
set_option maxHeartbeats 4000000 in
set_option maxRecDepth 100000 in
theorem l_builder {g : aw_G} {nm : String} {b L : Nat} {xs : Nat → Int32} {v m : Nat → Nat} {X : List Nat} {ow : Nat} (T : LwS g nm b L xs m X ow) {c : Nat} (hc : 6 * c + 6 ≤ L) {S : aw_S} {k n : Nat} (I : LI v m X ow c S k n) (q : NX g v m X ow b c) : aw g 7 S k n (lvL b (v 4) (m 33) ow (nI (6 * c))) [] 1423 := by
  have K := T.1
  have hL9 := T.2.2.2.2.1
  obtain ⟨ad, ar, PA, ρ, Z, P, hC, hM, hJ, o1, n1, hk, hn⟩ := I
  have hn9 : 20 * c + 20 < 1000000000 := by omega
  refine a_aload_n K dL_law_1423 rfl ?_
  refine a_arg T (j := 1) hc (by decide) (by decide) rfl rfl dL_law_1424 dL_law_1425 dL_law_1427 dL_law_1428 dL_law_1429 ?_
  refine a_arg T (j := 2) hc (by decide) (by decide) rfl rfl dL_law_1430 dL_law_1431 dL_law_1433 dL_law_1434 dL_law_1435 ?_
  refine a_invV K (c_builder hC hJ.1 (i := xs (6 * c + 1)) (w := xs (6 * c + 2))) my_X10_builder ml_L_142 im_X10_builder se_X10_builder (ci := 10) (lw_i4 hC.1) (by decide) ⟨_, _, rfl⟩ rfl (by omega) (by omega) (by omega) rfl (Nat.le_of_ble_eq_true rfl) dL_law_1436 ?_
  intro r S1 hp
  obtain ⟨rfl, hC1, kX⟩ := hp
  have hM1 := RM_kM hM (T.kM kX)
  have ow1 := T.ow kX o1 n1
  refine a_aload_n K dL_law_1439 rfl ?_
  refine a_arg T (j := 1) hc (by decide) (by decide) rfl rfl dL_law_1440 dL_law_1441 dL_law_1443 dL_law_1444 dL_law_1445 ?_
  refine a_arg T (j := 2) hc (by decide) (by decide) rfl rfl dL_law_1446 dL_law_1447 dL_law_1449 dL_law_1450 dL_law_1451 ?_
  refine a_invV K (q_builder hM1 hJ (i := xs (6 * c + 1)) (w := xs (6 * c + 2))) my_X11_builder ml_L_145 im_X11_builder se_X11_builder (ci := 11) (lm_o hM1.1) (by decide) ⟨_, _, rfl⟩ rfl (by omega) (by omega) (by omega) rfl (Nat.le_of_ble_eq_true rfl) dL_law_1452 ?_
  intro r S2 hp
  obtain ⟨rfl, hM2, f⟩ := hp
  have hC2 := hC1.own f T.mX
  have ow2 := frS.ow f ow1
  refine a_icmp_eq K dL_law_1455 (tgt := 2036) (by decide) (fun _ => ?_) (fun z => absurd rfl z)
  exact q _ _ _ (LI.mk (by omega) hC2 hM2 (by omega) (by omega) (hJ.up (Nat.le_add_right _ 20)) ow2.1 ow2.2 (by omega) (by omega))
set_option maxHeartbeats 4000000 in
set_option maxRecDepth 100000 in
theorem l_draws {g : aw_G} {nm : String} {b L : Nat} {xs : Nat → Int32} {v m : Nat → Nat} {X : List Nat} {ow : Nat} (T : LwS g nm b L xs m X ow) {c : Nat} (hc : 6 * c + 6 ≤ L) {S : aw_S} {k n : Nat} (I : LI v m X ow c S k n) (q : NX g v m X ow b c) : aw g 7 S k n (lvL b (v 4) (m 33) ow (nI (6 * c))) [] 1460 := by
  have K := T.1
  have hL9 := T.2.2.2.2.1
  obtain ⟨ad, ar, PA, ρ, Z, P, hC, hM, hJ, o1, n1, hk, hn⟩ := I
  have hn9 : 20 * c + 20 < 1000000000 := by omega
  refine a_aload_n K dL_law_1460 rfl ?_
  refine a_arg T (j := 1) hc (by decide) (by decide) rfl rfl dL_law_1461 dL_law_1462 dL_law_1464 dL_law_1465 dL_law_1466 ?_
  refine a_arg T (j := 2) hc (by decide) (by decide) rfl rfl dL_law_1467 dL_law_1468 dL_law_1470 dL_law_1471 dL_law_1472 ?_
  refine a_arg T (j := 3) hc (by decide) (by decide) rfl rfl dL_law_1473 dL_law_1474 dL_law_1476 dL_law_1477 dL_law_1478 ?_
  refine a_i2l K dL_law_1479 ?_
  refine a_bipush K dL_law_1480 (v := 32) (by decide) ?_
  refine a_lshl K dL_law_1482 ?_
  refine a_arg T (j := 4) hc (by decide) (by decide) rfl rfl dL_law_1483 dL_law_1484 dL_law_1486 dL_law_1487 dL_law_1488 ?_
  refine a_i2l K dL_law_1489 ?_
  refine a_ldc2 K kc_L_146 dL_law_1490 ?_
  refine a_land K dL_law_1493 ?_
  refine a_lor K dL_law_1494 ?_
  refine a_invV K (c_draws hC hJ.1 (i := xs (6 * c + 1)) (n := xs (6 * c + 2)) (w := (((xs (6 * c + 3)).toInt64 <<< ((32 : Int32).toInt64 &&& 63)) ||| ((xs (6 * c + 4)).toInt64 &&& 4294967295)))) my_X10_draws ml_L_148 im_X10_draws se_X10_draws (ci := 10) (lw_i4 hC.1) (by decide) ⟨_, _, rfl⟩ rfl (by omega) (by omega) (by omega) rfl (Nat.le_of_ble_eq_true rfl) dL_law_1495 ?_
  intro r S1 hp
  obtain ⟨ad2, ar2, rfl, hC1, kX⟩ := hp
  have hM1 := RM_kM hM (T.kM kX)
  have ow1 := T.ow kX o1 n1
  refine a_aload_n K dL_law_1498 rfl ?_
  refine a_arg T (j := 1) hc (by decide) (by decide) rfl rfl dL_law_1499 dL_law_1500 dL_law_1502 dL_law_1503 dL_law_1504 ?_
  refine a_arg T (j := 2) hc (by decide) (by decide) rfl rfl dL_law_1505 dL_law_1506 dL_law_1508 dL_law_1509 dL_law_1510 ?_
  refine a_arg T (j := 3) hc (by decide) (by decide) rfl rfl dL_law_1511 dL_law_1512 dL_law_1514 dL_law_1515 dL_law_1516 ?_
  refine a_i2l K dL_law_1517 ?_
  refine a_bipush K dL_law_1518 (v := 32) (by decide) ?_
  refine a_lshl K dL_law_1520 ?_
  refine a_arg T (j := 4) hc (by decide) (by decide) rfl rfl dL_law_1521 dL_law_1522 dL_law_1524 dL_law_1525 dL_law_1526 ?_
  refine a_i2l K dL_law_1527 ?_
  refine a_ldc2 K kc_L_146 dL_law_1528 ?_
  refine a_land K dL_law_1531 ?_
  refine a_lor K dL_law_1532 ?_
  refine a_invV K (q_draws hM1 hJ (by omega) (i := xs (6 * c + 1)) (n := xs (6 * c + 2)) (sd := (((xs (6 * c + 3)).toInt64 <<< ((32 : Int32).toInt64 &&& 63)) ||| ((xs (6 * c + 4)).toInt64 &&& 4294967295)))) my_X11_draws ml_L_152 im_X11_draws se_X11_draws (ci := 11) (lm_o hM1.1) (by decide) ⟨_, _, rfl⟩ rfl (by omega) (by omega) (by omega) rfl (Nat.le_of_ble_eq_true rfl) dL_law_1533 ?_
  intro r S2 hp
  obtain ⟨ρ2, Z2, rfl, hM2, f⟩ := hp
  have hC2 := hC1.ownD f T.mX
  have ow2 := frD.ow f ow1
  refine a_icmp_eq K dL_law_1536 (tgt := 2036) (by decide) (fun _ => ?_) (fun z => absurd rfl z)
  exact q _ _ _ (LI.mk (by omega) hC2 hM2 (by omega) (by omega) (PJ_bldG hJ _ _ _ (fun j b hb _ => PJ_drw hJ hb)) ow2.1 ow2.2 (by omega) (by omega))
set_option maxHeartbeats 4000000 in
set_option maxRecDepth 100000 in
theorem l_step {g : aw_G} {nm : String} {b L : Nat} {xs : Nat → Int32} {v m : Nat → Nat} {X : List Nat} {ow : Nat} (T : LwS g nm b L xs m X ow) {c : Nat} (hc : 6 * c + 6 ≤ L) {S : aw_S} {k n : Nat} (I : LI v m X ow c S k n) (q : NX g v m X ow b c) : aw g 7 S k n (lvL b (v 4) (m 33) ow (nI (6 * c))) [] 1541 := by
  have K := T.1
  have hL9 := T.2.2.2.2.1
  obtain ⟨ad, ar, PA, ρ, Z, P, hC, hM, hJ, o1, n1, hk, hn⟩ := I
  have hn9 : 20 * c + 20 < 1000000000 := by omega
  refine a_aload_n K dL_law_1541 rfl ?_
  refine a_arg T (j := 1) hc (by decide) (by decide) rfl rfl dL_law_1542 dL_law_1543 dL_law_1545 dL_law_1546 dL_law_1547 ?_
  refine a_arg T (j := 2) hc (by decide) (by decide) rfl rfl dL_law_1548 dL_law_1549 dL_law_1551 dL_law_1552 dL_law_1553 ?_
  refine a_arg T (j := 3) hc (by decide) (by decide) rfl rfl dL_law_1554 dL_law_1555 dL_law_1557 dL_law_1558 dL_law_1559 ?_
  refine a_invV K (c_step hC (p := xs (6 * c + 1)) (i := xs (6 * c + 2)) (w := xs (6 * c + 3))) my_X10_step ml_L_153 im_X10_step se_X10_step (ci := 10) (lw_i4 hC.1) (by decide) ⟨_, _, rfl⟩ rfl (by omega) (by omega) (by omega) rfl (Nat.le_of_ble_eq_true rfl) dL_law_1560 ?_
  intro r S1 hp
  obtain ⟨rfl, hC1, kX⟩ := hp
  have hM1 := RM_kM hM (T.kM kX)
  have ow1 := T.ow kX o1 n1
  refine a_aload_n K dL_law_1563 rfl ?_
  refine a_arg T (j := 1) hc (by decide) (by decide) rfl rfl dL_law_1564 dL_law_1565 dL_law_1567 dL_law_1568 dL_law_1569 ?_
  refine a_arg T (j := 2) hc (by decide) (by decide) rfl rfl dL_law_1570 dL_law_1571 dL_law_1573 dL_law_1574 dL_law_1575 ?_
  refine a_arg T (j := 3) hc (by decide) (by decide) rfl rfl dL_law_1576 dL_law_1577 dL_law_1579 dL_law_1580 dL_law_1581 ?_
  refine a_invV K (q_step hM1 hJ (p := xs (6 * c + 1)) (i := xs (6 * c + 2)) (w := xs (6 * c + 3))) my_X11_step ml_L_156 im_X11_step se_X11_step (ci := 11) (lm_o hM1.1) (by decide) ⟨_, _, rfl⟩ rfl (by omega) (by omega) (by omega) rfl (Nat.le_of_ble_eq_true rfl) dL_law_1582 ?_
  intro r S2 hp
  obtain ⟨rfl, hM2, f⟩ := hp
  have hC2 := hC1.own f T.mX
  have ow2 := frS.ow f ow1
  refine a_icmp_eq K dL_law_1585 (tgt := 2036) (by decide) (fun _ => ?_) (fun z => absurd rfl z)
  exact q _ _ _ (LI.mk (by omega) hC2 hM2 (by omega) (by omega) (hJ.up (Nat.le_add_right _ 20)) ow2.1 ow2.2 (by omega) (by omega))
set_option maxHeartbeats 4000000 in
set_option maxRecDepth 100000 in
theorem l_run {g : aw_G} {nm : String} {b L : Nat} {xs : Nat → Int32} {v m : Nat → Nat} {X : List Nat} {ow : Nat} (T : LwS g nm b L xs m X ow) {c : Nat} (hc : 6 * c + 6 ≤ L) {S : aw_S} {k n : Nat} (I : LI v m X ow c S k n) (q : NX g v m X ow b c) : aw g 7 S k n (lvL b (v 4) (m 33) ow (nI (6 * c))) [] 1590 := by
  have K := T.1
  have hL9 := T.2.2.2.2.1
  obtain ⟨ad, ar, PA, ρ, Z, P, hC, hM, hJ, o1, n1, hk, hn⟩ := I
  have hn9 : 20 * c + 20 < 1000000000 := by omega
  refine a_aload_n K dL_law_1590 rfl ?_
  refine a_arg T (j := 1) hc (by decide) (by decide) rfl rfl dL_law_1591 dL_law_1592 dL_law_1594 dL_law_1595 dL_law_1596 ?_
  refine a_arg T (j := 2) hc (by decide) (by decide) rfl rfl dL_law_1597 dL_law_1598 dL_law_1600 dL_law_1601 dL_law_1602 ?_
  refine a_invV K (c_run hC hJ hn9 (p := xs (6 * c + 1)) (i := xs (6 * c + 2))) my_X10_run ml_L_157 im_X10_run se_X10_run (ci := 10) (lw_i4 hC.1) (by decide) ⟨_, _, rfl⟩ rfl (by omega) (by omega) (by omega) rfl (Nat.le_of_ble_eq_true rfl) dL_law_1603 ?_
  intro r S1 hp
  obtain ⟨ad2, ar2, rfl, hC1, kX⟩ := hp
  have hM1 := RM_kM hM (T.kM kX)
  have ow1 := T.ow kX o1 n1
  refine a_aload_n K dL_law_1606 rfl ?_
  refine a_arg T (j := 1) hc (by decide) (by decide) rfl rfl dL_law_1607 dL_law_1608 dL_law_1610 dL_law_1611 dL_law_1612 ?_
  refine a_arg T (j := 2) hc (by decide) (by decide) rfl rfl dL_law_1613 dL_law_1614 dL_law_1616 dL_law_1617 dL_law_1618 ?_
  refine a_invV K (q_run hM1 hJ (by omega) (by omega) (pp := xs (6 * c + 1)) (i := xs (6 * c + 2))) my_X11_run ml_L_160 im_X11_run se_X11_run (ci := 11) (lm_o hM1.1) (by decide) ⟨_, _, rfl⟩ rfl (by omega) (by omega) (by omega) rfl (Nat.le_of_ble_eq_true rfl) dL_law_1619 ?_
  intro r S2 hp
  obtain ⟨ρ2, Z2, rfl, hM2, f⟩ := hp
  have hC2 := hC1.own f T.mX
  have ow2 := frS.ow f ow1
  refine a_icmp_eq K dL_law_1622 (tgt := 2036) (by decide) (fun _ => ?_) (fun z => absurd rfl z)
  exact q _ _ _ (LI.mk (by omega) hC2 hM2 (by omega) (by omega) (PJ_run hJ hn9 _ _) ow2.1 ow2.2 (by omega) (by omega))
