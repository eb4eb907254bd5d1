/-! the law's loop -/
theorem lw_cond {L c : Nat} (hL : L ≤ 3072) (hc : 6 * c ≤ 3072) (h : ¬ Int32.ofNat L - 6 < nI (6 * c)) : 6 * c + 6 ≤ L := by
  refine Nat.le_of_not_lt (fun z => h ?_)
  rw [i32_lt]
  rcases Nat.lt_or_ge L 6 with h6 | h6
  · have e6 : ∀ L, L < 6 → (Int32.ofNat L - 6).toInt < 0 := by decide
    have e := e6 L h6
    rw [nI_toInt (by omega)]
    omega
  · rw [show Int32.ofNat L - 6 = nI (L - 6) from nI_sub (b := 6) h6, nI_toInt (by omega), nI_toInt (by omega)]
    omega
theorem law_loop {g : aw_G} {nm : String} {b L : Nat} {xs : Nat → Int32} {v m : Nat → Nat} {X : List Nat} {ow : Nat} (T : LwS g nm b L xs m X ow) : ∀ (r c : Nat), L < 6 * (c + r) + 6 → ∀ (S : aw_S) (k n : Nat), LI v m X ow c S k n → 6 * c ≤ 3072 → aw g 7 S k n (lvL b (v 4) (m 33) ow (nI (6 * c))) [] 23 := by
  intro r
  induction r with
  | zero =>
    intro c hr S k n I hc9
    have K := T.1
    have hk := I
    obtain ⟨ad, ar, PA, ρ, Z, P, -, -, -, -, -, hk, hn⟩ := hk
    refine a_iload K dL_law_23 rfl ?_
    refine a_aload_n K dL_law_25 rfl ?_
    refine x_tlen K T.2.2.1 (fun _ _ _ h => h) rfl dL_law_26 ?_
    refine a_bipush K dL_law_27 (v := 6) (by decide) ?_
    refine a_isub K dL_law_29 ?_
    refine a_icmp_gt K dL_law_30 (tgt := 2042) (by decide) (fun _ => ?_) (fun z => absurd (lw_cond T.2.2.2.2.1 hc9 z) (by omega))
    refine a_iconst K dL_law_2042 (v := 1) (by decide) ?_
    exact a_lend K T.2.2.2.1 (by omega) (by omega) dL_law_2043
  | succ r ih =>
    intro c hr S k n I hc9
    have K := T.1
    have hk := I
    obtain ⟨ad, ar, PA, ρ, Z, P, hC, hM, hJ, o1, n1, hk, hn⟩ := hk
    refine a_iload K dL_law_23 rfl ?_
    refine a_aload_n K dL_law_25 rfl ?_
    refine x_tlen K T.2.2.1 (fun _ _ _ h => h) rfl dL_law_26 ?_
    refine a_bipush K dL_law_27 (v := 6) (by decide) ?_
    refine a_isub K dL_law_29 ?_
    refine a_icmp_gt K dL_law_30 (tgt := 2042) (by decide) (fun _ => ?_) (fun z => ?_)
    · refine a_iconst K dL_law_2042 (v := 1) (by decide) ?_
      exact a_lend K T.2.2.2.1 (by omega) (by omega) dL_law_2043
    have hL := T.2.2.2.2.1
    have hc : 6 * c + 6 ≤ L := lw_cond hL hc9 z
    have q : NX g v m X ow b c := by
      intro S2 k2 n2 I2
      refine a_iinc K dL_law_2036 (x := nI (6 * c)) (v := 6) rfl (by decide) (by decide) ?_
      refine a_goto K dL_law_2039 (tgt := 23) (by decide) ?_
      rw [show nI (6 * c) + 6 = nI (6 * (c + 1)) from nI_add (a := 6 * c) (b := 6)]
      refine aw_locl (lv2 := lvL b (v 4) (m 33) ow (nI (6 * (c + 1)))) rfl ?_
      exact ih (c + 1) (by omega) S2 k2 n2 I2 (by omega)
    refine a_aload_n K dL_law_33 rfl ?_
    refine a_iload K dL_law_34 rfl ?_
    refine x_ti K T.2.2.1 (v := .int (xs (6 * c))) (fun _ _ _ h => h) (nI_in (show 6 * c < L by omega) (by omega)) (by rw [nI_clamp (by omega)]) dL_law_36 ?_
    refine a_bipush K dL_law_37 (v := 63) (by decide) ?_
    refine a_iand K dL_law_39 ?_
    obtain ⟨j, hj, e⟩ := and63 (xs (6 * c))
    rw [e]
    match j, hj with
    | 0, _ =>
      refine a_tsIn K dL_law_40 (off := 196) (tgt := 236) (by decide) (by decide) rfl (by decide) ?_
      exact l_feed T hc I q
    | 1, _ =>
      refine a_tsIn K dL_law_40 (off := 269) (tgt := 309) (by decide) (by decide) rfl (by decide) ?_
      exact l_end T hc I q
    | 2, _ =>
      refine a_tsIn K dL_law_40 (off := 294) (tgt := 334) (by decide) (by decide) rfl (by decide) ?_
      exact l_fault T hc I q
    | 3, _ =>
      refine a_tsIn K dL_law_40 (off := 319) (tgt := 359) (by decide) (by decide) rfl (by decide) ?_
      exact l_text T hc I q
    | 4, _ =>
      refine a_tsIn K dL_law_40 (off := 344) (tgt := 384) (by decide) (by decide) rfl (by decide) ?_
      exact l_wide T hc I q
    | 5, _ =>
      refine a_tsIn K dL_law_40 (off := 369) (tgt := 409) (by decide) (by decide) rfl (by decide) ?_
      exact l_find T hc I q
    | 6, _ =>
      refine a_tsIn K dL_law_40 (off := 406) (tgt := 446) (by decide) (by decide) rfl (by decide) ?_
      exact l_key T hc I q
    | 7, _ =>
      refine a_tsIn K dL_law_40 (off := 474) (tgt := 514) (by decide) (by decide) rfl (by decide) ?_
      exact l_about T hc I q
    | 8, _ =>
      refine a_tsIn K dL_law_40 (off := 511) (tgt := 551) (by decide) (by decide) rfl (by decide) ?_
      exact l_below T hc I q
    | 9, _ =>
      refine a_tsIn K dL_law_40 (off := 548) (tgt := 588) (by decide) (by decide) rfl (by decide) ?_
      exact l_near T hc I q
    | 10, _ =>
      refine a_tsIn K dL_law_40 (off := 597) (tgt := 637) (by decide) (by decide) rfl (by decide) ?_
      exact l_total T hc I q
    | 11, _ =>
      refine a_tsIn K dL_law_40 (off := 646) (tgt := 686) (by decide) (by decide) rfl (by decide) ?_
      exact l_node T hc I q
    | 12, _ =>
      refine a_tsIn K dL_law_40 (off := 695) (tgt := 735) (by decide) (by decide) rfl (by decide) ?_
      exact l_having T hc I q
    | 13, _ =>
      refine a_tsIn K dL_law_40 (off := 744) (tgt := 784) (by decide) (by decide) rfl (by decide) ?_
      exact l_lacking T hc I q
    | 14, _ =>
      refine a_tsIn K dL_law_40 (off := 781) (tgt := 821) (by decide) (by decide) rfl (by decide) ?_
      exact l_merge T hc I q
    | 15, _ =>
      refine a_tsIn K dL_law_40 (off := 830) (tgt := 870) (by decide) (by decide) rfl (by decide) ?_
      exact l_three T hc I q
    | 16, _ =>
      refine a_tsIn K dL_law_40 (off := 891) (tgt := 931) (by decide) (by decide) rfl (by decide) ?_
      exact l_conflicts T hc I q
    | 17, _ =>
      refine a_tsIn K dL_law_40 (off := 940) (tgt := 980) (by decide) (by decide) rfl (by decide) ?_
      exact l_slice T hc I q
    | 18, _ =>
      refine a_tsIn K dL_law_40 (off := 989) (tgt := 1029) (by decide) (by decide) rfl (by decide) ?_
      exact l_drop T hc I q
    | 19, _ =>
      refine a_tsIn K dL_law_40 (off := 1014) (tgt := 1054) (by decide) (by decide) rfl (by decide) ?_
      exact l_build T hc I q
    | 20, _ =>
      refine a_tsIn K dL_law_40 (off := 1051) (tgt := 1091) (by decide) (by decide) rfl (by decide) ?_
      exact l_lay T hc I q
    | 21, _ =>
      refine a_tsIn K dL_law_40 (off := 1100) (tgt := 1140) (by decide) (by decide) rfl (by decide) ?_
      exact l_take T hc I q
    | 22, _ =>
      refine a_tsIn K dL_law_40 (off := 1137) (tgt := 1177) (by decide) (by decide) rfl (by decide) ?_
      exact l_add T hc I q
    | 23, _ =>
      refine a_tsIn K dL_law_40 (off := 1186) (tgt := 1226) (by decide) (by decide) rfl (by decide) ?_
      exact l_cut T hc I q
    | 24, _ =>
      refine a_tsIn K dL_law_40 (off := 1235) (tgt := 1275) (by decide) (by decide) rfl (by decide) ?_
      exact l_inc T hc I q
    | 25, _ =>
      refine a_tsIn K dL_law_40 (off := 1296) (tgt := 1336) (by decide) (by decide) rfl (by decide) ?_
      exact l_snap T hc I q
    | 26, _ =>
      refine a_tsIn K dL_law_40 (off := 1321) (tgt := 1361) (by decide) (by decide) rfl (by decide) ?_
      exact l_freeze T hc I q
    | 27, _ =>
      refine a_tsIn K dL_law_40 (off := 1346) (tgt := 1386) (by decide) (by decide) rfl (by decide) ?_
      exact l_peek T hc I q
    | 28, _ =>
      refine a_tsIn K dL_law_40 (off := 1383) (tgt := 1423) (by decide) (by decide) rfl (by decide) ?_
      exact l_builder T hc I q
    | 29, _ =>
      refine a_tsIn K dL_law_40 (off := 1420) (tgt := 1460) (by decide) (by decide) rfl (by decide) ?_
      exact l_draws T hc I q
    | 30, _ =>
      refine a_tsIn K dL_law_40 (off := 1501) (tgt := 1541) (by decide) (by decide) rfl (by decide) ?_
      exact l_step T hc I q
    | 31, _ =>
      refine a_tsIn K dL_law_40 (off := 1550) (tgt := 1590) (by decide) (by decide) rfl (by decide) ?_
      exact l_run T hc I q
    | 32, _ =>
      refine a_tsIn K dL_law_40 (off := 1587) (tgt := 1627) (by decide) (by decide) rfl (by decide) ?_
      exact l_shared T hc I q
    | 33, _ =>
      refine a_tsIn K dL_law_40 (off := 1624) (tgt := 1664) (by decide) (by decide) rfl (by decide) ?_
      exact l_looked T hc I q
    | 34, _ =>
      refine a_tsIn K dL_law_40 (off := 1661) (tgt := 1701) (by decide) (by decide) rfl (by decide) ?_
      exact l_difference T hc I q
    | 35, _ =>
      refine a_tsIn K dL_law_40 (off := 1722) (tgt := 1762) (by decide) (by decide) rfl (by decide) ?_
      exact l_alike T hc I q
    | 36, _ =>
      refine a_tsIn K dL_law_40 (off := 1771) (tgt := 1811) (by decide) (by decide) rfl (by decide) ?_
      exact l_fork T hc I q
    | 37, _ =>
      refine a_tsIn K dL_law_40 (off := 1808) (tgt := 1848) (by decide) (by decide) rfl (by decide) ?_
      exact l_comesFrom T hc I q
    | 38, _ =>
      refine a_tsIn K dL_law_40 (off := 1845) (tgt := 1885) (by decide) (by decide) rfl (by decide) ?_
      exact l_show T hc I q
    | 39, _ =>
      refine a_tsIn K dL_law_40 (off := 1870) (tgt := 1910) (by decide) (by decide) rfl (by decide) ?_
      exact l_shown T hc I q
    | 40, _ =>
      refine a_tsIn K dL_law_40 (off := 1895) (tgt := 1935) (by decide) (by decide) rfl (by decide) ?_
      exact l_digest T hc I q
    | 41, _ =>
      refine a_tsIn K dL_law_40 (off := 1920) (tgt := 1960) (by decide) (by decide) rfl (by decide) ?_
      exact l_status T hc I q
    | 42, _ =>
      refine a_tsIn K dL_law_40 (off := 1945) (tgt := 1985) (by decide) (by decide) rfl (by decide) ?_
      exact l_image T hc I q
    | 43, _ =>
      refine a_tsIn K dL_law_40 (off := 1958) (tgt := 1998) (by decide) (by decide) rfl (by decide) ?_
      exact l_back T hc I q
    | 44, _ =>
      refine a_tsIn K dL_law_40 (off := 1971) (tgt := 2011) (by decide) (by decide) rfl (by decide) ?_
      exact l_count T hc I q
    | j + 45, hj =>
      refine a_tsOut K dL_law_40 (tgt := 2036) (Or.inr (by rw [nI_toInt (by omega)]; omega)) (by decide) ?_
      exact q _ _ _ (LI.mk (by omega) hC hM (by omega) (by omega) (hJ.up (Nat.le_add_right _ 20)) o1 n1 (by omega) (by omega))
/-- behind the start: cells of three makings, all apart -/
theorem st_all {S1 S2 S3 S4 S5 : aw_S} {x y ow : Nat} {FW FM : aw_FC} (hW : made S1 S2 x FW) (fy : y ∉ sL S2) (k3 : keeps S2 S3 (fun _ => False)) (hM : made S3 S4 y FM) (fo : ow ∉ sL S4) (e5 : S5 = nA S4 ow 18 1) : kn S5 (FW ++ (FM ++ [(ow, pA 18 1)])) := by
  subst e5
  have k2 : keeps S3 S4 (fun b => b = y) := hM.1
  have w3 : kn S3 FW := hW.2.1.keep k3 (fun _ _ z => z)
  have w4 : kn S4 FW := w3.keep k2 (fun e he z => fy (z ▸ (hW.2.1.2 e he).1))
  have w5 : kn (nA S4 ow 18 1) FW := w4.keep (keeps_nA fo) (fun _ _ z => z)
  have m5 : kn (nA S4 ow 18 1) FM := hM.2.1.keep (keeps_nA fo) (fun _ _ z => z)
  have mo : kn (nA S4 ow 18 1) (FM ++ [(ow, pA 18 1)]) := m5.app kn_nA (fun e he => (hM.2.1.2 e he).1) (fun e he => by
    rcases List.mem_singleton.mp he with rfl
    exact fo)
  refine w5.app mo (fun e he => (hW.2.1.2 e he).1) (fun e he z => ?_)
  rcases List.mem_append.mp he with h | h
  · rcases hM.2.2 e h with h2 | h2
    · exact fy (h2 ▸ z)
    · exact h2 (k3 e.1 z).1
  · rcases List.mem_singleton.mp h with rfl
    exact fo (k2 _ (k3 _ z).1).1
theorem kn.right {S : aw_S} {A B : aw_FC} (h : kn S (A ++ B)) : kn S B := ⟨by
  have h1 := h.1
  rw [List.map_append] at h1
  exact (List.nodup_append.mp h1).2.1, fun e he => h.2 e (List.mem_append_right _ he)⟩
theorem law_from {g : aw_G} {nm : String} {b L : Nat} {xs : Nat → Int32} (K : aw_K g (lwY nm) cL_law 7 ret 60 601024 7293034) (Z : aw_X g kyE) (Zs : aw_X g (scE b L xs)) (E : lw_end g b) (hL : L ≤ 3072) {q m : Nat → Nat} {ow : Nat} {S : aw_S} (h : kn S (fcW q ++ (fcM m ++ [(ow, pA 18 1)]))) : aw g 7 S 74 251777 (lvL b (q 0) (m 33) ow (nI 0)) [] 23 := by
  have h2 := h.right
  have hX : (fcM m ++ [(ow, pA 18 1)]).map Prod.fst = (m 33 :: (List.range 33).map m) ++ [ow] := by rw [List.map_append, fcM_fst]; rfl
  have hn := h2.1
  rw [hX] at hn
  obtain ⟨-, -, n3⟩ := List.nodup_append.mp hn
  have hm : ∀ k, k < 34 → m k ∈ m 33 :: (List.range 33).map m := fun k hk => by
    rcases (show k = 33 ∨ k < 33 by omega) with rfl | h1
    · exact List.mem_cons_self
    · exact List.mem_cons_of_mem _ (List.mem_map.mpr ⟨k, List.mem_range.mpr h1, rfl⟩)
  have T : LwS g nm b L xs m ((fcM m ++ [(ow, pA 18 1)]).map Prod.fst) ow := ⟨K, Z, Zs, E, hL, fun k hk => ⟨by rw [hX]; exact List.mem_append_left _ (hm k hk), n3 _ (hm k hk) ow List.mem_cons_self⟩, by rw [hX]; exact List.mem_append_right _ List.mem_cons_self⟩
  have ho := kn_a (n := 34) h2 rfl
  exact law_loop (v := fun k => q (piW k)) T 512 0 (by omega) S 74 251777 ⟨_, _, _, _, _, P0, st_RC h, st_RM h2, st_PJ, ho.1, ho.2.1, by decide, by decide⟩ (by decide)
set_option maxHeartbeats 4000000 in
set_option maxRecDepth 100000 in
/-- from the entry, for every script of at most 3072 ints, the law comes to its end with true -/
theorem whole_start {p : Program} {e : Env} {s : State} {m : MethodId} {below : List Frame} {meth : Method} {c : Code} (l : Launch) (hflags : l.flags = flags0) {b L : Nat} {xs : Nat → Int32} (hL : L ≤ 3072) (C0 : lw_At p s m meth c b L xs) : W p l e room_1 s m #[Value.ref b] below meth c s.heap [] 0 0 (lw_Z below #[Value.ref b] s) (entryFrame m ([Value.ref b] : List Value).toArray 7) := by
  refine lw_go l hflags C0 (fun g nm K Z Zs E => ?_)
  refine a_new K (ci := 10) (N := 17) kl_L_8 in_X10 ini_X10 rfl (by decide) rfl (Nat.le_of_ble_eq_true rfl) (Nat.le_of_ble_eq_true rfl) dL_law_0 (fun x fx => ?_)
  refine a_dup K dL_law_3 rfl ?_
  refine a_invI K (m_X10_init (a := x) pO_new) my_X10_init rfl ml_L_15 im_X10_init rfl (by decide) (Nat.le_of_ble_eq_true rfl) (Nat.le_of_ble_eq_true rfl) rfl (Nat.le_of_ble_eq_true rfl) dL_law_4 ?_
  intro r S2 hp
  obtain ⟨rfl, w0, w1, w2, w3, w4, w5, w6, w7, w8, w9, w10, w11, w12, w13, w14, w15, w16, w17, w18, w19, w20, w21, w22, w23, w24, w25, w26, w27, w28, w29, w30, w31, w32, w33, w34, w35, w36, w37, hW⟩ := hp
  refine a_astore_n K dL_law_7 (by decide) ?_
  refine a_new K (ci := 11) (N := 56) kl_L_16 in_X11 ini_X11 rfl (by decide) rfl (Nat.le_of_ble_eq_true rfl) (Nat.le_of_ble_eq_true rfl) dL_law_8 (fun y fy => ?_)
  refine a_dup K dL_law_11 rfl ?_
  refine a_invI K (m_X11_init (a := y) pO_new) my_X11_init rfl ml_L_18 im_X11_init rfl (by decide) (Nat.le_of_ble_eq_true rfl) (Nat.le_of_ble_eq_true rfl) rfl (Nat.le_of_ble_eq_true rfl) dL_law_12 ?_
  intro r S4 hp
  obtain ⟨rfl, u0, u1, u2, u3, u4, u5, u6, u7, u8, u9, u10, u11, u12, u13, u14, u15, u16, u17, u18, u19, u20, u21, u22, u23, u24, u25, u26, u27, u28, u29, u30, u31, u32, hM⟩ := hp
  refine a_astore_n K dL_law_15 (by decide) ?_
  refine a_iconst K dL_law_16 (v := 1) (by decide) ?_
  refine a_newaJ K (N := 1) (by decide) (by decide) (by decide) (Nat.le_of_ble_eq_true rfl) (Nat.le_of_ble_eq_true rfl) dL_law_17 (fun ow fo => ?_)
  refine a_astore_n K dL_law_19 (by decide) ?_
  refine a_iconst K dL_law_20 (v := 0) (by decide) ?_
  refine a_istore K dL_law_21 (by decide) ?_
  have hall := st_all hW fy (keeps_nO fy) hM fo rfl
  exact aw_locl (lv2 := lvL b x y ow 0) rfl (law_from K Z Zs E hL (q := fun k => ([x, w0, w1, w2, w3, w4, w5, w6, w7, w8, w9, w10, w11, w12, w13, w14, w15, w16, w17, w18, w19, w20, w21, w22, w23, w24, w25, w26, w27, w28, w29, w30, w31, w32, w33, w34, w35, w36, w37] : List Nat).getD k 0) (m := fun k => ([u0, u1, u2, u3, u4, u5, u6, u7, u8, u9, u10, u11, u12, u13, u14, u15, u16, u17, u18, u19, u20, u21, u22, u23, u24, u25, u26, u27, u28, u29, u30, u31, u32, y] : List Nat).getD k 0) hall)
