/-! the model: a builder's lay, add -/
set_option maxHeartbeats 4000000 in
set_option maxRecDepth 100000 in
theorem q_canPut {S : aw_S} {m ρ : Nat → Nat} {Z : List Nat × Nat} {mb : Nat} {P : PS} (h : RM S m ρ Z mb P) (hP : PI P) {j : Nat} {b : BI} (hb : pB P j = some b) (hj : j < 4) {k : Int32} : aw_M yX11_canPut cX11_canPut 3 (some FieldType.boolean) 9 0 0 [.ref (m 33), .int (nI j), .int k] S (fun r S2 => bR ((ent b.1.1 b.1.2).length < 60 ∨ ¬ valIn (ent b.1.1 b.1.2) k = -1000000) r ∧ RM S2 m ρ Z mb P ∧ frS S S2 (mQ m)) := by
  have hM := h.1
  have hw3 := hP.1.1
  have hw6 := hP.1.2
  have hbl := bui_live hj hb
  have tz := hP.tz hbl
  have h4z := tz.h4 hw3
  have e60z := tz.2.2.1
  have ne : NeT b.1.1 b.1.2 := NeT_fan (show 1 ≤ lea (pW P) by unfold lea; omega) b.1.1 tz.1.ok
  refine aw_enter (by decide +kernel) (Nat.le_of_ble_eq_true rfl) (fun g K EE => ?_)
  by_cases hc : (ent b.1.1 b.1.2).length < 60
  · first | refine a_aload_n K dX11_canPut_0 rfl ?_ | refine a_aload_nN K dX11_canPut_0 rfl ?_
    first | refine a_aload_n K dX11_canPut_1 rfl ?_ | refine a_aload_nN K dX11_canPut_1 rfl ?_
    refine a_getRs K fd_X11_76 (by exact lm_o hM) (Or.inr ⟨_, rfl⟩) (by exact lm_r739 hM) dX11_canPut_2 ?_
    refine a_iload_n K dX11_canPut_5 rfl ?_
    refine a_iald K (by exact lm_kk hM (by decide) (by decide)) (by show vp_in _ (sN S (m 20)); exact lm_ix (z := 4) hM (by decide) (by decide) (show j < 4 by omega) (by decide)) dX11_canPut_6 ?_
    rw [nI_clamp (by omega)]
    rw [(h.bro hj hb).1]
    refine a_invV K (m_keysOf hM (h.rep hbl) (by omega) (by omega) (by omega)) my_X11_keysOf ml_X11_332 im_X11_keysOf se_X11_keysOf (ci := 11) (by exact lm_o hM) (by decide) ⟨_, _, rfl⟩ rfl (by omega) (by omega) (by omega) rfl (Nat.le_of_ble_eq_true rfl) dX11_canPut_7 ?_
    intro r9 S9 hp9
    obtain ⟨rfl, hLy, f9⟩ := hp9
    obtain ⟨h9, q9⟩ := h.scr hP f9 (by decide) (by decide)
    have hM := h9.1
    refine a_bipush K dX11_canPut_10 (v := 60) (by decide) ?_
    refine a_icmp_lt K dX11_canPut_12 (tgt := 31) (by decide) (fun c_12 => ?_) (fun c_12 => absurd c_12 (fun q => q (nI_lt (b := 60) hc (by decide))))
    refine a_iconst K dX11_canPut_31 (v := 1) (by decide) ?_
    refine a_goto K dX11_canPut_32 (tgt := 36) (by decide) ?_
    exact a_iret K EE rfl (by omega) (by omega) dX11_canPut_36 ⟨Or.inl ⟨Or.inl hc, rfl⟩, h9, q9⟩
  by_cases hv : valIn (ent b.1.1 b.1.2) k = -1000000
  · first | refine a_aload_n K dX11_canPut_0 rfl ?_ | refine a_aload_nN K dX11_canPut_0 rfl ?_
    first | refine a_aload_n K dX11_canPut_1 rfl ?_ | refine a_aload_nN K dX11_canPut_1 rfl ?_
    refine a_getRs K fd_X11_76 (by exact lm_o hM) (Or.inr ⟨_, rfl⟩) (by exact lm_r739 hM) dX11_canPut_2 ?_
    refine a_iload_n K dX11_canPut_5 rfl ?_
    refine a_iald K (by exact lm_kk hM (by decide) (by decide)) (by show vp_in _ (sN S (m 20)); exact lm_ix (z := 4) hM (by decide) (by decide) (show j < 4 by omega) (by decide)) dX11_canPut_6 ?_
    rw [nI_clamp (by omega)]
    rw [(h.bro hj hb).1]
    refine a_invV K (m_keysOf hM (h.rep hbl) (by omega) (by omega) (by omega)) my_X11_keysOf ml_X11_332 im_X11_keysOf se_X11_keysOf (ci := 11) (by exact lm_o hM) (by decide) ⟨_, _, rfl⟩ rfl (by omega) (by omega) (by omega) rfl (Nat.le_of_ble_eq_true rfl) dX11_canPut_7 ?_
    intro r9 S9 hp9
    obtain ⟨rfl, hLy, f9⟩ := hp9
    obtain ⟨h9, q9⟩ := h.scr hP f9 (by decide) (by decide)
    have hM := h9.1
    refine a_bipush K dX11_canPut_10 (v := 60) (by decide) ?_
    refine a_icmp_lt K dX11_canPut_12 (tgt := 31) (by decide) (fun c_12 => absurd c_12 (fun q => hc ((nI_ltI (b := 60) (by omega) (by decide)).mp q))) (fun c_12 => ?_)
    first | refine a_aload_n K dX11_canPut_15 rfl ?_ | refine a_aload_nN K dX11_canPut_15 rfl ?_
    first | refine a_aload_n K dX11_canPut_16 rfl ?_ | refine a_aload_nN K dX11_canPut_16 rfl ?_
    refine a_getRs K fd_X11_76 (by exact lm_o hM) (Or.inr ⟨_, rfl⟩) (by exact lm_r739 hM) dX11_canPut_17 ?_
    refine a_iload_n K dX11_canPut_20 rfl ?_
    refine a_iald K (by exact lm_kk hM (by decide) (by decide)) (by show vp_in _ (sN S9 (m 20)); exact lm_ix (z := 4) hM (by decide) (by decide) (show j < 4 by omega) (by decide)) dX11_canPut_21 ?_
    rw [nI_clamp (by omega)]
    rw [(h9.bro hj hb).1]
    refine a_iload_n K dX11_canPut_22 rfl ?_
    refine a_invV K (m_valueAt hM (h9.rep hbl) ne tz.hs) my_X11_valueAt ml_X11_218 im_X11_valueAt se_X11_valueAt (ci := 11) (by exact lm_o hM) (by decide) ⟨_, _, rfl⟩ rfl (by omega) (by omega) (by omega) rfl (Nat.le_of_ble_eq_true rfl) dX11_canPut_23 ?_
    intro r8 S8 hp8
    obtain ⟨rfl, hS8⟩ := hp8
    obtain rfl := hS8.symm
    rw [tz.1.val hw3]
    refine a_ldc K kc_X11_170 dX11_canPut_26 ?_
    refine a_icmp_eq K dX11_canPut_28 (tgt := 35) (by decide) (fun c_28 => ?_) (fun c_28 => absurd c_28 (fun q => q hv))
    refine a_iconst K dX11_canPut_35 (v := 0) (by decide) ?_
    exact a_iret K EE rfl (by omega) (by omega) dX11_canPut_36 ⟨Or.inr ⟨fun q => q.elim hc (fun z => z hv), rfl⟩, h9, q9⟩
  · first | refine a_aload_n K dX11_canPut_0 rfl ?_ | refine a_aload_nN K dX11_canPut_0 rfl ?_
    first | refine a_aload_n K dX11_canPut_1 rfl ?_ | refine a_aload_nN K dX11_canPut_1 rfl ?_
    refine a_getRs K fd_X11_76 (by exact lm_o hM) (Or.inr ⟨_, rfl⟩) (by exact lm_r739 hM) dX11_canPut_2 ?_
    refine a_iload_n K dX11_canPut_5 rfl ?_
    refine a_iald K (by exact lm_kk hM (by decide) (by decide)) (by show vp_in _ (sN S (m 20)); exact lm_ix (z := 4) hM (by decide) (by decide) (show j < 4 by omega) (by decide)) dX11_canPut_6 ?_
    rw [nI_clamp (by omega)]
    rw [(h.bro hj hb).1]
    refine a_invV K (m_keysOf hM (h.rep hbl) (by omega) (by omega) (by omega)) my_X11_keysOf ml_X11_332 im_X11_keysOf se_X11_keysOf (ci := 11) (by exact lm_o hM) (by decide) ⟨_, _, rfl⟩ rfl (by omega) (by omega) (by omega) rfl (Nat.le_of_ble_eq_true rfl) dX11_canPut_7 ?_
    intro r9 S9 hp9
    obtain ⟨rfl, hLy, f9⟩ := hp9
    obtain ⟨h9, q9⟩ := h.scr hP f9 (by decide) (by decide)
    have hM := h9.1
    refine a_bipush K dX11_canPut_10 (v := 60) (by decide) ?_
    refine a_icmp_lt K dX11_canPut_12 (tgt := 31) (by decide) (fun c_12 => absurd c_12 (fun q => hc ((nI_ltI (b := 60) (by omega) (by decide)).mp q))) (fun c_12 => ?_)
    first | refine a_aload_n K dX11_canPut_15 rfl ?_ | refine a_aload_nN K dX11_canPut_15 rfl ?_
    first | refine a_aload_n K dX11_canPut_16 rfl ?_ | refine a_aload_nN K dX11_canPut_16 rfl ?_
    refine a_getRs K fd_X11_76 (by exact lm_o hM) (Or.inr ⟨_, rfl⟩) (by exact lm_r739 hM) dX11_canPut_17 ?_
    refine a_iload_n K dX11_canPut_20 rfl ?_
    refine a_iald K (by exact lm_kk hM (by decide) (by decide)) (by show vp_in _ (sN S9 (m 20)); exact lm_ix (z := 4) hM (by decide) (by decide) (show j < 4 by omega) (by decide)) dX11_canPut_21 ?_
    rw [nI_clamp (by omega)]
    rw [(h9.bro hj hb).1]
    refine a_iload_n K dX11_canPut_22 rfl ?_
    refine a_invV K (m_valueAt hM (h9.rep hbl) ne tz.hs) my_X11_valueAt ml_X11_218 im_X11_valueAt se_X11_valueAt (ci := 11) (by exact lm_o hM) (by decide) ⟨_, _, rfl⟩ rfl (by omega) (by omega) (by omega) rfl (Nat.le_of_ble_eq_true rfl) dX11_canPut_23 ?_
    intro r8 S8 hp8
    obtain ⟨rfl, hS8⟩ := hp8
    obtain rfl := hS8.symm
    rw [tz.1.val hw3]
    refine a_ldc K kc_X11_170 dX11_canPut_26 ?_
    refine a_icmp_eq K dX11_canPut_28 (tgt := 35) (by decide) (fun c_28 => absurd c_28 (hv)) (fun c_28 => ?_)
    refine a_iconst K dX11_canPut_31 (v := 1) (by decide) ?_
    refine a_goto K dX11_canPut_32 (tgt := 36) (by decide) ?_
    exact a_iret K EE rfl (by omega) (by omega) dX11_canPut_36 ⟨Or.inl ⟨Or.inr hv, rfl⟩, h9, q9⟩
set_option maxHeartbeats 4000000 in
set_option maxRecDepth 100000 in
theorem q_bPuts {S : aw_S} {m ρ : Nat → Nat} {Z : List Nat × Nat} {mb : Nat} {P : PS} (h : RM S m ρ Z mb P) (hP : PI P) {j : Nat} {b : BI} (hb : pB P j = some b) (hj : j < 4) (hrm : 5000 < rmM Z) {k v : Int32} : aw_M yX11_builderPuts cX11_builderPuts 4 (none : Option FieldType) 7 0 0 [.ref (m 33), .int (nI j), .int k, .int v] S (fun r S2 => ∃ ρ3 Z3, r = none ∧ RM S2 m ρ3 Z3 mb (setT P j (putT (pW P) b.2.1 (pU P) k v b.1) b.2.1 b.2.2) ∧ frS S S2 (mQ m)) := by
  have hM := h.1
  have hw3 := hP.1.1
  have hw6 := hP.1.2
  have hbl := bui_live hj hb
  have tz := hP.tz hbl
  have h4z := tz.h4 hw3
  have e60z := tz.2.2.1
  have ne : NeT b.1.1 b.1.2 := NeT_fan (show 1 ≤ lea (pW P) by unfold lea; omega) b.1.1 tz.1.ok
  refine aw_enter (by decide +kernel) (Nat.le_of_ble_eq_true rfl) (fun g K EE => ?_)
  first | refine a_aload_n K dX11_builderPuts_0 rfl ?_ | refine a_aload_nN K dX11_builderPuts_0 rfl ?_
  refine a_getRs K fd_X11_76 (by exact lm_o hM) (Or.inr ⟨_, rfl⟩) (by exact lm_r739 hM) dX11_builderPuts_1 ?_
  refine a_iload_n K dX11_builderPuts_4 rfl ?_
  first | refine a_aload_n K dX11_builderPuts_5 rfl ?_ | refine a_aload_nN K dX11_builderPuts_5 rfl ?_
  first | refine a_aload_n K dX11_builderPuts_6 rfl ?_ | refine a_aload_nN K dX11_builderPuts_6 rfl ?_
  refine a_getRs K fd_X11_76 (by exact lm_o hM) (Or.inr ⟨_, rfl⟩) (by exact lm_r739 hM) dX11_builderPuts_7 ?_
  refine a_iload_n K dX11_builderPuts_10 rfl ?_
  refine a_iald K (by exact lm_kk hM (by decide) (by decide)) (by show vp_in _ (sN S (m 20)); exact lm_ix (z := 4) hM (by decide) (by decide) (show j < 4 by omega) (by decide)) dX11_builderPuts_11 ?_
  rw [nI_clamp (by omega)]
  rw [(h.bro hj hb).1]
  refine a_iload_n K dX11_builderPuts_12 rfl ?_
  refine a_iload_n K dX11_builderPuts_13 rfl ?_
  first | refine a_aload_n K dX11_builderPuts_14 rfl ?_ | refine a_aload_nN K dX11_builderPuts_14 rfl ?_
  refine a_getRs K fd_X11_79 (by exact lm_o hM) (Or.inr ⟨_, rfl⟩) (by exact lm_r740 hM) dX11_builderPuts_15 ?_
  refine a_iload_n K dX11_builderPuts_18 rfl ?_
  refine a_iald K (by exact lm_kk hM (by decide) (by decide)) (by show vp_in _ (sN S (m 21)); exact lm_ix (z := 4) hM (by decide) (by decide) (show j < 4 by omega) (by decide)) dX11_builderPuts_19 ?_
  rw [nI_clamp (by omega)]
  rw [(h.bro hj hb).2.1]
  refine a_invV K ((TS.rf (tk := b.2.1) h.N.1 h.N.2.1 (h.rep hbl)).put (key := k) (v := v) h.1 h.N.2.2.1 (live_in hbl) (tok.tk9 hP tz).1 (by have h5 := (hP.2.2.1 j b hb).2.2.1; have h6 := hP.2.2.2; omega) h.wid hw3 hw6 tz.1 tz.2.2.2.1 (by omega) (by omega)) my_X11_puts ml_X11_298 im_X11_puts se_X11_puts (ci := 11) (by exact lm_o hM) (by decide) ⟨_, _, rfl⟩ rfl (by omega) (by omega) (by omega) rfl (Nat.le_of_ble_eq_true rfl) dX11_builderPuts_20 ?_
  intro r9 W2 hp9
  obtain ⟨ρ3, Z3, rfl, ts3⟩ := hp9
  obtain ⟨hF, qF⟩ := RM_bset h hP hb hj ts3
  have hM := ts3.1.lay h.1
  refine a_iast K (by exact lm_kk hM (by decide) (by decide)) (by show vp_in _ (sN W2 (m 20)); exact lm_ix (z := 4) hM (by decide) (by decide) (show j < 4 by omega) (by decide)) dX11_builderPuts_23 ?_
  rw [nI_clamp (by omega)]
  exact a_vret K EE (by omega) (by omega) dX11_builderPuts_24 ⟨ρ3, Z3, rfl, hF, qF⟩
set_option maxHeartbeats 4000000 in
set_option maxRecDepth 100000 in
theorem q_bAdds {S : aw_S} {m ρ : Nat → Nat} {Z : List Nat × Nat} {mb : Nat} {P : PS} (h : RM S m ρ Z mb P) (hP : PI P) {j : Nat} {b : BI} (hb : pB P j = some b) (hj : j < 4) (hrm : 5000 < rmM Z) {k v : Int32} : aw_M yX11_builderAdds cX11_builderAdds 5 (none : Option FieldType) 8 0 0 [.ref (m 33), .int (nI j), .int k, .int v] S (fun r S2 => ∃ ρ3 Z3, r = none ∧ RM S2 m ρ3 Z3 mb (setT P j (putT (pW P) b.2.1 (pU P) k (addV (ent b.1.1 b.1.2) k v) b.1) b.2.1 b.2.2) ∧ frS S S2 (mQ m)) := by
  have hM := h.1
  have hw3 := hP.1.1
  have hw6 := hP.1.2
  have hbl := bui_live hj hb
  have tz := hP.tz hbl
  have h4z := tz.h4 hw3
  have e60z := tz.2.2.1
  have ne : NeT b.1.1 b.1.2 := NeT_fan (show 1 ≤ lea (pW P) by unfold lea; omega) b.1.1 tz.1.ok
  refine aw_enter (by decide +kernel) (Nat.le_of_ble_eq_true rfl) (fun g K EE => ?_)
  by_cases hv : valIn (ent b.1.1 b.1.2) k = -1000000
  · first | refine a_aload_n K dX11_builderAdds_0 rfl ?_ | refine a_aload_nN K dX11_builderAdds_0 rfl ?_
    first | refine a_aload_n K dX11_builderAdds_1 rfl ?_ | refine a_aload_nN K dX11_builderAdds_1 rfl ?_
    refine a_getRs K fd_X11_76 (by exact lm_o hM) (Or.inr ⟨_, rfl⟩) (by exact lm_r739 hM) dX11_builderAdds_2 ?_
    refine a_iload_n K dX11_builderAdds_5 rfl ?_
    refine a_iald K (by exact lm_kk hM (by decide) (by decide)) (by show vp_in _ (sN S (m 20)); exact lm_ix (z := 4) hM (by decide) (by decide) (show j < 4 by omega) (by decide)) dX11_builderAdds_6 ?_
    rw [nI_clamp (by omega)]
    rw [(h.bro hj hb).1]
    refine a_iload_n K dX11_builderAdds_7 rfl ?_
    refine a_invV K (m_valueAt hM (h.rep hbl) ne tz.hs) my_X11_valueAt ml_X11_218 im_X11_valueAt se_X11_valueAt (ci := 11) (by exact lm_o hM) (by decide) ⟨_, _, rfl⟩ rfl (by omega) (by omega) (by omega) rfl (Nat.le_of_ble_eq_true rfl) dX11_builderAdds_8 ?_
    intro r8 S8 hp8
    obtain ⟨rfl, hS8⟩ := hp8
    obtain rfl := hS8.symm
    rw [tz.1.val hw3]
    refine a_istore K dX11_builderAdds_11 (by decide) ?_
    first | refine a_aload_n K dX11_builderAdds_13 rfl ?_ | refine a_aload_nN K dX11_builderAdds_13 rfl ?_
    refine a_iload_n K dX11_builderAdds_14 rfl ?_
    refine a_iload_n K dX11_builderAdds_15 rfl ?_
    refine a_iload K dX11_builderAdds_16 rfl ?_
    refine a_ldc K kc_X11_170 dX11_builderAdds_18 ?_
    refine a_icmp_ne K dX11_builderAdds_20 (tgt := 27) (by decide) (fun c_20 => absurd c_20 (fun q => q hv)) (fun c_20 => ?_)
    refine a_iload_n K dX11_builderAdds_23 rfl ?_
    refine a_goto K dX11_builderAdds_24 (tgt := 34) (by decide) ?_
    refine a_invV K (q_bPuts h hP hb hj hrm) my_X11_builderPuts ml_X11_384 im_X11_builderPuts se_X11_builderPuts (ci := 11) (by exact lm_o hM) (by decide) ⟨_, _, rfl⟩ rfl (by omega) (by omega) (by omega) rfl (Nat.le_of_ble_eq_true rfl) dX11_builderAdds_34 ?_
    intro r9 W2 hp9
    obtain ⟨ρ3, Z3, rfl, hF, qF⟩ := hp9
    exact a_vret K EE (by omega) (by omega) dX11_builderAdds_37 ⟨ρ3, Z3, rfl, by rw [show addV (ent b.1.1 b.1.2) k v = v from by unfold addV; exact if_pos hv]; exact hF, qF⟩
  · first | refine a_aload_n K dX11_builderAdds_0 rfl ?_ | refine a_aload_nN K dX11_builderAdds_0 rfl ?_
    first | refine a_aload_n K dX11_builderAdds_1 rfl ?_ | refine a_aload_nN K dX11_builderAdds_1 rfl ?_
    refine a_getRs K fd_X11_76 (by exact lm_o hM) (Or.inr ⟨_, rfl⟩) (by exact lm_r739 hM) dX11_builderAdds_2 ?_
    refine a_iload_n K dX11_builderAdds_5 rfl ?_
    refine a_iald K (by exact lm_kk hM (by decide) (by decide)) (by show vp_in _ (sN S (m 20)); exact lm_ix (z := 4) hM (by decide) (by decide) (show j < 4 by omega) (by decide)) dX11_builderAdds_6 ?_
    rw [nI_clamp (by omega)]
    rw [(h.bro hj hb).1]
    refine a_iload_n K dX11_builderAdds_7 rfl ?_
    refine a_invV K (m_valueAt hM (h.rep hbl) ne tz.hs) my_X11_valueAt ml_X11_218 im_X11_valueAt se_X11_valueAt (ci := 11) (by exact lm_o hM) (by decide) ⟨_, _, rfl⟩ rfl (by omega) (by omega) (by omega) rfl (Nat.le_of_ble_eq_true rfl) dX11_builderAdds_8 ?_
    intro r8 S8 hp8
    obtain ⟨rfl, hS8⟩ := hp8
    obtain rfl := hS8.symm
    rw [tz.1.val hw3]
    refine a_istore K dX11_builderAdds_11 (by decide) ?_
    first | refine a_aload_n K dX11_builderAdds_13 rfl ?_ | refine a_aload_nN K dX11_builderAdds_13 rfl ?_
    refine a_iload_n K dX11_builderAdds_14 rfl ?_
    refine a_iload_n K dX11_builderAdds_15 rfl ?_
    refine a_iload K dX11_builderAdds_16 rfl ?_
    refine a_ldc K kc_X11_170 dX11_builderAdds_18 ?_
    refine a_icmp_ne K dX11_builderAdds_20 (tgt := 27) (by decide) (fun c_20 => ?_) (fun c_20 => absurd c_20 (hv))
    refine a_iload K dX11_builderAdds_27 rfl ?_
    refine a_iload_n K dX11_builderAdds_29 rfl ?_
    refine a_iadd K dX11_builderAdds_30 ?_
    refine a_invS K (q_held) my_X11_held ml_X11_348 st_X11_held rfl (by omega) (by omega) (by omega) rfl (Nat.le_of_ble_eq_true rfl) dX11_builderAdds_31 ?_
    intro r9 S9 hp9
    obtain ⟨rfl, hS9⟩ := hp9
    obtain rfl := hS9.symm
    refine a_invV K (q_bPuts h hP hb hj hrm) my_X11_builderPuts ml_X11_384 im_X11_builderPuts se_X11_builderPuts (ci := 11) (by exact lm_o hM) (by decide) ⟨_, _, rfl⟩ rfl (by omega) (by omega) (by omega) rfl (Nat.le_of_ble_eq_true rfl) dX11_builderAdds_34 ?_
    intro r9 W2 hp9
    obtain ⟨ρ3, Z3, rfl, hF, qF⟩ := hp9
    exact a_vret K EE (by omega) (by omega) dX11_builderAdds_37 ⟨ρ3, Z3, rfl, by rw [show addV (ent b.1.1 b.1.2) k v = hldW (valIn (ent b.1.1 b.1.2) k + v) from by unfold addV; exact if_neg hv]; exact hF, qF⟩
set_option maxHeartbeats 4000000 in
set_option maxRecDepth 100000 in
theorem q_lays0 {S : aw_S} {m ρ : Nat → Nat} {Z : List Nat × Nat} {mb n9 : Nat} {P : PS} (h0 : RM S m ρ Z mb P) (hJ : PJ n9 P) (hmb : mb + 1 < 2147483000) {i k w : Int32} : aw_M yX11_lays cX11_lays 7 (some FieldType.int) 10 0 0 [.ref (m 33), .int i, .int k, .int w, .int 0] S (fun r S2 => ∃ ρ2 Z2, r = some (.int (bld P i (keyR k ∧ valR w) (layF P k w)).1) ∧ RM S2 m ρ2 Z2 (mb + 1) (bld P i (keyR k ∧ valR w) (layF P k w)).2 ∧ frS S S2 (mQ m)) := by
  have hP := hJ.1
  have hw3 := hP.1.1
  have hM := h0.1
  have hl9 := hJ.ln
  have hw6 := hP.1.2
  have hpH := hJ.2.2.2.2.2.1.1
  have hc16 := hJ.2.2.2.2.2.1.2.1
  refine aw_enter (by decide +kernel) (Nat.le_of_ble_eq_true rfl) (fun g K EE => ?_)
  by_cases c1 : ¬ (0 ≤ k.toInt ∧ k.toInt ≤ 999)
  · have hno : ¬ (keyR k ∧ valR w) := fun q => c1 ⟨q.1.1, by have := q.1.2; omega⟩
    rcases stp_cs (P := P) (i := i) (ok := false) with ⟨hA, hv⟩ | ⟨j, hA, hob, hv⟩ | ⟨j, hA, hob, hb, hv⟩ | ⟨j, b, hA, hob, hb, hv⟩
    · have hE : bld P i (keyR k ∧ valR w) (layF P k w) = (-1, refP P 0) := bld_0 hA
      first | refine a_aload_n K dX11_lays_0 rfl ?_ | refine a_aload_nN K dX11_lays_0 rfl ?_
      refine a_iconst K dX11_lays_1 (v := 0) (by decide) ?_
      refine a_putI K fd_X11_116 (by exact lm_o hM) rfl dX11_lays_2 ?_
      have f0 : frM S (wI S 704 (m 33) 0) m [] [704] := frM_wI (by decide) (by decide)
      obtain ⟨T, hT⟩ : ∃ T, T = wI S 704 (m 33) 0 := ⟨_, rfl⟩
      rw [← hT] at f0 ⊢
      obtain ⟨h, q0⟩ := h0.scr hP f0 (by decide) (by decide)
      have hM := h.1
      first | refine a_aload_n K dX11_lays_5 rfl ?_ | refine a_aload_nN K dX11_lays_5 rfl ?_
      refine a_iload_n K dX11_lays_6 rfl ?_
      refine a_iload_n K dX11_lays_7 rfl ?_
      refine a_i2l K dX11_lays_8 ?_
      refine a_lconst K dX11_lays_9 (v := 0) (by decide) ?_
      refine a_ldc2 K kc_X11_335 dX11_lays_10 ?_
      refine a_invS K (q_inN (p := 0) (q := 999) (by decide) (by decide) c1) my_X11_isIn ml_X11_174 st_X11_isIn rfl (by omega) (by omega) (by omega) rfl (Nat.le_of_ble_eq_true rfl) dX11_lays_13 ?_
      intro r9 S9 hp9
      obtain ⟨rfl, hS9⟩ := hp9
      obtain rfl := hS9.symm
      refine a_if_eq K dX11_lays_16 (tgt := 37) (by decide) (fun c_16 => ?_) (fun c_16 => absurd c_16 (fun z => z rfl))
      refine a_iconst K dX11_lays_37 (v := 0) (by decide) ?_
      refine a_invV K (q_stp0 (v := nI 0) h hv) my_X11_stops ml_X11_393 im_X11_stops se_X11_stops (ci := 11) (by exact lm_o hM) (by decide) ⟨_, _, rfl⟩ rfl (by omega) (by omega) (by omega) rfl (Nat.le_of_ble_eq_true rfl) dX11_lays_38 ?_
      intro r9 S9 hp9
      obtain ⟨rfl, hS9⟩ := hp9
      obtain rfl := hS9.symm
      refine a_istore K dX11_lays_41 (by decide) ?_
      refine a_iload K dX11_lays_43 rfl ?_
      refine a_iconst K dX11_lays_45 (v := -1) (by decide) ?_
      refine a_icmp_ne K dX11_lays_46 (tgt := 61) (by decide) (fun c_46 => ?_) (fun c_46 => absurd c_46 (by decide))
      refine a_iload K dX11_lays_61 rfl ?_
      refine a_iconst K dX11_lays_63 (v := -1) (by decide) ?_
      refine a_icmp_eq K dX11_lays_64 (tgt := 74) (by decide) (fun c_64 => absurd c_64 (by decide)) (fun c_64 => ?_)
      first | refine a_aload_n K dX11_lays_67 rfl ?_ | refine a_aload_nN K dX11_lays_67 rfl ?_
      refine a_iload K dX11_lays_68 rfl ?_
      refine a_invV K (q_refP h (k := 0) (by decide)) my_X11_refused ml_X11_292 im_X11_refused se_X11_refused (ci := 11) (by exact lm_o hM) (by decide) ⟨_, _, rfl⟩ rfl (by omega) (by omega) (by omega) rfl (Nat.le_of_ble_eq_true rfl) dX11_lays_70 ?_
      intro r9 S9 hp9
      obtain ⟨rfl, hR, qR⟩ := hp9
      exact a_iret K EE rfl (by omega) (by omega) dX11_lays_73 ⟨ρ, Z, by rw [hE], by rw [hE]; exact hR.up (Nat.le_succ mb) (by omega), mQ_tr q0 qR⟩
    · have hE : bld P i (keyR k ∧ valR w) (layF P k w) = (-1, refP P 1) := bld_1 hA hno
      first | refine a_aload_n K dX11_lays_0 rfl ?_ | refine a_aload_nN K dX11_lays_0 rfl ?_
      refine a_iconst K dX11_lays_1 (v := 0) (by decide) ?_
      refine a_putI K fd_X11_116 (by exact lm_o hM) rfl dX11_lays_2 ?_
      have f0 : frM S (wI S 704 (m 33) 0) m [] [704] := frM_wI (by decide) (by decide)
      obtain ⟨T, hT⟩ : ∃ T, T = wI S 704 (m 33) 0 := ⟨_, rfl⟩
      rw [← hT] at f0 ⊢
      obtain ⟨h, q0⟩ := h0.scr hP f0 (by decide) (by decide)
      have hM := h.1
      first | refine a_aload_n K dX11_lays_5 rfl ?_ | refine a_aload_nN K dX11_lays_5 rfl ?_
      refine a_iload_n K dX11_lays_6 rfl ?_
      refine a_iload_n K dX11_lays_7 rfl ?_
      refine a_i2l K dX11_lays_8 ?_
      refine a_lconst K dX11_lays_9 (v := 0) (by decide) ?_
      refine a_ldc2 K kc_X11_335 dX11_lays_10 ?_
      refine a_invS K (q_inN (p := 0) (q := 999) (by decide) (by decide) c1) my_X11_isIn ml_X11_174 st_X11_isIn rfl (by omega) (by omega) (by omega) rfl (Nat.le_of_ble_eq_true rfl) dX11_lays_13 ?_
      intro r9 S9 hp9
      obtain ⟨rfl, hS9⟩ := hp9
      obtain rfl := hS9.symm
      refine a_if_eq K dX11_lays_16 (tgt := 37) (by decide) (fun c_16 => ?_) (fun c_16 => absurd c_16 (fun z => z rfl))
      refine a_iconst K dX11_lays_37 (v := 0) (by decide) ?_
      refine a_invV K (q_stp0 (v := nI 1) h hv) my_X11_stops ml_X11_393 im_X11_stops se_X11_stops (ci := 11) (by exact lm_o hM) (by decide) ⟨_, _, rfl⟩ rfl (by omega) (by omega) (by omega) rfl (Nat.le_of_ble_eq_true rfl) dX11_lays_38 ?_
      intro r9 S9 hp9
      obtain ⟨rfl, hS9⟩ := hp9
      obtain rfl := hS9.symm
      refine a_istore K dX11_lays_41 (by decide) ?_
      refine a_iload K dX11_lays_43 rfl ?_
      refine a_iconst K dX11_lays_45 (v := -1) (by decide) ?_
      refine a_icmp_ne K dX11_lays_46 (tgt := 61) (by decide) (fun c_46 => ?_) (fun c_46 => absurd c_46 (by decide))
      refine a_iload K dX11_lays_61 rfl ?_
      refine a_iconst K dX11_lays_63 (v := -1) (by decide) ?_
      refine a_icmp_eq K dX11_lays_64 (tgt := 74) (by decide) (fun c_64 => absurd c_64 (by decide)) (fun c_64 => ?_)
      first | refine a_aload_n K dX11_lays_67 rfl ?_ | refine a_aload_nN K dX11_lays_67 rfl ?_
      refine a_iload K dX11_lays_68 rfl ?_
      refine a_invV K (q_refP h (k := 1) (by decide)) my_X11_refused ml_X11_292 im_X11_refused se_X11_refused (ci := 11) (by exact lm_o hM) (by decide) ⟨_, _, rfl⟩ rfl (by omega) (by omega) (by omega) rfl (Nat.le_of_ble_eq_true rfl) dX11_lays_70 ?_
      intro r9 S9 hp9
      obtain ⟨rfl, hR, qR⟩ := hp9
      exact a_iret K EE rfl (by omega) (by omega) dX11_lays_73 ⟨ρ, Z, by rw [hE], by rw [hE]; exact hR.up (Nat.le_succ mb) (by omega), mQ_tr q0 qR⟩
    · exact absurd hob (by decide)
    · exact absurd hob (by decide)
  have c1 := Classical.not_not.mp c1
  by_cases c2 : ¬ (-999 ≤ w.toInt ∧ w.toInt ≤ 999)
  · have hno : ¬ (keyR k ∧ valR w) := fun q => c2 q.2
    rcases stp_cs (P := P) (i := i) (ok := false) with ⟨hA, hv⟩ | ⟨j, hA, hob, hv⟩ | ⟨j, hA, hob, hb, hv⟩ | ⟨j, b, hA, hob, hb, hv⟩
    · have hE : bld P i (keyR k ∧ valR w) (layF P k w) = (-1, refP P 0) := bld_0 hA
      first | refine a_aload_n K dX11_lays_0 rfl ?_ | refine a_aload_nN K dX11_lays_0 rfl ?_
      refine a_iconst K dX11_lays_1 (v := 0) (by decide) ?_
      refine a_putI K fd_X11_116 (by exact lm_o hM) rfl dX11_lays_2 ?_
      have f0 : frM S (wI S 704 (m 33) 0) m [] [704] := frM_wI (by decide) (by decide)
      obtain ⟨T, hT⟩ : ∃ T, T = wI S 704 (m 33) 0 := ⟨_, rfl⟩
      rw [← hT] at f0 ⊢
      obtain ⟨h, q0⟩ := h0.scr hP f0 (by decide) (by decide)
      have hM := h.1
      first | refine a_aload_n K dX11_lays_5 rfl ?_ | refine a_aload_nN K dX11_lays_5 rfl ?_
      refine a_iload_n K dX11_lays_6 rfl ?_
      refine a_iload_n K dX11_lays_7 rfl ?_
      refine a_i2l K dX11_lays_8 ?_
      refine a_lconst K dX11_lays_9 (v := 0) (by decide) ?_
      refine a_ldc2 K kc_X11_335 dX11_lays_10 ?_
      refine a_invS K (q_inY (p := 0) (q := 999) (by decide) (by decide) c1) my_X11_isIn ml_X11_174 st_X11_isIn rfl (by omega) (by omega) (by omega) rfl (Nat.le_of_ble_eq_true rfl) dX11_lays_13 ?_
      intro r9 S9 hp9
      obtain ⟨rfl, hS9⟩ := hp9
      obtain rfl := hS9.symm
      refine a_if_eq K dX11_lays_16 (tgt := 37) (by decide) (fun c_16 => absurd c_16 (by decide)) (fun c_16 => ?_)
      refine a_iload_n K dX11_lays_19 rfl ?_
      refine a_i2l K dX11_lays_20 ?_
      refine a_ldc2 K kc_X11_337 dX11_lays_21 ?_
      refine a_ldc2 K kc_X11_335 dX11_lays_24 ?_
      refine a_invS K (q_inN (p := -999) (q := 999) (by decide) (by decide) c2) my_X11_isIn ml_X11_174 st_X11_isIn rfl (by omega) (by omega) (by omega) rfl (Nat.le_of_ble_eq_true rfl) dX11_lays_27 ?_
      intro r9 S9 hp9
      obtain ⟨rfl, hS9⟩ := hp9
      obtain rfl := hS9.symm
      refine a_if_eq K dX11_lays_30 (tgt := 37) (by decide) (fun c_30 => ?_) (fun c_30 => absurd c_30 (fun z => z rfl))
      refine a_iconst K dX11_lays_37 (v := 0) (by decide) ?_
      refine a_invV K (q_stp0 (v := nI 0) h hv) my_X11_stops ml_X11_393 im_X11_stops se_X11_stops (ci := 11) (by exact lm_o hM) (by decide) ⟨_, _, rfl⟩ rfl (by omega) (by omega) (by omega) rfl (Nat.le_of_ble_eq_true rfl) dX11_lays_38 ?_
      intro r9 S9 hp9
      obtain ⟨rfl, hS9⟩ := hp9
      obtain rfl := hS9.symm
      refine a_istore K dX11_lays_41 (by decide) ?_
      refine a_iload K dX11_lays_43 rfl ?_
      refine a_iconst K dX11_lays_45 (v := -1) (by decide) ?_
      refine a_icmp_ne K dX11_lays_46 (tgt := 61) (by decide) (fun c_46 => ?_) (fun c_46 => absurd c_46 (by decide))
      refine a_iload K dX11_lays_61 rfl ?_
      refine a_iconst K dX11_lays_63 (v := -1) (by decide) ?_
      refine a_icmp_eq K dX11_lays_64 (tgt := 74) (by decide) (fun c_64 => absurd c_64 (by decide)) (fun c_64 => ?_)
      first | refine a_aload_n K dX11_lays_67 rfl ?_ | refine a_aload_nN K dX11_lays_67 rfl ?_
      refine a_iload K dX11_lays_68 rfl ?_
      refine a_invV K (q_refP h (k := 0) (by decide)) my_X11_refused ml_X11_292 im_X11_refused se_X11_refused (ci := 11) (by exact lm_o hM) (by decide) ⟨_, _, rfl⟩ rfl (by omega) (by omega) (by omega) rfl (Nat.le_of_ble_eq_true rfl) dX11_lays_70 ?_
      intro r9 S9 hp9
      obtain ⟨rfl, hR, qR⟩ := hp9
      exact a_iret K EE rfl (by omega) (by omega) dX11_lays_73 ⟨ρ, Z, by rw [hE], by rw [hE]; exact hR.up (Nat.le_succ mb) (by omega), mQ_tr q0 qR⟩
    · have hE : bld P i (keyR k ∧ valR w) (layF P k w) = (-1, refP P 1) := bld_1 hA hno
      first | refine a_aload_n K dX11_lays_0 rfl ?_ | refine a_aload_nN K dX11_lays_0 rfl ?_
      refine a_iconst K dX11_lays_1 (v := 0) (by decide) ?_
      refine a_putI K fd_X11_116 (by exact lm_o hM) rfl dX11_lays_2 ?_
      have f0 : frM S (wI S 704 (m 33) 0) m [] [704] := frM_wI (by decide) (by decide)
      obtain ⟨T, hT⟩ : ∃ T, T = wI S 704 (m 33) 0 := ⟨_, rfl⟩
      rw [← hT] at f0 ⊢
      obtain ⟨h, q0⟩ := h0.scr hP f0 (by decide) (by decide)
      have hM := h.1
      first | refine a_aload_n K dX11_lays_5 rfl ?_ | refine a_aload_nN K dX11_lays_5 rfl ?_
      refine a_iload_n K dX11_lays_6 rfl ?_
      refine a_iload_n K dX11_lays_7 rfl ?_
      refine a_i2l K dX11_lays_8 ?_
      refine a_lconst K dX11_lays_9 (v := 0) (by decide) ?_
      refine a_ldc2 K kc_X11_335 dX11_lays_10 ?_
      refine a_invS K (q_inY (p := 0) (q := 999) (by decide) (by decide) c1) my_X11_isIn ml_X11_174 st_X11_isIn rfl (by omega) (by omega) (by omega) rfl (Nat.le_of_ble_eq_true rfl) dX11_lays_13 ?_
      intro r9 S9 hp9
      obtain ⟨rfl, hS9⟩ := hp9
      obtain rfl := hS9.symm
      refine a_if_eq K dX11_lays_16 (tgt := 37) (by decide) (fun c_16 => absurd c_16 (by decide)) (fun c_16 => ?_)
      refine a_iload_n K dX11_lays_19 rfl ?_
      refine a_i2l K dX11_lays_20 ?_
      refine a_ldc2 K kc_X11_337 dX11_lays_21 ?_
      refine a_ldc2 K kc_X11_335 dX11_lays_24 ?_
      refine a_invS K (q_inN (p := -999) (q := 999) (by decide) (by decide) c2) my_X11_isIn ml_X11_174 st_X11_isIn rfl (by omega) (by omega) (by omega) rfl (Nat.le_of_ble_eq_true rfl) dX11_lays_27 ?_
      intro r9 S9 hp9
      obtain ⟨rfl, hS9⟩ := hp9
      obtain rfl := hS9.symm
      refine a_if_eq K dX11_lays_30 (tgt := 37) (by decide) (fun c_30 => ?_) (fun c_30 => absurd c_30 (fun z => z rfl))
      refine a_iconst K dX11_lays_37 (v := 0) (by decide) ?_
      refine a_invV K (q_stp0 (v := nI 1) h hv) my_X11_stops ml_X11_393 im_X11_stops se_X11_stops (ci := 11) (by exact lm_o hM) (by decide) ⟨_, _, rfl⟩ rfl (by omega) (by omega) (by omega) rfl (Nat.le_of_ble_eq_true rfl) dX11_lays_38 ?_
      intro r9 S9 hp9
      obtain ⟨rfl, hS9⟩ := hp9
      obtain rfl := hS9.symm
      refine a_istore K dX11_lays_41 (by decide) ?_
      refine a_iload K dX11_lays_43 rfl ?_
      refine a_iconst K dX11_lays_45 (v := -1) (by decide) ?_
      refine a_icmp_ne K dX11_lays_46 (tgt := 61) (by decide) (fun c_46 => ?_) (fun c_46 => absurd c_46 (by decide))
      refine a_iload K dX11_lays_61 rfl ?_
      refine a_iconst K dX11_lays_63 (v := -1) (by decide) ?_
      refine a_icmp_eq K dX11_lays_64 (tgt := 74) (by decide) (fun c_64 => absurd c_64 (by decide)) (fun c_64 => ?_)
      first | refine a_aload_n K dX11_lays_67 rfl ?_ | refine a_aload_nN K dX11_lays_67 rfl ?_
      refine a_iload K dX11_lays_68 rfl ?_
      refine a_invV K (q_refP h (k := 1) (by decide)) my_X11_refused ml_X11_292 im_X11_refused se_X11_refused (ci := 11) (by exact lm_o hM) (by decide) ⟨_, _, rfl⟩ rfl (by omega) (by omega) (by omega) rfl (Nat.le_of_ble_eq_true rfl) dX11_lays_70 ?_
      intro r9 S9 hp9
      obtain ⟨rfl, hR, qR⟩ := hp9
      exact a_iret K EE rfl (by omega) (by omega) dX11_lays_73 ⟨ρ, Z, by rw [hE], by rw [hE]; exact hR.up (Nat.le_succ mb) (by omega), mQ_tr q0 qR⟩
    · exact absurd hob (by decide)
    · exact absurd hob (by decide)
  have c2 := Classical.not_not.mp c2
  have hok : keyR k ∧ valR w := ⟨⟨c1.1, by omega⟩, c2⟩
  rcases stp_cs (P := P) (i := i) (ok := true) with ⟨hA, hv⟩ | ⟨j, hA, hob, hv⟩ | ⟨j, hA, hob, hb, hv⟩ | ⟨j, b, hA, hob, hb, hv⟩
  · have hE : bld P i (keyR k ∧ valR w) (layF P k w) = (-1, refP P 0) := bld_0 hA
    first | refine a_aload_n K dX11_lays_0 rfl ?_ | refine a_aload_nN K dX11_lays_0 rfl ?_
    refine a_iconst K dX11_lays_1 (v := 0) (by decide) ?_
    refine a_putI K fd_X11_116 (by exact lm_o hM) rfl dX11_lays_2 ?_
    have f0 : frM S (wI S 704 (m 33) 0) m [] [704] := frM_wI (by decide) (by decide)
    obtain ⟨T, hT⟩ : ∃ T, T = wI S 704 (m 33) 0 := ⟨_, rfl⟩
    rw [← hT] at f0 ⊢
    obtain ⟨h, q0⟩ := h0.scr hP f0 (by decide) (by decide)
    have hM := h.1
    first | refine a_aload_n K dX11_lays_5 rfl ?_ | refine a_aload_nN K dX11_lays_5 rfl ?_
    refine a_iload_n K dX11_lays_6 rfl ?_
    refine a_iload_n K dX11_lays_7 rfl ?_
    refine a_i2l K dX11_lays_8 ?_
    refine a_lconst K dX11_lays_9 (v := 0) (by decide) ?_
    refine a_ldc2 K kc_X11_335 dX11_lays_10 ?_
    refine a_invS K (q_inY (p := 0) (q := 999) (by decide) (by decide) c1) my_X11_isIn ml_X11_174 st_X11_isIn rfl (by omega) (by omega) (by omega) rfl (Nat.le_of_ble_eq_true rfl) dX11_lays_13 ?_
    intro r9 S9 hp9
    obtain ⟨rfl, hS9⟩ := hp9
    obtain rfl := hS9.symm
    refine a_if_eq K dX11_lays_16 (tgt := 37) (by decide) (fun c_16 => absurd c_16 (by decide)) (fun c_16 => ?_)
    refine a_iload_n K dX11_lays_19 rfl ?_
    refine a_i2l K dX11_lays_20 ?_
    refine a_ldc2 K kc_X11_337 dX11_lays_21 ?_
    refine a_ldc2 K kc_X11_335 dX11_lays_24 ?_
    refine a_invS K (q_inY (p := -999) (q := 999) (by decide) (by decide) c2) my_X11_isIn ml_X11_174 st_X11_isIn rfl (by omega) (by omega) (by omega) rfl (Nat.le_of_ble_eq_true rfl) dX11_lays_27 ?_
    intro r9 S9 hp9
    obtain ⟨rfl, hS9⟩ := hp9
    obtain rfl := hS9.symm
    refine a_if_eq K dX11_lays_30 (tgt := 37) (by decide) (fun c_30 => absurd c_30 (by decide)) (fun c_30 => ?_)
    refine a_iconst K dX11_lays_33 (v := 1) (by decide) ?_
    refine a_goto K dX11_lays_34 (tgt := 38) (by decide) ?_
    refine a_invV K (q_stp1 (v := nI 0) h hv) my_X11_stops ml_X11_393 im_X11_stops se_X11_stops (ci := 11) (by exact lm_o hM) (by decide) ⟨_, _, rfl⟩ rfl (by omega) (by omega) (by omega) rfl (Nat.le_of_ble_eq_true rfl) dX11_lays_38 ?_
    intro r9 S9 hp9
    obtain ⟨rfl, hS9⟩ := hp9
    obtain rfl := hS9.symm
    refine a_istore K dX11_lays_41 (by decide) ?_
    refine a_iload K dX11_lays_43 rfl ?_
    refine a_iconst K dX11_lays_45 (v := -1) (by decide) ?_
    refine a_icmp_ne K dX11_lays_46 (tgt := 61) (by decide) (fun c_46 => ?_) (fun c_46 => absurd c_46 (by decide))
    refine a_iload K dX11_lays_61 rfl ?_
    refine a_iconst K dX11_lays_63 (v := -1) (by decide) ?_
    refine a_icmp_eq K dX11_lays_64 (tgt := 74) (by decide) (fun c_64 => absurd c_64 (by decide)) (fun c_64 => ?_)
    first | refine a_aload_n K dX11_lays_67 rfl ?_ | refine a_aload_nN K dX11_lays_67 rfl ?_
    refine a_iload K dX11_lays_68 rfl ?_
    refine a_invV K (q_refP h (k := 0) (by decide)) my_X11_refused ml_X11_292 im_X11_refused se_X11_refused (ci := 11) (by exact lm_o hM) (by decide) ⟨_, _, rfl⟩ rfl (by omega) (by omega) (by omega) rfl (Nat.le_of_ble_eq_true rfl) dX11_lays_70 ?_
    intro r9 S9 hp9
    obtain ⟨rfl, hR, qR⟩ := hp9
    exact a_iret K EE rfl (by omega) (by omega) dX11_lays_73 ⟨ρ, Z, by rw [hE], by rw [hE]; exact hR.up (Nat.le_succ mb) (by omega), mQ_tr q0 qR⟩
  · exact absurd hob (by decide)
  · have hE : bld P i (keyR k ∧ valR w) (layF P k w) = (-1, refP P 2) := bld_2 hA hok hb
    first | refine a_aload_n K dX11_lays_0 rfl ?_ | refine a_aload_nN K dX11_lays_0 rfl ?_
    refine a_iconst K dX11_lays_1 (v := 0) (by decide) ?_
    refine a_putI K fd_X11_116 (by exact lm_o hM) rfl dX11_lays_2 ?_
    have f0 : frM S (wI S 704 (m 33) 0) m [] [704] := frM_wI (by decide) (by decide)
    obtain ⟨T, hT⟩ : ∃ T, T = wI S 704 (m 33) 0 := ⟨_, rfl⟩
    rw [← hT] at f0 ⊢
    obtain ⟨h, q0⟩ := h0.scr hP f0 (by decide) (by decide)
    have hM := h.1
    first | refine a_aload_n K dX11_lays_5 rfl ?_ | refine a_aload_nN K dX11_lays_5 rfl ?_
    refine a_iload_n K dX11_lays_6 rfl ?_
    refine a_iload_n K dX11_lays_7 rfl ?_
    refine a_i2l K dX11_lays_8 ?_
    refine a_lconst K dX11_lays_9 (v := 0) (by decide) ?_
    refine a_ldc2 K kc_X11_335 dX11_lays_10 ?_
    refine a_invS K (q_inY (p := 0) (q := 999) (by decide) (by decide) c1) my_X11_isIn ml_X11_174 st_X11_isIn rfl (by omega) (by omega) (by omega) rfl (Nat.le_of_ble_eq_true rfl) dX11_lays_13 ?_
    intro r9 S9 hp9
    obtain ⟨rfl, hS9⟩ := hp9
    obtain rfl := hS9.symm
    refine a_if_eq K dX11_lays_16 (tgt := 37) (by decide) (fun c_16 => absurd c_16 (by decide)) (fun c_16 => ?_)
    refine a_iload_n K dX11_lays_19 rfl ?_
    refine a_i2l K dX11_lays_20 ?_
    refine a_ldc2 K kc_X11_337 dX11_lays_21 ?_
    refine a_ldc2 K kc_X11_335 dX11_lays_24 ?_
    refine a_invS K (q_inY (p := -999) (q := 999) (by decide) (by decide) c2) my_X11_isIn ml_X11_174 st_X11_isIn rfl (by omega) (by omega) (by omega) rfl (Nat.le_of_ble_eq_true rfl) dX11_lays_27 ?_
    intro r9 S9 hp9
    obtain ⟨rfl, hS9⟩ := hp9
    obtain rfl := hS9.symm
    refine a_if_eq K dX11_lays_30 (tgt := 37) (by decide) (fun c_30 => absurd c_30 (by decide)) (fun c_30 => ?_)
    refine a_iconst K dX11_lays_33 (v := 1) (by decide) ?_
    refine a_goto K dX11_lays_34 (tgt := 38) (by decide) ?_
    refine a_invV K (q_stp1 (v := nI 2) h hv) my_X11_stops ml_X11_393 im_X11_stops se_X11_stops (ci := 11) (by exact lm_o hM) (by decide) ⟨_, _, rfl⟩ rfl (by omega) (by omega) (by omega) rfl (Nat.le_of_ble_eq_true rfl) dX11_lays_38 ?_
    intro r9 S9 hp9
    obtain ⟨rfl, hS9⟩ := hp9
    obtain rfl := hS9.symm
    refine a_istore K dX11_lays_41 (by decide) ?_
    refine a_iload K dX11_lays_43 rfl ?_
    refine a_iconst K dX11_lays_45 (v := -1) (by decide) ?_
    refine a_icmp_ne K dX11_lays_46 (tgt := 61) (by decide) (fun c_46 => ?_) (fun c_46 => absurd c_46 (by decide))
    refine a_iload K dX11_lays_61 rfl ?_
    refine a_iconst K dX11_lays_63 (v := -1) (by decide) ?_
    refine a_icmp_eq K dX11_lays_64 (tgt := 74) (by decide) (fun c_64 => absurd c_64 (by decide)) (fun c_64 => ?_)
    first | refine a_aload_n K dX11_lays_67 rfl ?_ | refine a_aload_nN K dX11_lays_67 rfl ?_
    refine a_iload K dX11_lays_68 rfl ?_
    refine a_invV K (q_refP h (k := 2) (by decide)) my_X11_refused ml_X11_292 im_X11_refused se_X11_refused (ci := 11) (by exact lm_o hM) (by decide) ⟨_, _, rfl⟩ rfl (by omega) (by omega) (by omega) rfl (Nat.le_of_ble_eq_true rfl) dX11_lays_70 ?_
    intro r9 S9 hp9
    obtain ⟨rfl, hR, qR⟩ := hp9
    exact a_iret K EE rfl (by omega) (by omega) dX11_lays_73 ⟨ρ, Z, by rw [hE], by rw [hE]; exact hR.up (Nat.le_succ mb) (by omega), mQ_tr q0 qR⟩
  · obtain ⟨rfl, hj4⟩ := bAt_some hA
    by_cases hcp : (ent b.1.1 b.1.2).length < 60 ∨ ¬ valIn (ent b.1.1 b.1.2) k = -1000000
    · have hE : bld P (nI j) (keyR k ∧ valR w) (layF P k w) = (nI ((putT (pW P) b.2.1 (pU P) k w b.1).2 - pU P), setT P j (putT (pW P) b.2.1 (pU P) k w b.1) b.2.1 b.2.2) := (bld_9 hA hok hb).trans (if_pos (hcp.elim Or.inr Or.inl))
      first | refine a_aload_n K dX11_lays_0 rfl ?_ | refine a_aload_nN K dX11_lays_0 rfl ?_
      refine a_iconst K dX11_lays_1 (v := 0) (by decide) ?_
      refine a_putI K fd_X11_116 (by exact lm_o hM) rfl dX11_lays_2 ?_
      have f0 : frM S (wI S 704 (m 33) 0) m [] [704] := frM_wI (by decide) (by decide)
      obtain ⟨T, hT⟩ : ∃ T, T = wI S 704 (m 33) 0 := ⟨_, rfl⟩
      rw [← hT] at f0 ⊢
      obtain ⟨h, q0⟩ := h0.scr hP f0 (by decide) (by decide)
      have hM := h.1
      first | refine a_aload_n K dX11_lays_5 rfl ?_ | refine a_aload_nN K dX11_lays_5 rfl ?_
      refine a_iload_n K dX11_lays_6 rfl ?_
      refine a_iload_n K dX11_lays_7 rfl ?_
      refine a_i2l K dX11_lays_8 ?_
      refine a_lconst K dX11_lays_9 (v := 0) (by decide) ?_
      refine a_ldc2 K kc_X11_335 dX11_lays_10 ?_
      refine a_invS K (q_inY (p := 0) (q := 999) (by decide) (by decide) c1) my_X11_isIn ml_X11_174 st_X11_isIn rfl (by omega) (by omega) (by omega) rfl (Nat.le_of_ble_eq_true rfl) dX11_lays_13 ?_
      intro r9 S9 hp9
      obtain ⟨rfl, hS9⟩ := hp9
      obtain rfl := hS9.symm
      refine a_if_eq K dX11_lays_16 (tgt := 37) (by decide) (fun c_16 => absurd c_16 (by decide)) (fun c_16 => ?_)
      refine a_iload_n K dX11_lays_19 rfl ?_
      refine a_i2l K dX11_lays_20 ?_
      refine a_ldc2 K kc_X11_337 dX11_lays_21 ?_
      refine a_ldc2 K kc_X11_335 dX11_lays_24 ?_
      refine a_invS K (q_inY (p := -999) (q := 999) (by decide) (by decide) c2) my_X11_isIn ml_X11_174 st_X11_isIn rfl (by omega) (by omega) (by omega) rfl (Nat.le_of_ble_eq_true rfl) dX11_lays_27 ?_
      intro r9 S9 hp9
      obtain ⟨rfl, hS9⟩ := hp9
      obtain rfl := hS9.symm
      refine a_if_eq K dX11_lays_30 (tgt := 37) (by decide) (fun c_30 => absurd c_30 (by decide)) (fun c_30 => ?_)
      refine a_iconst K dX11_lays_33 (v := 1) (by decide) ?_
      refine a_goto K dX11_lays_34 (tgt := 38) (by decide) ?_
      refine a_invV K (q_stp1 (v := -1) h hv) my_X11_stops ml_X11_393 im_X11_stops se_X11_stops (ci := 11) (by exact lm_o hM) (by decide) ⟨_, _, rfl⟩ rfl (by omega) (by omega) (by omega) rfl (Nat.le_of_ble_eq_true rfl) dX11_lays_38 ?_
      intro r9 S9 hp9
      obtain ⟨rfl, hS9⟩ := hp9
      obtain rfl := hS9.symm
      refine a_istore K dX11_lays_41 (by decide) ?_
      refine a_iload K dX11_lays_43 rfl ?_
      refine a_iconst K dX11_lays_45 (v := -1) (by decide) ?_
      refine a_icmp_ne K dX11_lays_46 (tgt := 61) (by decide) (fun c_46 => absurd c_46 (fun z => z rfl)) (fun c_46 => ?_)
      first | refine a_aload_n K dX11_lays_49 rfl ?_ | refine a_aload_nN K dX11_lays_49 rfl ?_
      refine a_iload_n K dX11_lays_50 rfl ?_
      refine a_iload_n K dX11_lays_51 rfl ?_
      refine a_invV K ((q_canPut h hP hb hj4 (k := k)).post (fun r S2 hp => (⟨bR_y hcp hp.1, hp.2⟩ : r = some (.int 1) ∧ RM S2 m ρ Z mb P ∧ frS T S2 (mQ m)))) my_X11_canPut ml_X11_397 im_X11_canPut se_X11_canPut (ci := 11) (by exact lm_o hM) (by decide) ⟨_, _, rfl⟩ rfl (by omega) (by omega) (by omega) rfl (Nat.le_of_ble_eq_true rfl) dX11_lays_52 ?_
      intro r9 S9 hp9
      obtain ⟨rfl, h9, q9⟩ := hp9
      have hM := h9.1
      refine a_if_ne K dX11_lays_55 (tgt := 61) (by decide) (fun c_55 => ?_) (fun c_55 => absurd c_55 (by decide))
      refine a_iload K dX11_lays_61 rfl ?_
      refine a_iconst K dX11_lays_63 (v := -1) (by decide) ?_
      refine a_icmp_eq K dX11_lays_64 (tgt := 74) (by decide) (fun c_64 => ?_) (fun c_64 => absurd c_64 (fun z => z rfl))
      first | refine a_aload_n K dX11_lays_74 rfl ?_ | refine a_aload_nN K dX11_lays_74 rfl ?_
      refine a_invV K (q_swF h9 hJ hmb) my_X11_sweeps ml_X11_278 im_X11_sweeps se_X11_sweeps (ci := 11) (by exact lm_o hM) (by decide) ⟨_, _, rfl⟩ rfl (by omega) (by omega) (by omega) rfl (Nat.le_of_ble_eq_true rfl) dX11_lays_75 ?_
      intro r9 S1 hp9
      obtain ⟨rfl, Z1, h1, hrm1, f1⟩ := hp9
      have q1 : frS S9 S1 (mQ m) := f1.mq (by decide)
      have hM := h1.1
      first | refine a_aload_n K dX11_lays_78 rfl ?_ | refine a_aload_nN K dX11_lays_78 rfl ?_
      refine a_getI K fd_X11_190 (by exact lm_o hM) (Or.inl rfl) dX11_lays_79 ?_
      rw [h1.N.2.2.2.2]
      refine a_istore K dX11_lays_82 (by decide) ?_
      refine a_iload K dX11_lays_84 rfl ?_
      refine a_if_eq K dX11_lays_86 (tgt := 99) (by decide) (fun c_86 => ?_) (fun c_86 => absurd c_86 (fun z => z rfl))
      first | refine a_aload_n K dX11_lays_99 rfl ?_ | refine a_aload_nN K dX11_lays_99 rfl ?_
      refine a_iload_n K dX11_lays_100 rfl ?_
      refine a_iload_n K dX11_lays_101 rfl ?_
      refine a_iload_n K dX11_lays_102 rfl ?_
      refine a_invV K (q_bPuts h1 hP hb hj4 hrm1) my_X11_builderPuts ml_X11_384 im_X11_builderPuts se_X11_builderPuts (ci := 11) (by exact lm_o hM) (by decide) ⟨_, _, rfl⟩ rfl (by omega) (by omega) (by omega) rfl (Nat.le_of_ble_eq_true rfl) dX11_lays_103 ?_
      intro r9 W2 hp9
      obtain ⟨ρ3, Z3, rfl, hF, qF⟩ := hp9
      have hM := hF.1
      first | refine a_aload_n K dX11_lays_106 rfl ?_ | refine a_aload_nN K dX11_lays_106 rfl ?_
      refine a_getI K fd_X11_190 (by exact lm_o hM) (Or.inl rfl) dX11_lays_107 ?_
      rw [hF.N.2.2.2.2]
      refine a_iload K dX11_lays_110 rfl ?_
      refine a_isub K dX11_lays_112 ?_
      rw [show pMd (setT P j (putT (pW P) b.2.1 (pU P) k w b.1) b.2.1 b.2.2) = pMd P + nI ((putT (pW P) b.2.1 (pU P) k w b.1).2 - pU P) from rfl, md_sub]
      exact a_iret K EE rfl (by omega) (by omega) dX11_lays_113 ⟨ρ3, Z3, by rw [hE], by rw [hE]; exact hF, mQ_tr q0 (mQ_tr q9 (mQ_tr q1 qF))⟩
    · have hE : bld P (nI j) (keyR k ∧ valR w) (layF P k w) = (-1, refP P 3) := (bld_9 hA hok hb).trans (if_neg (fun q => hcp (q.elim Or.inr Or.inl)))
      first | refine a_aload_n K dX11_lays_0 rfl ?_ | refine a_aload_nN K dX11_lays_0 rfl ?_
      refine a_iconst K dX11_lays_1 (v := 0) (by decide) ?_
      refine a_putI K fd_X11_116 (by exact lm_o hM) rfl dX11_lays_2 ?_
      have f0 : frM S (wI S 704 (m 33) 0) m [] [704] := frM_wI (by decide) (by decide)
      obtain ⟨T, hT⟩ : ∃ T, T = wI S 704 (m 33) 0 := ⟨_, rfl⟩
      rw [← hT] at f0 ⊢
      obtain ⟨h, q0⟩ := h0.scr hP f0 (by decide) (by decide)
      have hM := h.1
      first | refine a_aload_n K dX11_lays_5 rfl ?_ | refine a_aload_nN K dX11_lays_5 rfl ?_
      refine a_iload_n K dX11_lays_6 rfl ?_
      refine a_iload_n K dX11_lays_7 rfl ?_
      refine a_i2l K dX11_lays_8 ?_
      refine a_lconst K dX11_lays_9 (v := 0) (by decide) ?_
      refine a_ldc2 K kc_X11_335 dX11_lays_10 ?_
      refine a_invS K (q_inY (p := 0) (q := 999) (by decide) (by decide) c1) my_X11_isIn ml_X11_174 st_X11_isIn rfl (by omega) (by omega) (by omega) rfl (Nat.le_of_ble_eq_true rfl) dX11_lays_13 ?_
      intro r9 S9 hp9
      obtain ⟨rfl, hS9⟩ := hp9
      obtain rfl := hS9.symm
      refine a_if_eq K dX11_lays_16 (tgt := 37) (by decide) (fun c_16 => absurd c_16 (by decide)) (fun c_16 => ?_)
      refine a_iload_n K dX11_lays_19 rfl ?_
      refine a_i2l K dX11_lays_20 ?_
      refine a_ldc2 K kc_X11_337 dX11_lays_21 ?_
      refine a_ldc2 K kc_X11_335 dX11_lays_24 ?_
      refine a_invS K (q_inY (p := -999) (q := 999) (by decide) (by decide) c2) my_X11_isIn ml_X11_174 st_X11_isIn rfl (by omega) (by omega) (by omega) rfl (Nat.le_of_ble_eq_true rfl) dX11_lays_27 ?_
      intro r9 S9 hp9
      obtain ⟨rfl, hS9⟩ := hp9
      obtain rfl := hS9.symm
      refine a_if_eq K dX11_lays_30 (tgt := 37) (by decide) (fun c_30 => absurd c_30 (by decide)) (fun c_30 => ?_)
      refine a_iconst K dX11_lays_33 (v := 1) (by decide) ?_
      refine a_goto K dX11_lays_34 (tgt := 38) (by decide) ?_
      refine a_invV K (q_stp1 (v := -1) h hv) my_X11_stops ml_X11_393 im_X11_stops se_X11_stops (ci := 11) (by exact lm_o hM) (by decide) ⟨_, _, rfl⟩ rfl (by omega) (by omega) (by omega) rfl (Nat.le_of_ble_eq_true rfl) dX11_lays_38 ?_
      intro r9 S9 hp9
      obtain ⟨rfl, hS9⟩ := hp9
      obtain rfl := hS9.symm
      refine a_istore K dX11_lays_41 (by decide) ?_
      refine a_iload K dX11_lays_43 rfl ?_
      refine a_iconst K dX11_lays_45 (v := -1) (by decide) ?_
      refine a_icmp_ne K dX11_lays_46 (tgt := 61) (by decide) (fun c_46 => absurd c_46 (fun z => z rfl)) (fun c_46 => ?_)
      first | refine a_aload_n K dX11_lays_49 rfl ?_ | refine a_aload_nN K dX11_lays_49 rfl ?_
      refine a_iload_n K dX11_lays_50 rfl ?_
      refine a_iload_n K dX11_lays_51 rfl ?_
      refine a_invV K ((q_canPut h hP hb hj4 (k := k)).post (fun r S2 hp => (⟨bR_n hcp hp.1, hp.2⟩ : r = some (.int 0) ∧ RM S2 m ρ Z mb P ∧ frS T S2 (mQ m)))) my_X11_canPut ml_X11_397 im_X11_canPut se_X11_canPut (ci := 11) (by exact lm_o hM) (by decide) ⟨_, _, rfl⟩ rfl (by omega) (by omega) (by omega) rfl (Nat.le_of_ble_eq_true rfl) dX11_lays_52 ?_
      intro r9 S9 hp9
      obtain ⟨rfl, h9, q9⟩ := hp9
      have hM := h9.1
      refine a_if_ne K dX11_lays_55 (tgt := 61) (by decide) (fun c_55 => absurd c_55 (fun z => z rfl)) (fun c_55 => ?_)
      refine a_iconst K dX11_lays_58 (v := 3) (by decide) ?_
      refine a_istore K dX11_lays_59 (by decide) ?_
      refine a_iload K dX11_lays_61 rfl ?_
      refine a_iconst K dX11_lays_63 (v := -1) (by decide) ?_
      refine a_icmp_eq K dX11_lays_64 (tgt := 74) (by decide) (fun c_64 => absurd c_64 (by decide)) (fun c_64 => ?_)
      first | refine a_aload_n K dX11_lays_67 rfl ?_ | refine a_aload_nN K dX11_lays_67 rfl ?_
      refine a_iload K dX11_lays_68 rfl ?_
      rw [show (3 : Int32) = nI 3 from rfl]
      refine a_invV K (q_refP h9 (k := 3) (by decide)) my_X11_refused ml_X11_292 im_X11_refused se_X11_refused (ci := 11) (by exact lm_o hM) (by decide) ⟨_, _, rfl⟩ rfl (by omega) (by omega) (by omega) rfl (Nat.le_of_ble_eq_true rfl) dX11_lays_70 ?_
      intro r9 S9 hp9
      obtain ⟨rfl, hR, qR⟩ := hp9
      exact a_iret K EE rfl (by omega) (by omega) dX11_lays_73 ⟨ρ, Z, by rw [hE], by rw [hE]; exact hR.up (Nat.le_succ mb) (by omega), mQ_tr q0 (mQ_tr q9 qR)⟩
set_option maxHeartbeats 4000000 in
set_option maxRecDepth 100000 in
theorem q_lay {S : aw_S} {m ρ : Nat → Nat} {Z : List Nat × Nat} {mb n9 : Nat} {P : PS} (h0 : RM S m ρ Z mb P) (hJ : PJ n9 P) (hmb : mb + 1 < 2147483000) {i k w : Int32} : aw_M yX11_lay cX11_lay 4 (some FieldType.int) 11 0 0 [.ref (m 33), .int i, .int k, .int w] S (fun r S2 => ∃ ρ2 Z2, r = some (.int (bld P i (keyR k ∧ valR w) (layF P k w)).1) ∧ RM S2 m ρ2 Z2 (mb + 1) (bld P i (keyR k ∧ valR w) (layF P k w)).2 ∧ frS S S2 (mQ m)) := by
  have hM := h0.1
  refine aw_enter (by decide +kernel) (Nat.le_of_ble_eq_true rfl) (fun g K EE => ?_)
  first | refine a_aload_n K dX11_lay_0 rfl ?_ | refine a_aload_nN K dX11_lay_0 rfl ?_
  refine a_iload_n K dX11_lay_1 rfl ?_
  refine a_iload_n K dX11_lay_2 rfl ?_
  refine a_iload_n K dX11_lay_3 rfl ?_
  refine a_iconst K dX11_lay_4 (v := 0) (by decide) ?_
  refine a_invV K (q_lays0 h0 hJ hmb) my_X11_lays ml_X11_400 im_X11_lays se_X11_lays (ci := 11) (by exact lm_o hM) (by decide) ⟨_, _, rfl⟩ rfl (by omega) (by omega) (by omega) rfl (Nat.le_of_ble_eq_true rfl) dX11_lay_5 ?_
  intro r9 S9 hp9
  obtain ⟨ρ2, Z2, rfl, hF, qF⟩ := hp9
  have hp9 := (⟨ρ2, Z2, rfl, hF, qF⟩ : ∃ ρ2 Z2, some (Value.int (bld P i (keyR k ∧ valR w) (layF P k w)).1) = some (Value.int (bld P i (keyR k ∧ valR w) (layF P k w)).1) ∧ RM S9 m ρ2 Z2 (mb + 1) (bld P i (keyR k ∧ valR w) (layF P k w)).2 ∧ frS S S9 (mQ m))
  exact a_iret K EE rfl (by omega) (by omega) dX11_lay_8 hp9
set_option maxHeartbeats 4000000 in
set_option maxRecDepth 100000 in
theorem q_lays1 {S : aw_S} {m ρ : Nat → Nat} {Z : List Nat × Nat} {mb n9 : Nat} {P : PS} (h0 : RM S m ρ Z mb P) (hJ : PJ n9 P) (hmb : mb + 1 < 2147483000) {i k w : Int32} : aw_M yX11_lays cX11_lays 7 (some FieldType.int) 10 0 0 [.ref (m 33), .int i, .int k, .int w, .int 1] S (fun r S2 => ∃ ρ2 Z2, r = some (.int (bld P i (keyR k ∧ valR w) (addF P k w)).1) ∧ RM S2 m ρ2 Z2 (mb + 1) (bld P i (keyR k ∧ valR w) (addF P k w)).2 ∧ frS S S2 (mQ m)) := by
  have hP := hJ.1
  have hw3 := hP.1.1
  have hM := h0.1
  have hl9 := hJ.ln
  have hw6 := hP.1.2
  have hpH := hJ.2.2.2.2.2.1.1
  have hc16 := hJ.2.2.2.2.2.1.2.1
  refine aw_enter (by decide +kernel) (Nat.le_of_ble_eq_true rfl) (fun g K EE => ?_)
  by_cases c1 : ¬ (0 ≤ k.toInt ∧ k.toInt ≤ 999)
  · have hno : ¬ (keyR k ∧ valR w) := fun q => c1 ⟨q.1.1, by have := q.1.2; omega⟩
    rcases stp_cs (P := P) (i := i) (ok := false) with ⟨hA, hv⟩ | ⟨j, hA, hob, hv⟩ | ⟨j, hA, hob, hb, hv⟩ | ⟨j, b, hA, hob, hb, hv⟩
    · have hE : bld P i (keyR k ∧ valR w) (addF P k w) = (-1, refP P 0) := bld_0 hA
      first | refine a_aload_n K dX11_lays_0 rfl ?_ | refine a_aload_nN K dX11_lays_0 rfl ?_
      refine a_iconst K dX11_lays_1 (v := 0) (by decide) ?_
      refine a_putI K fd_X11_116 (by exact lm_o hM) rfl dX11_lays_2 ?_
      have f0 : frM S (wI S 704 (m 33) 0) m [] [704] := frM_wI (by decide) (by decide)
      obtain ⟨T, hT⟩ : ∃ T, T = wI S 704 (m 33) 0 := ⟨_, rfl⟩
      rw [← hT] at f0 ⊢
      obtain ⟨h, q0⟩ := h0.scr hP f0 (by decide) (by decide)
      have hM := h.1
      first | refine a_aload_n K dX11_lays_5 rfl ?_ | refine a_aload_nN K dX11_lays_5 rfl ?_
      refine a_iload_n K dX11_lays_6 rfl ?_
      refine a_iload_n K dX11_lays_7 rfl ?_
      refine a_i2l K dX11_lays_8 ?_
      refine a_lconst K dX11_lays_9 (v := 0) (by decide) ?_
      refine a_ldc2 K kc_X11_335 dX11_lays_10 ?_
      refine a_invS K (q_inN (p := 0) (q := 999) (by decide) (by decide) c1) my_X11_isIn ml_X11_174 st_X11_isIn rfl (by omega) (by omega) (by omega) rfl (Nat.le_of_ble_eq_true rfl) dX11_lays_13 ?_
      intro r9 S9 hp9
      obtain ⟨rfl, hS9⟩ := hp9
      obtain rfl := hS9.symm
      refine a_if_eq K dX11_lays_16 (tgt := 37) (by decide) (fun c_16 => ?_) (fun c_16 => absurd c_16 (fun z => z rfl))
      refine a_iconst K dX11_lays_37 (v := 0) (by decide) ?_
      refine a_invV K (q_stp0 (v := nI 0) h hv) my_X11_stops ml_X11_393 im_X11_stops se_X11_stops (ci := 11) (by exact lm_o hM) (by decide) ⟨_, _, rfl⟩ rfl (by omega) (by omega) (by omega) rfl (Nat.le_of_ble_eq_true rfl) dX11_lays_38 ?_
      intro r9 S9 hp9
      obtain ⟨rfl, hS9⟩ := hp9
      obtain rfl := hS9.symm
      refine a_istore K dX11_lays_41 (by decide) ?_
      refine a_iload K dX11_lays_43 rfl ?_
      refine a_iconst K dX11_lays_45 (v := -1) (by decide) ?_
      refine a_icmp_ne K dX11_lays_46 (tgt := 61) (by decide) (fun c_46 => ?_) (fun c_46 => absurd c_46 (by decide))
      refine a_iload K dX11_lays_61 rfl ?_
      refine a_iconst K dX11_lays_63 (v := -1) (by decide) ?_
      refine a_icmp_eq K dX11_lays_64 (tgt := 74) (by decide) (fun c_64 => absurd c_64 (by decide)) (fun c_64 => ?_)
      first | refine a_aload_n K dX11_lays_67 rfl ?_ | refine a_aload_nN K dX11_lays_67 rfl ?_
      refine a_iload K dX11_lays_68 rfl ?_
      refine a_invV K (q_refP h (k := 0) (by decide)) my_X11_refused ml_X11_292 im_X11_refused se_X11_refused (ci := 11) (by exact lm_o hM) (by decide) ⟨_, _, rfl⟩ rfl (by omega) (by omega) (by omega) rfl (Nat.le_of_ble_eq_true rfl) dX11_lays_70 ?_
      intro r9 S9 hp9
      obtain ⟨rfl, hR, qR⟩ := hp9
      exact a_iret K EE rfl (by omega) (by omega) dX11_lays_73 ⟨ρ, Z, by rw [hE], by rw [hE]; exact hR.up (Nat.le_succ mb) (by omega), mQ_tr q0 qR⟩
    · have hE : bld P i (keyR k ∧ valR w) (addF P k w) = (-1, refP P 1) := bld_1 hA hno
      first | refine a_aload_n K dX11_lays_0 rfl ?_ | refine a_aload_nN K dX11_lays_0 rfl ?_
      refine a_iconst K dX11_lays_1 (v := 0) (by decide) ?_
      refine a_putI K fd_X11_116 (by exact lm_o hM) rfl dX11_lays_2 ?_
      have f0 : frM S (wI S 704 (m 33) 0) m [] [704] := frM_wI (by decide) (by decide)
      obtain ⟨T, hT⟩ : ∃ T, T = wI S 704 (m 33) 0 := ⟨_, rfl⟩
      rw [← hT] at f0 ⊢
      obtain ⟨h, q0⟩ := h0.scr hP f0 (by decide) (by decide)
      have hM := h.1
      first | refine a_aload_n K dX11_lays_5 rfl ?_ | refine a_aload_nN K dX11_lays_5 rfl ?_
      refine a_iload_n K dX11_lays_6 rfl ?_
      refine a_iload_n K dX11_lays_7 rfl ?_
      refine a_i2l K dX11_lays_8 ?_
      refine a_lconst K dX11_lays_9 (v := 0) (by decide) ?_
      refine a_ldc2 K kc_X11_335 dX11_lays_10 ?_
      refine a_invS K (q_inN (p := 0) (q := 999) (by decide) (by decide) c1) my_X11_isIn ml_X11_174 st_X11_isIn rfl (by omega) (by omega) (by omega) rfl (Nat.le_of_ble_eq_true rfl) dX11_lays_13 ?_
      intro r9 S9 hp9
      obtain ⟨rfl, hS9⟩ := hp9
      obtain rfl := hS9.symm
      refine a_if_eq K dX11_lays_16 (tgt := 37) (by decide) (fun c_16 => ?_) (fun c_16 => absurd c_16 (fun z => z rfl))
      refine a_iconst K dX11_lays_37 (v := 0) (by decide) ?_
      refine a_invV K (q_stp0 (v := nI 1) h hv) my_X11_stops ml_X11_393 im_X11_stops se_X11_stops (ci := 11) (by exact lm_o hM) (by decide) ⟨_, _, rfl⟩ rfl (by omega) (by omega) (by omega) rfl (Nat.le_of_ble_eq_true rfl) dX11_lays_38 ?_
      intro r9 S9 hp9
      obtain ⟨rfl, hS9⟩ := hp9
      obtain rfl := hS9.symm
      refine a_istore K dX11_lays_41 (by decide) ?_
      refine a_iload K dX11_lays_43 rfl ?_
      refine a_iconst K dX11_lays_45 (v := -1) (by decide) ?_
      refine a_icmp_ne K dX11_lays_46 (tgt := 61) (by decide) (fun c_46 => ?_) (fun c_46 => absurd c_46 (by decide))
      refine a_iload K dX11_lays_61 rfl ?_
      refine a_iconst K dX11_lays_63 (v := -1) (by decide) ?_
      refine a_icmp_eq K dX11_lays_64 (tgt := 74) (by decide) (fun c_64 => absurd c_64 (by decide)) (fun c_64 => ?_)
      first | refine a_aload_n K dX11_lays_67 rfl ?_ | refine a_aload_nN K dX11_lays_67 rfl ?_
      refine a_iload K dX11_lays_68 rfl ?_
      refine a_invV K (q_refP h (k := 1) (by decide)) my_X11_refused ml_X11_292 im_X11_refused se_X11_refused (ci := 11) (by exact lm_o hM) (by decide) ⟨_, _, rfl⟩ rfl (by omega) (by omega) (by omega) rfl (Nat.le_of_ble_eq_true rfl) dX11_lays_70 ?_
      intro r9 S9 hp9
      obtain ⟨rfl, hR, qR⟩ := hp9
      exact a_iret K EE rfl (by omega) (by omega) dX11_lays_73 ⟨ρ, Z, by rw [hE], by rw [hE]; exact hR.up (Nat.le_succ mb) (by omega), mQ_tr q0 qR⟩
    · exact absurd hob (by decide)
    · exact absurd hob (by decide)
  have c1 := Classical.not_not.mp c1
  by_cases c2 : ¬ (-999 ≤ w.toInt ∧ w.toInt ≤ 999)
  · have hno : ¬ (keyR k ∧ valR w) := fun q => c2 q.2
    rcases stp_cs (P := P) (i := i) (ok := false) with ⟨hA, hv⟩ | ⟨j, hA, hob, hv⟩ | ⟨j, hA, hob, hb, hv⟩ | ⟨j, b, hA, hob, hb, hv⟩
    · have hE : bld P i (keyR k ∧ valR w) (addF P k w) = (-1, refP P 0) := bld_0 hA
      first | refine a_aload_n K dX11_lays_0 rfl ?_ | refine a_aload_nN K dX11_lays_0 rfl ?_
      refine a_iconst K dX11_lays_1 (v := 0) (by decide) ?_
      refine a_putI K fd_X11_116 (by exact lm_o hM) rfl dX11_lays_2 ?_
      have f0 : frM S (wI S 704 (m 33) 0) m [] [704] := frM_wI (by decide) (by decide)
      obtain ⟨T, hT⟩ : ∃ T, T = wI S 704 (m 33) 0 := ⟨_, rfl⟩
      rw [← hT] at f0 ⊢
      obtain ⟨h, q0⟩ := h0.scr hP f0 (by decide) (by decide)
      have hM := h.1
      first | refine a_aload_n K dX11_lays_5 rfl ?_ | refine a_aload_nN K dX11_lays_5 rfl ?_
      refine a_iload_n K dX11_lays_6 rfl ?_
      refine a_iload_n K dX11_lays_7 rfl ?_
      refine a_i2l K dX11_lays_8 ?_
      refine a_lconst K dX11_lays_9 (v := 0) (by decide) ?_
      refine a_ldc2 K kc_X11_335 dX11_lays_10 ?_
      refine a_invS K (q_inY (p := 0) (q := 999) (by decide) (by decide) c1) my_X11_isIn ml_X11_174 st_X11_isIn rfl (by omega) (by omega) (by omega) rfl (Nat.le_of_ble_eq_true rfl) dX11_lays_13 ?_
      intro r9 S9 hp9
      obtain ⟨rfl, hS9⟩ := hp9
      obtain rfl := hS9.symm
      refine a_if_eq K dX11_lays_16 (tgt := 37) (by decide) (fun c_16 => absurd c_16 (by decide)) (fun c_16 => ?_)
      refine a_iload_n K dX11_lays_19 rfl ?_
      refine a_i2l K dX11_lays_20 ?_
      refine a_ldc2 K kc_X11_337 dX11_lays_21 ?_
      refine a_ldc2 K kc_X11_335 dX11_lays_24 ?_
      refine a_invS K (q_inN (p := -999) (q := 999) (by decide) (by decide) c2) my_X11_isIn ml_X11_174 st_X11_isIn rfl (by omega) (by omega) (by omega) rfl (Nat.le_of_ble_eq_true rfl) dX11_lays_27 ?_
      intro r9 S9 hp9
      obtain ⟨rfl, hS9⟩ := hp9
      obtain rfl := hS9.symm
      refine a_if_eq K dX11_lays_30 (tgt := 37) (by decide) (fun c_30 => ?_) (fun c_30 => absurd c_30 (fun z => z rfl))
      refine a_iconst K dX11_lays_37 (v := 0) (by decide) ?_
      refine a_invV K (q_stp0 (v := nI 0) h hv) my_X11_stops ml_X11_393 im_X11_stops se_X11_stops (ci := 11) (by exact lm_o hM) (by decide) ⟨_, _, rfl⟩ rfl (by omega) (by omega) (by omega) rfl (Nat.le_of_ble_eq_true rfl) dX11_lays_38 ?_
      intro r9 S9 hp9
      obtain ⟨rfl, hS9⟩ := hp9
      obtain rfl := hS9.symm
      refine a_istore K dX11_lays_41 (by decide) ?_
      refine a_iload K dX11_lays_43 rfl ?_
      refine a_iconst K dX11_lays_45 (v := -1) (by decide) ?_
      refine a_icmp_ne K dX11_lays_46 (tgt := 61) (by decide) (fun c_46 => ?_) (fun c_46 => absurd c_46 (by decide))
      refine a_iload K dX11_lays_61 rfl ?_
      refine a_iconst K dX11_lays_63 (v := -1) (by decide) ?_
      refine a_icmp_eq K dX11_lays_64 (tgt := 74) (by decide) (fun c_64 => absurd c_64 (by decide)) (fun c_64 => ?_)
      first | refine a_aload_n K dX11_lays_67 rfl ?_ | refine a_aload_nN K dX11_lays_67 rfl ?_
      refine a_iload K dX11_lays_68 rfl ?_
      refine a_invV K (q_refP h (k := 0) (by decide)) my_X11_refused ml_X11_292 im_X11_refused se_X11_refused (ci := 11) (by exact lm_o hM) (by decide) ⟨_, _, rfl⟩ rfl (by omega) (by omega) (by omega) rfl (Nat.le_of_ble_eq_true rfl) dX11_lays_70 ?_
      intro r9 S9 hp9
      obtain ⟨rfl, hR, qR⟩ := hp9
      exact a_iret K EE rfl (by omega) (by omega) dX11_lays_73 ⟨ρ, Z, by rw [hE], by rw [hE]; exact hR.up (Nat.le_succ mb) (by omega), mQ_tr q0 qR⟩
    · have hE : bld P i (keyR k ∧ valR w) (addF P k w) = (-1, refP P 1) := bld_1 hA hno
      first | refine a_aload_n K dX11_lays_0 rfl ?_ | refine a_aload_nN K dX11_lays_0 rfl ?_
      refine a_iconst K dX11_lays_1 (v := 0) (by decide) ?_
      refine a_putI K fd_X11_116 (by exact lm_o hM) rfl dX11_lays_2 ?_
      have f0 : frM S (wI S 704 (m 33) 0) m [] [704] := frM_wI (by decide) (by decide)
      obtain ⟨T, hT⟩ : ∃ T, T = wI S 704 (m 33) 0 := ⟨_, rfl⟩
      rw [← hT] at f0 ⊢
      obtain ⟨h, q0⟩ := h0.scr hP f0 (by decide) (by decide)
      have hM := h.1
      first | refine a_aload_n K dX11_lays_5 rfl ?_ | refine a_aload_nN K dX11_lays_5 rfl ?_
      refine a_iload_n K dX11_lays_6 rfl ?_
      refine a_iload_n K dX11_lays_7 rfl ?_
      refine a_i2l K dX11_lays_8 ?_
      refine a_lconst K dX11_lays_9 (v := 0) (by decide) ?_
      refine a_ldc2 K kc_X11_335 dX11_lays_10 ?_
      refine a_invS K (q_inY (p := 0) (q := 999) (by decide) (by decide) c1) my_X11_isIn ml_X11_174 st_X11_isIn rfl (by omega) (by omega) (by omega) rfl (Nat.le_of_ble_eq_true rfl) dX11_lays_13 ?_
      intro r9 S9 hp9
      obtain ⟨rfl, hS9⟩ := hp9
      obtain rfl := hS9.symm
      refine a_if_eq K dX11_lays_16 (tgt := 37) (by decide) (fun c_16 => absurd c_16 (by decide)) (fun c_16 => ?_)
      refine a_iload_n K dX11_lays_19 rfl ?_
      refine a_i2l K dX11_lays_20 ?_
      refine a_ldc2 K kc_X11_337 dX11_lays_21 ?_
      refine a_ldc2 K kc_X11_335 dX11_lays_24 ?_
      refine a_invS K (q_inN (p := -999) (q := 999) (by decide) (by decide) c2) my_X11_isIn ml_X11_174 st_X11_isIn rfl (by omega) (by omega) (by omega) rfl (Nat.le_of_ble_eq_true rfl) dX11_lays_27 ?_
      intro r9 S9 hp9
      obtain ⟨rfl, hS9⟩ := hp9
      obtain rfl := hS9.symm
      refine a_if_eq K dX11_lays_30 (tgt := 37) (by decide) (fun c_30 => ?_) (fun c_30 => absurd c_30 (fun z => z rfl))
      refine a_iconst K dX11_lays_37 (v := 0) (by decide) ?_
      refine a_invV K (q_stp0 (v := nI 1) h hv) my_X11_stops ml_X11_393 im_X11_stops se_X11_stops (ci := 11) (by exact lm_o hM) (by decide) ⟨_, _, rfl⟩ rfl (by omega) (by omega) (by omega) rfl (Nat.le_of_ble_eq_true rfl) dX11_lays_38 ?_
      intro r9 S9 hp9
      obtain ⟨rfl, hS9⟩ := hp9
      obtain rfl := hS9.symm
      refine a_istore K dX11_lays_41 (by decide) ?_
      refine a_iload K dX11_lays_43 rfl ?_
      refine a_iconst K dX11_lays_45 (v := -1) (by decide) ?_
      refine a_icmp_ne K dX11_lays_46 (tgt := 61) (by decide) (fun c_46 => ?_) (fun c_46 => absurd c_46 (by decide))
      refine a_iload K dX11_lays_61 rfl ?_
      refine a_iconst K dX11_lays_63 (v := -1) (by decide) ?_
      refine a_icmp_eq K dX11_lays_64 (tgt := 74) (by decide) (fun c_64 => absurd c_64 (by decide)) (fun c_64 => ?_)
      first | refine a_aload_n K dX11_lays_67 rfl ?_ | refine a_aload_nN K dX11_lays_67 rfl ?_
      refine a_iload K dX11_lays_68 rfl ?_
      refine a_invV K (q_refP h (k := 1) (by decide)) my_X11_refused ml_X11_292 im_X11_refused se_X11_refused (ci := 11) (by exact lm_o hM) (by decide) ⟨_, _, rfl⟩ rfl (by omega) (by omega) (by omega) rfl (Nat.le_of_ble_eq_true rfl) dX11_lays_70 ?_
      intro r9 S9 hp9
      obtain ⟨rfl, hR, qR⟩ := hp9
      exact a_iret K EE rfl (by omega) (by omega) dX11_lays_73 ⟨ρ, Z, by rw [hE], by rw [hE]; exact hR.up (Nat.le_succ mb) (by omega), mQ_tr q0 qR⟩
    · exact absurd hob (by decide)
    · exact absurd hob (by decide)
  have c2 := Classical.not_not.mp c2
  have hok : keyR k ∧ valR w := ⟨⟨c1.1, by omega⟩, c2⟩
  rcases stp_cs (P := P) (i := i) (ok := true) with ⟨hA, hv⟩ | ⟨j, hA, hob, hv⟩ | ⟨j, hA, hob, hb, hv⟩ | ⟨j, b, hA, hob, hb, hv⟩
  · have hE : bld P i (keyR k ∧ valR w) (addF P k w) = (-1, refP P 0) := bld_0 hA
    first | refine a_aload_n K dX11_lays_0 rfl ?_ | refine a_aload_nN K dX11_lays_0 rfl ?_
    refine a_iconst K dX11_lays_1 (v := 0) (by decide) ?_
    refine a_putI K fd_X11_116 (by exact lm_o hM) rfl dX11_lays_2 ?_
    have f0 : frM S (wI S 704 (m 33) 0) m [] [704] := frM_wI (by decide) (by decide)
    obtain ⟨T, hT⟩ : ∃ T, T = wI S 704 (m 33) 0 := ⟨_, rfl⟩
    rw [← hT] at f0 ⊢
    obtain ⟨h, q0⟩ := h0.scr hP f0 (by decide) (by decide)
    have hM := h.1
    first | refine a_aload_n K dX11_lays_5 rfl ?_ | refine a_aload_nN K dX11_lays_5 rfl ?_
    refine a_iload_n K dX11_lays_6 rfl ?_
    refine a_iload_n K dX11_lays_7 rfl ?_
    refine a_i2l K dX11_lays_8 ?_
    refine a_lconst K dX11_lays_9 (v := 0) (by decide) ?_
    refine a_ldc2 K kc_X11_335 dX11_lays_10 ?_
    refine a_invS K (q_inY (p := 0) (q := 999) (by decide) (by decide) c1) my_X11_isIn ml_X11_174 st_X11_isIn rfl (by omega) (by omega) (by omega) rfl (Nat.le_of_ble_eq_true rfl) dX11_lays_13 ?_
    intro r9 S9 hp9
    obtain ⟨rfl, hS9⟩ := hp9
    obtain rfl := hS9.symm
    refine a_if_eq K dX11_lays_16 (tgt := 37) (by decide) (fun c_16 => absurd c_16 (by decide)) (fun c_16 => ?_)
    refine a_iload_n K dX11_lays_19 rfl ?_
    refine a_i2l K dX11_lays_20 ?_
    refine a_ldc2 K kc_X11_337 dX11_lays_21 ?_
    refine a_ldc2 K kc_X11_335 dX11_lays_24 ?_
    refine a_invS K (q_inY (p := -999) (q := 999) (by decide) (by decide) c2) my_X11_isIn ml_X11_174 st_X11_isIn rfl (by omega) (by omega) (by omega) rfl (Nat.le_of_ble_eq_true rfl) dX11_lays_27 ?_
    intro r9 S9 hp9
    obtain ⟨rfl, hS9⟩ := hp9
    obtain rfl := hS9.symm
    refine a_if_eq K dX11_lays_30 (tgt := 37) (by decide) (fun c_30 => absurd c_30 (by decide)) (fun c_30 => ?_)
    refine a_iconst K dX11_lays_33 (v := 1) (by decide) ?_
    refine a_goto K dX11_lays_34 (tgt := 38) (by decide) ?_
    refine a_invV K (q_stp1 (v := nI 0) h hv) my_X11_stops ml_X11_393 im_X11_stops se_X11_stops (ci := 11) (by exact lm_o hM) (by decide) ⟨_, _, rfl⟩ rfl (by omega) (by omega) (by omega) rfl (Nat.le_of_ble_eq_true rfl) dX11_lays_38 ?_
    intro r9 S9 hp9
    obtain ⟨rfl, hS9⟩ := hp9
    obtain rfl := hS9.symm
    refine a_istore K dX11_lays_41 (by decide) ?_
    refine a_iload K dX11_lays_43 rfl ?_
    refine a_iconst K dX11_lays_45 (v := -1) (by decide) ?_
    refine a_icmp_ne K dX11_lays_46 (tgt := 61) (by decide) (fun c_46 => ?_) (fun c_46 => absurd c_46 (by decide))
    refine a_iload K dX11_lays_61 rfl ?_
    refine a_iconst K dX11_lays_63 (v := -1) (by decide) ?_
    refine a_icmp_eq K dX11_lays_64 (tgt := 74) (by decide) (fun c_64 => absurd c_64 (by decide)) (fun c_64 => ?_)
    first | refine a_aload_n K dX11_lays_67 rfl ?_ | refine a_aload_nN K dX11_lays_67 rfl ?_
    refine a_iload K dX11_lays_68 rfl ?_
    refine a_invV K (q_refP h (k := 0) (by decide)) my_X11_refused ml_X11_292 im_X11_refused se_X11_refused (ci := 11) (by exact lm_o hM) (by decide) ⟨_, _, rfl⟩ rfl (by omega) (by omega) (by omega) rfl (Nat.le_of_ble_eq_true rfl) dX11_lays_70 ?_
    intro r9 S9 hp9
    obtain ⟨rfl, hR, qR⟩ := hp9
    exact a_iret K EE rfl (by omega) (by omega) dX11_lays_73 ⟨ρ, Z, by rw [hE], by rw [hE]; exact hR.up (Nat.le_succ mb) (by omega), mQ_tr q0 qR⟩
  · exact absurd hob (by decide)
  · have hE : bld P i (keyR k ∧ valR w) (addF P k w) = (-1, refP P 2) := bld_2 hA hok hb
    first | refine a_aload_n K dX11_lays_0 rfl ?_ | refine a_aload_nN K dX11_lays_0 rfl ?_
    refine a_iconst K dX11_lays_1 (v := 0) (by decide) ?_
    refine a_putI K fd_X11_116 (by exact lm_o hM) rfl dX11_lays_2 ?_
    have f0 : frM S (wI S 704 (m 33) 0) m [] [704] := frM_wI (by decide) (by decide)
    obtain ⟨T, hT⟩ : ∃ T, T = wI S 704 (m 33) 0 := ⟨_, rfl⟩
    rw [← hT] at f0 ⊢
    obtain ⟨h, q0⟩ := h0.scr hP f0 (by decide) (by decide)
    have hM := h.1
    first | refine a_aload_n K dX11_lays_5 rfl ?_ | refine a_aload_nN K dX11_lays_5 rfl ?_
    refine a_iload_n K dX11_lays_6 rfl ?_
    refine a_iload_n K dX11_lays_7 rfl ?_
    refine a_i2l K dX11_lays_8 ?_
    refine a_lconst K dX11_lays_9 (v := 0) (by decide) ?_
    refine a_ldc2 K kc_X11_335 dX11_lays_10 ?_
    refine a_invS K (q_inY (p := 0) (q := 999) (by decide) (by decide) c1) my_X11_isIn ml_X11_174 st_X11_isIn rfl (by omega) (by omega) (by omega) rfl (Nat.le_of_ble_eq_true rfl) dX11_lays_13 ?_
    intro r9 S9 hp9
    obtain ⟨rfl, hS9⟩ := hp9
    obtain rfl := hS9.symm
    refine a_if_eq K dX11_lays_16 (tgt := 37) (by decide) (fun c_16 => absurd c_16 (by decide)) (fun c_16 => ?_)
    refine a_iload_n K dX11_lays_19 rfl ?_
    refine a_i2l K dX11_lays_20 ?_
    refine a_ldc2 K kc_X11_337 dX11_lays_21 ?_
    refine a_ldc2 K kc_X11_335 dX11_lays_24 ?_
    refine a_invS K (q_inY (p := -999) (q := 999) (by decide) (by decide) c2) my_X11_isIn ml_X11_174 st_X11_isIn rfl (by omega) (by omega) (by omega) rfl (Nat.le_of_ble_eq_true rfl) dX11_lays_27 ?_
    intro r9 S9 hp9
    obtain ⟨rfl, hS9⟩ := hp9
    obtain rfl := hS9.symm
    refine a_if_eq K dX11_lays_30 (tgt := 37) (by decide) (fun c_30 => absurd c_30 (by decide)) (fun c_30 => ?_)
    refine a_iconst K dX11_lays_33 (v := 1) (by decide) ?_
    refine a_goto K dX11_lays_34 (tgt := 38) (by decide) ?_
    refine a_invV K (q_stp1 (v := nI 2) h hv) my_X11_stops ml_X11_393 im_X11_stops se_X11_stops (ci := 11) (by exact lm_o hM) (by decide) ⟨_, _, rfl⟩ rfl (by omega) (by omega) (by omega) rfl (Nat.le_of_ble_eq_true rfl) dX11_lays_38 ?_
    intro r9 S9 hp9
    obtain ⟨rfl, hS9⟩ := hp9
    obtain rfl := hS9.symm
    refine a_istore K dX11_lays_41 (by decide) ?_
    refine a_iload K dX11_lays_43 rfl ?_
    refine a_iconst K dX11_lays_45 (v := -1) (by decide) ?_
    refine a_icmp_ne K dX11_lays_46 (tgt := 61) (by decide) (fun c_46 => ?_) (fun c_46 => absurd c_46 (by decide))
    refine a_iload K dX11_lays_61 rfl ?_
    refine a_iconst K dX11_lays_63 (v := -1) (by decide) ?_
    refine a_icmp_eq K dX11_lays_64 (tgt := 74) (by decide) (fun c_64 => absurd c_64 (by decide)) (fun c_64 => ?_)
    first | refine a_aload_n K dX11_lays_67 rfl ?_ | refine a_aload_nN K dX11_lays_67 rfl ?_
    refine a_iload K dX11_lays_68 rfl ?_
    refine a_invV K (q_refP h (k := 2) (by decide)) my_X11_refused ml_X11_292 im_X11_refused se_X11_refused (ci := 11) (by exact lm_o hM) (by decide) ⟨_, _, rfl⟩ rfl (by omega) (by omega) (by omega) rfl (Nat.le_of_ble_eq_true rfl) dX11_lays_70 ?_
    intro r9 S9 hp9
    obtain ⟨rfl, hR, qR⟩ := hp9
    exact a_iret K EE rfl (by omega) (by omega) dX11_lays_73 ⟨ρ, Z, by rw [hE], by rw [hE]; exact hR.up (Nat.le_succ mb) (by omega), mQ_tr q0 qR⟩
  · obtain ⟨rfl, hj4⟩ := bAt_some hA
    by_cases hcp : (ent b.1.1 b.1.2).length < 60 ∨ ¬ valIn (ent b.1.1 b.1.2) k = -1000000
    · have hE : bld P (nI j) (keyR k ∧ valR w) (addF P k w) = (nI ((putT (pW P) b.2.1 (pU P) k (addV (ent b.1.1 b.1.2) k w) b.1).2 - pU P), setT P j (putT (pW P) b.2.1 (pU P) k (addV (ent b.1.1 b.1.2) k w) b.1) b.2.1 b.2.2) := (bld_9 hA hok hb).trans (if_pos (hcp.elim Or.inr Or.inl))
      first | refine a_aload_n K dX11_lays_0 rfl ?_ | refine a_aload_nN K dX11_lays_0 rfl ?_
      refine a_iconst K dX11_lays_1 (v := 0) (by decide) ?_
      refine a_putI K fd_X11_116 (by exact lm_o hM) rfl dX11_lays_2 ?_
      have f0 : frM S (wI S 704 (m 33) 0) m [] [704] := frM_wI (by decide) (by decide)
      obtain ⟨T, hT⟩ : ∃ T, T = wI S 704 (m 33) 0 := ⟨_, rfl⟩
      rw [← hT] at f0 ⊢
      obtain ⟨h, q0⟩ := h0.scr hP f0 (by decide) (by decide)
      have hM := h.1
      first | refine a_aload_n K dX11_lays_5 rfl ?_ | refine a_aload_nN K dX11_lays_5 rfl ?_
      refine a_iload_n K dX11_lays_6 rfl ?_
      refine a_iload_n K dX11_lays_7 rfl ?_
      refine a_i2l K dX11_lays_8 ?_
      refine a_lconst K dX11_lays_9 (v := 0) (by decide) ?_
      refine a_ldc2 K kc_X11_335 dX11_lays_10 ?_
      refine a_invS K (q_inY (p := 0) (q := 999) (by decide) (by decide) c1) my_X11_isIn ml_X11_174 st_X11_isIn rfl (by omega) (by omega) (by omega) rfl (Nat.le_of_ble_eq_true rfl) dX11_lays_13 ?_
      intro r9 S9 hp9
      obtain ⟨rfl, hS9⟩ := hp9
      obtain rfl := hS9.symm
      refine a_if_eq K dX11_lays_16 (tgt := 37) (by decide) (fun c_16 => absurd c_16 (by decide)) (fun c_16 => ?_)
      refine a_iload_n K dX11_lays_19 rfl ?_
      refine a_i2l K dX11_lays_20 ?_
      refine a_ldc2 K kc_X11_337 dX11_lays_21 ?_
      refine a_ldc2 K kc_X11_335 dX11_lays_24 ?_
      refine a_invS K (q_inY (p := -999) (q := 999) (by decide) (by decide) c2) my_X11_isIn ml_X11_174 st_X11_isIn rfl (by omega) (by omega) (by omega) rfl (Nat.le_of_ble_eq_true rfl) dX11_lays_27 ?_
      intro r9 S9 hp9
      obtain ⟨rfl, hS9⟩ := hp9
      obtain rfl := hS9.symm
      refine a_if_eq K dX11_lays_30 (tgt := 37) (by decide) (fun c_30 => absurd c_30 (by decide)) (fun c_30 => ?_)
      refine a_iconst K dX11_lays_33 (v := 1) (by decide) ?_
      refine a_goto K dX11_lays_34 (tgt := 38) (by decide) ?_
      refine a_invV K (q_stp1 (v := -1) h hv) my_X11_stops ml_X11_393 im_X11_stops se_X11_stops (ci := 11) (by exact lm_o hM) (by decide) ⟨_, _, rfl⟩ rfl (by omega) (by omega) (by omega) rfl (Nat.le_of_ble_eq_true rfl) dX11_lays_38 ?_
      intro r9 S9 hp9
      obtain ⟨rfl, hS9⟩ := hp9
      obtain rfl := hS9.symm
      refine a_istore K dX11_lays_41 (by decide) ?_
      refine a_iload K dX11_lays_43 rfl ?_
      refine a_iconst K dX11_lays_45 (v := -1) (by decide) ?_
      refine a_icmp_ne K dX11_lays_46 (tgt := 61) (by decide) (fun c_46 => absurd c_46 (fun z => z rfl)) (fun c_46 => ?_)
      first | refine a_aload_n K dX11_lays_49 rfl ?_ | refine a_aload_nN K dX11_lays_49 rfl ?_
      refine a_iload_n K dX11_lays_50 rfl ?_
      refine a_iload_n K dX11_lays_51 rfl ?_
      refine a_invV K ((q_canPut h hP hb hj4 (k := k)).post (fun r S2 hp => (⟨bR_y hcp hp.1, hp.2⟩ : r = some (.int 1) ∧ RM S2 m ρ Z mb P ∧ frS T S2 (mQ m)))) my_X11_canPut ml_X11_397 im_X11_canPut se_X11_canPut (ci := 11) (by exact lm_o hM) (by decide) ⟨_, _, rfl⟩ rfl (by omega) (by omega) (by omega) rfl (Nat.le_of_ble_eq_true rfl) dX11_lays_52 ?_
      intro r9 S9 hp9
      obtain ⟨rfl, h9, q9⟩ := hp9
      have hM := h9.1
      refine a_if_ne K dX11_lays_55 (tgt := 61) (by decide) (fun c_55 => ?_) (fun c_55 => absurd c_55 (by decide))
      refine a_iload K dX11_lays_61 rfl ?_
      refine a_iconst K dX11_lays_63 (v := -1) (by decide) ?_
      refine a_icmp_eq K dX11_lays_64 (tgt := 74) (by decide) (fun c_64 => ?_) (fun c_64 => absurd c_64 (fun z => z rfl))
      first | refine a_aload_n K dX11_lays_74 rfl ?_ | refine a_aload_nN K dX11_lays_74 rfl ?_
      refine a_invV K (q_swF h9 hJ hmb) my_X11_sweeps ml_X11_278 im_X11_sweeps se_X11_sweeps (ci := 11) (by exact lm_o hM) (by decide) ⟨_, _, rfl⟩ rfl (by omega) (by omega) (by omega) rfl (Nat.le_of_ble_eq_true rfl) dX11_lays_75 ?_
      intro r9 S1 hp9
      obtain ⟨rfl, Z1, h1, hrm1, f1⟩ := hp9
      have q1 : frS S9 S1 (mQ m) := f1.mq (by decide)
      have hM := h1.1
      first | refine a_aload_n K dX11_lays_78 rfl ?_ | refine a_aload_nN K dX11_lays_78 rfl ?_
      refine a_getI K fd_X11_190 (by exact lm_o hM) (Or.inl rfl) dX11_lays_79 ?_
      rw [h1.N.2.2.2.2]
      refine a_istore K dX11_lays_82 (by decide) ?_
      refine a_iload K dX11_lays_84 rfl ?_
      refine a_if_eq K dX11_lays_86 (tgt := 99) (by decide) (fun c_86 => absurd c_86 (by decide)) (fun c_86 => ?_)
      first | refine a_aload_n K dX11_lays_89 rfl ?_ | refine a_aload_nN K dX11_lays_89 rfl ?_
      refine a_iload_n K dX11_lays_90 rfl ?_
      refine a_iload_n K dX11_lays_91 rfl ?_
      refine a_iload_n K dX11_lays_92 rfl ?_
      refine a_invV K (q_bAdds h1 hP hb hj4 hrm1) my_X11_builderAdds ml_X11_387 im_X11_builderAdds se_X11_builderAdds (ci := 11) (by exact lm_o hM) (by decide) ⟨_, _, rfl⟩ rfl (by omega) (by omega) (by omega) rfl (Nat.le_of_ble_eq_true rfl) dX11_lays_93 ?_
      intro r9 W2 hp9
      obtain ⟨ρ3, Z3, rfl, hF, qF⟩ := hp9
      have hM := hF.1
      refine a_goto K dX11_lays_96 (tgt := 106) (by decide) ?_
      first | refine a_aload_n K dX11_lays_106 rfl ?_ | refine a_aload_nN K dX11_lays_106 rfl ?_
      refine a_getI K fd_X11_190 (by exact lm_o hM) (Or.inl rfl) dX11_lays_107 ?_
      rw [hF.N.2.2.2.2]
      refine a_iload K dX11_lays_110 rfl ?_
      refine a_isub K dX11_lays_112 ?_
      rw [show pMd (setT P j (putT (pW P) b.2.1 (pU P) k (addV (ent b.1.1 b.1.2) k w) b.1) b.2.1 b.2.2) = pMd P + nI ((putT (pW P) b.2.1 (pU P) k (addV (ent b.1.1 b.1.2) k w) b.1).2 - pU P) from rfl, md_sub]
      exact a_iret K EE rfl (by omega) (by omega) dX11_lays_113 ⟨ρ3, Z3, by rw [hE], by rw [hE]; exact hF, mQ_tr q0 (mQ_tr q9 (mQ_tr q1 qF))⟩
    · have hE : bld P (nI j) (keyR k ∧ valR w) (addF P k w) = (-1, refP P 3) := (bld_9 hA hok hb).trans (if_neg (fun q => hcp (q.elim Or.inr Or.inl)))
      first | refine a_aload_n K dX11_lays_0 rfl ?_ | refine a_aload_nN K dX11_lays_0 rfl ?_
      refine a_iconst K dX11_lays_1 (v := 0) (by decide) ?_
      refine a_putI K fd_X11_116 (by exact lm_o hM) rfl dX11_lays_2 ?_
      have f0 : frM S (wI S 704 (m 33) 0) m [] [704] := frM_wI (by decide) (by decide)
      obtain ⟨T, hT⟩ : ∃ T, T = wI S 704 (m 33) 0 := ⟨_, rfl⟩
      rw [← hT] at f0 ⊢
      obtain ⟨h, q0⟩ := h0.scr hP f0 (by decide) (by decide)
      have hM := h.1
      first | refine a_aload_n K dX11_lays_5 rfl ?_ | refine a_aload_nN K dX11_lays_5 rfl ?_
      refine a_iload_n K dX11_lays_6 rfl ?_
      refine a_iload_n K dX11_lays_7 rfl ?_
      refine a_i2l K dX11_lays_8 ?_
      refine a_lconst K dX11_lays_9 (v := 0) (by decide) ?_
      refine a_ldc2 K kc_X11_335 dX11_lays_10 ?_
      refine a_invS K (q_inY (p := 0) (q := 999) (by decide) (by decide) c1) my_X11_isIn ml_X11_174 st_X11_isIn rfl (by omega) (by omega) (by omega) rfl (Nat.le_of_ble_eq_true rfl) dX11_lays_13 ?_
      intro r9 S9 hp9
      obtain ⟨rfl, hS9⟩ := hp9
      obtain rfl := hS9.symm
      refine a_if_eq K dX11_lays_16 (tgt := 37) (by decide) (fun c_16 => absurd c_16 (by decide)) (fun c_16 => ?_)
      refine a_iload_n K dX11_lays_19 rfl ?_
      refine a_i2l K dX11_lays_20 ?_
      refine a_ldc2 K kc_X11_337 dX11_lays_21 ?_
      refine a_ldc2 K kc_X11_335 dX11_lays_24 ?_
      refine a_invS K (q_inY (p := -999) (q := 999) (by decide) (by decide) c2) my_X11_isIn ml_X11_174 st_X11_isIn rfl (by omega) (by omega) (by omega) rfl (Nat.le_of_ble_eq_true rfl) dX11_lays_27 ?_
      intro r9 S9 hp9
      obtain ⟨rfl, hS9⟩ := hp9
      obtain rfl := hS9.symm
      refine a_if_eq K dX11_lays_30 (tgt := 37) (by decide) (fun c_30 => absurd c_30 (by decide)) (fun c_30 => ?_)
      refine a_iconst K dX11_lays_33 (v := 1) (by decide) ?_
      refine a_goto K dX11_lays_34 (tgt := 38) (by decide) ?_
      refine a_invV K (q_stp1 (v := -1) h hv) my_X11_stops ml_X11_393 im_X11_stops se_X11_stops (ci := 11) (by exact lm_o hM) (by decide) ⟨_, _, rfl⟩ rfl (by omega) (by omega) (by omega) rfl (Nat.le_of_ble_eq_true rfl) dX11_lays_38 ?_
      intro r9 S9 hp9
      obtain ⟨rfl, hS9⟩ := hp9
      obtain rfl := hS9.symm
      refine a_istore K dX11_lays_41 (by decide) ?_
      refine a_iload K dX11_lays_43 rfl ?_
      refine a_iconst K dX11_lays_45 (v := -1) (by decide) ?_
      refine a_icmp_ne K dX11_lays_46 (tgt := 61) (by decide) (fun c_46 => absurd c_46 (fun z => z rfl)) (fun c_46 => ?_)
      first | refine a_aload_n K dX11_lays_49 rfl ?_ | refine a_aload_nN K dX11_lays_49 rfl ?_
      refine a_iload_n K dX11_lays_50 rfl ?_
      refine a_iload_n K dX11_lays_51 rfl ?_
      refine a_invV K ((q_canPut h hP hb hj4 (k := k)).post (fun r S2 hp => (⟨bR_n hcp hp.1, hp.2⟩ : r = some (.int 0) ∧ RM S2 m ρ Z mb P ∧ frS T S2 (mQ m)))) my_X11_canPut ml_X11_397 im_X11_canPut se_X11_canPut (ci := 11) (by exact lm_o hM) (by decide) ⟨_, _, rfl⟩ rfl (by omega) (by omega) (by omega) rfl (Nat.le_of_ble_eq_true rfl) dX11_lays_52 ?_
      intro r9 S9 hp9
      obtain ⟨rfl, h9, q9⟩ := hp9
      have hM := h9.1
      refine a_if_ne K dX11_lays_55 (tgt := 61) (by decide) (fun c_55 => absurd c_55 (fun z => z rfl)) (fun c_55 => ?_)
      refine a_iconst K dX11_lays_58 (v := 3) (by decide) ?_
      refine a_istore K dX11_lays_59 (by decide) ?_
      refine a_iload K dX11_lays_61 rfl ?_
      refine a_iconst K dX11_lays_63 (v := -1) (by decide) ?_
      refine a_icmp_eq K dX11_lays_64 (tgt := 74) (by decide) (fun c_64 => absurd c_64 (by decide)) (fun c_64 => ?_)
      first | refine a_aload_n K dX11_lays_67 rfl ?_ | refine a_aload_nN K dX11_lays_67 rfl ?_
      refine a_iload K dX11_lays_68 rfl ?_
      rw [show (3 : Int32) = nI 3 from rfl]
      refine a_invV K (q_refP h9 (k := 3) (by decide)) my_X11_refused ml_X11_292 im_X11_refused se_X11_refused (ci := 11) (by exact lm_o hM) (by decide) ⟨_, _, rfl⟩ rfl (by omega) (by omega) (by omega) rfl (Nat.le_of_ble_eq_true rfl) dX11_lays_70 ?_
      intro r9 S9 hp9
      obtain ⟨rfl, hR, qR⟩ := hp9
      exact a_iret K EE rfl (by omega) (by omega) dX11_lays_73 ⟨ρ, Z, by rw [hE], by rw [hE]; exact hR.up (Nat.le_succ mb) (by omega), mQ_tr q0 (mQ_tr q9 qR)⟩
set_option maxHeartbeats 4000000 in
set_option maxRecDepth 100000 in
theorem q_add {S : aw_S} {m ρ : Nat → Nat} {Z : List Nat × Nat} {mb n9 : Nat} {P : PS} (h0 : RM S m ρ Z mb P) (hJ : PJ n9 P) (hmb : mb + 1 < 2147483000) {i k w : Int32} : aw_M yX11_add cX11_add 4 (some FieldType.int) 11 0 0 [.ref (m 33), .int i, .int k, .int w] S (fun r S2 => ∃ ρ2 Z2, r = some (.int (bld P i (keyR k ∧ valR w) (addF P k w)).1) ∧ RM S2 m ρ2 Z2 (mb + 1) (bld P i (keyR k ∧ valR w) (addF P k w)).2 ∧ frS S S2 (mQ m)) := by
  have hM := h0.1
  refine aw_enter (by decide +kernel) (Nat.le_of_ble_eq_true rfl) (fun g K EE => ?_)
  first | refine a_aload_n K dX11_add_0 rfl ?_ | refine a_aload_nN K dX11_add_0 rfl ?_
  refine a_iload_n K dX11_add_1 rfl ?_
  refine a_iload_n K dX11_add_2 rfl ?_
  refine a_iload_n K dX11_add_3 rfl ?_
  refine a_iconst K dX11_add_4 (v := 1) (by decide) ?_
  refine a_invV K (q_lays1 h0 hJ hmb) my_X11_lays ml_X11_400 im_X11_lays se_X11_lays (ci := 11) (by exact lm_o hM) (by decide) ⟨_, _, rfl⟩ rfl (by omega) (by omega) (by omega) rfl (Nat.le_of_ble_eq_true rfl) dX11_add_5 ?_
  intro r9 S9 hp9
  obtain ⟨ρ2, Z2, rfl, hF, qF⟩ := hp9
  have hp9 := (⟨ρ2, Z2, rfl, hF, qF⟩ : ∃ ρ2 Z2, some (Value.int (bld P i (keyR k ∧ valR w) (addF P k w)).1) = some (Value.int (bld P i (keyR k ∧ valR w) (addF P k w)).1) ∧ RM S9 m ρ2 Z2 (mb + 1) (bld P i (keyR k ∧ valR w) (addF P k w)).2 ∧ frS S S9 (mQ m))
  exact a_iret K EE rfl (by omega) (by omega) dX11_add_8 hp9
