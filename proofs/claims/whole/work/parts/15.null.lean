set_option maxHeartbeats 4000000 in
set_option maxRecDepth 100000 in
theorem m_X10_valueIn_null {S : aw_S} {k : Int32} : aw_M yX10_valueIn cX10_valueIn 4 (some FieldType.int) 0 0 0 [.null, .int k] S (fun r S2 => S2 = S ∧ r = some (.int (-1000000))) := by
  refine aw_enter (by decide +kernel) (Nat.le_of_ble_eq_true rfl) (fun g K E => ?_)
  first | refine a_aload_n K dX10_valueIn_0 rfl ?_ | refine a_aload_nN K dX10_valueIn_0 rfl ?_
  first | refine a_astore_n K dX10_valueIn_1 (by decide) ?_ | refine a_astore_nN K dX10_valueIn_1 (by decide) ?_
  refine a_iconst K dX10_valueIn_2 (v := 0) (by decide) ?_
  refine a_istore_n K dX10_valueIn_3 (by decide) ?_
  refine a_iload_n K dX10_valueIn_4 rfl ?_
  refine a_bipush K dX10_valueIn_5 (v := 12) (by decide) ?_
  refine a_icmp_ge K dX10_valueIn_7 (tgt := 37) (by decide) (fun c_7 => absurd c_7 (by decide)) (fun c_7 => ?_)
  first | refine a_aload_n K dX10_valueIn_10 rfl ?_ | refine a_aload_nN K dX10_valueIn_10 rfl ?_
  refine a_ifnullN K dX10_valueIn_11 (tgt := 37) (by decide) ?_
  first | refine a_aload_n K dX10_valueIn_37 rfl ?_ | refine a_aload_nN K dX10_valueIn_37 rfl ?_
  refine a_ifnonnullN K dX10_valueIn_38 ?_
  refine a_ldc K kc_X10_180 dX10_valueIn_41 ?_
  refine a_goto K dX10_valueIn_43 (tgt := 51) (by decide) ?_
  exact a_iret K E rfl (by omega) (by omega) dX10_valueIn_51 ⟨rfl, rfl⟩
set_option maxHeartbeats 4000000 in
set_option maxRecDepth 100000 in
theorem m_X2_list_null {S : aw_S} {a : Nat} {k : Int32} : aw_M yX2_list cX2_list 4 (none : Option FieldType) 0 0 0 [.ref a, .null, .int k] S (fun r S2 => S2 = S ∧ r = none) := by
  refine aw_enter (by decide +kernel) (Nat.le_of_ble_eq_true rfl) (fun g K E => ?_)
  first | refine a_aload_n K dX2_list_0 rfl ?_ | refine a_aload_nN K dX2_list_0 rfl ?_
  refine a_ifnullN K dX2_list_1 (tgt := 10) (by decide) ?_
  exact a_vret K E (by omega) (by omega) dX2_list_10 ⟨rfl, rfl⟩
set_option maxHeartbeats 4000000 in
set_option maxRecDepth 100000 in
theorem m_X7_collect_null {S : aw_S} {a : Nat} {k l : Int32} : aw_M yX7_collect cX7_collect 5 (none : Option FieldType) 0 0 0 [.ref a, .null, .int k, .int l] S (fun r S2 => S2 = S ∧ r = none) := by
  refine aw_enter (by decide +kernel) (Nat.le_of_ble_eq_true rfl) (fun g K E => ?_)
  first | refine a_aload_n K dX7_collect_0 rfl ?_ | refine a_aload_nN K dX7_collect_0 rfl ?_
  refine a_ifnullN K dX7_collect_1 (tgt := 10) (by decide) ?_
  exact a_vret K E (by omega) (by omega) dX7_collect_10 ⟨rfl, rfl⟩
set_option maxHeartbeats 4000000 in
set_option maxRecDepth 100000 in
theorem m_X8_writeNode_null {S : aw_S} {a : Nat} {k : Int32} : aw_M yX8_writeNode cX8_writeNode 4 (none : Option FieldType) 0 0 0 [.ref a, .null, .int k] S (fun r S2 => S2 = S ∧ r = none) := by
  refine aw_enter (by decide +kernel) (Nat.le_of_ble_eq_true rfl) (fun g K E => ?_)
  first | refine a_aload_n K dX8_writeNode_0 rfl ?_ | refine a_aload_nN K dX8_writeNode_0 rfl ?_
  refine a_ifnullN K dX8_writeNode_1 (tgt := 10) (by decide) ?_
  exact a_vret K E (by omega) (by omega) dX8_writeNode_10 ⟨rfl, rfl⟩
set_option maxHeartbeats 4000000 in
set_option maxRecDepth 100000 in
theorem m_X2_fill_null {S : aw_S} {a : Nat} (o : aw_is S a 2) : aw_M yX2_fill cX2_fill 2 (none : Option FieldType) 1 0 0 [.ref a, .null] S (fun r S2 => r = none ∧ S2 = wI S 130 a 0) := by
  refine aw_enter (by decide +kernel) (Nat.le_of_ble_eq_true rfl) (fun g K E => ?_)
  first | refine a_aload_n K dX2_fill_0 rfl ?_ | refine a_aload_nN K dX2_fill_0 rfl ?_
  refine a_iconst K dX2_fill_1 (v := 0) (by decide) ?_
  refine a_putI K fd_X2_21 (by assumption) rfl dX2_fill_2 ?_
  first | refine a_aload_n K dX2_fill_5 rfl ?_ | refine a_aload_nN K dX2_fill_5 rfl ?_
  first | refine a_aload_n K dX2_fill_6 rfl ?_ | refine a_aload_nN K dX2_fill_6 rfl ?_
  refine a_iconst K dX2_fill_7 (v := 0) (by decide) ?_
  refine a_invS K (m_X2_list_null) my_X2_list ml_X2_25 st_X2_list rfl (by omega) (by omega) (by omega) rfl (Nat.le_of_ble_eq_true rfl) dX2_fill_8 ?_
  intro r9 S9 hp9
  obtain ⟨rfl, rfl⟩ := hp9
  exact a_vret K E (by omega) (by omega) dX2_fill_11 ⟨rfl, rfl⟩
set_option maxHeartbeats 4000000 in
set_option maxRecDepth 100000 in
theorem m_X7_fillUnmarked_null {S : aw_S} {a : Nat} {k : Int32} (o : aw_is S a 7) : aw_M yX7_fillUnmarked cX7_fillUnmarked 3 (none : Option FieldType) 1 0 0 [.ref a, .null, .int k] S (fun r S2 => r = none ∧ S2 = wI S 450 a 0) := by
  refine aw_enter (by decide +kernel) (Nat.le_of_ble_eq_true rfl) (fun g K E => ?_)
  first | refine a_aload_n K dX7_fillUnmarked_0 rfl ?_ | refine a_aload_nN K dX7_fillUnmarked_0 rfl ?_
  refine a_iconst K dX7_fillUnmarked_1 (v := 0) (by decide) ?_
  refine a_putI K fd_X7_18 (by assumption) rfl dX7_fillUnmarked_2 ?_
  first | refine a_aload_n K dX7_fillUnmarked_5 rfl ?_ | refine a_aload_nN K dX7_fillUnmarked_5 rfl ?_
  first | refine a_aload_n K dX7_fillUnmarked_6 rfl ?_ | refine a_aload_nN K dX7_fillUnmarked_6 rfl ?_
  refine a_iload_n K dX7_fillUnmarked_7 rfl ?_
  refine a_iconst K dX7_fillUnmarked_8 (v := 0) (by decide) ?_
  refine a_invS K (m_X7_collect_null) my_X7_collect ml_X7_26 st_X7_collect rfl (by omega) (by omega) (by omega) rfl (Nat.le_of_ble_eq_true rfl) dX7_fillUnmarked_9 ?_
  intro r9 S9 hp9
  obtain ⟨rfl, rfl⟩ := hp9
  exact a_vret K E (by omega) (by omega) dX7_fillUnmarked_12 ⟨rfl, rfl⟩
set_option maxHeartbeats 4000000 in
set_option maxRecDepth 100000 in
theorem m_X7_fill_null {S : aw_S} {a : Nat} (o : aw_is S a 7) : aw_M yX7_fill cX7_fill 2 (none : Option FieldType) 2 0 0 [.ref a, .null] S (fun r S2 => r = none ∧ S2 = wI S 450 a 0) := by
  refine aw_enter (by decide +kernel) (Nat.le_of_ble_eq_true rfl) (fun g K E => ?_)
  first | refine a_aload_n K dX7_fill_0 rfl ?_ | refine a_aload_nN K dX7_fill_0 rfl ?_
  first | refine a_aload_n K dX7_fill_1 rfl ?_ | refine a_aload_nN K dX7_fill_1 rfl ?_
  refine a_iconst K dX7_fill_2 (v := -1) (by decide) ?_
  refine a_invV K (m_X7_fillUnmarked_null o) my_X7_fillUnmarked ml_X7_22 im_X7_fillUnmarked se_X7_fillUnmarked (ci := 7) (by assumption) (by decide) ⟨_, _, rfl⟩ rfl (by omega) (by omega) (by omega) rfl (Nat.le_of_ble_eq_true rfl) dX7_fill_3 ?_
  intro r9 S9 hp9
  obtain ⟨rfl, rfl⟩ := hp9
  exact a_vret K E (by omega) (by omega) dX7_fill_6 ⟨rfl, rfl⟩
set_option maxHeartbeats 4000000 in
set_option maxRecDepth 100000 in
theorem m_X10_objection_null {S : aw_S} {f : Int32} : aw_M yX10_objection cX10_objection 2 (some FieldType.int) 0 0 0 [.null, .int f] S (fun r S2 => S2 = S ∧ r = some (.int 0)) := by
  refine aw_enter (by decide +kernel) (Nat.le_of_ble_eq_true rfl) (fun g K E => ?_)
  first | refine a_aload_n K dX10_objection_0 rfl ?_ | refine a_aload_nN K dX10_objection_0 rfl ?_
  refine a_ifnonnullN K dX10_objection_1 ?_
  refine a_iconst K dX10_objection_4 (v := 0) (by decide) ?_
  exact a_iret K E rfl (by omega) (by omega) dX10_objection_5 ⟨rfl, rfl⟩
set_option maxHeartbeats 4000000 in
set_option maxRecDepth 100000 in
theorem m_X10_objection_bad {S : aw_S} {b : Nat} : aw_M yX10_objection cX10_objection 2 (some FieldType.int) 1 0 0 [.ref b, .int 0] S (fun r S2 => S2 = S ∧ r = some (.int 1)) := by
  refine aw_enter (by decide +kernel) (Nat.le_of_ble_eq_true rfl) (fun g K E => ?_)
  first | refine a_aload_n K dX10_objection_0 rfl ?_ | refine a_aload_nN K dX10_objection_0 rfl ?_
  refine a_ifnonnull K dX10_objection_1 (tgt := 6) (by decide) ?_
  refine a_iload_n K dX10_objection_6 rfl ?_
  refine a_if_ne K dX10_objection_7 (tgt := 12) (by decide) (fun c_7 => absurd c_7 (by decide)) (fun c_7 => ?_)
  refine a_iconst K dX10_objection_10 (v := 1) (by decide) ?_
  exact a_iret K E rfl (by omega) (by omega) dX10_objection_11 ⟨rfl, rfl⟩
set_option maxHeartbeats 4000000 in
set_option maxRecDepth 100000 in
theorem m_X10_objection_stale {S : aw_S} {b : Nat} (o : aw_is S b 0) (h : sR S 0 b = none) : aw_M yX10_objection cX10_objection 2 (some FieldType.int) 1 0 0 [.ref b, .int 1] S (fun r S2 => S2 = S ∧ r = some (.int 2)) := by
  refine aw_enter (by decide +kernel) (Nat.le_of_ble_eq_true rfl) (fun g K E => ?_)
  first | refine a_aload_n K dX10_objection_0 rfl ?_ | refine a_aload_nN K dX10_objection_0 rfl ?_
  refine a_ifnonnull K dX10_objection_1 (tgt := 6) (by decide) ?_
  refine a_iload_n K dX10_objection_6 rfl ?_
  refine a_if_ne K dX10_objection_7 (tgt := 12) (by decide) (fun c_7 => ?_) (fun c_7 => absurd c_7 (by decide))
  first | refine a_aload_n K dX10_objection_12 rfl ?_ | refine a_aload_nN K dX10_objection_12 rfl ?_
  refine a_invV K (m_X0_isStale_y o h) my_X0_isStale ml_X10_342 im_X0_isStale se_X0_isStale (ci := 0) (by assumption) (by decide) ⟨_, _, rfl⟩ rfl (by omega) (by omega) (by omega) rfl (Nat.le_of_ble_eq_true rfl) dX10_objection_13 ?_
  intro r9 S9 hp9
  obtain ⟨rfl, rfl⟩ := hp9
  refine a_if_eq K dX10_objection_16 (tgt := 23) (by decide) (fun c_16 => absurd c_16 (by decide)) (fun c_16 => ?_)
  refine a_iconst K dX10_objection_19 (v := 2) (by decide) ?_
  refine a_goto K dX10_objection_20 (tgt := 24) (by decide) ?_
  exact a_iret K E rfl (by omega) (by omega) dX10_objection_24 ⟨rfl, rfl⟩
set_option maxHeartbeats 4000000 in
set_option maxRecDepth 100000 in
theorem m_X10_objection_ok {S : aw_S} {b q : Nat} (o : aw_is S b 0) (h : sR S 0 b = some q) : aw_M yX10_objection cX10_objection 2 (some FieldType.int) 1 0 0 [.ref b, .int 1] S (fun r S2 => S2 = S ∧ r = some (.int (-1))) := by
  refine aw_enter (by decide +kernel) (Nat.le_of_ble_eq_true rfl) (fun g K E => ?_)
  first | refine a_aload_n K dX10_objection_0 rfl ?_ | refine a_aload_nN K dX10_objection_0 rfl ?_
  refine a_ifnonnull K dX10_objection_1 (tgt := 6) (by decide) ?_
  refine a_iload_n K dX10_objection_6 rfl ?_
  refine a_if_ne K dX10_objection_7 (tgt := 12) (by decide) (fun c_7 => ?_) (fun c_7 => absurd c_7 (by decide))
  first | refine a_aload_n K dX10_objection_12 rfl ?_ | refine a_aload_nN K dX10_objection_12 rfl ?_
  refine a_invV K (m_X0_isStale_n o h) my_X0_isStale ml_X10_342 im_X0_isStale se_X0_isStale (ci := 0) (by assumption) (by decide) ⟨_, _, rfl⟩ rfl (by omega) (by omega) (by omega) rfl (Nat.le_of_ble_eq_true rfl) dX10_objection_13 ?_
  intro r9 S9 hp9
  obtain ⟨rfl, rfl⟩ := hp9
  refine a_if_eq K dX10_objection_16 (tgt := 23) (by decide) (fun c_16 => ?_) (fun c_16 => absurd c_16 (fun z => z rfl))
  refine a_iconst K dX10_objection_23 (v := -1) (by decide) ?_
  exact a_iret K E rfl (by omega) (by omega) dX10_objection_24 ⟨rfl, rfl⟩
set_option maxHeartbeats 4000000 in
set_option maxRecDepth 100000 in
theorem m_X10_having_null {S : aw_S} {v : Nat → Nat} {gv : Nat} {m a0 a1 : Int32} (hL : LW S v) (hg : LG S v gv) (h1 : wRoot S v gv m = none) : aw_M yX10_having cX10_having 5 (some FieldType.int) 2 0 0 [.ref (v 4), .int m, .int a0, .int a1] S (fun r S2 => r = some (.int (-1)) ∧ S2 = wA S (v 18) 0 (sA S (v 18) 0 + 1)) := by
  refine aw_enter (by decide +kernel) (Nat.le_of_ble_eq_true rfl) (fun g K E => ?_)
  have hL0 := hL
  have i4 := lw_i4 hL
  have f646 := lw_f646 hL
  have i6 := lw_i6 hL
  have f645 := lw_f645 hL
  have i5 := lw_i5 hL
  first | refine a_aload_n K dX10_having_0 rfl ?_ | refine a_aload_nN K dX10_having_0 rfl ?_
  refine a_getRs K fd_X10_46 (by assumption) (Or.inl ⟨_, rfl⟩) (by assumption) dX10_having_1 ?_
  refine a_iload_n K dX10_having_4 rfl ?_
  refine a_invV K (w_heldRoot hL0 hg _) my_X3_heldRoot ml_X10_165 im_X3_heldRoot se_X3_heldRoot (ci := 3) (by assumption) (by decide) ⟨_, _, rfl⟩ rfl (by omega) (by omega) (by omega) rfl (Nat.le_of_ble_eq_true rfl) dX10_having_5 ?_
  intro r9 S9 hp9
  obtain ⟨rfl, rfl⟩ := hp9
  rw [h1]
  first | refine a_astore K dX10_having_8 (by decide) ?_ | refine a_astoreN K dX10_having_8 (by decide) ?_
  first | refine a_aload K dX10_having_10 rfl ?_ | refine a_aloadN K dX10_having_10 rfl ?_
  refine a_ifnonnullN K dX10_having_12 ?_
  first | refine a_aload_n K dX10_having_15 rfl ?_ | refine a_aload_nN K dX10_having_15 rfl ?_
  refine a_iconst K dX10_having_16 (v := 0) (by decide) ?_
  refine a_invV K (w_refused hL0 0 (by decide)) my_X10_refused ml_X10_128 im_X10_refused se_X10_refused (ci := 10) (by assumption) (by decide) ⟨_, _, rfl⟩ rfl (by omega) (by omega) (by omega) rfl (Nat.le_of_ble_eq_true rfl) dX10_having_17 ?_
  intro r9 S9 hp9
  obtain ⟨rfl, hS9⟩ := hp9
  exact a_iret K E rfl (by omega) (by omega) dX10_having_20 ⟨rfl, hS9⟩
set_option maxHeartbeats 4000000 in
set_option maxRecDepth 100000 in
theorem m_X10_lacking_null {S : aw_S} {v : Nat → Nat} {gv : Nat} {m a0 : Int32} (hL : LW S v) (hg : LG S v gv) (h1 : wRoot S v gv m = none) : aw_M yX10_lacking cX10_lacking 4 (some FieldType.int) 2 0 0 [.ref (v 4), .int m, .int a0] S (fun r S2 => r = some (.int (-1)) ∧ S2 = wA S (v 18) 0 (sA S (v 18) 0 + 1)) := by
  refine aw_enter (by decide +kernel) (Nat.le_of_ble_eq_true rfl) (fun g K E => ?_)
  have hL0 := hL
  have i4 := lw_i4 hL
  have f646 := lw_f646 hL
  have i6 := lw_i6 hL
  have f645 := lw_f645 hL
  have i5 := lw_i5 hL
  first | refine a_aload_n K dX10_lacking_0 rfl ?_ | refine a_aload_nN K dX10_lacking_0 rfl ?_
  refine a_getRs K fd_X10_46 (by assumption) (Or.inl ⟨_, rfl⟩) (by assumption) dX10_lacking_1 ?_
  refine a_iload_n K dX10_lacking_4 rfl ?_
  refine a_invV K (w_heldRoot hL0 hg _) my_X3_heldRoot ml_X10_165 im_X3_heldRoot se_X3_heldRoot (ci := 3) (by assumption) (by decide) ⟨_, _, rfl⟩ rfl (by omega) (by omega) (by omega) rfl (Nat.le_of_ble_eq_true rfl) dX10_lacking_5 ?_
  intro r9 S9 hp9
  obtain ⟨rfl, rfl⟩ := hp9
  rw [h1]
  first | refine a_astore_n K dX10_lacking_8 (by decide) ?_ | refine a_astore_nN K dX10_lacking_8 (by decide) ?_
  first | refine a_aload_n K dX10_lacking_9 rfl ?_ | refine a_aload_nN K dX10_lacking_9 rfl ?_
  refine a_ifnonnullN K dX10_lacking_10 ?_
  first | refine a_aload_n K dX10_lacking_13 rfl ?_ | refine a_aload_nN K dX10_lacking_13 rfl ?_
  refine a_iconst K dX10_lacking_14 (v := 0) (by decide) ?_
  refine a_invV K (w_refused hL0 0 (by decide)) my_X10_refused ml_X10_128 im_X10_refused se_X10_refused (ci := 10) (by assumption) (by decide) ⟨_, _, rfl⟩ rfl (by omega) (by omega) (by omega) rfl (Nat.le_of_ble_eq_true rfl) dX10_lacking_15 ?_
  intro r9 S9 hp9
  obtain ⟨rfl, hS9⟩ := hp9
  exact a_iret K E rfl (by omega) (by omega) dX10_lacking_18 ⟨rfl, hS9⟩
set_option maxHeartbeats 4000000 in
set_option maxRecDepth 100000 in
theorem m_X10_slice_null {S : aw_S} {v : Nat → Nat} {gv : Nat} {m a0 a1 : Int32} (hL : LW S v) (hg : LG S v gv) (h1 : wRoot S v gv m = none) : aw_M yX10_slice cX10_slice 8 (some FieldType.int) 2 0 0 [.ref (v 4), .int m, .int a0, .int a1] S (fun r S2 => r = some (.int (-1)) ∧ S2 = wA S (v 18) 0 (sA S (v 18) 0 + 1)) := by
  refine aw_enter (by decide +kernel) (Nat.le_of_ble_eq_true rfl) (fun g K E => ?_)
  have hL0 := hL
  have i4 := lw_i4 hL
  have f646 := lw_f646 hL
  have i6 := lw_i6 hL
  have f645 := lw_f645 hL
  have i5 := lw_i5 hL
  have f652 := lw_f652 hL
  have i25 := lw_i25 hL
  first | refine a_aload_n K dX10_slice_0 rfl ?_ | refine a_aload_nN K dX10_slice_0 rfl ?_
  refine a_getRs K fd_X10_46 (by assumption) (Or.inl ⟨_, rfl⟩) (by assumption) dX10_slice_1 ?_
  refine a_iload_n K dX10_slice_4 rfl ?_
  refine a_invV K (w_heldRoot hL0 hg _) my_X3_heldRoot ml_X10_165 im_X3_heldRoot se_X3_heldRoot (ci := 3) (by assumption) (by decide) ⟨_, _, rfl⟩ rfl (by omega) (by omega) (by omega) rfl (Nat.le_of_ble_eq_true rfl) dX10_slice_5 ?_
  intro r9 S9 hp9
  obtain ⟨rfl, rfl⟩ := hp9
  rw [h1]
  first | refine a_astore K dX10_slice_8 (by decide) ?_ | refine a_astoreN K dX10_slice_8 (by decide) ?_
  first | refine a_aload K dX10_slice_10 rfl ?_ | refine a_aloadN K dX10_slice_10 rfl ?_
  refine a_ifnonnullN K dX10_slice_12 ?_
  first | refine a_aload_n K dX10_slice_15 rfl ?_ | refine a_aload_nN K dX10_slice_15 rfl ?_
  refine a_iconst K dX10_slice_16 (v := 0) (by decide) ?_
  refine a_invV K (w_refused hL0 0 (by decide)) my_X10_refused ml_X10_128 im_X10_refused se_X10_refused (ci := 10) (by assumption) (by decide) ⟨_, _, rfl⟩ rfl (by omega) (by omega) (by omega) rfl (Nat.le_of_ble_eq_true rfl) dX10_slice_17 ?_
  intro r9 S9 hp9
  obtain ⟨rfl, hS9⟩ := hp9
  exact a_iret K E rfl (by omega) (by omega) dX10_slice_20 ⟨rfl, hS9⟩
set_option maxHeartbeats 4000000 in
set_option maxRecDepth 100000 in
theorem m_X10_drop_null {S : aw_S} {v : Nat → Nat} {gv : Nat} {m : Int32} (hL : LW S v) (hg : LG S v gv) (h1 : wRoot S v gv m = none) : aw_M yX10_drop cX10_drop 2 (some FieldType.int) 2 0 0 [.ref (v 4), .int m] S (fun r S2 => r = some (.int (-1)) ∧ S2 = wA S (v 18) 0 (sA S (v 18) 0 + 1)) := by
  refine aw_enter (by decide +kernel) (Nat.le_of_ble_eq_true rfl) (fun g K E => ?_)
  have hL0 := hL
  have i4 := lw_i4 hL
  have f646 := lw_f646 hL
  have i6 := lw_i6 hL
  first | refine a_aload_n K dX10_drop_0 rfl ?_ | refine a_aload_nN K dX10_drop_0 rfl ?_
  refine a_getRs K fd_X10_46 (by assumption) (Or.inl ⟨_, rfl⟩) (by assumption) dX10_drop_1 ?_
  refine a_iload_n K dX10_drop_4 rfl ?_
  refine a_invV K (w_heldRoot hL0 hg _) my_X3_heldRoot ml_X10_165 im_X3_heldRoot se_X3_heldRoot (ci := 3) (by assumption) (by decide) ⟨_, _, rfl⟩ rfl (by omega) (by omega) (by omega) rfl (Nat.le_of_ble_eq_true rfl) dX10_drop_5 ?_
  intro r9 S9 hp9
  obtain ⟨rfl, rfl⟩ := hp9
  rw [h1]
  refine a_ifnonnullN K dX10_drop_8 ?_
  first | refine a_aload_n K dX10_drop_11 rfl ?_ | refine a_aload_nN K dX10_drop_11 rfl ?_
  refine a_iconst K dX10_drop_12 (v := 0) (by decide) ?_
  refine a_invV K (w_refused hL0 0 (by decide)) my_X10_refused ml_X10_128 im_X10_refused se_X10_refused (ci := 10) (by assumption) (by decide) ⟨_, _, rfl⟩ rfl (by omega) (by omega) (by omega) rfl (Nat.le_of_ble_eq_true rfl) dX10_drop_13 ?_
  intro r9 S9 hp9
  obtain ⟨rfl, hS9⟩ := hp9
  exact a_iret K E rfl (by omega) (by omega) dX10_drop_16 ⟨rfl, hS9⟩
set_option maxHeartbeats 4000000 in
set_option maxRecDepth 100000 in
theorem m_X10_about_null {S : aw_S} {v : Nat → Nat} {gv : Nat} {m a0 : Int32} (hL : LW S v) (hg : LG S v gv) (h1 : wRoot S v gv m = none) : aw_M yX10_about cX10_about 4 (some FieldType.int) 2 0 0 [.ref (v 4), .int m, .int a0] S (fun r S2 => r = some (.int (-1000000)) ∧ S2 = S) := by
  refine aw_enter (by decide +kernel) (Nat.le_of_ble_eq_true rfl) (fun g K E => ?_)
  have hL0 := hL
  have i4 := lw_i4 hL
  have f646 := lw_f646 hL
  have i6 := lw_i6 hL
  have f652 := lw_f652 hL
  have i25 := lw_i25 hL
  have f655 := lw_f655 hL
  have i34 := lw_i34 hL
  first | refine a_aload_n K dX10_about_0 rfl ?_ | refine a_aload_nN K dX10_about_0 rfl ?_
  refine a_getRs K fd_X10_46 (by assumption) (Or.inl ⟨_, rfl⟩) (by assumption) dX10_about_1 ?_
  refine a_iload_n K dX10_about_4 rfl ?_
  refine a_invV K (w_heldRoot hL0 hg _) my_X3_heldRoot ml_X10_165 im_X3_heldRoot se_X3_heldRoot (ci := 3) (by assumption) (by decide) ⟨_, _, rfl⟩ rfl (by omega) (by omega) (by omega) rfl (Nat.le_of_ble_eq_true rfl) dX10_about_5 ?_
  intro r9 S9 hp9
  obtain ⟨rfl, rfl⟩ := hp9
  rw [h1]
  first | refine a_astore_n K dX10_about_8 (by decide) ?_ | refine a_astore_nN K dX10_about_8 (by decide) ?_
  first | refine a_aload_n K dX10_about_9 rfl ?_ | refine a_aload_nN K dX10_about_9 rfl ?_
  refine a_ifnonnullN K dX10_about_10 ?_
  refine a_ldc K kc_X10_180 dX10_about_13 ?_
  exact a_iret K E rfl (by omega) (by omega) dX10_about_15 ⟨rfl, rfl⟩
set_option maxHeartbeats 4000000 in
set_option maxRecDepth 100000 in
theorem m_X10_below_null {S : aw_S} {v : Nat → Nat} {gv : Nat} {m a0 : Int32} (hL : LW S v) (hg : LG S v gv) (h1 : wRoot S v gv m = none) : aw_M yX10_below cX10_below 4 (some FieldType.int) 2 0 0 [.ref (v 4), .int m, .int a0] S (fun r S2 => r = some (.int (-1)) ∧ S2 = S) := by
  refine aw_enter (by decide +kernel) (Nat.le_of_ble_eq_true rfl) (fun g K E => ?_)
  have hL0 := hL
  have i4 := lw_i4 hL
  have f646 := lw_f646 hL
  have i6 := lw_i6 hL
  have f652 := lw_f652 hL
  have i25 := lw_i25 hL
  first | refine a_aload_n K dX10_below_0 rfl ?_ | refine a_aload_nN K dX10_below_0 rfl ?_
  refine a_getRs K fd_X10_46 (by assumption) (Or.inl ⟨_, rfl⟩) (by assumption) dX10_below_1 ?_
  refine a_iload_n K dX10_below_4 rfl ?_
  refine a_invV K (w_heldRoot hL0 hg _) my_X3_heldRoot ml_X10_165 im_X3_heldRoot se_X3_heldRoot (ci := 3) (by assumption) (by decide) ⟨_, _, rfl⟩ rfl (by omega) (by omega) (by omega) rfl (Nat.le_of_ble_eq_true rfl) dX10_below_5 ?_
  intro r9 S9 hp9
  obtain ⟨rfl, rfl⟩ := hp9
  rw [h1]
  first | refine a_astore_n K dX10_below_8 (by decide) ?_ | refine a_astore_nN K dX10_below_8 (by decide) ?_
  first | refine a_aload_n K dX10_below_9 rfl ?_ | refine a_aload_nN K dX10_below_9 rfl ?_
  refine a_ifnonnullN K dX10_below_10 ?_
  refine a_iconst K dX10_below_13 (v := -1) (by decide) ?_
  exact a_iret K E rfl (by omega) (by omega) dX10_below_14 ⟨rfl, rfl⟩
set_option maxHeartbeats 4000000 in
set_option maxRecDepth 100000 in
theorem m_X10_near_null {S : aw_S} {v : Nat → Nat} {gv : Nat} {m a0 a1 : Int32} (hL : LW S v) (hg : LG S v gv) (h1 : wRoot S v gv m = none) : aw_M yX10_near cX10_near 7 (some FieldType.int) 2 0 0 [.ref (v 4), .int m, .int a0, .int a1] S (fun r S2 => r = some (.int (-1)) ∧ S2 = S) := by
  refine aw_enter (by decide +kernel) (Nat.le_of_ble_eq_true rfl) (fun g K E => ?_)
  have hL0 := hL
  have i4 := lw_i4 hL
  have f646 := lw_f646 hL
  have i6 := lw_i6 hL
  have f652 := lw_f652 hL
  have i25 := lw_i25 hL
  first | refine a_aload_n K dX10_near_0 rfl ?_ | refine a_aload_nN K dX10_near_0 rfl ?_
  refine a_getRs K fd_X10_46 (by assumption) (Or.inl ⟨_, rfl⟩) (by assumption) dX10_near_1 ?_
  refine a_iload_n K dX10_near_4 rfl ?_
  refine a_invV K (w_heldRoot hL0 hg _) my_X3_heldRoot ml_X10_165 im_X3_heldRoot se_X3_heldRoot (ci := 3) (by assumption) (by decide) ⟨_, _, rfl⟩ rfl (by omega) (by omega) (by omega) rfl (Nat.le_of_ble_eq_true rfl) dX10_near_5 ?_
  intro r9 S9 hp9
  obtain ⟨rfl, rfl⟩ := hp9
  rw [h1]
  first | refine a_astore K dX10_near_8 (by decide) ?_ | refine a_astoreN K dX10_near_8 (by decide) ?_
  first | refine a_aload K dX10_near_10 rfl ?_ | refine a_aloadN K dX10_near_10 rfl ?_
  refine a_ifnonnullN K dX10_near_12 ?_
  refine a_iconst K dX10_near_15 (v := -1) (by decide) ?_
  exact a_iret K E rfl (by omega) (by omega) dX10_near_16 ⟨rfl, rfl⟩
set_option maxHeartbeats 4000000 in
set_option maxRecDepth 100000 in
theorem m_X10_total_null {S : aw_S} {v : Nat → Nat} {gv : Nat} {m a0 a1 : Int32} (hL : LW S v) (hg : LG S v gv) (h1 : wRoot S v gv m = none) : aw_M yX10_total cX10_total 5 (some FieldType.int) 2 0 0 [.ref (v 4), .int m, .int a0, .int a1] S (fun r S2 => r = some (.int (-1000000)) ∧ S2 = S) := by
  refine aw_enter (by decide +kernel) (Nat.le_of_ble_eq_true rfl) (fun g K E => ?_)
  have hL0 := hL
  have i4 := lw_i4 hL
  have f646 := lw_f646 hL
  have i6 := lw_i6 hL
  have f652 := lw_f652 hL
  have i25 := lw_i25 hL
  first | refine a_aload_n K dX10_total_0 rfl ?_ | refine a_aload_nN K dX10_total_0 rfl ?_
  refine a_getRs K fd_X10_46 (by assumption) (Or.inl ⟨_, rfl⟩) (by assumption) dX10_total_1 ?_
  refine a_iload_n K dX10_total_4 rfl ?_
  refine a_invV K (w_heldRoot hL0 hg _) my_X3_heldRoot ml_X10_165 im_X3_heldRoot se_X3_heldRoot (ci := 3) (by assumption) (by decide) ⟨_, _, rfl⟩ rfl (by omega) (by omega) (by omega) rfl (Nat.le_of_ble_eq_true rfl) dX10_total_5 ?_
  intro r9 S9 hp9
  obtain ⟨rfl, rfl⟩ := hp9
  rw [h1]
  first | refine a_astore K dX10_total_8 (by decide) ?_ | refine a_astoreN K dX10_total_8 (by decide) ?_
  first | refine a_aload K dX10_total_10 rfl ?_ | refine a_aloadN K dX10_total_10 rfl ?_
  refine a_ifnonnullN K dX10_total_12 ?_
  refine a_ldc K kc_X10_180 dX10_total_15 ?_
  exact a_iret K E rfl (by omega) (by omega) dX10_total_17 ⟨rfl, rfl⟩
set_option maxHeartbeats 4000000 in
set_option maxRecDepth 100000 in
theorem m_X10_show_null {S : aw_S} {v : Nat → Nat} {gv : Nat} {m  : Int32} (hL : LW S v) (hg : LG S v gv) (h1 : wRoot S v gv m = none) : aw_M yX10_show cX10_show 3 (some FieldType.int) 2 0 0 [.ref (v 4), .int m] S (fun r S2 => r = some (.int (-1)) ∧ S2 = S) := by
  refine aw_enter (by decide +kernel) (Nat.le_of_ble_eq_true rfl) (fun g K E => ?_)
  have hL0 := hL
  have i4 := lw_i4 hL
  have f646 := lw_f646 hL
  have i6 := lw_i6 hL
  have f649 := lw_f649 hL
  have i19 := lw_i19 hL
  first | refine a_aload_n K dX10_show_0 rfl ?_ | refine a_aload_nN K dX10_show_0 rfl ?_
  refine a_getRs K fd_X10_46 (by assumption) (Or.inl ⟨_, rfl⟩) (by assumption) dX10_show_1 ?_
  refine a_iload_n K dX10_show_4 rfl ?_
  refine a_invV K (w_heldRoot hL0 hg _) my_X3_heldRoot ml_X10_165 im_X3_heldRoot se_X3_heldRoot (ci := 3) (by assumption) (by decide) ⟨_, _, rfl⟩ rfl (by omega) (by omega) (by omega) rfl (Nat.le_of_ble_eq_true rfl) dX10_show_5 ?_
  intro r9 S9 hp9
  obtain ⟨rfl, rfl⟩ := hp9
  rw [h1]
  first | refine a_astore_n K dX10_show_8 (by decide) ?_ | refine a_astore_nN K dX10_show_8 (by decide) ?_
  first | refine a_aload_n K dX10_show_9 rfl ?_ | refine a_aload_nN K dX10_show_9 rfl ?_
  refine a_ifnonnullN K dX10_show_10 ?_
  refine a_iconst K dX10_show_13 (v := -1) (by decide) ?_
  exact a_iret K E rfl (by omega) (by omega) dX10_show_14 ⟨rfl, rfl⟩
set_option maxHeartbeats 4000000 in
set_option maxRecDepth 100000 in
theorem m_X10_digest_null {S : aw_S} {v : Nat → Nat} {gv : Nat} {m  : Int32} (hL : LW S v) (hg : LG S v gv) (h1 : wRoot S v gv m = none) : aw_M yX10_digest cX10_digest 3 (some FieldType.int) 2 0 0 [.ref (v 4), .int m] S (fun r S2 => r = some (.int (-1)) ∧ S2 = S) := by
  refine aw_enter (by decide +kernel) (Nat.le_of_ble_eq_true rfl) (fun g K E => ?_)
  have hL0 := hL
  have i4 := lw_i4 hL
  have f646 := lw_f646 hL
  have i6 := lw_i6 hL
  have f650 := lw_f650 hL
  have i21 := lw_i21 hL
  first | refine a_aload_n K dX10_digest_0 rfl ?_ | refine a_aload_nN K dX10_digest_0 rfl ?_
  refine a_getRs K fd_X10_46 (by assumption) (Or.inl ⟨_, rfl⟩) (by assumption) dX10_digest_1 ?_
  refine a_iload_n K dX10_digest_4 rfl ?_
  refine a_invV K (w_heldRoot hL0 hg _) my_X3_heldRoot ml_X10_165 im_X3_heldRoot se_X3_heldRoot (ci := 3) (by assumption) (by decide) ⟨_, _, rfl⟩ rfl (by omega) (by omega) (by omega) rfl (Nat.le_of_ble_eq_true rfl) dX10_digest_5 ?_
  intro r9 S9 hp9
  obtain ⟨rfl, rfl⟩ := hp9
  rw [h1]
  first | refine a_astore_n K dX10_digest_8 (by decide) ?_ | refine a_astore_nN K dX10_digest_8 (by decide) ?_
  first | refine a_aload_n K dX10_digest_9 rfl ?_ | refine a_aload_nN K dX10_digest_9 rfl ?_
  refine a_ifnonnullN K dX10_digest_10 ?_
  refine a_iconst K dX10_digest_13 (v := -1) (by decide) ?_
  exact a_iret K E rfl (by omega) (by omega) dX10_digest_14 ⟨rfl, rfl⟩
set_option maxHeartbeats 4000000 in
set_option maxRecDepth 100000 in
theorem m_X10_find_null {S : aw_S} {v : Nat → Nat} {gv : Nat} {m k : Int32} (hL : LW S v) (hg : LG S v gv) (h1 : wRoot S v gv m = none) : aw_M yX10_find cX10_find 3 (some FieldType.int) 2 0 0 [.ref (v 4), .int m, .int k] S (fun r S2 => r = some (.int (-1000000)) ∧ S2 = S) := by
  refine aw_enter (by decide +kernel) (Nat.le_of_ble_eq_true rfl) (fun g K E => ?_)
  have hL0 := hL
  have i4 := lw_i4 hL
  have f646 := lw_f646 hL
  have i6 := lw_i6 hL
  first | refine a_aload_n K dX10_find_0 rfl ?_ | refine a_aload_nN K dX10_find_0 rfl ?_
  refine a_getRs K fd_X10_46 (by assumption) (Or.inl ⟨_, rfl⟩) (by assumption) dX10_find_1 ?_
  refine a_iload_n K dX10_find_4 rfl ?_
  refine a_invV K (w_heldRoot hL0 hg _) my_X3_heldRoot ml_X10_165 im_X3_heldRoot se_X3_heldRoot (ci := 3) (by assumption) (by decide) ⟨_, _, rfl⟩ rfl (by omega) (by omega) (by omega) rfl (Nat.le_of_ble_eq_true rfl) dX10_find_5 ?_
  intro r9 S9 hp9
  obtain ⟨rfl, rfl⟩ := hp9
  rw [h1]
  refine a_iload_n K dX10_find_8 rfl ?_
  refine a_invS K (m_X10_valueIn_null) my_X10_valueIn ml_X10_169 st_X10_valueIn rfl (by omega) (by omega) (by omega) rfl (Nat.le_of_ble_eq_true rfl) dX10_find_9 ?_
  intro r9 S9 hp9
  obtain ⟨rfl, rfl⟩ := hp9
  exact a_iret K E rfl (by omega) (by omega) dX10_find_12 ⟨rfl, rfl⟩
set_option maxHeartbeats 4000000 in
set_option maxRecDepth 100000 in
theorem m_X10_merge_null {S : aw_S} {v : Nat → Nat} {gv : Nat} {m m2 a0 : Int32} (hL : LW S v) (hg : LG S v gv) (h1 : wRoot S v gv m = none) (h2 : wRoot S v gv m2 = none) : aw_M yX10_merge cX10_merge 6 (some FieldType.int) 2 0 0 [.ref (v 4), .int m, .int m2, .int a0] S (fun r S2 => r = some (.int (-1)) ∧ S2 = wA S (v 18) 0 (sA S (v 18) 0 + 1)) := by
  refine aw_enter (by decide +kernel) (Nat.le_of_ble_eq_true rfl) (fun g K E => ?_)
  have hL0 := hL
  have i4 := lw_i4 hL
  have f646 := lw_f646 hL
  have i6 := lw_i6 hL
  have f652 := lw_f652 hL
  have i25 := lw_i25 hL
  have f653 := lw_f653 hL
  have i28 := lw_i28 hL
  first | refine a_aload_n K dX10_merge_0 rfl ?_ | refine a_aload_nN K dX10_merge_0 rfl ?_
  refine a_getRs K fd_X10_46 (by assumption) (Or.inl ⟨_, rfl⟩) (by assumption) dX10_merge_1 ?_
  refine a_iload_n K dX10_merge_4 rfl ?_
  refine a_invV K (w_heldRoot hL0 hg _) my_X3_heldRoot ml_X10_165 im_X3_heldRoot se_X3_heldRoot (ci := 3) (by assumption) (by decide) ⟨_, _, rfl⟩ rfl (by omega) (by omega) (by omega) rfl (Nat.le_of_ble_eq_true rfl) dX10_merge_5 ?_
  intro r9 S9 hp9
  obtain ⟨rfl, rfl⟩ := hp9
  rw [h1]
  first | refine a_astore K dX10_merge_8 (by decide) ?_ | refine a_astoreN K dX10_merge_8 (by decide) ?_
  first | refine a_aload_n K dX10_merge_10 rfl ?_ | refine a_aload_nN K dX10_merge_10 rfl ?_
  refine a_getRs K fd_X10_46 (by assumption) (Or.inl ⟨_, rfl⟩) (by assumption) dX10_merge_11 ?_
  refine a_iload_n K dX10_merge_14 rfl ?_
  refine a_invV K (w_heldRoot hL0 hg _) my_X3_heldRoot ml_X10_165 im_X3_heldRoot se_X3_heldRoot (ci := 3) (by assumption) (by decide) ⟨_, _, rfl⟩ rfl (by omega) (by omega) (by omega) rfl (Nat.le_of_ble_eq_true rfl) dX10_merge_15 ?_
  intro r9 S9 hp9
  obtain ⟨rfl, rfl⟩ := hp9
  rw [h2]
  first | refine a_astore K dX10_merge_18 (by decide) ?_ | refine a_astoreN K dX10_merge_18 (by decide) ?_
  first | refine a_aload K dX10_merge_20 rfl ?_ | refine a_aloadN K dX10_merge_20 rfl ?_
  refine a_ifnullN K dX10_merge_22 (tgt := 30) (by decide) ?_
  first | refine a_aload_n K dX10_merge_30 rfl ?_ | refine a_aload_nN K dX10_merge_30 rfl ?_
  refine a_iconst K dX10_merge_31 (v := 0) (by decide) ?_
  refine a_invV K (w_refused hL0 0 (by decide)) my_X10_refused ml_X10_128 im_X10_refused se_X10_refused (ci := 10) (by assumption) (by decide) ⟨_, _, rfl⟩ rfl (by omega) (by omega) (by omega) rfl (Nat.le_of_ble_eq_true rfl) dX10_merge_32 ?_
  intro r9 S9 hp9
  obtain ⟨rfl, hS9⟩ := hp9
  exact a_iret K E rfl (by omega) (by omega) dX10_merge_35 ⟨rfl, hS9⟩
set_option maxHeartbeats 4000000 in
set_option maxRecDepth 100000 in
theorem m_X10_shared_null {S : aw_S} {v : Nat → Nat} {gv : Nat} {m m2  : Int32} (hL : LW S v) (hg : LG S v gv) (h1 : wRoot S v gv m = none) (h2 : wRoot S v gv m2 = none) : aw_M yX10_shared cX10_shared 5 (some FieldType.int) 2 0 0 [.ref (v 4), .int m, .int m2] S (fun r S2 => r = some (.int (-1)) ∧ S2 = S) := by
  refine aw_enter (by decide +kernel) (Nat.le_of_ble_eq_true rfl) (fun g K E => ?_)
  have hL0 := hL
  have i4 := lw_i4 hL
  have f646 := lw_f646 hL
  have i6 := lw_i6 hL
  first | refine a_aload_n K dX10_shared_0 rfl ?_ | refine a_aload_nN K dX10_shared_0 rfl ?_
  refine a_getRs K fd_X10_46 (by assumption) (Or.inl ⟨_, rfl⟩) (by assumption) dX10_shared_1 ?_
  refine a_iload_n K dX10_shared_4 rfl ?_
  refine a_invV K (w_heldRoot hL0 hg _) my_X3_heldRoot ml_X10_165 im_X3_heldRoot se_X3_heldRoot (ci := 3) (by assumption) (by decide) ⟨_, _, rfl⟩ rfl (by omega) (by omega) (by omega) rfl (Nat.le_of_ble_eq_true rfl) dX10_shared_5 ?_
  intro r9 S9 hp9
  obtain ⟨rfl, rfl⟩ := hp9
  rw [h1]
  first | refine a_astore_n K dX10_shared_8 (by decide) ?_ | refine a_astore_nN K dX10_shared_8 (by decide) ?_
  first | refine a_aload_n K dX10_shared_9 rfl ?_ | refine a_aload_nN K dX10_shared_9 rfl ?_
  refine a_getRs K fd_X10_46 (by assumption) (Or.inl ⟨_, rfl⟩) (by assumption) dX10_shared_10 ?_
  refine a_iload_n K dX10_shared_13 rfl ?_
  refine a_invV K (w_heldRoot hL0 hg _) my_X3_heldRoot ml_X10_165 im_X3_heldRoot se_X3_heldRoot (ci := 3) (by assumption) (by decide) ⟨_, _, rfl⟩ rfl (by omega) (by omega) (by omega) rfl (Nat.le_of_ble_eq_true rfl) dX10_shared_14 ?_
  intro r9 S9 hp9
  obtain ⟨rfl, rfl⟩ := hp9
  rw [h2]
  first | refine a_astore K dX10_shared_17 (by decide) ?_ | refine a_astoreN K dX10_shared_17 (by decide) ?_
  first | refine a_aload_n K dX10_shared_19 rfl ?_ | refine a_aload_nN K dX10_shared_19 rfl ?_
  refine a_ifnullN K dX10_shared_20 (tgt := 28) (by decide) ?_
  refine a_iconst K dX10_shared_28 (v := -1) (by decide) ?_
  refine a_goto K dX10_shared_29 (tgt := 39) (by decide) ?_
  exact a_iret K E rfl (by omega) (by omega) dX10_shared_39 ⟨rfl, rfl⟩
set_option maxHeartbeats 4000000 in
set_option maxRecDepth 100000 in
theorem m_X10_looked_null {S : aw_S} {v : Nat → Nat} {gv : Nat} {m m2  : Int32} (hL : LW S v) (hg : LG S v gv) (h1 : wRoot S v gv m = none) (h2 : wRoot S v gv m2 = none) : aw_M yX10_looked cX10_looked 7 (some FieldType.int) 2 0 0 [.ref (v 4), .int m, .int m2] S (fun r S2 => r = some (.int (-1)) ∧ S2 = S) := by
  refine aw_enter (by decide +kernel) (Nat.le_of_ble_eq_true rfl) (fun g K E => ?_)
  have hL0 := hL
  have i4 := lw_i4 hL
  have f646 := lw_f646 hL
  have i6 := lw_i6 hL
  have f655 := lw_f655 hL
  have i34 := lw_i34 hL
  first | refine a_aload_n K dX10_looked_0 rfl ?_ | refine a_aload_nN K dX10_looked_0 rfl ?_
  refine a_getRs K fd_X10_46 (by assumption) (Or.inl ⟨_, rfl⟩) (by assumption) dX10_looked_1 ?_
  refine a_iload_n K dX10_looked_4 rfl ?_
  refine a_invV K (w_heldRoot hL0 hg _) my_X3_heldRoot ml_X10_165 im_X3_heldRoot se_X3_heldRoot (ci := 3) (by assumption) (by decide) ⟨_, _, rfl⟩ rfl (by omega) (by omega) (by omega) rfl (Nat.le_of_ble_eq_true rfl) dX10_looked_5 ?_
  intro r9 S9 hp9
  obtain ⟨rfl, rfl⟩ := hp9
  rw [h1]
  first | refine a_astore_n K dX10_looked_8 (by decide) ?_ | refine a_astore_nN K dX10_looked_8 (by decide) ?_
  first | refine a_aload_n K dX10_looked_9 rfl ?_ | refine a_aload_nN K dX10_looked_9 rfl ?_
  refine a_getRs K fd_X10_46 (by assumption) (Or.inl ⟨_, rfl⟩) (by assumption) dX10_looked_10 ?_
  refine a_iload_n K dX10_looked_13 rfl ?_
  refine a_invV K (w_heldRoot hL0 hg _) my_X3_heldRoot ml_X10_165 im_X3_heldRoot se_X3_heldRoot (ci := 3) (by assumption) (by decide) ⟨_, _, rfl⟩ rfl (by omega) (by omega) (by omega) rfl (Nat.le_of_ble_eq_true rfl) dX10_looked_14 ?_
  intro r9 S9 hp9
  obtain ⟨rfl, rfl⟩ := hp9
  rw [h2]
  first | refine a_astore K dX10_looked_17 (by decide) ?_ | refine a_astoreN K dX10_looked_17 (by decide) ?_
  first | refine a_aload_n K dX10_looked_19 rfl ?_ | refine a_aload_nN K dX10_looked_19 rfl ?_
  refine a_ifnullN K dX10_looked_20 (tgt := 28) (by decide) ?_
  refine a_iconst K dX10_looked_28 (v := -1) (by decide) ?_
  exact a_iret K E rfl (by omega) (by omega) dX10_looked_29 ⟨rfl, rfl⟩
set_option maxHeartbeats 4000000 in
set_option maxRecDepth 100000 in
theorem m_X10_fillTwo_null {S : aw_S} {v : Nat → Nat} {gv : Nat} {m m2 : Int32} (hL : LW S v) (hg : LG S v gv) (h1 : wRoot S v gv m = none) (h2 : wRoot S v gv m2 = none) : aw_M yX10_fillTwo cX10_fillTwo 5 (some FieldType.boolean) 2 0 0 [.ref (v 4), .int m, .int m2] S (fun r S2 => r = some (.int 0) ∧ S2 = S) := by
  refine aw_enter (by decide +kernel) (Nat.le_of_ble_eq_true rfl) (fun g K E => ?_)
  have hL0 := hL
  have i4 := lw_i4 hL
  have f646 := lw_f646 hL
  have i6 := lw_i6 hL
  have f652 := lw_f652 hL
  have i25 := lw_i25 hL
  have f653 := lw_f653 hL
  have i28 := lw_i28 hL
  first | refine a_aload_n K dX10_fillTwo_0 rfl ?_ | refine a_aload_nN K dX10_fillTwo_0 rfl ?_
  refine a_getRs K fd_X10_46 (by assumption) (Or.inl ⟨_, rfl⟩) (by assumption) dX10_fillTwo_1 ?_
  refine a_iload_n K dX10_fillTwo_4 rfl ?_
  refine a_invV K (w_heldRoot hL0 hg _) my_X3_heldRoot ml_X10_165 im_X3_heldRoot se_X3_heldRoot (ci := 3) (by assumption) (by decide) ⟨_, _, rfl⟩ rfl (by omega) (by omega) (by omega) rfl (Nat.le_of_ble_eq_true rfl) dX10_fillTwo_5 ?_
  intro r9 S9 hp9
  obtain ⟨rfl, rfl⟩ := hp9
  rw [h1]
  first | refine a_astore_n K dX10_fillTwo_8 (by decide) ?_ | refine a_astore_nN K dX10_fillTwo_8 (by decide) ?_
  first | refine a_aload_n K dX10_fillTwo_9 rfl ?_ | refine a_aload_nN K dX10_fillTwo_9 rfl ?_
  refine a_getRs K fd_X10_46 (by assumption) (Or.inl ⟨_, rfl⟩) (by assumption) dX10_fillTwo_10 ?_
  refine a_iload_n K dX10_fillTwo_13 rfl ?_
  refine a_invV K (w_heldRoot hL0 hg _) my_X3_heldRoot ml_X10_165 im_X3_heldRoot se_X3_heldRoot (ci := 3) (by assumption) (by decide) ⟨_, _, rfl⟩ rfl (by omega) (by omega) (by omega) rfl (Nat.le_of_ble_eq_true rfl) dX10_fillTwo_14 ?_
  intro r9 S9 hp9
  obtain ⟨rfl, rfl⟩ := hp9
  rw [h2]
  first | refine a_astore K dX10_fillTwo_17 (by decide) ?_ | refine a_astoreN K dX10_fillTwo_17 (by decide) ?_
  first | refine a_aload_n K dX10_fillTwo_19 rfl ?_ | refine a_aload_nN K dX10_fillTwo_19 rfl ?_
  refine a_ifnullN K dX10_fillTwo_20 (tgt := 28) (by decide) ?_
  refine a_iconst K dX10_fillTwo_28 (v := 0) (by decide) ?_
  exact a_iret K E rfl (by omega) (by omega) dX10_fillTwo_29 ⟨rfl, rfl⟩
set_option maxHeartbeats 4000000 in
set_option maxRecDepth 100000 in
theorem m_X10_fillThree_null {S : aw_S} {v : Nat → Nat} {gv : Nat} {m m2 m3 : Int32} (hL : LW S v) (hg : LG S v gv) (h1 : wRoot S v gv m = none) : aw_M yX10_fillThree cX10_fillThree 5 (some FieldType.boolean) 2 0 0 [.ref (v 4), .int m, .int m2, .int m3] S (fun r S2 => r = some (.int 0) ∧ S2 = S) := by
  refine aw_enter (by decide +kernel) (Nat.le_of_ble_eq_true rfl) (fun g K E => ?_)
  have hL0 := hL
  have i4 := lw_i4 hL
  have f646 := lw_f646 hL
  have i6 := lw_i6 hL
  have f654 := lw_f654 hL
  have i31 := lw_i31 hL
  first | refine a_aload_n K dX10_fillThree_0 rfl ?_ | refine a_aload_nN K dX10_fillThree_0 rfl ?_
  refine a_getRs K fd_X10_46 (by assumption) (Or.inl ⟨_, rfl⟩) (by assumption) dX10_fillThree_1 ?_
  refine a_iload_n K dX10_fillThree_4 rfl ?_
  refine a_invV K (w_heldRoot hL0 hg _) my_X3_heldRoot ml_X10_165 im_X3_heldRoot se_X3_heldRoot (ci := 3) (by assumption) (by decide) ⟨_, _, rfl⟩ rfl (by omega) (by omega) (by omega) rfl (Nat.le_of_ble_eq_true rfl) dX10_fillThree_5 ?_
  intro r9 S9 hp9
  obtain ⟨rfl, rfl⟩ := hp9
  rw [h1]
  first | refine a_astore K dX10_fillThree_8 (by decide) ?_ | refine a_astoreN K dX10_fillThree_8 (by decide) ?_
  first | refine a_aload K dX10_fillThree_10 rfl ?_ | refine a_aloadN K dX10_fillThree_10 rfl ?_
  refine a_ifnullN K dX10_fillThree_12 (tgt := 24) (by decide) ?_
  refine a_iconst K dX10_fillThree_24 (v := 0) (by decide) ?_
  exact a_iret K E rfl (by omega) (by omega) dX10_fillThree_25 ⟨rfl, rfl⟩
set_option maxHeartbeats 4000000 in
set_option maxRecDepth 100000 in
theorem m_X10_three_null {S : aw_S} {v : Nat → Nat} {gv : Nat} {m m2 m3 a0 : Int32} (hL : LW S v) (hg : LG S v gv) (h1 : wRoot S v gv m = none) : aw_M yX10_three cX10_three 5 (some FieldType.int) 3 0 0 [.ref (v 4), .int m, .int m2, .int m3, .int a0] S (fun r S2 => r = some (.int (-1)) ∧ S2 = wA S (v 18) 0 (sA S (v 18) 0 + 1)) := by
  refine aw_enter (by decide +kernel) (Nat.le_of_ble_eq_true rfl) (fun g K E => ?_)
  have hL0 := hL
  have i4 := lw_i4 hL
  have f646 := lw_f646 hL
  have i6 := lw_i6 hL
  first | refine a_aload_n K dX10_three_0 rfl ?_ | refine a_aload_nN K dX10_three_0 rfl ?_
  refine a_iload_n K dX10_three_1 rfl ?_
  refine a_iload_n K dX10_three_2 rfl ?_
  refine a_iload_n K dX10_three_3 rfl ?_
  refine a_invV K (m_X10_fillThree_null hL0 hg h1) my_X10_fillThree ml_X10_278 im_X10_fillThree se_X10_fillThree (ci := 10) (by assumption) (by decide) ⟨_, _, rfl⟩ rfl (by omega) (by omega) (by omega) rfl (Nat.le_of_ble_eq_true rfl) dX10_three_4 ?_
  intro r9 S9 hp9
  obtain ⟨rfl, rfl⟩ := hp9
  refine a_if_ne K dX10_three_7 (tgt := 16) (by decide) (fun c_7 => absurd c_7 (by decide)) (fun c_7 => ?_)
  first | refine a_aload_n K dX10_three_10 rfl ?_ | refine a_aload_nN K dX10_three_10 rfl ?_
  refine a_iconst K dX10_three_11 (v := 0) (by decide) ?_
  refine a_invV K (w_refused hL0 0 (by decide)) my_X10_refused ml_X10_128 im_X10_refused se_X10_refused (ci := 10) (by assumption) (by decide) ⟨_, _, rfl⟩ rfl (by omega) (by omega) (by omega) rfl (Nat.le_of_ble_eq_true rfl) dX10_three_12 ?_
  intro r9 S9 hp9
  obtain ⟨rfl, hS9⟩ := hp9
  exact a_iret K E rfl (by omega) (by omega) dX10_three_15 ⟨rfl, hS9⟩
set_option maxHeartbeats 4000000 in
set_option maxRecDepth 100000 in
theorem m_X10_conflicts_null {S : aw_S} {v : Nat → Nat} {gv : Nat} {m m2 m3 : Int32} (hL : LW S v) (hg : LG S v gv) (h1 : wRoot S v gv m = none) : aw_M yX10_conflicts cX10_conflicts 7 (some FieldType.int) 3 0 0 [.ref (v 4), .int m, .int m2, .int m3] S (fun r S2 => r = some (.int (-1)) ∧ S2 = S) := by
  refine aw_enter (by decide +kernel) (Nat.le_of_ble_eq_true rfl) (fun g K E => ?_)
  have hL0 := hL
  have i4 := lw_i4 hL
  have f654 := lw_f654 hL
  have i31 := lw_i31 hL
  have f653 := lw_f653 hL
  have i28 := lw_i28 hL
  first | refine a_aload_n K dX10_conflicts_0 rfl ?_ | refine a_aload_nN K dX10_conflicts_0 rfl ?_
  refine a_iload_n K dX10_conflicts_1 rfl ?_
  refine a_iload_n K dX10_conflicts_2 rfl ?_
  refine a_iload_n K dX10_conflicts_3 rfl ?_
  refine a_invV K (m_X10_fillThree_null hL0 hg h1) my_X10_fillThree ml_X10_278 im_X10_fillThree se_X10_fillThree (ci := 10) (by assumption) (by decide) ⟨_, _, rfl⟩ rfl (by omega) (by omega) (by omega) rfl (Nat.le_of_ble_eq_true rfl) dX10_conflicts_4 ?_
  intro r9 S9 hp9
  obtain ⟨rfl, rfl⟩ := hp9
  refine a_if_ne K dX10_conflicts_7 (tgt := 12) (by decide) (fun c_7 => absurd c_7 (by decide)) (fun c_7 => ?_)
  refine a_iconst K dX10_conflicts_10 (v := -1) (by decide) ?_
  exact a_iret K E rfl (by omega) (by omega) dX10_conflicts_11 ⟨rfl, rfl⟩
set_option maxHeartbeats 4000000 in
set_option maxRecDepth 100000 in
theorem m_X10_difference_null {S : aw_S} {v : Nat → Nat} {gv : Nat} {m m2 a0 a1 : Int32} (hL : LW S v) (hg : LG S v gv) (h1 : wRoot S v gv m = none) (h2 : wRoot S v gv m2 = none) : aw_M yX10_difference cX10_difference 8 (some FieldType.int) 3 0 0 [.ref (v 4), .int m, .int m2, .int a0, .int a1] S (fun r S2 => r = some (.int (-1000000)) ∧ S2 = S) := by
  refine aw_enter (by decide +kernel) (Nat.le_of_ble_eq_true rfl) (fun g K E => ?_)
  have hL0 := hL
  have i4 := lw_i4 hL
  have f652 := lw_f652 hL
  have i25 := lw_i25 hL
  have f653 := lw_f653 hL
  have i28 := lw_i28 hL
  first | refine a_aload_n K dX10_difference_0 rfl ?_ | refine a_aload_nN K dX10_difference_0 rfl ?_
  refine a_iload_n K dX10_difference_1 rfl ?_
  refine a_iload_n K dX10_difference_2 rfl ?_
  refine a_invV K (m_X10_fillTwo_null hL0 hg h1 h2) my_X10_fillTwo ml_X10_295 im_X10_fillTwo se_X10_fillTwo (ci := 10) (by assumption) (by decide) ⟨_, _, rfl⟩ rfl (by omega) (by omega) (by omega) rfl (Nat.le_of_ble_eq_true rfl) dX10_difference_3 ?_
  intro r9 S9 hp9
  obtain ⟨rfl, rfl⟩ := hp9
  refine a_if_ne K dX10_difference_6 (tgt := 12) (by decide) (fun c_6 => absurd c_6 (by decide)) (fun c_6 => ?_)
  refine a_ldc K kc_X10_180 dX10_difference_9 ?_
  exact a_iret K E rfl (by omega) (by omega) dX10_difference_11 ⟨rfl, rfl⟩
set_option maxHeartbeats 4000000 in
set_option maxRecDepth 100000 in
theorem m_X10_alike_null {S : aw_S} {v : Nat → Nat} {gv : Nat} {m m2 a0 : Int32} (hL : LW S v) (hg : LG S v gv) (h1 : wRoot S v gv m = none) (h2 : wRoot S v gv m2 = none) : aw_M yX10_alike cX10_alike 4 (some FieldType.int) 3 0 0 [.ref (v 4), .int m, .int m2, .int a0] S (fun r S2 => r = some (.int (-1)) ∧ S2 = S) := by
  refine aw_enter (by decide +kernel) (Nat.le_of_ble_eq_true rfl) (fun g K E => ?_)
  have hL0 := hL
  have i4 := lw_i4 hL
  have f652 := lw_f652 hL
  have i25 := lw_i25 hL
  have f653 := lw_f653 hL
  have i28 := lw_i28 hL
  have f650 := lw_f650 hL
  have i21 := lw_i21 hL
  have f646 := lw_f646 hL
  have i6 := lw_i6 hL
  have f651 := lw_f651 hL
  have i23 := lw_i23 hL
  refine a_iload_n K dX10_alike_0 rfl ?_
  refine a_if_lt K dX10_alike_1 (tgt := 18) (by decide) (fun c_1 => ?_) (fun c_1 => ?_)
  · refine a_iconst K dX10_alike_18 (v := -1) (by decide) ?_
    exact a_iret K E rfl (by omega) (by omega) dX10_alike_19 ⟨rfl, rfl⟩
  · refine a_iload_n K dX10_alike_4 rfl ?_
    refine a_iconst K dX10_alike_5 (v := 1) (by decide) ?_
    refine a_icmp_gt K dX10_alike_6 (tgt := 18) (by decide) (fun c_6 => ?_) (fun c_6 => ?_)
    · refine a_iconst K dX10_alike_18 (v := -1) (by decide) ?_
      exact a_iret K E rfl (by omega) (by omega) dX10_alike_19 ⟨rfl, rfl⟩
    · first | refine a_aload_n K dX10_alike_9 rfl ?_ | refine a_aload_nN K dX10_alike_9 rfl ?_
      refine a_iload_n K dX10_alike_10 rfl ?_
      refine a_iload_n K dX10_alike_11 rfl ?_
      refine a_invV K (m_X10_fillTwo_null hL0 hg h1 h2) my_X10_fillTwo ml_X10_295 im_X10_fillTwo se_X10_fillTwo (ci := 10) (by assumption) (by decide) ⟨_, _, rfl⟩ rfl (by omega) (by omega) (by omega) rfl (Nat.le_of_ble_eq_true rfl) dX10_alike_12 ?_
      intro r9 S9 hp9
      obtain ⟨rfl, rfl⟩ := hp9
      refine a_if_ne K dX10_alike_15 (tgt := 20) (by decide) (fun c_15 => absurd c_15 (by decide)) (fun c_15 => ?_)
      refine a_iconst K dX10_alike_18 (v := -1) (by decide) ?_
      exact a_iret K E rfl (by omega) (by omega) dX10_alike_19 ⟨rfl, rfl⟩
set_option maxHeartbeats 4000000 in
set_option maxRecDepth 100000 in
theorem m_X10_fork_null {S : aw_S} {v : Nat → Nat} {gv : Nat} {m m2 : Int32} (hL : LW S v) (hg : LG S v gv) (h1 : wRoot S v gv m = none) : aw_M yX10_fork cX10_fork 3 (some FieldType.int) 2 0 0 [.ref (v 4), .int m, .int m2] S (fun r S2 => r = some (.int (-1)) ∧ S2 = S) := by
  refine aw_enter (by decide +kernel) (Nat.le_of_ble_eq_true rfl) (fun g K E => ?_)
  have hL0 := hL
  have i4 := lw_i4 hL
  have f646 := lw_f646 hL
  have i6 := lw_i6 hL
  first | refine a_aload_n K dX10_fork_0 rfl ?_ | refine a_aload_nN K dX10_fork_0 rfl ?_
  refine a_getRs K fd_X10_46 (by assumption) (Or.inl ⟨_, rfl⟩) (by assumption) dX10_fork_1 ?_
  refine a_iload_n K dX10_fork_4 rfl ?_
  refine a_invV K (w_heldRoot hL0 hg _) my_X3_heldRoot ml_X10_165 im_X3_heldRoot se_X3_heldRoot (ci := 3) (by assumption) (by decide) ⟨_, _, rfl⟩ rfl (by omega) (by omega) (by omega) rfl (Nat.le_of_ble_eq_true rfl) dX10_fork_5 ?_
  intro r9 S9 hp9
  obtain ⟨rfl, rfl⟩ := hp9
  rw [h1]
  refine a_ifnullN K dX10_fork_8 (tgt := 22) (by decide) ?_
  refine a_iconst K dX10_fork_22 (v := -1) (by decide) ?_
  exact a_iret K E rfl (by omega) (by omega) dX10_fork_23 ⟨rfl, rfl⟩
set_option maxHeartbeats 4000000 in
set_option maxRecDepth 100000 in
theorem m_X10_comesFrom_null {S : aw_S} {v : Nat → Nat} {gv : Nat} {m m2 : Int32} (hL : LW S v) (hg : LG S v gv) (h1 : wRoot S v gv m = none) : aw_M yX10_comesFrom cX10_comesFrom 3 (some FieldType.int) 2 0 0 [.ref (v 4), .int m, .int m2] S (fun r S2 => r = some (.int (-1)) ∧ S2 = S) := by
  refine aw_enter (by decide +kernel) (Nat.le_of_ble_eq_true rfl) (fun g K E => ?_)
  have hL0 := hL
  have i4 := lw_i4 hL
  have f646 := lw_f646 hL
  have i6 := lw_i6 hL
  first | refine a_aload_n K dX10_comesFrom_0 rfl ?_ | refine a_aload_nN K dX10_comesFrom_0 rfl ?_
  refine a_getRs K fd_X10_46 (by assumption) (Or.inl ⟨_, rfl⟩) (by assumption) dX10_comesFrom_1 ?_
  refine a_iload_n K dX10_comesFrom_4 rfl ?_
  refine a_invV K (w_heldRoot hL0 hg _) my_X3_heldRoot ml_X10_165 im_X3_heldRoot se_X3_heldRoot (ci := 3) (by assumption) (by decide) ⟨_, _, rfl⟩ rfl (by omega) (by omega) (by omega) rfl (Nat.le_of_ble_eq_true rfl) dX10_comesFrom_5 ?_
  intro r9 S9 hp9
  obtain ⟨rfl, rfl⟩ := hp9
  rw [h1]
  refine a_ifnullN K dX10_comesFrom_8 (tgt := 26) (by decide) ?_
  refine a_iconst K dX10_comesFrom_26 (v := -1) (by decide) ?_
  exact a_iret K E rfl (by omega) (by omega) dX10_comesFrom_27 ⟨rfl, rfl⟩
