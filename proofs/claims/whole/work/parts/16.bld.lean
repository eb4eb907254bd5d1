set_option maxHeartbeats 4000000 in
set_option maxRecDepth 100000 in
theorem m_X10_isRange {S : aw_S} {a b : Int32} : aw_M yX10_isRange cX10_isRange 2 (some FieldType.boolean) 1 0 0 [.int a, .int b] S (fun r S2 => S2 = S ∧ bR ((0 ≤ a.toInt ∧ a.toInt < 1000) ∧ (0 ≤ b.toInt ∧ b.toInt < 1000) ∧ a.toInt ≤ b.toInt) r) := by
  refine aw_enter (by decide +kernel) (Nat.le_of_ble_eq_true rfl) (fun g K E => ?_)
  refine a_iload_n K dX10_isRange_0 rfl ?_
  refine a_invS K (m_X10_isKey) my_X10_isKey ml_X10_235 st_X10_isKey rfl (by omega) (by omega) (by omega) rfl (Nat.le_of_ble_eq_true rfl) dX10_isRange_1 ?_
  intro r9 S9 hp9
  obtain ⟨rfl, hb9⟩ := hp9
  rcases hb9 with ⟨b_1, rfl⟩ | ⟨b_1, rfl⟩
  · refine a_if_eq K dX10_isRange_4 (tgt := 23) (by decide) (fun z => absurd z (by decide)) (fun _ => ?_)
    refine a_iload_n K dX10_isRange_7 rfl ?_
    refine a_invS K (m_X10_isKey) my_X10_isKey ml_X10_235 st_X10_isKey rfl (by omega) (by omega) (by omega) rfl (Nat.le_of_ble_eq_true rfl) dX10_isRange_8 ?_
    intro r9 S9 hp9
    obtain ⟨rfl, hb9⟩ := hp9
    rcases hb9 with ⟨b_8, rfl⟩ | ⟨b_8, rfl⟩
    · refine a_if_eq K dX10_isRange_11 (tgt := 23) (by decide) (fun z => absurd z (by decide)) (fun _ => ?_)
      refine a_iload_n K dX10_isRange_14 rfl ?_
      refine a_iload_n K dX10_isRange_15 rfl ?_
      refine a_icmp_gt K dX10_isRange_16 (tgt := 23) (by decide) (fun c_16 => ?_) (fun c_16 => ?_)
      · refine a_iconst K dX10_isRange_23 (v := 0) (by decide) ?_
        exact a_iret K E rfl (by omega) (by omega) dX10_isRange_24 ⟨rfl, by first | exact Or.inl ⟨⟨b_1, b_8, by have h := i32_le.mp (Int32.not_lt.mp c_16); omega⟩, rfl⟩ | exact Or.inr ⟨fun z => b_1 z.1, rfl⟩ | exact Or.inr ⟨fun z => b_8 z.2.1, rfl⟩ | exact Or.inr ⟨fun z => by have h := i32_lt.mp c_16; omega, rfl⟩⟩
      · refine a_iconst K dX10_isRange_19 (v := 1) (by decide) ?_
        refine a_goto K dX10_isRange_20 (tgt := 24) (by decide) ?_
        exact a_iret K E rfl (by omega) (by omega) dX10_isRange_24 ⟨rfl, by first | exact Or.inl ⟨⟨b_1, b_8, by have h := i32_le.mp (Int32.not_lt.mp c_16); omega⟩, rfl⟩ | exact Or.inr ⟨fun z => b_1 z.1, rfl⟩ | exact Or.inr ⟨fun z => b_8 z.2.1, rfl⟩ | exact Or.inr ⟨fun z => by have h := i32_lt.mp c_16; omega, rfl⟩⟩
    · refine a_if_eq K dX10_isRange_11 (tgt := 23) (by decide) (fun _ => ?_) (fun z => absurd z (by decide))
      refine a_iconst K dX10_isRange_23 (v := 0) (by decide) ?_
      exact a_iret K E rfl (by omega) (by omega) dX10_isRange_24 ⟨rfl, by first | exact Or.inl ⟨⟨b_1, b_8, by have h := i32_le.mp (Int32.not_lt.mp c_16); omega⟩, rfl⟩ | exact Or.inr ⟨fun z => b_1 z.1, rfl⟩ | exact Or.inr ⟨fun z => b_8 z.2.1, rfl⟩ | exact Or.inr ⟨fun z => by have h := i32_lt.mp c_16; omega, rfl⟩⟩
  · refine a_if_eq K dX10_isRange_4 (tgt := 23) (by decide) (fun _ => ?_) (fun z => absurd z (by decide))
    refine a_iconst K dX10_isRange_23 (v := 0) (by decide) ?_
    exact a_iret K E rfl (by omega) (by omega) dX10_isRange_24 ⟨rfl, by first | exact Or.inl ⟨⟨b_1, b_8, by have h := i32_le.mp (Int32.not_lt.mp c_16); omega⟩, rfl⟩ | exact Or.inr ⟨fun z => b_1 z.1, rfl⟩ | exact Or.inr ⟨fun z => b_8 z.2.1, rfl⟩ | exact Or.inr ⟨fun z => by have h := i32_lt.mp c_16; omega, rfl⟩⟩
set_option maxHeartbeats 4000000 in
set_option maxRecDepth 100000 in
theorem m_X10_lay_null {S : aw_S} {v : Nat → Nat} {i k w : Int32} (hL : LW S v) (hb : atR (sQ S (v 13)) 4 i = none) : aw_M yX10_lay cX10_lay 7 (some FieldType.int) 2 0 0 [.ref (v 4), .int i, .int k, .int w] S (fun r S2 => r = some (.int (-1)) ∧ S2 = wA S (v 18) 0 (sA S (v 18) 0 + 1)) := by
  refine aw_enter (by decide +kernel) (Nat.le_of_ble_eq_true rfl) (fun g K E => ?_)
  have hL0 := hL
  have i4 := lw_i4 hL
  have f645 := lw_f645 hL
  have i5 := lw_i5 hL
  first | refine a_aload_n K dX10_lay_0 rfl ?_ | refine a_aload_nN K dX10_lay_0 rfl ?_
  refine a_iload_n K dX10_lay_1 rfl ?_
  refine a_invV K (w_builderAt hL0 _) my_X10_builderAt ml_X10_313 im_X10_builderAt se_X10_builderAt (ci := 10) (by assumption) (by decide) ⟨_, _, rfl⟩ rfl (by omega) (by omega) (by omega) rfl (Nat.le_of_ble_eq_true rfl) dX10_lay_2 ?_
  intro r9 S9 hp9
  obtain ⟨rfl, rfl⟩ := hp9
  rw [hb]
  first | refine a_astore K dX10_lay_5 (by decide) ?_ | refine a_astoreN K dX10_lay_5 (by decide) ?_
  first | refine a_aload K dX10_lay_7 rfl ?_ | refine a_aloadN K dX10_lay_7 rfl ?_
  refine a_iload_n K dX10_lay_9 rfl ?_
  refine a_invS K (m_X10_isKey) my_X10_isKey ml_X10_235 st_X10_isKey rfl (by omega) (by omega) (by omega) rfl (Nat.le_of_ble_eq_true rfl) dX10_lay_10 ?_
  intro r9 S9 hp9
  obtain ⟨rfl, hb9⟩ := hp9
  rcases hb9 with ⟨b_10, rfl⟩ | ⟨b_10, rfl⟩
  · refine a_if_eq K dX10_lay_13 (tgt := 27) (by decide) (fun z => absurd z (by decide)) (fun _ => ?_)
    refine a_iload_n K dX10_lay_16 rfl ?_
    refine a_invS K (m_X10_isValue) my_X10_isValue ml_X10_238 st_X10_isValue rfl (by omega) (by omega) (by omega) rfl (Nat.le_of_ble_eq_true rfl) dX10_lay_17 ?_
    intro r9 S9 hp9
    obtain ⟨rfl, hb9⟩ := hp9
    rcases hb9 with ⟨b_17, rfl⟩ | ⟨b_17, rfl⟩
    · refine a_if_eq K dX10_lay_20 (tgt := 27) (by decide) (fun z => absurd z (by decide)) (fun _ => ?_)
      refine a_iconst K dX10_lay_23 (v := 1) (by decide) ?_
      refine a_goto K dX10_lay_24 (tgt := 28) (by decide) ?_
      refine a_invS K (m_X10_objection_null) my_X10_objection ml_X10_320 st_X10_objection rfl (by omega) (by omega) (by omega) rfl (Nat.le_of_ble_eq_true rfl) dX10_lay_28 ?_
      intro r9 S9 hp9
      obtain ⟨rfl, rfl⟩ := hp9
      refine a_istore K dX10_lay_31 (by decide) ?_
      first | refine a_aload K dX10_lay_33 rfl ?_ | refine a_aloadN K dX10_lay_33 rfl ?_
      refine a_ifnullN K dX10_lay_35 (tgt := 44) (by decide) ?_
      first | refine a_aload_n K dX10_lay_44 rfl ?_ | refine a_aload_nN K dX10_lay_44 rfl ?_
      refine a_iload K dX10_lay_45 rfl ?_
      refine a_invV K (w_refused hL0 0 (by decide)) my_X10_refused ml_X10_128 im_X10_refused se_X10_refused (ci := 10) (by assumption) (by decide) ⟨_, _, rfl⟩ rfl (by omega) (by omega) (by omega) rfl (Nat.le_of_ble_eq_true rfl) dX10_lay_47 ?_
      intro r9 S9 hp9
      obtain ⟨rfl, hS9⟩ := hp9
      exact a_iret K E rfl (by omega) (by omega) dX10_lay_50 ⟨rfl, hS9⟩
    · refine a_if_eq K dX10_lay_20 (tgt := 27) (by decide) (fun _ => ?_) (fun z => absurd z (by decide))
      refine a_iconst K dX10_lay_27 (v := 0) (by decide) ?_
      refine a_invS K (m_X10_objection_null) my_X10_objection ml_X10_320 st_X10_objection rfl (by omega) (by omega) (by omega) rfl (Nat.le_of_ble_eq_true rfl) dX10_lay_28 ?_
      intro r9 S9 hp9
      obtain ⟨rfl, rfl⟩ := hp9
      refine a_istore K dX10_lay_31 (by decide) ?_
      first | refine a_aload K dX10_lay_33 rfl ?_ | refine a_aloadN K dX10_lay_33 rfl ?_
      refine a_ifnullN K dX10_lay_35 (tgt := 44) (by decide) ?_
      first | refine a_aload_n K dX10_lay_44 rfl ?_ | refine a_aload_nN K dX10_lay_44 rfl ?_
      refine a_iload K dX10_lay_45 rfl ?_
      refine a_invV K (w_refused hL0 0 (by decide)) my_X10_refused ml_X10_128 im_X10_refused se_X10_refused (ci := 10) (by assumption) (by decide) ⟨_, _, rfl⟩ rfl (by omega) (by omega) (by omega) rfl (Nat.le_of_ble_eq_true rfl) dX10_lay_47 ?_
      intro r9 S9 hp9
      obtain ⟨rfl, hS9⟩ := hp9
      exact a_iret K E rfl (by omega) (by omega) dX10_lay_50 ⟨rfl, hS9⟩
  · refine a_if_eq K dX10_lay_13 (tgt := 27) (by decide) (fun _ => ?_) (fun z => absurd z (by decide))
    refine a_iconst K dX10_lay_27 (v := 0) (by decide) ?_
    refine a_invS K (m_X10_objection_null) my_X10_objection ml_X10_320 st_X10_objection rfl (by omega) (by omega) (by omega) rfl (Nat.le_of_ble_eq_true rfl) dX10_lay_28 ?_
    intro r9 S9 hp9
    obtain ⟨rfl, rfl⟩ := hp9
    refine a_istore K dX10_lay_31 (by decide) ?_
    first | refine a_aload K dX10_lay_33 rfl ?_ | refine a_aloadN K dX10_lay_33 rfl ?_
    refine a_ifnullN K dX10_lay_35 (tgt := 44) (by decide) ?_
    first | refine a_aload_n K dX10_lay_44 rfl ?_ | refine a_aload_nN K dX10_lay_44 rfl ?_
    refine a_iload K dX10_lay_45 rfl ?_
    refine a_invV K (w_refused hL0 0 (by decide)) my_X10_refused ml_X10_128 im_X10_refused se_X10_refused (ci := 10) (by assumption) (by decide) ⟨_, _, rfl⟩ rfl (by omega) (by omega) (by omega) rfl (Nat.le_of_ble_eq_true rfl) dX10_lay_47 ?_
    intro r9 S9 hp9
    obtain ⟨rfl, hS9⟩ := hp9
    exact a_iret K E rfl (by omega) (by omega) dX10_lay_50 ⟨rfl, hS9⟩
set_option maxHeartbeats 4000000 in
set_option maxRecDepth 100000 in
theorem m_X10_lay_bad {S : aw_S} {v : Nat → Nat} {i k w : Int32} {b : Nat} (hL : LW S v) (hb : atR (sQ S (v 13)) 4 i = some b) (hx : ¬ ((0 ≤ k.toInt ∧ k.toInt < 1000) ∧ (-999 ≤ w.toInt ∧ w.toInt ≤ 999))) : aw_M yX10_lay cX10_lay 7 (some FieldType.int) 2 0 0 [.ref (v 4), .int i, .int k, .int w] S (fun r S2 => r = some (.int (-1)) ∧ S2 = wA S (v 18) 1 (sA S (v 18) 1 + 1)) := by
  refine aw_enter (by decide +kernel) (Nat.le_of_ble_eq_true rfl) (fun g K E => ?_)
  have hL0 := hL
  have i4 := lw_i4 hL
  have f645 := lw_f645 hL
  have i5 := lw_i5 hL
  first | refine a_aload_n K dX10_lay_0 rfl ?_ | refine a_aload_nN K dX10_lay_0 rfl ?_
  refine a_iload_n K dX10_lay_1 rfl ?_
  refine a_invV K (w_builderAt hL0 _) my_X10_builderAt ml_X10_313 im_X10_builderAt se_X10_builderAt (ci := 10) (by assumption) (by decide) ⟨_, _, rfl⟩ rfl (by omega) (by omega) (by omega) rfl (Nat.le_of_ble_eq_true rfl) dX10_lay_2 ?_
  intro r9 S9 hp9
  obtain ⟨rfl, rfl⟩ := hp9
  rw [hb]
  first | refine a_astore K dX10_lay_5 (by decide) ?_ | refine a_astoreN K dX10_lay_5 (by decide) ?_
  first | refine a_aload K dX10_lay_7 rfl ?_ | refine a_aloadN K dX10_lay_7 rfl ?_
  refine a_iload_n K dX10_lay_9 rfl ?_
  refine a_invS K (m_X10_isKey) my_X10_isKey ml_X10_235 st_X10_isKey rfl (by omega) (by omega) (by omega) rfl (Nat.le_of_ble_eq_true rfl) dX10_lay_10 ?_
  intro r9 S9 hp9
  obtain ⟨rfl, hb9⟩ := hp9
  rcases hb9 with ⟨b_10, rfl⟩ | ⟨b_10, rfl⟩
  · refine a_if_eq K dX10_lay_13 (tgt := 27) (by decide) (fun z => absurd z (by decide)) (fun _ => ?_)
    refine a_iload_n K dX10_lay_16 rfl ?_
    refine a_invS K (m_X10_isValue) my_X10_isValue ml_X10_238 st_X10_isValue rfl (by omega) (by omega) (by omega) rfl (Nat.le_of_ble_eq_true rfl) dX10_lay_17 ?_
    intro r9 S9 hp9
    obtain ⟨rfl, hb9⟩ := hp9
    rcases hb9 with ⟨b_17, rfl⟩ | ⟨b_17, rfl⟩
    · refine a_if_eq K dX10_lay_20 (tgt := 27) (by decide) (fun z => absurd z (by decide)) (fun _ => ?_)
      exact absurd ⟨b_10, b_17⟩ hx
    · refine a_if_eq K dX10_lay_20 (tgt := 27) (by decide) (fun _ => ?_) (fun z => absurd z (by decide))
      refine a_iconst K dX10_lay_27 (v := 0) (by decide) ?_
      refine a_invS K (m_X10_objection_bad) my_X10_objection ml_X10_320 st_X10_objection rfl (by omega) (by omega) (by omega) rfl (Nat.le_of_ble_eq_true rfl) dX10_lay_28 ?_
      intro r9 S9 hp9
      obtain ⟨rfl, rfl⟩ := hp9
      refine a_istore K dX10_lay_31 (by decide) ?_
      first | refine a_aload K dX10_lay_33 rfl ?_ | refine a_aloadN K dX10_lay_33 rfl ?_
      refine a_ifnull K dX10_lay_35 ?_
      refine a_iload K dX10_lay_38 rfl ?_
      refine a_iconst K dX10_lay_40 (v := -1) (by decide) ?_
      refine a_icmp_eq K dX10_lay_41 (tgt := 51) (by decide) (fun c_41 => absurd c_41 (by decide)) (fun c_41 => ?_)
      first | refine a_aload_n K dX10_lay_44 rfl ?_ | refine a_aload_nN K dX10_lay_44 rfl ?_
      refine a_iload K dX10_lay_45 rfl ?_
      refine a_invV K (w_refused hL0 1 (by decide)) my_X10_refused ml_X10_128 im_X10_refused se_X10_refused (ci := 10) (by assumption) (by decide) ⟨_, _, rfl⟩ rfl (by omega) (by omega) (by omega) rfl (Nat.le_of_ble_eq_true rfl) dX10_lay_47 ?_
      intro r9 S9 hp9
      obtain ⟨rfl, hS9⟩ := hp9
      exact a_iret K E rfl (by omega) (by omega) dX10_lay_50 ⟨rfl, hS9⟩
  · refine a_if_eq K dX10_lay_13 (tgt := 27) (by decide) (fun _ => ?_) (fun z => absurd z (by decide))
    refine a_iconst K dX10_lay_27 (v := 0) (by decide) ?_
    refine a_invS K (m_X10_objection_bad) my_X10_objection ml_X10_320 st_X10_objection rfl (by omega) (by omega) (by omega) rfl (Nat.le_of_ble_eq_true rfl) dX10_lay_28 ?_
    intro r9 S9 hp9
    obtain ⟨rfl, rfl⟩ := hp9
    refine a_istore K dX10_lay_31 (by decide) ?_
    first | refine a_aload K dX10_lay_33 rfl ?_ | refine a_aloadN K dX10_lay_33 rfl ?_
    refine a_ifnull K dX10_lay_35 ?_
    refine a_iload K dX10_lay_38 rfl ?_
    refine a_iconst K dX10_lay_40 (v := -1) (by decide) ?_
    refine a_icmp_eq K dX10_lay_41 (tgt := 51) (by decide) (fun c_41 => absurd c_41 (by decide)) (fun c_41 => ?_)
    first | refine a_aload_n K dX10_lay_44 rfl ?_ | refine a_aload_nN K dX10_lay_44 rfl ?_
    refine a_iload K dX10_lay_45 rfl ?_
    refine a_invV K (w_refused hL0 1 (by decide)) my_X10_refused ml_X10_128 im_X10_refused se_X10_refused (ci := 10) (by assumption) (by decide) ⟨_, _, rfl⟩ rfl (by omega) (by omega) (by omega) rfl (Nat.le_of_ble_eq_true rfl) dX10_lay_47 ?_
    intro r9 S9 hp9
    obtain ⟨rfl, hS9⟩ := hp9
    exact a_iret K E rfl (by omega) (by omega) dX10_lay_50 ⟨rfl, hS9⟩
set_option maxHeartbeats 4000000 in
set_option maxRecDepth 100000 in
theorem m_X10_lay_stale {S : aw_S} {v : Nat → Nat} {i k w : Int32} {b : Nat} (hL : LW S v) (hb : atR (sQ S (v 13)) 4 i = some b) (ob : aw_is S b 0) (hs : sR S 0 b = none) (hx : (0 ≤ k.toInt ∧ k.toInt < 1000) ∧ (-999 ≤ w.toInt ∧ w.toInt ≤ 999)) : aw_M yX10_lay cX10_lay 7 (some FieldType.int) 2 0 0 [.ref (v 4), .int i, .int k, .int w] S (fun r S2 => r = some (.int (-1)) ∧ S2 = wA S (v 18) 2 (sA S (v 18) 2 + 1)) := by
  refine aw_enter (by decide +kernel) (Nat.le_of_ble_eq_true rfl) (fun g K E => ?_)
  have hL0 := hL
  have i4 := lw_i4 hL
  have f645 := lw_f645 hL
  have i5 := lw_i5 hL
  first | refine a_aload_n K dX10_lay_0 rfl ?_ | refine a_aload_nN K dX10_lay_0 rfl ?_
  refine a_iload_n K dX10_lay_1 rfl ?_
  refine a_invV K (w_builderAt hL0 _) my_X10_builderAt ml_X10_313 im_X10_builderAt se_X10_builderAt (ci := 10) (by assumption) (by decide) ⟨_, _, rfl⟩ rfl (by omega) (by omega) (by omega) rfl (Nat.le_of_ble_eq_true rfl) dX10_lay_2 ?_
  intro r9 S9 hp9
  obtain ⟨rfl, rfl⟩ := hp9
  rw [hb]
  first | refine a_astore K dX10_lay_5 (by decide) ?_ | refine a_astoreN K dX10_lay_5 (by decide) ?_
  first | refine a_aload K dX10_lay_7 rfl ?_ | refine a_aloadN K dX10_lay_7 rfl ?_
  refine a_iload_n K dX10_lay_9 rfl ?_
  refine a_invS K (m_X10_isKey) my_X10_isKey ml_X10_235 st_X10_isKey rfl (by omega) (by omega) (by omega) rfl (Nat.le_of_ble_eq_true rfl) dX10_lay_10 ?_
  intro r9 S9 hp9
  obtain ⟨rfl, hb9⟩ := hp9
  rcases hb9 with ⟨b_10, rfl⟩ | ⟨b_10, rfl⟩
  · refine a_if_eq K dX10_lay_13 (tgt := 27) (by decide) (fun z => absurd z (by decide)) (fun _ => ?_)
    refine a_iload_n K dX10_lay_16 rfl ?_
    refine a_invS K (m_X10_isValue) my_X10_isValue ml_X10_238 st_X10_isValue rfl (by omega) (by omega) (by omega) rfl (Nat.le_of_ble_eq_true rfl) dX10_lay_17 ?_
    intro r9 S9 hp9
    obtain ⟨rfl, hb9⟩ := hp9
    rcases hb9 with ⟨b_17, rfl⟩ | ⟨b_17, rfl⟩
    · refine a_if_eq K dX10_lay_20 (tgt := 27) (by decide) (fun z => absurd z (by decide)) (fun _ => ?_)
      refine a_iconst K dX10_lay_23 (v := 1) (by decide) ?_
      refine a_goto K dX10_lay_24 (tgt := 28) (by decide) ?_
      refine a_invS K (m_X10_objection_stale ob hs) my_X10_objection ml_X10_320 st_X10_objection rfl (by omega) (by omega) (by omega) rfl (Nat.le_of_ble_eq_true rfl) dX10_lay_28 ?_
      intro r9 S9 hp9
      obtain ⟨rfl, rfl⟩ := hp9
      refine a_istore K dX10_lay_31 (by decide) ?_
      first | refine a_aload K dX10_lay_33 rfl ?_ | refine a_aloadN K dX10_lay_33 rfl ?_
      refine a_ifnull K dX10_lay_35 ?_
      refine a_iload K dX10_lay_38 rfl ?_
      refine a_iconst K dX10_lay_40 (v := -1) (by decide) ?_
      refine a_icmp_eq K dX10_lay_41 (tgt := 51) (by decide) (fun c_41 => absurd c_41 (by decide)) (fun c_41 => ?_)
      first | refine a_aload_n K dX10_lay_44 rfl ?_ | refine a_aload_nN K dX10_lay_44 rfl ?_
      refine a_iload K dX10_lay_45 rfl ?_
      refine a_invV K (w_refused hL0 2 (by decide)) my_X10_refused ml_X10_128 im_X10_refused se_X10_refused (ci := 10) (by assumption) (by decide) ⟨_, _, rfl⟩ rfl (by omega) (by omega) (by omega) rfl (Nat.le_of_ble_eq_true rfl) dX10_lay_47 ?_
      intro r9 S9 hp9
      obtain ⟨rfl, hS9⟩ := hp9
      exact a_iret K E rfl (by omega) (by omega) dX10_lay_50 ⟨rfl, hS9⟩
    · refine a_if_eq K dX10_lay_20 (tgt := 27) (by decide) (fun _ => ?_) (fun z => absurd z (by decide))
      first | exact absurd hx.1 b_10 | exact absurd hx.2 b_17
  · refine a_if_eq K dX10_lay_13 (tgt := 27) (by decide) (fun _ => ?_) (fun z => absurd z (by decide))
    first | exact absurd hx.1 b_10 | exact absurd hx.2 b_17
set_option maxHeartbeats 4000000 in
set_option maxRecDepth 100000 in
theorem m_X10_add_null {S : aw_S} {v : Nat → Nat} {i k w : Int32} (hL : LW S v) (hb : atR (sQ S (v 13)) 4 i = none) : aw_M yX10_add cX10_add 7 (some FieldType.int) 2 0 0 [.ref (v 4), .int i, .int k, .int w] S (fun r S2 => r = some (.int (-1)) ∧ S2 = wA S (v 18) 0 (sA S (v 18) 0 + 1)) := by
  refine aw_enter (by decide +kernel) (Nat.le_of_ble_eq_true rfl) (fun g K E => ?_)
  have hL0 := hL
  have i4 := lw_i4 hL
  have f645 := lw_f645 hL
  have i5 := lw_i5 hL
  first | refine a_aload_n K dX10_add_0 rfl ?_ | refine a_aload_nN K dX10_add_0 rfl ?_
  refine a_iload_n K dX10_add_1 rfl ?_
  refine a_invV K (w_builderAt hL0 _) my_X10_builderAt ml_X10_313 im_X10_builderAt se_X10_builderAt (ci := 10) (by assumption) (by decide) ⟨_, _, rfl⟩ rfl (by omega) (by omega) (by omega) rfl (Nat.le_of_ble_eq_true rfl) dX10_add_2 ?_
  intro r9 S9 hp9
  obtain ⟨rfl, rfl⟩ := hp9
  rw [hb]
  first | refine a_astore K dX10_add_5 (by decide) ?_ | refine a_astoreN K dX10_add_5 (by decide) ?_
  first | refine a_aload K dX10_add_7 rfl ?_ | refine a_aloadN K dX10_add_7 rfl ?_
  refine a_iload_n K dX10_add_9 rfl ?_
  refine a_invS K (m_X10_isKey) my_X10_isKey ml_X10_235 st_X10_isKey rfl (by omega) (by omega) (by omega) rfl (Nat.le_of_ble_eq_true rfl) dX10_add_10 ?_
  intro r9 S9 hp9
  obtain ⟨rfl, hb9⟩ := hp9
  rcases hb9 with ⟨b_10, rfl⟩ | ⟨b_10, rfl⟩
  · refine a_if_eq K dX10_add_13 (tgt := 27) (by decide) (fun z => absurd z (by decide)) (fun _ => ?_)
    refine a_iload_n K dX10_add_16 rfl ?_
    refine a_invS K (m_X10_isValue) my_X10_isValue ml_X10_238 st_X10_isValue rfl (by omega) (by omega) (by omega) rfl (Nat.le_of_ble_eq_true rfl) dX10_add_17 ?_
    intro r9 S9 hp9
    obtain ⟨rfl, hb9⟩ := hp9
    rcases hb9 with ⟨b_17, rfl⟩ | ⟨b_17, rfl⟩
    · refine a_if_eq K dX10_add_20 (tgt := 27) (by decide) (fun z => absurd z (by decide)) (fun _ => ?_)
      refine a_iconst K dX10_add_23 (v := 1) (by decide) ?_
      refine a_goto K dX10_add_24 (tgt := 28) (by decide) ?_
      refine a_invS K (m_X10_objection_null) my_X10_objection ml_X10_320 st_X10_objection rfl (by omega) (by omega) (by omega) rfl (Nat.le_of_ble_eq_true rfl) dX10_add_28 ?_
      intro r9 S9 hp9
      obtain ⟨rfl, rfl⟩ := hp9
      refine a_istore K dX10_add_31 (by decide) ?_
      first | refine a_aload K dX10_add_33 rfl ?_ | refine a_aloadN K dX10_add_33 rfl ?_
      refine a_ifnullN K dX10_add_35 (tgt := 44) (by decide) ?_
      first | refine a_aload_n K dX10_add_44 rfl ?_ | refine a_aload_nN K dX10_add_44 rfl ?_
      refine a_iload K dX10_add_45 rfl ?_
      refine a_invV K (w_refused hL0 0 (by decide)) my_X10_refused ml_X10_128 im_X10_refused se_X10_refused (ci := 10) (by assumption) (by decide) ⟨_, _, rfl⟩ rfl (by omega) (by omega) (by omega) rfl (Nat.le_of_ble_eq_true rfl) dX10_add_47 ?_
      intro r9 S9 hp9
      obtain ⟨rfl, hS9⟩ := hp9
      exact a_iret K E rfl (by omega) (by omega) dX10_add_50 ⟨rfl, hS9⟩
    · refine a_if_eq K dX10_add_20 (tgt := 27) (by decide) (fun _ => ?_) (fun z => absurd z (by decide))
      refine a_iconst K dX10_add_27 (v := 0) (by decide) ?_
      refine a_invS K (m_X10_objection_null) my_X10_objection ml_X10_320 st_X10_objection rfl (by omega) (by omega) (by omega) rfl (Nat.le_of_ble_eq_true rfl) dX10_add_28 ?_
      intro r9 S9 hp9
      obtain ⟨rfl, rfl⟩ := hp9
      refine a_istore K dX10_add_31 (by decide) ?_
      first | refine a_aload K dX10_add_33 rfl ?_ | refine a_aloadN K dX10_add_33 rfl ?_
      refine a_ifnullN K dX10_add_35 (tgt := 44) (by decide) ?_
      first | refine a_aload_n K dX10_add_44 rfl ?_ | refine a_aload_nN K dX10_add_44 rfl ?_
      refine a_iload K dX10_add_45 rfl ?_
      refine a_invV K (w_refused hL0 0 (by decide)) my_X10_refused ml_X10_128 im_X10_refused se_X10_refused (ci := 10) (by assumption) (by decide) ⟨_, _, rfl⟩ rfl (by omega) (by omega) (by omega) rfl (Nat.le_of_ble_eq_true rfl) dX10_add_47 ?_
      intro r9 S9 hp9
      obtain ⟨rfl, hS9⟩ := hp9
      exact a_iret K E rfl (by omega) (by omega) dX10_add_50 ⟨rfl, hS9⟩
  · refine a_if_eq K dX10_add_13 (tgt := 27) (by decide) (fun _ => ?_) (fun z => absurd z (by decide))
    refine a_iconst K dX10_add_27 (v := 0) (by decide) ?_
    refine a_invS K (m_X10_objection_null) my_X10_objection ml_X10_320 st_X10_objection rfl (by omega) (by omega) (by omega) rfl (Nat.le_of_ble_eq_true rfl) dX10_add_28 ?_
    intro r9 S9 hp9
    obtain ⟨rfl, rfl⟩ := hp9
    refine a_istore K dX10_add_31 (by decide) ?_
    first | refine a_aload K dX10_add_33 rfl ?_ | refine a_aloadN K dX10_add_33 rfl ?_
    refine a_ifnullN K dX10_add_35 (tgt := 44) (by decide) ?_
    first | refine a_aload_n K dX10_add_44 rfl ?_ | refine a_aload_nN K dX10_add_44 rfl ?_
    refine a_iload K dX10_add_45 rfl ?_
    refine a_invV K (w_refused hL0 0 (by decide)) my_X10_refused ml_X10_128 im_X10_refused se_X10_refused (ci := 10) (by assumption) (by decide) ⟨_, _, rfl⟩ rfl (by omega) (by omega) (by omega) rfl (Nat.le_of_ble_eq_true rfl) dX10_add_47 ?_
    intro r9 S9 hp9
    obtain ⟨rfl, hS9⟩ := hp9
    exact a_iret K E rfl (by omega) (by omega) dX10_add_50 ⟨rfl, hS9⟩
set_option maxHeartbeats 4000000 in
set_option maxRecDepth 100000 in
theorem m_X10_add_bad {S : aw_S} {v : Nat → Nat} {i k w : Int32} {b : Nat} (hL : LW S v) (hb : atR (sQ S (v 13)) 4 i = some b) (hx : ¬ ((0 ≤ k.toInt ∧ k.toInt < 1000) ∧ (-999 ≤ w.toInt ∧ w.toInt ≤ 999))) : aw_M yX10_add cX10_add 7 (some FieldType.int) 2 0 0 [.ref (v 4), .int i, .int k, .int w] S (fun r S2 => r = some (.int (-1)) ∧ S2 = wA S (v 18) 1 (sA S (v 18) 1 + 1)) := by
  refine aw_enter (by decide +kernel) (Nat.le_of_ble_eq_true rfl) (fun g K E => ?_)
  have hL0 := hL
  have i4 := lw_i4 hL
  have f645 := lw_f645 hL
  have i5 := lw_i5 hL
  first | refine a_aload_n K dX10_add_0 rfl ?_ | refine a_aload_nN K dX10_add_0 rfl ?_
  refine a_iload_n K dX10_add_1 rfl ?_
  refine a_invV K (w_builderAt hL0 _) my_X10_builderAt ml_X10_313 im_X10_builderAt se_X10_builderAt (ci := 10) (by assumption) (by decide) ⟨_, _, rfl⟩ rfl (by omega) (by omega) (by omega) rfl (Nat.le_of_ble_eq_true rfl) dX10_add_2 ?_
  intro r9 S9 hp9
  obtain ⟨rfl, rfl⟩ := hp9
  rw [hb]
  first | refine a_astore K dX10_add_5 (by decide) ?_ | refine a_astoreN K dX10_add_5 (by decide) ?_
  first | refine a_aload K dX10_add_7 rfl ?_ | refine a_aloadN K dX10_add_7 rfl ?_
  refine a_iload_n K dX10_add_9 rfl ?_
  refine a_invS K (m_X10_isKey) my_X10_isKey ml_X10_235 st_X10_isKey rfl (by omega) (by omega) (by omega) rfl (Nat.le_of_ble_eq_true rfl) dX10_add_10 ?_
  intro r9 S9 hp9
  obtain ⟨rfl, hb9⟩ := hp9
  rcases hb9 with ⟨b_10, rfl⟩ | ⟨b_10, rfl⟩
  · refine a_if_eq K dX10_add_13 (tgt := 27) (by decide) (fun z => absurd z (by decide)) (fun _ => ?_)
    refine a_iload_n K dX10_add_16 rfl ?_
    refine a_invS K (m_X10_isValue) my_X10_isValue ml_X10_238 st_X10_isValue rfl (by omega) (by omega) (by omega) rfl (Nat.le_of_ble_eq_true rfl) dX10_add_17 ?_
    intro r9 S9 hp9
    obtain ⟨rfl, hb9⟩ := hp9
    rcases hb9 with ⟨b_17, rfl⟩ | ⟨b_17, rfl⟩
    · refine a_if_eq K dX10_add_20 (tgt := 27) (by decide) (fun z => absurd z (by decide)) (fun _ => ?_)
      exact absurd ⟨b_10, b_17⟩ hx
    · refine a_if_eq K dX10_add_20 (tgt := 27) (by decide) (fun _ => ?_) (fun z => absurd z (by decide))
      refine a_iconst K dX10_add_27 (v := 0) (by decide) ?_
      refine a_invS K (m_X10_objection_bad) my_X10_objection ml_X10_320 st_X10_objection rfl (by omega) (by omega) (by omega) rfl (Nat.le_of_ble_eq_true rfl) dX10_add_28 ?_
      intro r9 S9 hp9
      obtain ⟨rfl, rfl⟩ := hp9
      refine a_istore K dX10_add_31 (by decide) ?_
      first | refine a_aload K dX10_add_33 rfl ?_ | refine a_aloadN K dX10_add_33 rfl ?_
      refine a_ifnull K dX10_add_35 ?_
      refine a_iload K dX10_add_38 rfl ?_
      refine a_iconst K dX10_add_40 (v := -1) (by decide) ?_
      refine a_icmp_eq K dX10_add_41 (tgt := 51) (by decide) (fun c_41 => absurd c_41 (by decide)) (fun c_41 => ?_)
      first | refine a_aload_n K dX10_add_44 rfl ?_ | refine a_aload_nN K dX10_add_44 rfl ?_
      refine a_iload K dX10_add_45 rfl ?_
      refine a_invV K (w_refused hL0 1 (by decide)) my_X10_refused ml_X10_128 im_X10_refused se_X10_refused (ci := 10) (by assumption) (by decide) ⟨_, _, rfl⟩ rfl (by omega) (by omega) (by omega) rfl (Nat.le_of_ble_eq_true rfl) dX10_add_47 ?_
      intro r9 S9 hp9
      obtain ⟨rfl, hS9⟩ := hp9
      exact a_iret K E rfl (by omega) (by omega) dX10_add_50 ⟨rfl, hS9⟩
  · refine a_if_eq K dX10_add_13 (tgt := 27) (by decide) (fun _ => ?_) (fun z => absurd z (by decide))
    refine a_iconst K dX10_add_27 (v := 0) (by decide) ?_
    refine a_invS K (m_X10_objection_bad) my_X10_objection ml_X10_320 st_X10_objection rfl (by omega) (by omega) (by omega) rfl (Nat.le_of_ble_eq_true rfl) dX10_add_28 ?_
    intro r9 S9 hp9
    obtain ⟨rfl, rfl⟩ := hp9
    refine a_istore K dX10_add_31 (by decide) ?_
    first | refine a_aload K dX10_add_33 rfl ?_ | refine a_aloadN K dX10_add_33 rfl ?_
    refine a_ifnull K dX10_add_35 ?_
    refine a_iload K dX10_add_38 rfl ?_
    refine a_iconst K dX10_add_40 (v := -1) (by decide) ?_
    refine a_icmp_eq K dX10_add_41 (tgt := 51) (by decide) (fun c_41 => absurd c_41 (by decide)) (fun c_41 => ?_)
    first | refine a_aload_n K dX10_add_44 rfl ?_ | refine a_aload_nN K dX10_add_44 rfl ?_
    refine a_iload K dX10_add_45 rfl ?_
    refine a_invV K (w_refused hL0 1 (by decide)) my_X10_refused ml_X10_128 im_X10_refused se_X10_refused (ci := 10) (by assumption) (by decide) ⟨_, _, rfl⟩ rfl (by omega) (by omega) (by omega) rfl (Nat.le_of_ble_eq_true rfl) dX10_add_47 ?_
    intro r9 S9 hp9
    obtain ⟨rfl, hS9⟩ := hp9
    exact a_iret K E rfl (by omega) (by omega) dX10_add_50 ⟨rfl, hS9⟩
set_option maxHeartbeats 4000000 in
set_option maxRecDepth 100000 in
theorem m_X10_add_stale {S : aw_S} {v : Nat → Nat} {i k w : Int32} {b : Nat} (hL : LW S v) (hb : atR (sQ S (v 13)) 4 i = some b) (ob : aw_is S b 0) (hs : sR S 0 b = none) (hx : (0 ≤ k.toInt ∧ k.toInt < 1000) ∧ (-999 ≤ w.toInt ∧ w.toInt ≤ 999)) : aw_M yX10_add cX10_add 7 (some FieldType.int) 2 0 0 [.ref (v 4), .int i, .int k, .int w] S (fun r S2 => r = some (.int (-1)) ∧ S2 = wA S (v 18) 2 (sA S (v 18) 2 + 1)) := by
  refine aw_enter (by decide +kernel) (Nat.le_of_ble_eq_true rfl) (fun g K E => ?_)
  have hL0 := hL
  have i4 := lw_i4 hL
  have f645 := lw_f645 hL
  have i5 := lw_i5 hL
  first | refine a_aload_n K dX10_add_0 rfl ?_ | refine a_aload_nN K dX10_add_0 rfl ?_
  refine a_iload_n K dX10_add_1 rfl ?_
  refine a_invV K (w_builderAt hL0 _) my_X10_builderAt ml_X10_313 im_X10_builderAt se_X10_builderAt (ci := 10) (by assumption) (by decide) ⟨_, _, rfl⟩ rfl (by omega) (by omega) (by omega) rfl (Nat.le_of_ble_eq_true rfl) dX10_add_2 ?_
  intro r9 S9 hp9
  obtain ⟨rfl, rfl⟩ := hp9
  rw [hb]
  first | refine a_astore K dX10_add_5 (by decide) ?_ | refine a_astoreN K dX10_add_5 (by decide) ?_
  first | refine a_aload K dX10_add_7 rfl ?_ | refine a_aloadN K dX10_add_7 rfl ?_
  refine a_iload_n K dX10_add_9 rfl ?_
  refine a_invS K (m_X10_isKey) my_X10_isKey ml_X10_235 st_X10_isKey rfl (by omega) (by omega) (by omega) rfl (Nat.le_of_ble_eq_true rfl) dX10_add_10 ?_
  intro r9 S9 hp9
  obtain ⟨rfl, hb9⟩ := hp9
  rcases hb9 with ⟨b_10, rfl⟩ | ⟨b_10, rfl⟩
  · refine a_if_eq K dX10_add_13 (tgt := 27) (by decide) (fun z => absurd z (by decide)) (fun _ => ?_)
    refine a_iload_n K dX10_add_16 rfl ?_
    refine a_invS K (m_X10_isValue) my_X10_isValue ml_X10_238 st_X10_isValue rfl (by omega) (by omega) (by omega) rfl (Nat.le_of_ble_eq_true rfl) dX10_add_17 ?_
    intro r9 S9 hp9
    obtain ⟨rfl, hb9⟩ := hp9
    rcases hb9 with ⟨b_17, rfl⟩ | ⟨b_17, rfl⟩
    · refine a_if_eq K dX10_add_20 (tgt := 27) (by decide) (fun z => absurd z (by decide)) (fun _ => ?_)
      refine a_iconst K dX10_add_23 (v := 1) (by decide) ?_
      refine a_goto K dX10_add_24 (tgt := 28) (by decide) ?_
      refine a_invS K (m_X10_objection_stale ob hs) my_X10_objection ml_X10_320 st_X10_objection rfl (by omega) (by omega) (by omega) rfl (Nat.le_of_ble_eq_true rfl) dX10_add_28 ?_
      intro r9 S9 hp9
      obtain ⟨rfl, rfl⟩ := hp9
      refine a_istore K dX10_add_31 (by decide) ?_
      first | refine a_aload K dX10_add_33 rfl ?_ | refine a_aloadN K dX10_add_33 rfl ?_
      refine a_ifnull K dX10_add_35 ?_
      refine a_iload K dX10_add_38 rfl ?_
      refine a_iconst K dX10_add_40 (v := -1) (by decide) ?_
      refine a_icmp_eq K dX10_add_41 (tgt := 51) (by decide) (fun c_41 => absurd c_41 (by decide)) (fun c_41 => ?_)
      first | refine a_aload_n K dX10_add_44 rfl ?_ | refine a_aload_nN K dX10_add_44 rfl ?_
      refine a_iload K dX10_add_45 rfl ?_
      refine a_invV K (w_refused hL0 2 (by decide)) my_X10_refused ml_X10_128 im_X10_refused se_X10_refused (ci := 10) (by assumption) (by decide) ⟨_, _, rfl⟩ rfl (by omega) (by omega) (by omega) rfl (Nat.le_of_ble_eq_true rfl) dX10_add_47 ?_
      intro r9 S9 hp9
      obtain ⟨rfl, hS9⟩ := hp9
      exact a_iret K E rfl (by omega) (by omega) dX10_add_50 ⟨rfl, hS9⟩
    · refine a_if_eq K dX10_add_20 (tgt := 27) (by decide) (fun _ => ?_) (fun z => absurd z (by decide))
      first | exact absurd hx.1 b_10 | exact absurd hx.2 b_17
  · refine a_if_eq K dX10_add_13 (tgt := 27) (by decide) (fun _ => ?_) (fun z => absurd z (by decide))
    first | exact absurd hx.1 b_10 | exact absurd hx.2 b_17
set_option maxHeartbeats 4000000 in
set_option maxRecDepth 100000 in
theorem m_X10_take_null {S : aw_S} {v : Nat → Nat} {i k : Int32} (hL : LW S v) (hb : atR (sQ S (v 13)) 4 i = none) : aw_M yX10_take cX10_take 6 (some FieldType.int) 2 0 0 [.ref (v 4), .int i, .int k] S (fun r S2 => r = some (.int (-1)) ∧ S2 = wA S (v 18) 0 (sA S (v 18) 0 + 1)) := by
  refine aw_enter (by decide +kernel) (Nat.le_of_ble_eq_true rfl) (fun g K E => ?_)
  have hL0 := hL
  have i4 := lw_i4 hL
  have f645 := lw_f645 hL
  have i5 := lw_i5 hL
  first | refine a_aload_n K dX10_take_0 rfl ?_ | refine a_aload_nN K dX10_take_0 rfl ?_
  refine a_iload_n K dX10_take_1 rfl ?_
  refine a_invV K (w_builderAt hL0 _) my_X10_builderAt ml_X10_313 im_X10_builderAt se_X10_builderAt (ci := 10) (by assumption) (by decide) ⟨_, _, rfl⟩ rfl (by omega) (by omega) (by omega) rfl (Nat.le_of_ble_eq_true rfl) dX10_take_2 ?_
  intro r9 S9 hp9
  obtain ⟨rfl, rfl⟩ := hp9
  rw [hb]
  first | refine a_astore_n K dX10_take_5 (by decide) ?_ | refine a_astore_nN K dX10_take_5 (by decide) ?_
  first | refine a_aload_n K dX10_take_6 rfl ?_ | refine a_aload_nN K dX10_take_6 rfl ?_
  refine a_iload_n K dX10_take_7 rfl ?_
  refine a_invS K (m_X10_isKey) my_X10_isKey ml_X10_235 st_X10_isKey rfl (by omega) (by omega) (by omega) rfl (Nat.le_of_ble_eq_true rfl) dX10_take_8 ?_
  intro r9 S9 hp9
  obtain ⟨rfl, hb9⟩ := hp9
  rcases hb9 with ⟨b_8, rfl⟩ | ⟨b_8, rfl⟩
  · refine a_invS K (m_X10_objection_null) my_X10_objection ml_X10_320 st_X10_objection rfl (by omega) (by omega) (by omega) rfl (Nat.le_of_ble_eq_true rfl) dX10_take_11 ?_
    intro r9 S9 hp9
    obtain ⟨rfl, rfl⟩ := hp9
    refine a_istore K dX10_take_14 (by decide) ?_
    first | refine a_aload_n K dX10_take_16 rfl ?_ | refine a_aload_nN K dX10_take_16 rfl ?_
    refine a_ifnullN K dX10_take_17 (tgt := 26) (by decide) ?_
    first | refine a_aload_n K dX10_take_26 rfl ?_ | refine a_aload_nN K dX10_take_26 rfl ?_
    refine a_iload K dX10_take_27 rfl ?_
    refine a_invV K (w_refused hL0 0 (by decide)) my_X10_refused ml_X10_128 im_X10_refused se_X10_refused (ci := 10) (by assumption) (by decide) ⟨_, _, rfl⟩ rfl (by omega) (by omega) (by omega) rfl (Nat.le_of_ble_eq_true rfl) dX10_take_29 ?_
    intro r9 S9 hp9
    obtain ⟨rfl, hS9⟩ := hp9
    exact a_iret K E rfl (by omega) (by omega) dX10_take_32 ⟨rfl, hS9⟩
  · refine a_invS K (m_X10_objection_null) my_X10_objection ml_X10_320 st_X10_objection rfl (by omega) (by omega) (by omega) rfl (Nat.le_of_ble_eq_true rfl) dX10_take_11 ?_
    intro r9 S9 hp9
    obtain ⟨rfl, rfl⟩ := hp9
    refine a_istore K dX10_take_14 (by decide) ?_
    first | refine a_aload_n K dX10_take_16 rfl ?_ | refine a_aload_nN K dX10_take_16 rfl ?_
    refine a_ifnullN K dX10_take_17 (tgt := 26) (by decide) ?_
    first | refine a_aload_n K dX10_take_26 rfl ?_ | refine a_aload_nN K dX10_take_26 rfl ?_
    refine a_iload K dX10_take_27 rfl ?_
    refine a_invV K (w_refused hL0 0 (by decide)) my_X10_refused ml_X10_128 im_X10_refused se_X10_refused (ci := 10) (by assumption) (by decide) ⟨_, _, rfl⟩ rfl (by omega) (by omega) (by omega) rfl (Nat.le_of_ble_eq_true rfl) dX10_take_29 ?_
    intro r9 S9 hp9
    obtain ⟨rfl, hS9⟩ := hp9
    exact a_iret K E rfl (by omega) (by omega) dX10_take_32 ⟨rfl, hS9⟩
set_option maxHeartbeats 4000000 in
set_option maxRecDepth 100000 in
theorem m_X10_take_bad {S : aw_S} {v : Nat → Nat} {i k : Int32} {b : Nat} (hL : LW S v) (hb : atR (sQ S (v 13)) 4 i = some b) (hx : ¬ ((0 ≤ k.toInt ∧ k.toInt < 1000))) : aw_M yX10_take cX10_take 6 (some FieldType.int) 2 0 0 [.ref (v 4), .int i, .int k] S (fun r S2 => r = some (.int (-1)) ∧ S2 = wA S (v 18) 1 (sA S (v 18) 1 + 1)) := by
  refine aw_enter (by decide +kernel) (Nat.le_of_ble_eq_true rfl) (fun g K E => ?_)
  have hL0 := hL
  have i4 := lw_i4 hL
  have f645 := lw_f645 hL
  have i5 := lw_i5 hL
  first | refine a_aload_n K dX10_take_0 rfl ?_ | refine a_aload_nN K dX10_take_0 rfl ?_
  refine a_iload_n K dX10_take_1 rfl ?_
  refine a_invV K (w_builderAt hL0 _) my_X10_builderAt ml_X10_313 im_X10_builderAt se_X10_builderAt (ci := 10) (by assumption) (by decide) ⟨_, _, rfl⟩ rfl (by omega) (by omega) (by omega) rfl (Nat.le_of_ble_eq_true rfl) dX10_take_2 ?_
  intro r9 S9 hp9
  obtain ⟨rfl, rfl⟩ := hp9
  rw [hb]
  first | refine a_astore_n K dX10_take_5 (by decide) ?_ | refine a_astore_nN K dX10_take_5 (by decide) ?_
  first | refine a_aload_n K dX10_take_6 rfl ?_ | refine a_aload_nN K dX10_take_6 rfl ?_
  refine a_iload_n K dX10_take_7 rfl ?_
  refine a_invS K (m_X10_isKey) my_X10_isKey ml_X10_235 st_X10_isKey rfl (by omega) (by omega) (by omega) rfl (Nat.le_of_ble_eq_true rfl) dX10_take_8 ?_
  intro r9 S9 hp9
  obtain ⟨rfl, hb9⟩ := hp9
  rcases hb9 with ⟨b_8, rfl⟩ | ⟨b_8, rfl⟩
  · exact absurd b_8 hx
  · refine a_invS K (m_X10_objection_bad) my_X10_objection ml_X10_320 st_X10_objection rfl (by omega) (by omega) (by omega) rfl (Nat.le_of_ble_eq_true rfl) dX10_take_11 ?_
    intro r9 S9 hp9
    obtain ⟨rfl, rfl⟩ := hp9
    refine a_istore K dX10_take_14 (by decide) ?_
    first | refine a_aload_n K dX10_take_16 rfl ?_ | refine a_aload_nN K dX10_take_16 rfl ?_
    refine a_ifnull K dX10_take_17 ?_
    refine a_iload K dX10_take_20 rfl ?_
    refine a_iconst K dX10_take_22 (v := -1) (by decide) ?_
    refine a_icmp_eq K dX10_take_23 (tgt := 33) (by decide) (fun c_23 => absurd c_23 (by decide)) (fun c_23 => ?_)
    first | refine a_aload_n K dX10_take_26 rfl ?_ | refine a_aload_nN K dX10_take_26 rfl ?_
    refine a_iload K dX10_take_27 rfl ?_
    refine a_invV K (w_refused hL0 1 (by decide)) my_X10_refused ml_X10_128 im_X10_refused se_X10_refused (ci := 10) (by assumption) (by decide) ⟨_, _, rfl⟩ rfl (by omega) (by omega) (by omega) rfl (Nat.le_of_ble_eq_true rfl) dX10_take_29 ?_
    intro r9 S9 hp9
    obtain ⟨rfl, hS9⟩ := hp9
    exact a_iret K E rfl (by omega) (by omega) dX10_take_32 ⟨rfl, hS9⟩
set_option maxHeartbeats 4000000 in
set_option maxRecDepth 100000 in
theorem m_X10_take_stale {S : aw_S} {v : Nat → Nat} {i k : Int32} {b : Nat} (hL : LW S v) (hb : atR (sQ S (v 13)) 4 i = some b) (ob : aw_is S b 0) (hs : sR S 0 b = none) (hx : (0 ≤ k.toInt ∧ k.toInt < 1000)) : aw_M yX10_take cX10_take 6 (some FieldType.int) 2 0 0 [.ref (v 4), .int i, .int k] S (fun r S2 => r = some (.int (-1)) ∧ S2 = wA S (v 18) 2 (sA S (v 18) 2 + 1)) := by
  refine aw_enter (by decide +kernel) (Nat.le_of_ble_eq_true rfl) (fun g K E => ?_)
  have hL0 := hL
  have i4 := lw_i4 hL
  have f645 := lw_f645 hL
  have i5 := lw_i5 hL
  first | refine a_aload_n K dX10_take_0 rfl ?_ | refine a_aload_nN K dX10_take_0 rfl ?_
  refine a_iload_n K dX10_take_1 rfl ?_
  refine a_invV K (w_builderAt hL0 _) my_X10_builderAt ml_X10_313 im_X10_builderAt se_X10_builderAt (ci := 10) (by assumption) (by decide) ⟨_, _, rfl⟩ rfl (by omega) (by omega) (by omega) rfl (Nat.le_of_ble_eq_true rfl) dX10_take_2 ?_
  intro r9 S9 hp9
  obtain ⟨rfl, rfl⟩ := hp9
  rw [hb]
  first | refine a_astore_n K dX10_take_5 (by decide) ?_ | refine a_astore_nN K dX10_take_5 (by decide) ?_
  first | refine a_aload_n K dX10_take_6 rfl ?_ | refine a_aload_nN K dX10_take_6 rfl ?_
  refine a_iload_n K dX10_take_7 rfl ?_
  refine a_invS K (m_X10_isKey) my_X10_isKey ml_X10_235 st_X10_isKey rfl (by omega) (by omega) (by omega) rfl (Nat.le_of_ble_eq_true rfl) dX10_take_8 ?_
  intro r9 S9 hp9
  obtain ⟨rfl, hb9⟩ := hp9
  rcases hb9 with ⟨b_8, rfl⟩ | ⟨b_8, rfl⟩
  · refine a_invS K (m_X10_objection_stale ob hs) my_X10_objection ml_X10_320 st_X10_objection rfl (by omega) (by omega) (by omega) rfl (Nat.le_of_ble_eq_true rfl) dX10_take_11 ?_
    intro r9 S9 hp9
    obtain ⟨rfl, rfl⟩ := hp9
    refine a_istore K dX10_take_14 (by decide) ?_
    first | refine a_aload_n K dX10_take_16 rfl ?_ | refine a_aload_nN K dX10_take_16 rfl ?_
    refine a_ifnull K dX10_take_17 ?_
    refine a_iload K dX10_take_20 rfl ?_
    refine a_iconst K dX10_take_22 (v := -1) (by decide) ?_
    refine a_icmp_eq K dX10_take_23 (tgt := 33) (by decide) (fun c_23 => absurd c_23 (by decide)) (fun c_23 => ?_)
    first | refine a_aload_n K dX10_take_26 rfl ?_ | refine a_aload_nN K dX10_take_26 rfl ?_
    refine a_iload K dX10_take_27 rfl ?_
    refine a_invV K (w_refused hL0 2 (by decide)) my_X10_refused ml_X10_128 im_X10_refused se_X10_refused (ci := 10) (by assumption) (by decide) ⟨_, _, rfl⟩ rfl (by omega) (by omega) (by omega) rfl (Nat.le_of_ble_eq_true rfl) dX10_take_29 ?_
    intro r9 S9 hp9
    obtain ⟨rfl, hS9⟩ := hp9
    exact a_iret K E rfl (by omega) (by omega) dX10_take_32 ⟨rfl, hS9⟩
  · exact absurd hx b_8
set_option maxHeartbeats 4000000 in
set_option maxRecDepth 100000 in
theorem m_X10_cut_null {S : aw_S} {v : Nat → Nat} {i a b2 : Int32} (hL : LW S v) (hb : atR (sQ S (v 13)) 4 i = none) : aw_M yX10_cut cX10_cut 7 (some FieldType.int) 2 0 0 [.ref (v 4), .int i, .int a, .int b2] S (fun r S2 => r = some (.int (-1)) ∧ S2 = wA S (v 18) 0 (sA S (v 18) 0 + 1)) := by
  refine aw_enter (by decide +kernel) (Nat.le_of_ble_eq_true rfl) (fun g K E => ?_)
  have hL0 := hL
  have i4 := lw_i4 hL
  have f645 := lw_f645 hL
  have i5 := lw_i5 hL
  first | refine a_aload_n K dX10_cut_0 rfl ?_ | refine a_aload_nN K dX10_cut_0 rfl ?_
  refine a_iload_n K dX10_cut_1 rfl ?_
  refine a_invV K (w_builderAt hL0 _) my_X10_builderAt ml_X10_313 im_X10_builderAt se_X10_builderAt (ci := 10) (by assumption) (by decide) ⟨_, _, rfl⟩ rfl (by omega) (by omega) (by omega) rfl (Nat.le_of_ble_eq_true rfl) dX10_cut_2 ?_
  intro r9 S9 hp9
  obtain ⟨rfl, rfl⟩ := hp9
  rw [hb]
  first | refine a_astore K dX10_cut_5 (by decide) ?_ | refine a_astoreN K dX10_cut_5 (by decide) ?_
  first | refine a_aload K dX10_cut_7 rfl ?_ | refine a_aloadN K dX10_cut_7 rfl ?_
  refine a_iload_n K dX10_cut_9 rfl ?_
  refine a_iload_n K dX10_cut_10 rfl ?_
  refine a_invS K (m_X10_isRange) my_X10_isRange ml_X10_304 st_X10_isRange rfl (by omega) (by omega) (by omega) rfl (Nat.le_of_ble_eq_true rfl) dX10_cut_11 ?_
  intro r9 S9 hp9
  obtain ⟨rfl, hb9⟩ := hp9
  rcases hb9 with ⟨b_11, rfl⟩ | ⟨b_11, rfl⟩
  · refine a_invS K (m_X10_objection_null) my_X10_objection ml_X10_320 st_X10_objection rfl (by omega) (by omega) (by omega) rfl (Nat.le_of_ble_eq_true rfl) dX10_cut_14 ?_
    intro r9 S9 hp9
    obtain ⟨rfl, rfl⟩ := hp9
    refine a_istore K dX10_cut_17 (by decide) ?_
    first | refine a_aload K dX10_cut_19 rfl ?_ | refine a_aloadN K dX10_cut_19 rfl ?_
    refine a_ifnullN K dX10_cut_21 (tgt := 30) (by decide) ?_
    first | refine a_aload_n K dX10_cut_30 rfl ?_ | refine a_aload_nN K dX10_cut_30 rfl ?_
    refine a_iload K dX10_cut_31 rfl ?_
    refine a_invV K (w_refused hL0 0 (by decide)) my_X10_refused ml_X10_128 im_X10_refused se_X10_refused (ci := 10) (by assumption) (by decide) ⟨_, _, rfl⟩ rfl (by omega) (by omega) (by omega) rfl (Nat.le_of_ble_eq_true rfl) dX10_cut_33 ?_
    intro r9 S9 hp9
    obtain ⟨rfl, hS9⟩ := hp9
    exact a_iret K E rfl (by omega) (by omega) dX10_cut_36 ⟨rfl, hS9⟩
  · refine a_invS K (m_X10_objection_null) my_X10_objection ml_X10_320 st_X10_objection rfl (by omega) (by omega) (by omega) rfl (Nat.le_of_ble_eq_true rfl) dX10_cut_14 ?_
    intro r9 S9 hp9
    obtain ⟨rfl, rfl⟩ := hp9
    refine a_istore K dX10_cut_17 (by decide) ?_
    first | refine a_aload K dX10_cut_19 rfl ?_ | refine a_aloadN K dX10_cut_19 rfl ?_
    refine a_ifnullN K dX10_cut_21 (tgt := 30) (by decide) ?_
    first | refine a_aload_n K dX10_cut_30 rfl ?_ | refine a_aload_nN K dX10_cut_30 rfl ?_
    refine a_iload K dX10_cut_31 rfl ?_
    refine a_invV K (w_refused hL0 0 (by decide)) my_X10_refused ml_X10_128 im_X10_refused se_X10_refused (ci := 10) (by assumption) (by decide) ⟨_, _, rfl⟩ rfl (by omega) (by omega) (by omega) rfl (Nat.le_of_ble_eq_true rfl) dX10_cut_33 ?_
    intro r9 S9 hp9
    obtain ⟨rfl, hS9⟩ := hp9
    exact a_iret K E rfl (by omega) (by omega) dX10_cut_36 ⟨rfl, hS9⟩
set_option maxHeartbeats 4000000 in
set_option maxRecDepth 100000 in
theorem m_X10_cut_bad {S : aw_S} {v : Nat → Nat} {i a b2 : Int32} {b : Nat} (hL : LW S v) (hb : atR (sQ S (v 13)) 4 i = some b) (hx : ¬ ((0 ≤ a.toInt ∧ a.toInt < 1000) ∧ (0 ≤ b2.toInt ∧ b2.toInt < 1000) ∧ a.toInt ≤ b2.toInt)) : aw_M yX10_cut cX10_cut 7 (some FieldType.int) 2 0 0 [.ref (v 4), .int i, .int a, .int b2] S (fun r S2 => r = some (.int (-1)) ∧ S2 = wA S (v 18) 1 (sA S (v 18) 1 + 1)) := by
  refine aw_enter (by decide +kernel) (Nat.le_of_ble_eq_true rfl) (fun g K E => ?_)
  have hL0 := hL
  have i4 := lw_i4 hL
  have f645 := lw_f645 hL
  have i5 := lw_i5 hL
  first | refine a_aload_n K dX10_cut_0 rfl ?_ | refine a_aload_nN K dX10_cut_0 rfl ?_
  refine a_iload_n K dX10_cut_1 rfl ?_
  refine a_invV K (w_builderAt hL0 _) my_X10_builderAt ml_X10_313 im_X10_builderAt se_X10_builderAt (ci := 10) (by assumption) (by decide) ⟨_, _, rfl⟩ rfl (by omega) (by omega) (by omega) rfl (Nat.le_of_ble_eq_true rfl) dX10_cut_2 ?_
  intro r9 S9 hp9
  obtain ⟨rfl, rfl⟩ := hp9
  rw [hb]
  first | refine a_astore K dX10_cut_5 (by decide) ?_ | refine a_astoreN K dX10_cut_5 (by decide) ?_
  first | refine a_aload K dX10_cut_7 rfl ?_ | refine a_aloadN K dX10_cut_7 rfl ?_
  refine a_iload_n K dX10_cut_9 rfl ?_
  refine a_iload_n K dX10_cut_10 rfl ?_
  refine a_invS K (m_X10_isRange) my_X10_isRange ml_X10_304 st_X10_isRange rfl (by omega) (by omega) (by omega) rfl (Nat.le_of_ble_eq_true rfl) dX10_cut_11 ?_
  intro r9 S9 hp9
  obtain ⟨rfl, hb9⟩ := hp9
  rcases hb9 with ⟨b_11, rfl⟩ | ⟨b_11, rfl⟩
  · exact absurd b_11 hx
  · refine a_invS K (m_X10_objection_bad) my_X10_objection ml_X10_320 st_X10_objection rfl (by omega) (by omega) (by omega) rfl (Nat.le_of_ble_eq_true rfl) dX10_cut_14 ?_
    intro r9 S9 hp9
    obtain ⟨rfl, rfl⟩ := hp9
    refine a_istore K dX10_cut_17 (by decide) ?_
    first | refine a_aload K dX10_cut_19 rfl ?_ | refine a_aloadN K dX10_cut_19 rfl ?_
    refine a_ifnull K dX10_cut_21 ?_
    refine a_iload K dX10_cut_24 rfl ?_
    refine a_iconst K dX10_cut_26 (v := -1) (by decide) ?_
    refine a_icmp_eq K dX10_cut_27 (tgt := 37) (by decide) (fun c_27 => absurd c_27 (by decide)) (fun c_27 => ?_)
    first | refine a_aload_n K dX10_cut_30 rfl ?_ | refine a_aload_nN K dX10_cut_30 rfl ?_
    refine a_iload K dX10_cut_31 rfl ?_
    refine a_invV K (w_refused hL0 1 (by decide)) my_X10_refused ml_X10_128 im_X10_refused se_X10_refused (ci := 10) (by assumption) (by decide) ⟨_, _, rfl⟩ rfl (by omega) (by omega) (by omega) rfl (Nat.le_of_ble_eq_true rfl) dX10_cut_33 ?_
    intro r9 S9 hp9
    obtain ⟨rfl, hS9⟩ := hp9
    exact a_iret K E rfl (by omega) (by omega) dX10_cut_36 ⟨rfl, hS9⟩
set_option maxHeartbeats 4000000 in
set_option maxRecDepth 100000 in
theorem m_X10_cut_stale {S : aw_S} {v : Nat → Nat} {i a b2 : Int32} {b : Nat} (hL : LW S v) (hb : atR (sQ S (v 13)) 4 i = some b) (ob : aw_is S b 0) (hs : sR S 0 b = none) (hx : (0 ≤ a.toInt ∧ a.toInt < 1000) ∧ (0 ≤ b2.toInt ∧ b2.toInt < 1000) ∧ a.toInt ≤ b2.toInt) : aw_M yX10_cut cX10_cut 7 (some FieldType.int) 2 0 0 [.ref (v 4), .int i, .int a, .int b2] S (fun r S2 => r = some (.int (-1)) ∧ S2 = wA S (v 18) 2 (sA S (v 18) 2 + 1)) := by
  refine aw_enter (by decide +kernel) (Nat.le_of_ble_eq_true rfl) (fun g K E => ?_)
  have hL0 := hL
  have i4 := lw_i4 hL
  have f645 := lw_f645 hL
  have i5 := lw_i5 hL
  first | refine a_aload_n K dX10_cut_0 rfl ?_ | refine a_aload_nN K dX10_cut_0 rfl ?_
  refine a_iload_n K dX10_cut_1 rfl ?_
  refine a_invV K (w_builderAt hL0 _) my_X10_builderAt ml_X10_313 im_X10_builderAt se_X10_builderAt (ci := 10) (by assumption) (by decide) ⟨_, _, rfl⟩ rfl (by omega) (by omega) (by omega) rfl (Nat.le_of_ble_eq_true rfl) dX10_cut_2 ?_
  intro r9 S9 hp9
  obtain ⟨rfl, rfl⟩ := hp9
  rw [hb]
  first | refine a_astore K dX10_cut_5 (by decide) ?_ | refine a_astoreN K dX10_cut_5 (by decide) ?_
  first | refine a_aload K dX10_cut_7 rfl ?_ | refine a_aloadN K dX10_cut_7 rfl ?_
  refine a_iload_n K dX10_cut_9 rfl ?_
  refine a_iload_n K dX10_cut_10 rfl ?_
  refine a_invS K (m_X10_isRange) my_X10_isRange ml_X10_304 st_X10_isRange rfl (by omega) (by omega) (by omega) rfl (Nat.le_of_ble_eq_true rfl) dX10_cut_11 ?_
  intro r9 S9 hp9
  obtain ⟨rfl, hb9⟩ := hp9
  rcases hb9 with ⟨b_11, rfl⟩ | ⟨b_11, rfl⟩
  · refine a_invS K (m_X10_objection_stale ob hs) my_X10_objection ml_X10_320 st_X10_objection rfl (by omega) (by omega) (by omega) rfl (Nat.le_of_ble_eq_true rfl) dX10_cut_14 ?_
    intro r9 S9 hp9
    obtain ⟨rfl, rfl⟩ := hp9
    refine a_istore K dX10_cut_17 (by decide) ?_
    first | refine a_aload K dX10_cut_19 rfl ?_ | refine a_aloadN K dX10_cut_19 rfl ?_
    refine a_ifnull K dX10_cut_21 ?_
    refine a_iload K dX10_cut_24 rfl ?_
    refine a_iconst K dX10_cut_26 (v := -1) (by decide) ?_
    refine a_icmp_eq K dX10_cut_27 (tgt := 37) (by decide) (fun c_27 => absurd c_27 (by decide)) (fun c_27 => ?_)
    first | refine a_aload_n K dX10_cut_30 rfl ?_ | refine a_aload_nN K dX10_cut_30 rfl ?_
    refine a_iload K dX10_cut_31 rfl ?_
    refine a_invV K (w_refused hL0 2 (by decide)) my_X10_refused ml_X10_128 im_X10_refused se_X10_refused (ci := 10) (by assumption) (by decide) ⟨_, _, rfl⟩ rfl (by omega) (by omega) (by omega) rfl (Nat.le_of_ble_eq_true rfl) dX10_cut_33 ?_
    intro r9 S9 hp9
    obtain ⟨rfl, hS9⟩ := hp9
    exact a_iret K E rfl (by omega) (by omega) dX10_cut_36 ⟨rfl, hS9⟩
  · exact absurd hx b_11
set_option maxHeartbeats 4000000 in
set_option maxRecDepth 100000 in
theorem m_X10_inc_null {S : aw_S} {v : Nat → Nat} {i a b2 w : Int32} (hL : LW S v) (hb : atR (sQ S (v 13)) 4 i = none) : aw_M yX10_inc cX10_inc 8 (some FieldType.int) 2 0 0 [.ref (v 4), .int i, .int a, .int b2, .int w] S (fun r S2 => r = some (.int (-1)) ∧ S2 = wA S (v 18) 0 (sA S (v 18) 0 + 1)) := by
  refine aw_enter (by decide +kernel) (Nat.le_of_ble_eq_true rfl) (fun g K E => ?_)
  have hL0 := hL
  have i4 := lw_i4 hL
  have f645 := lw_f645 hL
  have i5 := lw_i5 hL
  first | refine a_aload_n K dX10_inc_0 rfl ?_ | refine a_aload_nN K dX10_inc_0 rfl ?_
  refine a_iload_n K dX10_inc_1 rfl ?_
  refine a_invV K (w_builderAt hL0 _) my_X10_builderAt ml_X10_313 im_X10_builderAt se_X10_builderAt (ci := 10) (by assumption) (by decide) ⟨_, _, rfl⟩ rfl (by omega) (by omega) (by omega) rfl (Nat.le_of_ble_eq_true rfl) dX10_inc_2 ?_
  intro r9 S9 hp9
  obtain ⟨rfl, rfl⟩ := hp9
  rw [hb]
  first | refine a_astore K dX10_inc_5 (by decide) ?_ | refine a_astoreN K dX10_inc_5 (by decide) ?_
  first | refine a_aload K dX10_inc_7 rfl ?_ | refine a_aloadN K dX10_inc_7 rfl ?_
  refine a_iload_n K dX10_inc_9 rfl ?_
  refine a_iload_n K dX10_inc_10 rfl ?_
  refine a_invS K (m_X10_isRange) my_X10_isRange ml_X10_304 st_X10_isRange rfl (by omega) (by omega) (by omega) rfl (Nat.le_of_ble_eq_true rfl) dX10_inc_11 ?_
  intro r9 S9 hp9
  obtain ⟨rfl, hb9⟩ := hp9
  rcases hb9 with ⟨b_11, rfl⟩ | ⟨b_11, rfl⟩
  · refine a_if_eq K dX10_inc_14 (tgt := 29) (by decide) (fun z => absurd z (by decide)) (fun _ => ?_)
    refine a_iload K dX10_inc_17 rfl ?_
    refine a_invS K (m_X10_isValue) my_X10_isValue ml_X10_238 st_X10_isValue rfl (by omega) (by omega) (by omega) rfl (Nat.le_of_ble_eq_true rfl) dX10_inc_19 ?_
    intro r9 S9 hp9
    obtain ⟨rfl, hb9⟩ := hp9
    rcases hb9 with ⟨b_19, rfl⟩ | ⟨b_19, rfl⟩
    · refine a_if_eq K dX10_inc_22 (tgt := 29) (by decide) (fun z => absurd z (by decide)) (fun _ => ?_)
      refine a_iconst K dX10_inc_25 (v := 1) (by decide) ?_
      refine a_goto K dX10_inc_26 (tgt := 30) (by decide) ?_
      refine a_invS K (m_X10_objection_null) my_X10_objection ml_X10_320 st_X10_objection rfl (by omega) (by omega) (by omega) rfl (Nat.le_of_ble_eq_true rfl) dX10_inc_30 ?_
      intro r9 S9 hp9
      obtain ⟨rfl, rfl⟩ := hp9
      refine a_istore K dX10_inc_33 (by decide) ?_
      first | refine a_aload K dX10_inc_35 rfl ?_ | refine a_aloadN K dX10_inc_35 rfl ?_
      refine a_ifnullN K dX10_inc_37 (tgt := 46) (by decide) ?_
      first | refine a_aload_n K dX10_inc_46 rfl ?_ | refine a_aload_nN K dX10_inc_46 rfl ?_
      refine a_iload K dX10_inc_47 rfl ?_
      refine a_invV K (w_refused hL0 0 (by decide)) my_X10_refused ml_X10_128 im_X10_refused se_X10_refused (ci := 10) (by assumption) (by decide) ⟨_, _, rfl⟩ rfl (by omega) (by omega) (by omega) rfl (Nat.le_of_ble_eq_true rfl) dX10_inc_49 ?_
      intro r9 S9 hp9
      obtain ⟨rfl, hS9⟩ := hp9
      exact a_iret K E rfl (by omega) (by omega) dX10_inc_52 ⟨rfl, hS9⟩
    · refine a_if_eq K dX10_inc_22 (tgt := 29) (by decide) (fun _ => ?_) (fun z => absurd z (by decide))
      refine a_iconst K dX10_inc_29 (v := 0) (by decide) ?_
      refine a_invS K (m_X10_objection_null) my_X10_objection ml_X10_320 st_X10_objection rfl (by omega) (by omega) (by omega) rfl (Nat.le_of_ble_eq_true rfl) dX10_inc_30 ?_
      intro r9 S9 hp9
      obtain ⟨rfl, rfl⟩ := hp9
      refine a_istore K dX10_inc_33 (by decide) ?_
      first | refine a_aload K dX10_inc_35 rfl ?_ | refine a_aloadN K dX10_inc_35 rfl ?_
      refine a_ifnullN K dX10_inc_37 (tgt := 46) (by decide) ?_
      first | refine a_aload_n K dX10_inc_46 rfl ?_ | refine a_aload_nN K dX10_inc_46 rfl ?_
      refine a_iload K dX10_inc_47 rfl ?_
      refine a_invV K (w_refused hL0 0 (by decide)) my_X10_refused ml_X10_128 im_X10_refused se_X10_refused (ci := 10) (by assumption) (by decide) ⟨_, _, rfl⟩ rfl (by omega) (by omega) (by omega) rfl (Nat.le_of_ble_eq_true rfl) dX10_inc_49 ?_
      intro r9 S9 hp9
      obtain ⟨rfl, hS9⟩ := hp9
      exact a_iret K E rfl (by omega) (by omega) dX10_inc_52 ⟨rfl, hS9⟩
  · refine a_if_eq K dX10_inc_14 (tgt := 29) (by decide) (fun _ => ?_) (fun z => absurd z (by decide))
    refine a_iconst K dX10_inc_29 (v := 0) (by decide) ?_
    refine a_invS K (m_X10_objection_null) my_X10_objection ml_X10_320 st_X10_objection rfl (by omega) (by omega) (by omega) rfl (Nat.le_of_ble_eq_true rfl) dX10_inc_30 ?_
    intro r9 S9 hp9
    obtain ⟨rfl, rfl⟩ := hp9
    refine a_istore K dX10_inc_33 (by decide) ?_
    first | refine a_aload K dX10_inc_35 rfl ?_ | refine a_aloadN K dX10_inc_35 rfl ?_
    refine a_ifnullN K dX10_inc_37 (tgt := 46) (by decide) ?_
    first | refine a_aload_n K dX10_inc_46 rfl ?_ | refine a_aload_nN K dX10_inc_46 rfl ?_
    refine a_iload K dX10_inc_47 rfl ?_
    refine a_invV K (w_refused hL0 0 (by decide)) my_X10_refused ml_X10_128 im_X10_refused se_X10_refused (ci := 10) (by assumption) (by decide) ⟨_, _, rfl⟩ rfl (by omega) (by omega) (by omega) rfl (Nat.le_of_ble_eq_true rfl) dX10_inc_49 ?_
    intro r9 S9 hp9
    obtain ⟨rfl, hS9⟩ := hp9
    exact a_iret K E rfl (by omega) (by omega) dX10_inc_52 ⟨rfl, hS9⟩
set_option maxHeartbeats 4000000 in
set_option maxRecDepth 100000 in
theorem m_X10_inc_bad {S : aw_S} {v : Nat → Nat} {i a b2 w : Int32} {b : Nat} (hL : LW S v) (hb : atR (sQ S (v 13)) 4 i = some b) (hx : ¬ (((0 ≤ a.toInt ∧ a.toInt < 1000) ∧ (0 ≤ b2.toInt ∧ b2.toInt < 1000) ∧ a.toInt ≤ b2.toInt) ∧ (-999 ≤ w.toInt ∧ w.toInt ≤ 999))) : aw_M yX10_inc cX10_inc 8 (some FieldType.int) 2 0 0 [.ref (v 4), .int i, .int a, .int b2, .int w] S (fun r S2 => r = some (.int (-1)) ∧ S2 = wA S (v 18) 1 (sA S (v 18) 1 + 1)) := by
  refine aw_enter (by decide +kernel) (Nat.le_of_ble_eq_true rfl) (fun g K E => ?_)
  have hL0 := hL
  have i4 := lw_i4 hL
  have f645 := lw_f645 hL
  have i5 := lw_i5 hL
  first | refine a_aload_n K dX10_inc_0 rfl ?_ | refine a_aload_nN K dX10_inc_0 rfl ?_
  refine a_iload_n K dX10_inc_1 rfl ?_
  refine a_invV K (w_builderAt hL0 _) my_X10_builderAt ml_X10_313 im_X10_builderAt se_X10_builderAt (ci := 10) (by assumption) (by decide) ⟨_, _, rfl⟩ rfl (by omega) (by omega) (by omega) rfl (Nat.le_of_ble_eq_true rfl) dX10_inc_2 ?_
  intro r9 S9 hp9
  obtain ⟨rfl, rfl⟩ := hp9
  rw [hb]
  first | refine a_astore K dX10_inc_5 (by decide) ?_ | refine a_astoreN K dX10_inc_5 (by decide) ?_
  first | refine a_aload K dX10_inc_7 rfl ?_ | refine a_aloadN K dX10_inc_7 rfl ?_
  refine a_iload_n K dX10_inc_9 rfl ?_
  refine a_iload_n K dX10_inc_10 rfl ?_
  refine a_invS K (m_X10_isRange) my_X10_isRange ml_X10_304 st_X10_isRange rfl (by omega) (by omega) (by omega) rfl (Nat.le_of_ble_eq_true rfl) dX10_inc_11 ?_
  intro r9 S9 hp9
  obtain ⟨rfl, hb9⟩ := hp9
  rcases hb9 with ⟨b_11, rfl⟩ | ⟨b_11, rfl⟩
  · refine a_if_eq K dX10_inc_14 (tgt := 29) (by decide) (fun z => absurd z (by decide)) (fun _ => ?_)
    refine a_iload K dX10_inc_17 rfl ?_
    refine a_invS K (m_X10_isValue) my_X10_isValue ml_X10_238 st_X10_isValue rfl (by omega) (by omega) (by omega) rfl (Nat.le_of_ble_eq_true rfl) dX10_inc_19 ?_
    intro r9 S9 hp9
    obtain ⟨rfl, hb9⟩ := hp9
    rcases hb9 with ⟨b_19, rfl⟩ | ⟨b_19, rfl⟩
    · refine a_if_eq K dX10_inc_22 (tgt := 29) (by decide) (fun z => absurd z (by decide)) (fun _ => ?_)
      exact absurd ⟨b_11, b_19⟩ hx
    · refine a_if_eq K dX10_inc_22 (tgt := 29) (by decide) (fun _ => ?_) (fun z => absurd z (by decide))
      refine a_iconst K dX10_inc_29 (v := 0) (by decide) ?_
      refine a_invS K (m_X10_objection_bad) my_X10_objection ml_X10_320 st_X10_objection rfl (by omega) (by omega) (by omega) rfl (Nat.le_of_ble_eq_true rfl) dX10_inc_30 ?_
      intro r9 S9 hp9
      obtain ⟨rfl, rfl⟩ := hp9
      refine a_istore K dX10_inc_33 (by decide) ?_
      first | refine a_aload K dX10_inc_35 rfl ?_ | refine a_aloadN K dX10_inc_35 rfl ?_
      refine a_ifnull K dX10_inc_37 ?_
      refine a_iload K dX10_inc_40 rfl ?_
      refine a_iconst K dX10_inc_42 (v := -1) (by decide) ?_
      refine a_icmp_eq K dX10_inc_43 (tgt := 53) (by decide) (fun c_43 => absurd c_43 (by decide)) (fun c_43 => ?_)
      first | refine a_aload_n K dX10_inc_46 rfl ?_ | refine a_aload_nN K dX10_inc_46 rfl ?_
      refine a_iload K dX10_inc_47 rfl ?_
      refine a_invV K (w_refused hL0 1 (by decide)) my_X10_refused ml_X10_128 im_X10_refused se_X10_refused (ci := 10) (by assumption) (by decide) ⟨_, _, rfl⟩ rfl (by omega) (by omega) (by omega) rfl (Nat.le_of_ble_eq_true rfl) dX10_inc_49 ?_
      intro r9 S9 hp9
      obtain ⟨rfl, hS9⟩ := hp9
      exact a_iret K E rfl (by omega) (by omega) dX10_inc_52 ⟨rfl, hS9⟩
  · refine a_if_eq K dX10_inc_14 (tgt := 29) (by decide) (fun _ => ?_) (fun z => absurd z (by decide))
    refine a_iconst K dX10_inc_29 (v := 0) (by decide) ?_
    refine a_invS K (m_X10_objection_bad) my_X10_objection ml_X10_320 st_X10_objection rfl (by omega) (by omega) (by omega) rfl (Nat.le_of_ble_eq_true rfl) dX10_inc_30 ?_
    intro r9 S9 hp9
    obtain ⟨rfl, rfl⟩ := hp9
    refine a_istore K dX10_inc_33 (by decide) ?_
    first | refine a_aload K dX10_inc_35 rfl ?_ | refine a_aloadN K dX10_inc_35 rfl ?_
    refine a_ifnull K dX10_inc_37 ?_
    refine a_iload K dX10_inc_40 rfl ?_
    refine a_iconst K dX10_inc_42 (v := -1) (by decide) ?_
    refine a_icmp_eq K dX10_inc_43 (tgt := 53) (by decide) (fun c_43 => absurd c_43 (by decide)) (fun c_43 => ?_)
    first | refine a_aload_n K dX10_inc_46 rfl ?_ | refine a_aload_nN K dX10_inc_46 rfl ?_
    refine a_iload K dX10_inc_47 rfl ?_
    refine a_invV K (w_refused hL0 1 (by decide)) my_X10_refused ml_X10_128 im_X10_refused se_X10_refused (ci := 10) (by assumption) (by decide) ⟨_, _, rfl⟩ rfl (by omega) (by omega) (by omega) rfl (Nat.le_of_ble_eq_true rfl) dX10_inc_49 ?_
    intro r9 S9 hp9
    obtain ⟨rfl, hS9⟩ := hp9
    exact a_iret K E rfl (by omega) (by omega) dX10_inc_52 ⟨rfl, hS9⟩
set_option maxHeartbeats 4000000 in
set_option maxRecDepth 100000 in
theorem m_X10_inc_stale {S : aw_S} {v : Nat → Nat} {i a b2 w : Int32} {b : Nat} (hL : LW S v) (hb : atR (sQ S (v 13)) 4 i = some b) (ob : aw_is S b 0) (hs : sR S 0 b = none) (hx : ((0 ≤ a.toInt ∧ a.toInt < 1000) ∧ (0 ≤ b2.toInt ∧ b2.toInt < 1000) ∧ a.toInt ≤ b2.toInt) ∧ (-999 ≤ w.toInt ∧ w.toInt ≤ 999)) : aw_M yX10_inc cX10_inc 8 (some FieldType.int) 2 0 0 [.ref (v 4), .int i, .int a, .int b2, .int w] S (fun r S2 => r = some (.int (-1)) ∧ S2 = wA S (v 18) 2 (sA S (v 18) 2 + 1)) := by
  refine aw_enter (by decide +kernel) (Nat.le_of_ble_eq_true rfl) (fun g K E => ?_)
  have hL0 := hL
  have i4 := lw_i4 hL
  have f645 := lw_f645 hL
  have i5 := lw_i5 hL
  first | refine a_aload_n K dX10_inc_0 rfl ?_ | refine a_aload_nN K dX10_inc_0 rfl ?_
  refine a_iload_n K dX10_inc_1 rfl ?_
  refine a_invV K (w_builderAt hL0 _) my_X10_builderAt ml_X10_313 im_X10_builderAt se_X10_builderAt (ci := 10) (by assumption) (by decide) ⟨_, _, rfl⟩ rfl (by omega) (by omega) (by omega) rfl (Nat.le_of_ble_eq_true rfl) dX10_inc_2 ?_
  intro r9 S9 hp9
  obtain ⟨rfl, rfl⟩ := hp9
  rw [hb]
  first | refine a_astore K dX10_inc_5 (by decide) ?_ | refine a_astoreN K dX10_inc_5 (by decide) ?_
  first | refine a_aload K dX10_inc_7 rfl ?_ | refine a_aloadN K dX10_inc_7 rfl ?_
  refine a_iload_n K dX10_inc_9 rfl ?_
  refine a_iload_n K dX10_inc_10 rfl ?_
  refine a_invS K (m_X10_isRange) my_X10_isRange ml_X10_304 st_X10_isRange rfl (by omega) (by omega) (by omega) rfl (Nat.le_of_ble_eq_true rfl) dX10_inc_11 ?_
  intro r9 S9 hp9
  obtain ⟨rfl, hb9⟩ := hp9
  rcases hb9 with ⟨b_11, rfl⟩ | ⟨b_11, rfl⟩
  · refine a_if_eq K dX10_inc_14 (tgt := 29) (by decide) (fun z => absurd z (by decide)) (fun _ => ?_)
    refine a_iload K dX10_inc_17 rfl ?_
    refine a_invS K (m_X10_isValue) my_X10_isValue ml_X10_238 st_X10_isValue rfl (by omega) (by omega) (by omega) rfl (Nat.le_of_ble_eq_true rfl) dX10_inc_19 ?_
    intro r9 S9 hp9
    obtain ⟨rfl, hb9⟩ := hp9
    rcases hb9 with ⟨b_19, rfl⟩ | ⟨b_19, rfl⟩
    · refine a_if_eq K dX10_inc_22 (tgt := 29) (by decide) (fun z => absurd z (by decide)) (fun _ => ?_)
      refine a_iconst K dX10_inc_25 (v := 1) (by decide) ?_
      refine a_goto K dX10_inc_26 (tgt := 30) (by decide) ?_
      refine a_invS K (m_X10_objection_stale ob hs) my_X10_objection ml_X10_320 st_X10_objection rfl (by omega) (by omega) (by omega) rfl (Nat.le_of_ble_eq_true rfl) dX10_inc_30 ?_
      intro r9 S9 hp9
      obtain ⟨rfl, rfl⟩ := hp9
      refine a_istore K dX10_inc_33 (by decide) ?_
      first | refine a_aload K dX10_inc_35 rfl ?_ | refine a_aloadN K dX10_inc_35 rfl ?_
      refine a_ifnull K dX10_inc_37 ?_
      refine a_iload K dX10_inc_40 rfl ?_
      refine a_iconst K dX10_inc_42 (v := -1) (by decide) ?_
      refine a_icmp_eq K dX10_inc_43 (tgt := 53) (by decide) (fun c_43 => absurd c_43 (by decide)) (fun c_43 => ?_)
      first | refine a_aload_n K dX10_inc_46 rfl ?_ | refine a_aload_nN K dX10_inc_46 rfl ?_
      refine a_iload K dX10_inc_47 rfl ?_
      refine a_invV K (w_refused hL0 2 (by decide)) my_X10_refused ml_X10_128 im_X10_refused se_X10_refused (ci := 10) (by assumption) (by decide) ⟨_, _, rfl⟩ rfl (by omega) (by omega) (by omega) rfl (Nat.le_of_ble_eq_true rfl) dX10_inc_49 ?_
      intro r9 S9 hp9
      obtain ⟨rfl, hS9⟩ := hp9
      exact a_iret K E rfl (by omega) (by omega) dX10_inc_52 ⟨rfl, hS9⟩
    · refine a_if_eq K dX10_inc_22 (tgt := 29) (by decide) (fun _ => ?_) (fun z => absurd z (by decide))
      first | exact absurd hx.1 b_11 | exact absurd hx.2 b_19
  · refine a_if_eq K dX10_inc_14 (tgt := 29) (by decide) (fun _ => ?_) (fun z => absurd z (by decide))
    first | exact absurd hx.1 b_11 | exact absurd hx.2 b_19
set_option maxHeartbeats 4000000 in
set_option maxRecDepth 100000 in
theorem m_X10_draws_null {S : aw_S} {v : Nat → Nat} {i n : Int32} {w : Int64} (hL : LW S v) (hb : atR (sQ S (v 13)) 4 i = none) : aw_M yX10_draws cX10_draws 14 (some FieldType.int) 2 0 0 [.ref (v 4), .int i, .int n, .long w] S (fun r S2 => r = some (.int (-1)) ∧ S2 = wA S (v 18) 0 (sA S (v 18) 0 + 1)) := by
  refine aw_enter (by decide +kernel) (Nat.le_of_ble_eq_true rfl) (fun g K E => ?_)
  have hL0 := hL
  have i4 := lw_i4 hL
  have f645 := lw_f645 hL
  have i5 := lw_i5 hL
  first | refine a_aload_n K dX10_draws_0 rfl ?_ | refine a_aload_nN K dX10_draws_0 rfl ?_
  refine a_iload_n K dX10_draws_1 rfl ?_
  refine a_invV K (w_builderAt hL0 _) my_X10_builderAt ml_X10_313 im_X10_builderAt se_X10_builderAt (ci := 10) (by assumption) (by decide) ⟨_, _, rfl⟩ rfl (by omega) (by omega) (by omega) rfl (Nat.le_of_ble_eq_true rfl) dX10_draws_2 ?_
  intro r9 S9 hp9
  obtain ⟨rfl, rfl⟩ := hp9
  rw [hb]
  first | refine a_astore K dX10_draws_5 (by decide) ?_ | refine a_astoreN K dX10_draws_5 (by decide) ?_
  first | refine a_aload K dX10_draws_7 rfl ?_ | refine a_aloadN K dX10_draws_7 rfl ?_
  refine a_iload_n K dX10_draws_9 rfl ?_
  refine a_iconst K dX10_draws_10 (v := 1) (by decide) ?_
  refine a_icmp_lt K dX10_draws_11 (tgt := 24) (by decide) (fun c_11 => ?_) (fun c_11 => ?_)
  · refine a_iconst K dX10_draws_24 (v := 0) (by decide) ?_
    refine a_invS K (m_X10_objection_null) my_X10_objection ml_X10_320 st_X10_objection rfl (by omega) (by omega) (by omega) rfl (Nat.le_of_ble_eq_true rfl) dX10_draws_25 ?_
    intro r9 S9 hp9
    obtain ⟨rfl, rfl⟩ := hp9
    refine a_istore K dX10_draws_28 (by decide) ?_
    first | refine a_aload K dX10_draws_30 rfl ?_ | refine a_aloadN K dX10_draws_30 rfl ?_
    refine a_ifnullN K dX10_draws_32 (tgt := 41) (by decide) ?_
    first | refine a_aload_n K dX10_draws_41 rfl ?_ | refine a_aload_nN K dX10_draws_41 rfl ?_
    refine a_iload K dX10_draws_42 rfl ?_
    refine a_invV K (w_refused hL0 0 (by decide)) my_X10_refused ml_X10_128 im_X10_refused se_X10_refused (ci := 10) (by assumption) (by decide) ⟨_, _, rfl⟩ rfl (by omega) (by omega) (by omega) rfl (Nat.le_of_ble_eq_true rfl) dX10_draws_44 ?_
    intro r9 S9 hp9
    obtain ⟨rfl, hS9⟩ := hp9
    exact a_iret K E rfl (by omega) (by omega) dX10_draws_47 ⟨rfl, hS9⟩
  · refine a_iload_n K dX10_draws_14 rfl ?_
    refine a_bipush K dX10_draws_15 (v := 30) (by decide) ?_
    refine a_icmp_gt K dX10_draws_17 (tgt := 24) (by decide) (fun c_17 => ?_) (fun c_17 => ?_)
    · refine a_iconst K dX10_draws_24 (v := 0) (by decide) ?_
      refine a_invS K (m_X10_objection_null) my_X10_objection ml_X10_320 st_X10_objection rfl (by omega) (by omega) (by omega) rfl (Nat.le_of_ble_eq_true rfl) dX10_draws_25 ?_
      intro r9 S9 hp9
      obtain ⟨rfl, rfl⟩ := hp9
      refine a_istore K dX10_draws_28 (by decide) ?_
      first | refine a_aload K dX10_draws_30 rfl ?_ | refine a_aloadN K dX10_draws_30 rfl ?_
      refine a_ifnullN K dX10_draws_32 (tgt := 41) (by decide) ?_
      first | refine a_aload_n K dX10_draws_41 rfl ?_ | refine a_aload_nN K dX10_draws_41 rfl ?_
      refine a_iload K dX10_draws_42 rfl ?_
      refine a_invV K (w_refused hL0 0 (by decide)) my_X10_refused ml_X10_128 im_X10_refused se_X10_refused (ci := 10) (by assumption) (by decide) ⟨_, _, rfl⟩ rfl (by omega) (by omega) (by omega) rfl (Nat.le_of_ble_eq_true rfl) dX10_draws_44 ?_
      intro r9 S9 hp9
      obtain ⟨rfl, hS9⟩ := hp9
      exact a_iret K E rfl (by omega) (by omega) dX10_draws_47 ⟨rfl, hS9⟩
    · refine a_iconst K dX10_draws_20 (v := 1) (by decide) ?_
      refine a_goto K dX10_draws_21 (tgt := 25) (by decide) ?_
      refine a_invS K (m_X10_objection_null) my_X10_objection ml_X10_320 st_X10_objection rfl (by omega) (by omega) (by omega) rfl (Nat.le_of_ble_eq_true rfl) dX10_draws_25 ?_
      intro r9 S9 hp9
      obtain ⟨rfl, rfl⟩ := hp9
      refine a_istore K dX10_draws_28 (by decide) ?_
      first | refine a_aload K dX10_draws_30 rfl ?_ | refine a_aloadN K dX10_draws_30 rfl ?_
      refine a_ifnullN K dX10_draws_32 (tgt := 41) (by decide) ?_
      first | refine a_aload_n K dX10_draws_41 rfl ?_ | refine a_aload_nN K dX10_draws_41 rfl ?_
      refine a_iload K dX10_draws_42 rfl ?_
      refine a_invV K (w_refused hL0 0 (by decide)) my_X10_refused ml_X10_128 im_X10_refused se_X10_refused (ci := 10) (by assumption) (by decide) ⟨_, _, rfl⟩ rfl (by omega) (by omega) (by omega) rfl (Nat.le_of_ble_eq_true rfl) dX10_draws_44 ?_
      intro r9 S9 hp9
      obtain ⟨rfl, hS9⟩ := hp9
      exact a_iret K E rfl (by omega) (by omega) dX10_draws_47 ⟨rfl, hS9⟩
set_option maxHeartbeats 4000000 in
set_option maxRecDepth 100000 in
theorem m_X10_draws_bad {S : aw_S} {v : Nat → Nat} {i n : Int32} {w : Int64} {b : Nat} (hL : LW S v) (hb : atR (sQ S (v 13)) 4 i = some b) (hx : ¬ (1 ≤ n.toInt ∧ n.toInt ≤ 30)) : aw_M yX10_draws cX10_draws 14 (some FieldType.int) 2 0 0 [.ref (v 4), .int i, .int n, .long w] S (fun r S2 => r = some (.int (-1)) ∧ S2 = wA S (v 18) 1 (sA S (v 18) 1 + 1)) := by
  refine aw_enter (by decide +kernel) (Nat.le_of_ble_eq_true rfl) (fun g K E => ?_)
  have hL0 := hL
  have i4 := lw_i4 hL
  have f645 := lw_f645 hL
  have i5 := lw_i5 hL
  first | refine a_aload_n K dX10_draws_0 rfl ?_ | refine a_aload_nN K dX10_draws_0 rfl ?_
  refine a_iload_n K dX10_draws_1 rfl ?_
  refine a_invV K (w_builderAt hL0 _) my_X10_builderAt ml_X10_313 im_X10_builderAt se_X10_builderAt (ci := 10) (by assumption) (by decide) ⟨_, _, rfl⟩ rfl (by omega) (by omega) (by omega) rfl (Nat.le_of_ble_eq_true rfl) dX10_draws_2 ?_
  intro r9 S9 hp9
  obtain ⟨rfl, rfl⟩ := hp9
  rw [hb]
  first | refine a_astore K dX10_draws_5 (by decide) ?_ | refine a_astoreN K dX10_draws_5 (by decide) ?_
  first | refine a_aload K dX10_draws_7 rfl ?_ | refine a_aloadN K dX10_draws_7 rfl ?_
  refine a_iload_n K dX10_draws_9 rfl ?_
  refine a_iconst K dX10_draws_10 (v := 1) (by decide) ?_
  refine a_icmp_lt K dX10_draws_11 (tgt := 24) (by decide) (fun c_11 => ?_) (fun c_11 => ?_)
  · refine a_iconst K dX10_draws_24 (v := 0) (by decide) ?_
    refine a_invS K (m_X10_objection_bad) my_X10_objection ml_X10_320 st_X10_objection rfl (by omega) (by omega) (by omega) rfl (Nat.le_of_ble_eq_true rfl) dX10_draws_25 ?_
    intro r9 S9 hp9
    obtain ⟨rfl, rfl⟩ := hp9
    refine a_istore K dX10_draws_28 (by decide) ?_
    first | refine a_aload K dX10_draws_30 rfl ?_ | refine a_aloadN K dX10_draws_30 rfl ?_
    refine a_ifnull K dX10_draws_32 ?_
    refine a_iload K dX10_draws_35 rfl ?_
    refine a_iconst K dX10_draws_37 (v := -1) (by decide) ?_
    refine a_icmp_eq K dX10_draws_38 (tgt := 48) (by decide) (fun c_38 => absurd c_38 (by decide)) (fun c_38 => ?_)
    first | refine a_aload_n K dX10_draws_41 rfl ?_ | refine a_aload_nN K dX10_draws_41 rfl ?_
    refine a_iload K dX10_draws_42 rfl ?_
    refine a_invV K (w_refused hL0 1 (by decide)) my_X10_refused ml_X10_128 im_X10_refused se_X10_refused (ci := 10) (by assumption) (by decide) ⟨_, _, rfl⟩ rfl (by omega) (by omega) (by omega) rfl (Nat.le_of_ble_eq_true rfl) dX10_draws_44 ?_
    intro r9 S9 hp9
    obtain ⟨rfl, hS9⟩ := hp9
    exact a_iret K E rfl (by omega) (by omega) dX10_draws_47 ⟨rfl, hS9⟩
  · refine a_iload_n K dX10_draws_14 rfl ?_
    refine a_bipush K dX10_draws_15 (v := 30) (by decide) ?_
    refine a_icmp_gt K dX10_draws_17 (tgt := 24) (by decide) (fun c_17 => ?_) (fun c_17 => ?_)
    · refine a_iconst K dX10_draws_24 (v := 0) (by decide) ?_
      refine a_invS K (m_X10_objection_bad) my_X10_objection ml_X10_320 st_X10_objection rfl (by omega) (by omega) (by omega) rfl (Nat.le_of_ble_eq_true rfl) dX10_draws_25 ?_
      intro r9 S9 hp9
      obtain ⟨rfl, rfl⟩ := hp9
      refine a_istore K dX10_draws_28 (by decide) ?_
      first | refine a_aload K dX10_draws_30 rfl ?_ | refine a_aloadN K dX10_draws_30 rfl ?_
      refine a_ifnull K dX10_draws_32 ?_
      refine a_iload K dX10_draws_35 rfl ?_
      refine a_iconst K dX10_draws_37 (v := -1) (by decide) ?_
      refine a_icmp_eq K dX10_draws_38 (tgt := 48) (by decide) (fun c_38 => absurd c_38 (by decide)) (fun c_38 => ?_)
      first | refine a_aload_n K dX10_draws_41 rfl ?_ | refine a_aload_nN K dX10_draws_41 rfl ?_
      refine a_iload K dX10_draws_42 rfl ?_
      refine a_invV K (w_refused hL0 1 (by decide)) my_X10_refused ml_X10_128 im_X10_refused se_X10_refused (ci := 10) (by assumption) (by decide) ⟨_, _, rfl⟩ rfl (by omega) (by omega) (by omega) rfl (Nat.le_of_ble_eq_true rfl) dX10_draws_44 ?_
      intro r9 S9 hp9
      obtain ⟨rfl, hS9⟩ := hp9
      exact a_iret K E rfl (by omega) (by omega) dX10_draws_47 ⟨rfl, hS9⟩
    · exact absurd (by (simp only [i32_lt, i32_le, i32_eq, t_0, t_1, t_2, t_3, t_4, t_5, t_6, t_7, t_9, t_10, t_16, t_19, t_30, t_48, t_57, t_58, t_60, t_97, t_99, t_100, t_105, t_112, t_115, t_240, t_255, t_600, t_999, t_1000, t_m1, t_m2, t_m999, t_m1000000] at c_11 c_17; omega)) hx
set_option maxHeartbeats 4000000 in
set_option maxRecDepth 100000 in
theorem m_X10_draws_stale {S : aw_S} {v : Nat → Nat} {i n : Int32} {w : Int64} {b : Nat} (hL : LW S v) (hb : atR (sQ S (v 13)) 4 i = some b) (ob : aw_is S b 0) (hs : sR S 0 b = none) (hx : 1 ≤ n.toInt ∧ n.toInt ≤ 30) : aw_M yX10_draws cX10_draws 14 (some FieldType.int) 2 0 0 [.ref (v 4), .int i, .int n, .long w] S (fun r S2 => r = some (.int (-1)) ∧ S2 = wA S (v 18) 2 (sA S (v 18) 2 + 1)) := by
  refine aw_enter (by decide +kernel) (Nat.le_of_ble_eq_true rfl) (fun g K E => ?_)
  have hL0 := hL
  have i4 := lw_i4 hL
  have f645 := lw_f645 hL
  have i5 := lw_i5 hL
  first | refine a_aload_n K dX10_draws_0 rfl ?_ | refine a_aload_nN K dX10_draws_0 rfl ?_
  refine a_iload_n K dX10_draws_1 rfl ?_
  refine a_invV K (w_builderAt hL0 _) my_X10_builderAt ml_X10_313 im_X10_builderAt se_X10_builderAt (ci := 10) (by assumption) (by decide) ⟨_, _, rfl⟩ rfl (by omega) (by omega) (by omega) rfl (Nat.le_of_ble_eq_true rfl) dX10_draws_2 ?_
  intro r9 S9 hp9
  obtain ⟨rfl, rfl⟩ := hp9
  rw [hb]
  first | refine a_astore K dX10_draws_5 (by decide) ?_ | refine a_astoreN K dX10_draws_5 (by decide) ?_
  first | refine a_aload K dX10_draws_7 rfl ?_ | refine a_aloadN K dX10_draws_7 rfl ?_
  refine a_iload_n K dX10_draws_9 rfl ?_
  refine a_iconst K dX10_draws_10 (v := 1) (by decide) ?_
  refine a_icmp_lt K dX10_draws_11 (tgt := 24) (by decide) (fun c_11 => ?_) (fun c_11 => ?_)
  · exact absurd hx (by first | (simp only [i32_lt, i32_le, t_1, t_30] at c_11; omega) | (simp only [i32_lt, i32_le, t_1, t_30] at c_17; omega))
  · refine a_iload_n K dX10_draws_14 rfl ?_
    refine a_bipush K dX10_draws_15 (v := 30) (by decide) ?_
    refine a_icmp_gt K dX10_draws_17 (tgt := 24) (by decide) (fun c_17 => ?_) (fun c_17 => ?_)
    · exact absurd hx (by first | (simp only [i32_lt, i32_le, t_1, t_30] at c_11; omega) | (simp only [i32_lt, i32_le, t_1, t_30] at c_17; omega))
    · refine a_iconst K dX10_draws_20 (v := 1) (by decide) ?_
      refine a_goto K dX10_draws_21 (tgt := 25) (by decide) ?_
      refine a_invS K (m_X10_objection_stale ob hs) my_X10_objection ml_X10_320 st_X10_objection rfl (by omega) (by omega) (by omega) rfl (Nat.le_of_ble_eq_true rfl) dX10_draws_25 ?_
      intro r9 S9 hp9
      obtain ⟨rfl, rfl⟩ := hp9
      refine a_istore K dX10_draws_28 (by decide) ?_
      first | refine a_aload K dX10_draws_30 rfl ?_ | refine a_aloadN K dX10_draws_30 rfl ?_
      refine a_ifnull K dX10_draws_32 ?_
      refine a_iload K dX10_draws_35 rfl ?_
      refine a_iconst K dX10_draws_37 (v := -1) (by decide) ?_
      refine a_icmp_eq K dX10_draws_38 (tgt := 48) (by decide) (fun c_38 => absurd c_38 (by decide)) (fun c_38 => ?_)
      first | refine a_aload_n K dX10_draws_41 rfl ?_ | refine a_aload_nN K dX10_draws_41 rfl ?_
      refine a_iload K dX10_draws_42 rfl ?_
      refine a_invV K (w_refused hL0 2 (by decide)) my_X10_refused ml_X10_128 im_X10_refused se_X10_refused (ci := 10) (by assumption) (by decide) ⟨_, _, rfl⟩ rfl (by omega) (by omega) (by omega) rfl (Nat.le_of_ble_eq_true rfl) dX10_draws_44 ?_
      intro r9 S9 hp9
      obtain ⟨rfl, hS9⟩ := hp9
      exact a_iret K E rfl (by omega) (by omega) dX10_draws_47 ⟨rfl, hS9⟩
set_option maxHeartbeats 4000000 in
set_option maxRecDepth 100000 in
theorem m_X10_snap_null {S : aw_S} {v : Nat → Nat} {i : Int32} (hL : LW S v) (hb : atR (sQ S (v 13)) 4 i = none) : aw_M yX10_snap cX10_snap 5 (some FieldType.int) 2 0 0 [.ref (v 4), .int i] S (fun r S2 => r = some (.int (-1)) ∧ S2 = wA S (v 18) 0 (sA S (v 18) 0 + 1)) := by
  refine aw_enter (by decide +kernel) (Nat.le_of_ble_eq_true rfl) (fun g K E => ?_)
  have hL0 := hL
  have i4 := lw_i4 hL
  first | refine a_aload_n K dX10_snap_0 rfl ?_ | refine a_aload_nN K dX10_snap_0 rfl ?_
  refine a_iload_n K dX10_snap_1 rfl ?_
  refine a_invV K (w_builderAt hL0 _) my_X10_builderAt ml_X10_313 im_X10_builderAt se_X10_builderAt (ci := 10) (by assumption) (by decide) ⟨_, _, rfl⟩ rfl (by omega) (by omega) (by omega) rfl (Nat.le_of_ble_eq_true rfl) dX10_snap_2 ?_
  intro r9 S9 hp9
  obtain ⟨rfl, rfl⟩ := hp9
  rw [hb]
  first | refine a_astore_n K dX10_snap_5 (by decide) ?_ | refine a_astore_nN K dX10_snap_5 (by decide) ?_
  first | refine a_aload_n K dX10_snap_6 rfl ?_ | refine a_aload_nN K dX10_snap_6 rfl ?_
  refine a_iconst K dX10_snap_7 (v := 1) (by decide) ?_
  refine a_invS K (m_X10_objection_null) my_X10_objection ml_X10_320 st_X10_objection rfl (by omega) (by omega) (by omega) rfl (Nat.le_of_ble_eq_true rfl) dX10_snap_8 ?_
  intro r9 S9 hp9
  obtain ⟨rfl, rfl⟩ := hp9
  refine a_istore_n K dX10_snap_11 (by decide) ?_
  first | refine a_aload_n K dX10_snap_12 rfl ?_ | refine a_aload_nN K dX10_snap_12 rfl ?_
  refine a_ifnullN K dX10_snap_13 (tgt := 21) (by decide) ?_
  first | refine a_aload_n K dX10_snap_21 rfl ?_ | refine a_aload_nN K dX10_snap_21 rfl ?_
  refine a_iload_n K dX10_snap_22 rfl ?_
  refine a_invV K (w_refused hL0 0 (by decide)) my_X10_refused ml_X10_128 im_X10_refused se_X10_refused (ci := 10) (by assumption) (by decide) ⟨_, _, rfl⟩ rfl (by omega) (by omega) (by omega) rfl (Nat.le_of_ble_eq_true rfl) dX10_snap_23 ?_
  intro r9 S9 hp9
  obtain ⟨rfl, hS9⟩ := hp9
  exact a_iret K E rfl (by omega) (by omega) dX10_snap_26 ⟨rfl, hS9⟩
set_option maxHeartbeats 4000000 in
set_option maxRecDepth 100000 in
theorem m_X10_snap_stale {S : aw_S} {v : Nat → Nat} {i : Int32} {b : Nat} (hL : LW S v) (hb : atR (sQ S (v 13)) 4 i = some b) (ob : aw_is S b 0) (hs : sR S 0 b = none) : aw_M yX10_snap cX10_snap 5 (some FieldType.int) 2 0 0 [.ref (v 4), .int i] S (fun r S2 => r = some (.int (-1)) ∧ S2 = wA S (v 18) 2 (sA S (v 18) 2 + 1)) := by
  refine aw_enter (by decide +kernel) (Nat.le_of_ble_eq_true rfl) (fun g K E => ?_)
  have hL0 := hL
  have i4 := lw_i4 hL
  first | refine a_aload_n K dX10_snap_0 rfl ?_ | refine a_aload_nN K dX10_snap_0 rfl ?_
  refine a_iload_n K dX10_snap_1 rfl ?_
  refine a_invV K (w_builderAt hL0 _) my_X10_builderAt ml_X10_313 im_X10_builderAt se_X10_builderAt (ci := 10) (by assumption) (by decide) ⟨_, _, rfl⟩ rfl (by omega) (by omega) (by omega) rfl (Nat.le_of_ble_eq_true rfl) dX10_snap_2 ?_
  intro r9 S9 hp9
  obtain ⟨rfl, rfl⟩ := hp9
  rw [hb]
  first | refine a_astore_n K dX10_snap_5 (by decide) ?_ | refine a_astore_nN K dX10_snap_5 (by decide) ?_
  first | refine a_aload_n K dX10_snap_6 rfl ?_ | refine a_aload_nN K dX10_snap_6 rfl ?_
  refine a_iconst K dX10_snap_7 (v := 1) (by decide) ?_
  refine a_invS K (m_X10_objection_stale ob hs) my_X10_objection ml_X10_320 st_X10_objection rfl (by omega) (by omega) (by omega) rfl (Nat.le_of_ble_eq_true rfl) dX10_snap_8 ?_
  intro r9 S9 hp9
  obtain ⟨rfl, rfl⟩ := hp9
  refine a_istore_n K dX10_snap_11 (by decide) ?_
  first | refine a_aload_n K dX10_snap_12 rfl ?_ | refine a_aload_nN K dX10_snap_12 rfl ?_
  refine a_ifnull K dX10_snap_13 ?_
  refine a_iload_n K dX10_snap_16 rfl ?_
  refine a_iconst K dX10_snap_17 (v := -1) (by decide) ?_
  refine a_icmp_eq K dX10_snap_18 (tgt := 27) (by decide) (fun c_18 => absurd c_18 (by decide)) (fun c_18 => ?_)
  first | refine a_aload_n K dX10_snap_21 rfl ?_ | refine a_aload_nN K dX10_snap_21 rfl ?_
  refine a_iload_n K dX10_snap_22 rfl ?_
  refine a_invV K (w_refused hL0 2 (by decide)) my_X10_refused ml_X10_128 im_X10_refused se_X10_refused (ci := 10) (by assumption) (by decide) ⟨_, _, rfl⟩ rfl (by omega) (by omega) (by omega) rfl (Nat.le_of_ble_eq_true rfl) dX10_snap_23 ?_
  intro r9 S9 hp9
  obtain ⟨rfl, hS9⟩ := hp9
  exact a_iret K E rfl (by omega) (by omega) dX10_snap_26 ⟨rfl, hS9⟩
set_option maxHeartbeats 4000000 in
set_option maxRecDepth 100000 in
theorem m_X10_freeze_null {S : aw_S} {v : Nat → Nat} {i : Int32} (hL : LW S v) (hb : atR (sQ S (v 13)) 4 i = none) : aw_M yX10_freeze cX10_freeze 5 (some FieldType.int) 2 0 0 [.ref (v 4), .int i] S (fun r S2 => r = some (.int (-1)) ∧ S2 = wA S (v 18) 0 (sA S (v 18) 0 + 1)) := by
  refine aw_enter (by decide +kernel) (Nat.le_of_ble_eq_true rfl) (fun g K E => ?_)
  have hL0 := hL
  have i4 := lw_i4 hL
  first | refine a_aload_n K dX10_freeze_0 rfl ?_ | refine a_aload_nN K dX10_freeze_0 rfl ?_
  refine a_iload_n K dX10_freeze_1 rfl ?_
  refine a_invV K (w_builderAt hL0 _) my_X10_builderAt ml_X10_313 im_X10_builderAt se_X10_builderAt (ci := 10) (by assumption) (by decide) ⟨_, _, rfl⟩ rfl (by omega) (by omega) (by omega) rfl (Nat.le_of_ble_eq_true rfl) dX10_freeze_2 ?_
  intro r9 S9 hp9
  obtain ⟨rfl, rfl⟩ := hp9
  rw [hb]
  first | refine a_astore_n K dX10_freeze_5 (by decide) ?_ | refine a_astore_nN K dX10_freeze_5 (by decide) ?_
  first | refine a_aload_n K dX10_freeze_6 rfl ?_ | refine a_aload_nN K dX10_freeze_6 rfl ?_
  refine a_iconst K dX10_freeze_7 (v := 1) (by decide) ?_
  refine a_invS K (m_X10_objection_null) my_X10_objection ml_X10_320 st_X10_objection rfl (by omega) (by omega) (by omega) rfl (Nat.le_of_ble_eq_true rfl) dX10_freeze_8 ?_
  intro r9 S9 hp9
  obtain ⟨rfl, rfl⟩ := hp9
  refine a_istore_n K dX10_freeze_11 (by decide) ?_
  first | refine a_aload_n K dX10_freeze_12 rfl ?_ | refine a_aload_nN K dX10_freeze_12 rfl ?_
  refine a_ifnullN K dX10_freeze_13 (tgt := 21) (by decide) ?_
  first | refine a_aload_n K dX10_freeze_21 rfl ?_ | refine a_aload_nN K dX10_freeze_21 rfl ?_
  refine a_iload_n K dX10_freeze_22 rfl ?_
  refine a_invV K (w_refused hL0 0 (by decide)) my_X10_refused ml_X10_128 im_X10_refused se_X10_refused (ci := 10) (by assumption) (by decide) ⟨_, _, rfl⟩ rfl (by omega) (by omega) (by omega) rfl (Nat.le_of_ble_eq_true rfl) dX10_freeze_23 ?_
  intro r9 S9 hp9
  obtain ⟨rfl, hS9⟩ := hp9
  exact a_iret K E rfl (by omega) (by omega) dX10_freeze_26 ⟨rfl, hS9⟩
set_option maxHeartbeats 4000000 in
set_option maxRecDepth 100000 in
theorem m_X10_freeze_stale {S : aw_S} {v : Nat → Nat} {i : Int32} {b : Nat} (hL : LW S v) (hb : atR (sQ S (v 13)) 4 i = some b) (ob : aw_is S b 0) (hs : sR S 0 b = none) : aw_M yX10_freeze cX10_freeze 5 (some FieldType.int) 2 0 0 [.ref (v 4), .int i] S (fun r S2 => r = some (.int (-1)) ∧ S2 = wA S (v 18) 2 (sA S (v 18) 2 + 1)) := by
  refine aw_enter (by decide +kernel) (Nat.le_of_ble_eq_true rfl) (fun g K E => ?_)
  have hL0 := hL
  have i4 := lw_i4 hL
  first | refine a_aload_n K dX10_freeze_0 rfl ?_ | refine a_aload_nN K dX10_freeze_0 rfl ?_
  refine a_iload_n K dX10_freeze_1 rfl ?_
  refine a_invV K (w_builderAt hL0 _) my_X10_builderAt ml_X10_313 im_X10_builderAt se_X10_builderAt (ci := 10) (by assumption) (by decide) ⟨_, _, rfl⟩ rfl (by omega) (by omega) (by omega) rfl (Nat.le_of_ble_eq_true rfl) dX10_freeze_2 ?_
  intro r9 S9 hp9
  obtain ⟨rfl, rfl⟩ := hp9
  rw [hb]
  first | refine a_astore_n K dX10_freeze_5 (by decide) ?_ | refine a_astore_nN K dX10_freeze_5 (by decide) ?_
  first | refine a_aload_n K dX10_freeze_6 rfl ?_ | refine a_aload_nN K dX10_freeze_6 rfl ?_
  refine a_iconst K dX10_freeze_7 (v := 1) (by decide) ?_
  refine a_invS K (m_X10_objection_stale ob hs) my_X10_objection ml_X10_320 st_X10_objection rfl (by omega) (by omega) (by omega) rfl (Nat.le_of_ble_eq_true rfl) dX10_freeze_8 ?_
  intro r9 S9 hp9
  obtain ⟨rfl, rfl⟩ := hp9
  refine a_istore_n K dX10_freeze_11 (by decide) ?_
  first | refine a_aload_n K dX10_freeze_12 rfl ?_ | refine a_aload_nN K dX10_freeze_12 rfl ?_
  refine a_ifnull K dX10_freeze_13 ?_
  refine a_iload_n K dX10_freeze_16 rfl ?_
  refine a_iconst K dX10_freeze_17 (v := -1) (by decide) ?_
  refine a_icmp_eq K dX10_freeze_18 (tgt := 27) (by decide) (fun c_18 => absurd c_18 (by decide)) (fun c_18 => ?_)
  first | refine a_aload_n K dX10_freeze_21 rfl ?_ | refine a_aload_nN K dX10_freeze_21 rfl ?_
  refine a_iload_n K dX10_freeze_22 rfl ?_
  refine a_invV K (w_refused hL0 2 (by decide)) my_X10_refused ml_X10_128 im_X10_refused se_X10_refused (ci := 10) (by assumption) (by decide) ⟨_, _, rfl⟩ rfl (by omega) (by omega) (by omega) rfl (Nat.le_of_ble_eq_true rfl) dX10_freeze_23 ?_
  intro r9 S9 hp9
  obtain ⟨rfl, hS9⟩ := hp9
  exact a_iret K E rfl (by omega) (by omega) dX10_freeze_26 ⟨rfl, hS9⟩
set_option maxHeartbeats 4000000 in
set_option maxRecDepth 100000 in
theorem m_X10_peek_null {S : aw_S} {v : Nat → Nat} {i k : Int32} (hL : LW S v) (hb : atR (sQ S (v 13)) 4 i = none) : aw_M yX10_peek cX10_peek 4 (some FieldType.int) 2 0 0 [.ref (v 4), .int i, .int k] S (fun r S2 => r = some (.int (-1000000)) ∧ S2 = S) := by
  refine aw_enter (by decide +kernel) (Nat.le_of_ble_eq_true rfl) (fun g K E => ?_)
  have hL0 := hL
  have i4 := lw_i4 hL
  first | refine a_aload_n K dX10_peek_0 rfl ?_ | refine a_aload_nN K dX10_peek_0 rfl ?_
  refine a_iload_n K dX10_peek_1 rfl ?_
  refine a_invV K (w_builderAt hL0 _) my_X10_builderAt ml_X10_313 im_X10_builderAt se_X10_builderAt (ci := 10) (by assumption) (by decide) ⟨_, _, rfl⟩ rfl (by omega) (by omega) (by omega) rfl (Nat.le_of_ble_eq_true rfl) dX10_peek_2 ?_
  intro r9 S9 hp9
  obtain ⟨rfl, rfl⟩ := hp9
  rw [hb]
  first | refine a_astore_n K dX10_peek_5 (by decide) ?_ | refine a_astore_nN K dX10_peek_5 (by decide) ?_
  first | refine a_aload_n K dX10_peek_6 rfl ?_ | refine a_aload_nN K dX10_peek_6 rfl ?_
  refine a_ifnonnullN K dX10_peek_7 ?_
  refine a_ldc K kc_X10_180 dX10_peek_10 ?_
  refine a_goto K dX10_peek_12 (tgt := 23) (by decide) ?_
  exact a_iret K E rfl (by omega) (by omega) dX10_peek_23 ⟨rfl, rfl⟩
set_option maxHeartbeats 4000000 in
set_option maxRecDepth 100000 in
theorem m_X10_peek_stale {S : aw_S} {v : Nat → Nat} {i k : Int32} {b : Nat} (hL : LW S v) (hb : atR (sQ S (v 13)) 4 i = some b) (ob : aw_is S b 0) (hs : sR S 0 b = none) : aw_M yX10_peek cX10_peek 4 (some FieldType.int) 2 0 0 [.ref (v 4), .int i, .int k] S (fun r S2 => r = some (.int (-1000000)) ∧ S2 = S) := by
  refine aw_enter (by decide +kernel) (Nat.le_of_ble_eq_true rfl) (fun g K E => ?_)
  have hL0 := hL
  have i4 := lw_i4 hL
  first | refine a_aload_n K dX10_peek_0 rfl ?_ | refine a_aload_nN K dX10_peek_0 rfl ?_
  refine a_iload_n K dX10_peek_1 rfl ?_
  refine a_invV K (w_builderAt hL0 _) my_X10_builderAt ml_X10_313 im_X10_builderAt se_X10_builderAt (ci := 10) (by assumption) (by decide) ⟨_, _, rfl⟩ rfl (by omega) (by omega) (by omega) rfl (Nat.le_of_ble_eq_true rfl) dX10_peek_2 ?_
  intro r9 S9 hp9
  obtain ⟨rfl, rfl⟩ := hp9
  rw [hb]
  first | refine a_astore_n K dX10_peek_5 (by decide) ?_ | refine a_astore_nN K dX10_peek_5 (by decide) ?_
  first | refine a_aload_n K dX10_peek_6 rfl ?_ | refine a_aload_nN K dX10_peek_6 rfl ?_
  refine a_ifnonnull K dX10_peek_7 (tgt := 15) (by decide) ?_
  first | refine a_aload_n K dX10_peek_15 rfl ?_ | refine a_aload_nN K dX10_peek_15 rfl ?_
  refine a_invV K (m_X0_root ob) my_X0_root ml_X10_345 im_X0_root se_X0_root (ci := 0) (by assumption) (by decide) ⟨_, _, rfl⟩ rfl (by omega) (by omega) (by omega) rfl (Nat.le_of_ble_eq_true rfl) dX10_peek_16 ?_
  intro r9 S9 hp9
  obtain ⟨rfl, rfl⟩ := hp9
  rw [hs]
  refine a_iload_n K dX10_peek_19 rfl ?_
  refine a_invS K (m_X10_valueIn_null) my_X10_valueIn ml_X10_169 st_X10_valueIn rfl (by omega) (by omega) (by omega) rfl (Nat.le_of_ble_eq_true rfl) dX10_peek_20 ?_
  intro r9 S9 hp9
  obtain ⟨rfl, rfl⟩ := hp9
  exact a_iret K E rfl (by omega) (by omega) dX10_peek_23 ⟨rfl, rfl⟩
set_option maxHeartbeats 4000000 in
set_option maxRecDepth 100000 in
theorem m_X10_builder_null {S : aw_S} {v : Nat → Nat} {i k : Int32} (hL : LW S v) (hb : atR (sQ S (v 13)) 4 i = none) : aw_M yX10_builder cX10_builder 4 (some FieldType.int) 2 0 0 [.ref (v 4), .int i, .int k] S (fun r S2 => r = some (.int (-1000000)) ∧ S2 = S) := by
  refine aw_enter (by decide +kernel) (Nat.le_of_ble_eq_true rfl) (fun g K E => ?_)
  have hL0 := hL
  have i4 := lw_i4 hL
  have f655 := lw_f655 hL
  have i34 := lw_i34 hL
  first | refine a_aload_n K dX10_builder_0 rfl ?_ | refine a_aload_nN K dX10_builder_0 rfl ?_
  refine a_iload_n K dX10_builder_1 rfl ?_
  refine a_invV K (w_builderAt hL0 _) my_X10_builderAt ml_X10_313 im_X10_builderAt se_X10_builderAt (ci := 10) (by assumption) (by decide) ⟨_, _, rfl⟩ rfl (by omega) (by omega) (by omega) rfl (Nat.le_of_ble_eq_true rfl) dX10_builder_2 ?_
  intro r9 S9 hp9
  obtain ⟨rfl, rfl⟩ := hp9
  rw [hb]
  first | refine a_astore_n K dX10_builder_5 (by decide) ?_ | refine a_astore_nN K dX10_builder_5 (by decide) ?_
  first | refine a_aload_n K dX10_builder_6 rfl ?_ | refine a_aload_nN K dX10_builder_6 rfl ?_
  refine a_ifnullN K dX10_builder_7 (tgt := 17) (by decide) ?_
  refine a_ldc K kc_X10_180 dX10_builder_17 ?_
  exact a_iret K E rfl (by omega) (by omega) dX10_builder_19 ⟨rfl, rfl⟩
set_option maxHeartbeats 4000000 in
set_option maxRecDepth 100000 in
theorem m_X10_builder_stale {S : aw_S} {v : Nat → Nat} {i k : Int32} {b : Nat} (hL : LW S v) (hb : atR (sQ S (v 13)) 4 i = some b) (ob : aw_is S b 0) (hs : sR S 0 b = none) : aw_M yX10_builder cX10_builder 4 (some FieldType.int) 2 0 0 [.ref (v 4), .int i, .int k] S (fun r S2 => r = some (.int (-1000000)) ∧ S2 = S) := by
  refine aw_enter (by decide +kernel) (Nat.le_of_ble_eq_true rfl) (fun g K E => ?_)
  have hL0 := hL
  have i4 := lw_i4 hL
  have f655 := lw_f655 hL
  have i34 := lw_i34 hL
  first | refine a_aload_n K dX10_builder_0 rfl ?_ | refine a_aload_nN K dX10_builder_0 rfl ?_
  refine a_iload_n K dX10_builder_1 rfl ?_
  refine a_invV K (w_builderAt hL0 _) my_X10_builderAt ml_X10_313 im_X10_builderAt se_X10_builderAt (ci := 10) (by assumption) (by decide) ⟨_, _, rfl⟩ rfl (by omega) (by omega) (by omega) rfl (Nat.le_of_ble_eq_true rfl) dX10_builder_2 ?_
  intro r9 S9 hp9
  obtain ⟨rfl, rfl⟩ := hp9
  rw [hb]
  first | refine a_astore_n K dX10_builder_5 (by decide) ?_ | refine a_astore_nN K dX10_builder_5 (by decide) ?_
  first | refine a_aload_n K dX10_builder_6 rfl ?_ | refine a_aload_nN K dX10_builder_6 rfl ?_
  refine a_ifnull K dX10_builder_7 ?_
  first | refine a_aload_n K dX10_builder_10 rfl ?_ | refine a_aload_nN K dX10_builder_10 rfl ?_
  refine a_invV K (m_X0_isStale_y ob hs) my_X0_isStale ml_X10_342 im_X0_isStale se_X0_isStale (ci := 0) (by assumption) (by decide) ⟨_, _, rfl⟩ rfl (by omega) (by omega) (by omega) rfl (Nat.le_of_ble_eq_true rfl) dX10_builder_11 ?_
  intro r9 S9 hp9
  obtain ⟨rfl, rfl⟩ := hp9
  refine a_if_eq K dX10_builder_14 (tgt := 20) (by decide) (fun c_14 => absurd c_14 (by decide)) (fun c_14 => ?_)
  refine a_ldc K kc_X10_180 dX10_builder_17 ?_
  exact a_iret K E rfl (by omega) (by omega) dX10_builder_19 ⟨rfl, rfl⟩
set_option maxHeartbeats 4000000 in
set_option maxRecDepth 100000 in
theorem m_X10_build_null {S : aw_S} {v : Nat → Nat} {gv : Nat} {i m : Int32} (hL : LW S v) (hg : LG S v gv) (hb : atR (sQ S (v 13)) 4 i = none) (h1 : wRoot S v gv m = none) : aw_M yX10_build cX10_build 5 (some FieldType.int) 2 0 0 [.ref (v 4), .int i, .int m] S (fun r S2 => r = some (.int (-1)) ∧ S2 = wA S (v 18) 0 (sA S (v 18) 0 + 1)) := by
  refine aw_enter (by decide +kernel) (Nat.le_of_ble_eq_true rfl) (fun g K E => ?_)
  have hL0 := hL
  have i4 := lw_i4 hL
  have f646 := lw_f646 hL
  have i6 := lw_i6 hL
  have f645 := lw_f645 hL
  have i5 := lw_i5 hL
  have f655 := lw_f655 hL
  have i34 := lw_i34 hL
  first | refine a_aload_n K dX10_build_0 rfl ?_ | refine a_aload_nN K dX10_build_0 rfl ?_
  refine a_iload_n K dX10_build_1 rfl ?_
  refine a_invV K (w_builderAt hL0 _) my_X10_builderAt ml_X10_313 im_X10_builderAt se_X10_builderAt (ci := 10) (by assumption) (by decide) ⟨_, _, rfl⟩ rfl (by omega) (by omega) (by omega) rfl (Nat.le_of_ble_eq_true rfl) dX10_build_2 ?_
  intro r9 S9 hp9
  obtain ⟨rfl, rfl⟩ := hp9
  rw [hb]
  first | refine a_astore_n K dX10_build_5 (by decide) ?_ | refine a_astore_nN K dX10_build_5 (by decide) ?_
  first | refine a_aload_n K dX10_build_6 rfl ?_ | refine a_aload_nN K dX10_build_6 rfl ?_
  refine a_getRs K fd_X10_46 (by assumption) (Or.inl ⟨_, rfl⟩) (by assumption) dX10_build_7 ?_
  refine a_iload_n K dX10_build_10 rfl ?_
  refine a_invV K (w_heldRoot hL0 hg _) my_X3_heldRoot ml_X10_165 im_X3_heldRoot se_X3_heldRoot (ci := 3) (by assumption) (by decide) ⟨_, _, rfl⟩ rfl (by omega) (by omega) (by omega) rfl (Nat.le_of_ble_eq_true rfl) dX10_build_11 ?_
  intro r9 S9 hp9
  obtain ⟨rfl, rfl⟩ := hp9
  rw [h1]
  first | refine a_astore K dX10_build_14 (by decide) ?_ | refine a_astoreN K dX10_build_14 (by decide) ?_
  first | refine a_aload_n K dX10_build_16 rfl ?_ | refine a_aload_nN K dX10_build_16 rfl ?_
  refine a_ifnullN K dX10_build_17 (tgt := 25) (by decide) ?_
  first | refine a_aload_n K dX10_build_25 rfl ?_ | refine a_aload_nN K dX10_build_25 rfl ?_
  refine a_iconst K dX10_build_26 (v := 0) (by decide) ?_
  refine a_invV K (w_refused hL0 0 (by decide)) my_X10_refused ml_X10_128 im_X10_refused se_X10_refused (ci := 10) (by assumption) (by decide) ⟨_, _, rfl⟩ rfl (by omega) (by omega) (by omega) rfl (Nat.le_of_ble_eq_true rfl) dX10_build_27 ?_
  intro r9 S9 hp9
  obtain ⟨rfl, hS9⟩ := hp9
  exact a_iret K E rfl (by omega) (by omega) dX10_build_30 ⟨rfl, hS9⟩
set_option maxHeartbeats 4000000 in
set_option maxRecDepth 100000 in
theorem m_X10_build_nomap {S : aw_S} {v : Nat → Nat} {gv b : Nat} {i m : Int32} (hL : LW S v) (hg : LG S v gv) (hb : atR (sQ S (v 13)) 4 i = some b) (h1 : wRoot S v gv m = none) : aw_M yX10_build cX10_build 5 (some FieldType.int) 2 0 0 [.ref (v 4), .int i, .int m] S (fun r S2 => r = some (.int (-1)) ∧ S2 = wA S (v 18) 0 (sA S (v 18) 0 + 1)) := by
  refine aw_enter (by decide +kernel) (Nat.le_of_ble_eq_true rfl) (fun g K E => ?_)
  have hL0 := hL
  have i4 := lw_i4 hL
  have f646 := lw_f646 hL
  have i6 := lw_i6 hL
  have f645 := lw_f645 hL
  have i5 := lw_i5 hL
  have f655 := lw_f655 hL
  have i34 := lw_i34 hL
  first | refine a_aload_n K dX10_build_0 rfl ?_ | refine a_aload_nN K dX10_build_0 rfl ?_
  refine a_iload_n K dX10_build_1 rfl ?_
  refine a_invV K (w_builderAt hL0 _) my_X10_builderAt ml_X10_313 im_X10_builderAt se_X10_builderAt (ci := 10) (by assumption) (by decide) ⟨_, _, rfl⟩ rfl (by omega) (by omega) (by omega) rfl (Nat.le_of_ble_eq_true rfl) dX10_build_2 ?_
  intro r9 S9 hp9
  obtain ⟨rfl, rfl⟩ := hp9
  rw [hb]
  first | refine a_astore_n K dX10_build_5 (by decide) ?_ | refine a_astore_nN K dX10_build_5 (by decide) ?_
  first | refine a_aload_n K dX10_build_6 rfl ?_ | refine a_aload_nN K dX10_build_6 rfl ?_
  refine a_getRs K fd_X10_46 (by assumption) (Or.inl ⟨_, rfl⟩) (by assumption) dX10_build_7 ?_
  refine a_iload_n K dX10_build_10 rfl ?_
  refine a_invV K (w_heldRoot hL0 hg _) my_X3_heldRoot ml_X10_165 im_X3_heldRoot se_X3_heldRoot (ci := 3) (by assumption) (by decide) ⟨_, _, rfl⟩ rfl (by omega) (by omega) (by omega) rfl (Nat.le_of_ble_eq_true rfl) dX10_build_11 ?_
  intro r9 S9 hp9
  obtain ⟨rfl, rfl⟩ := hp9
  rw [h1]
  first | refine a_astore K dX10_build_14 (by decide) ?_ | refine a_astoreN K dX10_build_14 (by decide) ?_
  first | refine a_aload_n K dX10_build_16 rfl ?_ | refine a_aload_nN K dX10_build_16 rfl ?_
  refine a_ifnull K dX10_build_17 ?_
  first | refine a_aload K dX10_build_20 rfl ?_ | refine a_aloadN K dX10_build_20 rfl ?_
  refine a_ifnonnullN K dX10_build_22 ?_
  first | refine a_aload_n K dX10_build_25 rfl ?_ | refine a_aload_nN K dX10_build_25 rfl ?_
  refine a_iconst K dX10_build_26 (v := 0) (by decide) ?_
  refine a_invV K (w_refused hL0 0 (by decide)) my_X10_refused ml_X10_128 im_X10_refused se_X10_refused (ci := 10) (by assumption) (by decide) ⟨_, _, rfl⟩ rfl (by omega) (by omega) (by omega) rfl (Nat.le_of_ble_eq_true rfl) dX10_build_27 ?_
  intro r9 S9 hp9
  obtain ⟨rfl, hS9⟩ := hp9
  exact a_iret K E rfl (by omega) (by omega) dX10_build_30 ⟨rfl, hS9⟩
set_option maxHeartbeats 4000000 in
set_option maxRecDepth 100000 in
theorem m_X10_step_null {S : aw_S} {v : Nat → Nat} {i k l : Int32} (hL : LW S v) (hp : atR (sQ S (v 3)) 4 i = none) : aw_M yX10_step cX10_step 5 (some FieldType.int) 2 0 0 [.ref (v 4), .int i, .int k, .int l] S (fun r S2 => r = some (.int (-1000000)) ∧ S2 = S) := by
  refine aw_enter (by decide +kernel) (Nat.le_of_ble_eq_true rfl) (fun g K E => ?_)
  have hL0 := hL
  have i4 := lw_i4 hL
  first | refine a_aload_n K dX10_step_0 rfl ?_ | refine a_aload_nN K dX10_step_0 rfl ?_
  refine a_iload_n K dX10_step_1 rfl ?_
  refine a_invV K (w_programAt hL0 _) my_X10_programAt ml_X10_380 im_X10_programAt se_X10_programAt (ci := 10) (by assumption) (by decide) ⟨_, _, rfl⟩ rfl (by omega) (by omega) (by omega) rfl (Nat.le_of_ble_eq_true rfl) dX10_step_2 ?_
  intro r9 S9 hp9
  obtain ⟨rfl, rfl⟩ := hp9
  rw [hp]
  first | refine a_astore K dX10_step_5 (by decide) ?_ | refine a_astoreN K dX10_step_5 (by decide) ?_
  first | refine a_aload K dX10_step_7 rfl ?_ | refine a_aloadN K dX10_step_7 rfl ?_
  refine a_ifnonnullN K dX10_step_9 ?_
  refine a_ldc K kc_X10_180 dX10_step_12 ?_
  refine a_goto K dX10_step_14 (tgt := 24) (by decide) ?_
  exact a_iret K E rfl (by omega) (by omega) dX10_step_24 ⟨rfl, rfl⟩
set_option maxHeartbeats 4000000 in
set_option maxRecDepth 100000 in
theorem m_X10_run_null {S : aw_S} {v : Nat → Nat} {i k : Int32} (hL : LW S v) (hp : atR (sQ S (v 3)) 4 i = none) (hb : atR (sQ S (v 13)) 4 k = none) : aw_M yX10_run cX10_run 10 (some FieldType.int) 2 0 0 [.ref (v 4), .int i, .int k] S (fun r S2 => r = some (.int (-1)) ∧ S2 = wA S (v 18) 0 (sA S (v 18) 0 + 1)) := by
  refine aw_enter (by decide +kernel) (Nat.le_of_ble_eq_true rfl) (fun g K E => ?_)
  have hL0 := hL
  have i4 := lw_i4 hL
  first | refine a_aload_n K dX10_run_0 rfl ?_ | refine a_aload_nN K dX10_run_0 rfl ?_
  refine a_iload_n K dX10_run_1 rfl ?_
  refine a_invV K (w_programAt hL0 _) my_X10_programAt ml_X10_380 im_X10_programAt se_X10_programAt (ci := 10) (by assumption) (by decide) ⟨_, _, rfl⟩ rfl (by omega) (by omega) (by omega) rfl (Nat.le_of_ble_eq_true rfl) dX10_run_2 ?_
  intro r9 S9 hp9
  obtain ⟨rfl, rfl⟩ := hp9
  rw [hp]
  first | refine a_astore_n K dX10_run_5 (by decide) ?_ | refine a_astore_nN K dX10_run_5 (by decide) ?_
  first | refine a_aload_n K dX10_run_6 rfl ?_ | refine a_aload_nN K dX10_run_6 rfl ?_
  refine a_iload_n K dX10_run_7 rfl ?_
  refine a_invV K (w_builderAt hL0 _) my_X10_builderAt ml_X10_313 im_X10_builderAt se_X10_builderAt (ci := 10) (by assumption) (by decide) ⟨_, _, rfl⟩ rfl (by omega) (by omega) (by omega) rfl (Nat.le_of_ble_eq_true rfl) dX10_run_8 ?_
  intro r9 S9 hp9
  obtain ⟨rfl, rfl⟩ := hp9
  rw [hb]
  first | refine a_astore K dX10_run_11 (by decide) ?_ | refine a_astoreN K dX10_run_11 (by decide) ?_
  first | refine a_aload_n K dX10_run_13 rfl ?_ | refine a_aload_nN K dX10_run_13 rfl ?_
  refine a_ifnullN K dX10_run_14 (tgt := 22) (by decide) ?_
  first | refine a_aload_n K dX10_run_22 rfl ?_ | refine a_aload_nN K dX10_run_22 rfl ?_
  refine a_iconst K dX10_run_23 (v := 0) (by decide) ?_
  refine a_invV K (w_refused hL0 0 (by decide)) my_X10_refused ml_X10_128 im_X10_refused se_X10_refused (ci := 10) (by assumption) (by decide) ⟨_, _, rfl⟩ rfl (by omega) (by omega) (by omega) rfl (Nat.le_of_ble_eq_true rfl) dX10_run_24 ?_
  intro r9 S9 hp9
  obtain ⟨rfl, hS9⟩ := hp9
  exact a_iret K E rfl (by omega) (by omega) dX10_run_27 ⟨rfl, hS9⟩
set_option maxHeartbeats 4000000 in
set_option maxRecDepth 100000 in
theorem m_X10_run_noprog {S : aw_S} {v : Nat → Nat} {i k : Int32} {b : Nat} (hL : LW S v) (hp : atR (sQ S (v 3)) 4 i = none) (hb : atR (sQ S (v 13)) 4 k = some b) : aw_M yX10_run cX10_run 10 (some FieldType.int) 2 0 0 [.ref (v 4), .int i, .int k] S (fun r S2 => r = some (.int (-1)) ∧ S2 = wA S (v 18) 0 (sA S (v 18) 0 + 1)) := by
  refine aw_enter (by decide +kernel) (Nat.le_of_ble_eq_true rfl) (fun g K E => ?_)
  have hL0 := hL
  have i4 := lw_i4 hL
  first | refine a_aload_n K dX10_run_0 rfl ?_ | refine a_aload_nN K dX10_run_0 rfl ?_
  refine a_iload_n K dX10_run_1 rfl ?_
  refine a_invV K (w_programAt hL0 _) my_X10_programAt ml_X10_380 im_X10_programAt se_X10_programAt (ci := 10) (by assumption) (by decide) ⟨_, _, rfl⟩ rfl (by omega) (by omega) (by omega) rfl (Nat.le_of_ble_eq_true rfl) dX10_run_2 ?_
  intro r9 S9 hp9
  obtain ⟨rfl, rfl⟩ := hp9
  rw [hp]
  first | refine a_astore_n K dX10_run_5 (by decide) ?_ | refine a_astore_nN K dX10_run_5 (by decide) ?_
  first | refine a_aload_n K dX10_run_6 rfl ?_ | refine a_aload_nN K dX10_run_6 rfl ?_
  refine a_iload_n K dX10_run_7 rfl ?_
  refine a_invV K (w_builderAt hL0 _) my_X10_builderAt ml_X10_313 im_X10_builderAt se_X10_builderAt (ci := 10) (by assumption) (by decide) ⟨_, _, rfl⟩ rfl (by omega) (by omega) (by omega) rfl (Nat.le_of_ble_eq_true rfl) dX10_run_8 ?_
  intro r9 S9 hp9
  obtain ⟨rfl, rfl⟩ := hp9
  rw [hb]
  first | refine a_astore K dX10_run_11 (by decide) ?_ | refine a_astoreN K dX10_run_11 (by decide) ?_
  first | refine a_aload_n K dX10_run_13 rfl ?_ | refine a_aload_nN K dX10_run_13 rfl ?_
  refine a_ifnullN K dX10_run_14 (tgt := 22) (by decide) ?_
  first | refine a_aload_n K dX10_run_22 rfl ?_ | refine a_aload_nN K dX10_run_22 rfl ?_
  refine a_iconst K dX10_run_23 (v := 0) (by decide) ?_
  refine a_invV K (w_refused hL0 0 (by decide)) my_X10_refused ml_X10_128 im_X10_refused se_X10_refused (ci := 10) (by assumption) (by decide) ⟨_, _, rfl⟩ rfl (by omega) (by omega) (by omega) rfl (Nat.le_of_ble_eq_true rfl) dX10_run_24 ?_
  intro r9 S9 hp9
  obtain ⟨rfl, hS9⟩ := hp9
  exact a_iret K E rfl (by omega) (by omega) dX10_run_27 ⟨rfl, hS9⟩
set_option maxHeartbeats 4000000 in
set_option maxRecDepth 100000 in
theorem m_X10_shown {S : aw_S} {v : Nat → Nat} {n : Nat} {i : Int32} (hL : LW S v) (hs : sI S 513 (v 19) = nI n) (hn : n ≤ 700) : aw_M yX10_shown cX10_shown 2 (some FieldType.int) 2 0 0 [.ref (v 4), .int i] S (fun r S2 => r = some (.int (at0 (sA S (v 20)) n (-1) i)) ∧ S2 = S) := by
  refine aw_enter (by decide +kernel) (Nat.le_of_ble_eq_true rfl) (fun g K E => ?_)
  have hL0 := hL
  have i4 := lw_i4 hL
  have f649 := lw_f649 hL
  have i19 := lw_i19 hL
  first | refine a_aload_n K dX10_shown_0 rfl ?_ | refine a_aload_nN K dX10_shown_0 rfl ?_
  refine a_getRs K fd_X10_64 (by assumption) (Or.inl ⟨_, rfl⟩) (by assumption) dX10_shown_1 ?_
  refine a_iload_n K dX10_shown_4 rfl ?_
  refine a_invV K (m_X8_signAt (lw_i19 hL0) (lw_f512_19 hL0) (lw_i20 hL0) (lw_n20 hL0) hs hn (by decide)) my_X8_signAt ml_X10_415 im_X8_signAt se_X8_signAt (ci := 8) (by assumption) (by decide) ⟨_, _, rfl⟩ rfl (by omega) (by omega) (by omega) rfl (Nat.le_of_ble_eq_true rfl) dX10_shown_5 ?_
  intro r9 S9 hp9
  obtain ⟨rfl, rfl⟩ := hp9
  exact a_iret K E rfl (by omega) (by omega) dX10_shown_8 ⟨rfl, rfl⟩
set_option maxHeartbeats 4000000 in
set_option maxRecDepth 100000 in
theorem m_X3_restoreImage_n {S : aw_S} {a : Nat} (o : aw_is S a 3) (h : sI S 198 a = 0) : aw_M yX3_restoreImage cX3_restoreImage 2 (some FieldType.boolean) 0 0 0 [.ref a] S (fun r S2 => S2 = S ∧ r = some (.int 0)) := by
  refine aw_enter (by decide +kernel) (Nat.le_of_ble_eq_true rfl) (fun g K E => ?_)
  first | refine a_aload_n K dX3_restoreImage_0 rfl ?_ | refine a_aload_nN K dX3_restoreImage_0 rfl ?_
  refine a_getI K fd_X3_34 (by assumption) (Or.inr rfl) dX3_restoreImage_1 ?_
  refine a_if_ne K dX3_restoreImage_4 (tgt := 9) (by decide) (fun c_4 => absurd c_4 (fun z => z h)) (fun c_4 => ?_)
  refine a_iconst K dX3_restoreImage_7 (v := 0) (by decide) ?_
  exact a_iret K E rfl (by omega) (by omega) dX3_restoreImage_8 ⟨rfl, rfl⟩
set_option maxHeartbeats 4000000 in
set_option maxRecDepth 100000 in
theorem m_X10_back_n {S : aw_S} {v : Nat → Nat} (hL : LW S v) (h : sI S 198 (v 6) = 0) : aw_M yX10_back cX10_back 1 (some FieldType.int) 2 0 0 [.ref (v 4)] S (fun r S2 => r = some (.int (-1)) ∧ S2 = S) := by
  refine aw_enter (by decide +kernel) (Nat.le_of_ble_eq_true rfl) (fun g K E => ?_)
  have hL0 := hL
  have i4 := lw_i4 hL
  have f646 := lw_f646 hL
  have i6 := lw_i6 hL
  first | refine a_aload_n K dX10_back_0 rfl ?_ | refine a_aload_nN K dX10_back_0 rfl ?_
  refine a_getRs K fd_X10_46 (by assumption) (Or.inl ⟨_, rfl⟩) (by assumption) dX10_back_1 ?_
  refine a_invV K (m_X3_restoreImage_n (lw_i6 hL0) h) my_X3_restoreImage ml_X10_424 im_X3_restoreImage se_X3_restoreImage (ci := 3) (by assumption) (by decide) ⟨_, _, rfl⟩ rfl (by omega) (by omega) (by omega) rfl (Nat.le_of_ble_eq_true rfl) dX10_back_4 ?_
  intro r9 S9 hp9
  obtain ⟨rfl, rfl⟩ := hp9
  refine a_if_ne K dX10_back_7 (tgt := 12) (by decide) (fun c_7 => absurd c_7 (by decide)) (fun c_7 => ?_)
  refine a_iconst K dX10_back_10 (v := -1) (by decide) ?_
  exact a_iret K E rfl (by omega) (by omega) dX10_back_11 ⟨rfl, rfl⟩
