/-- an answer that says whether P -/
def bR (P : Prop) (r : Option Value) : Prop := (P ∧ r = some (.int 1)) ∨ (¬ P ∧ r = some (.int 0))
theorem t_0 : (0 : Int32).toInt = 0 := by decide +kernel
theorem t_1 : (1 : Int32).toInt = 1 := by decide +kernel
theorem t_2 : (2 : Int32).toInt = 2 := by decide +kernel
theorem t_3 : (3 : Int32).toInt = 3 := by decide +kernel
theorem t_4 : (4 : Int32).toInt = 4 := by decide +kernel
theorem t_5 : (5 : Int32).toInt = 5 := by decide +kernel
theorem t_6 : (6 : Int32).toInt = 6 := by decide +kernel
theorem t_7 : (7 : Int32).toInt = 7 := by decide +kernel
theorem t_9 : (9 : Int32).toInt = 9 := by decide +kernel
theorem t_10 : (10 : Int32).toInt = 10 := by decide +kernel
theorem t_16 : (16 : Int32).toInt = 16 := by decide +kernel
theorem t_19 : (19 : Int32).toInt = 19 := by decide +kernel
theorem t_30 : (30 : Int32).toInt = 30 := by decide +kernel
theorem t_48 : (48 : Int32).toInt = 48 := by decide +kernel
theorem t_57 : (57 : Int32).toInt = 57 := by decide +kernel
theorem t_58 : (58 : Int32).toInt = 58 := by decide +kernel
theorem t_60 : (60 : Int32).toInt = 60 := by decide +kernel
theorem t_97 : (97 : Int32).toInt = 97 := by decide +kernel
theorem t_99 : (99 : Int32).toInt = 99 := by decide +kernel
theorem t_100 : (100 : Int32).toInt = 100 := by decide +kernel
theorem t_105 : (105 : Int32).toInt = 105 := by decide +kernel
theorem t_112 : (112 : Int32).toInt = 112 := by decide +kernel
theorem t_115 : (115 : Int32).toInt = 115 := by decide +kernel
theorem t_240 : (240 : Int32).toInt = 240 := by decide +kernel
theorem t_255 : (255 : Int32).toInt = 255 := by decide +kernel
theorem t_600 : (600 : Int32).toInt = 600 := by decide +kernel
theorem t_999 : (999 : Int32).toInt = 999 := by decide +kernel
theorem t_1000 : (1000 : Int32).toInt = 1000 := by decide +kernel
theorem t_m1 : (-1 : Int32).toInt = -1 := by decide +kernel
theorem t_m2 : (-2 : Int32).toInt = -2 := by decide +kernel
theorem t_m999 : (-999 : Int32).toInt = -999 := by decide +kernel
theorem t_m1000000 : (-1000000 : Int32).toInt = -1000000 := by decide +kernel
theorem t_nI {n : Nat} (h : n < 2147483648) : (nI n).toInt = n := nI_toInt (by omega)
set_option maxHeartbeats 4000000 in
set_option maxRecDepth 100000 in
theorem m_X10_isKey {S : aw_S} {k : Int32} : aw_M yX10_isKey cX10_isKey 1 (some FieldType.boolean) 0 0 0 [.int k] S (fun r S2 => S2 = S ∧ bR (0 ≤ k.toInt ∧ k.toInt < 1000) r) := by
  refine aw_enter (by decide +kernel) (Nat.le_of_ble_eq_true rfl) (fun g K E => ?_)
  refine a_iload_n K dX10_isKey_0 rfl ?_
  refine a_if_lt K dX10_isKey_1 (tgt := 15) (by decide) (fun c_1 => ?_) (fun c_1 => ?_)
  · refine a_iconst K dX10_isKey_15 (v := 0) (by decide) ?_
    exact a_iret K E rfl (by omega) (by omega) dX10_isKey_16 ⟨rfl, by first | exact Or.inl ⟨by (simp only [i32_lt, i32_le, i32_eq, t_0, t_1, t_2, t_3, t_4, t_5, t_6, t_7, t_9, t_10, t_16, t_19, t_30, t_48, t_57, t_58, t_60, t_97, t_99, t_100, t_105, t_112, t_115, t_240, t_255, t_600, t_999, t_1000, t_m1, t_m2, t_m999, t_m1000000] at c_1; omega), rfl⟩ | exact Or.inr ⟨by (simp only [i32_lt, i32_le, i32_eq, t_0, t_1, t_2, t_3, t_4, t_5, t_6, t_7, t_9, t_10, t_16, t_19, t_30, t_48, t_57, t_58, t_60, t_97, t_99, t_100, t_105, t_112, t_115, t_240, t_255, t_600, t_999, t_1000, t_m1, t_m2, t_m999, t_m1000000] at c_1; omega), rfl⟩⟩
  · refine a_iload_n K dX10_isKey_4 rfl ?_
    refine a_sipush K dX10_isKey_5 (v := 1000) (by decide) ?_
    refine a_icmp_ge K dX10_isKey_8 (tgt := 15) (by decide) (fun c_8 => ?_) (fun c_8 => ?_)
    · refine a_iconst K dX10_isKey_15 (v := 0) (by decide) ?_
      exact a_iret K E rfl (by omega) (by omega) dX10_isKey_16 ⟨rfl, by first | exact Or.inl ⟨by (simp only [i32_lt, i32_le, i32_eq, t_0, t_1, t_2, t_3, t_4, t_5, t_6, t_7, t_9, t_10, t_16, t_19, t_30, t_48, t_57, t_58, t_60, t_97, t_99, t_100, t_105, t_112, t_115, t_240, t_255, t_600, t_999, t_1000, t_m1, t_m2, t_m999, t_m1000000] at c_1 c_8; omega), rfl⟩ | exact Or.inr ⟨by (simp only [i32_lt, i32_le, i32_eq, t_0, t_1, t_2, t_3, t_4, t_5, t_6, t_7, t_9, t_10, t_16, t_19, t_30, t_48, t_57, t_58, t_60, t_97, t_99, t_100, t_105, t_112, t_115, t_240, t_255, t_600, t_999, t_1000, t_m1, t_m2, t_m999, t_m1000000] at c_1 c_8; omega), rfl⟩⟩
    · refine a_iconst K dX10_isKey_11 (v := 1) (by decide) ?_
      refine a_goto K dX10_isKey_12 (tgt := 16) (by decide) ?_
      exact a_iret K E rfl (by omega) (by omega) dX10_isKey_16 ⟨rfl, by first | exact Or.inl ⟨by (simp only [i32_lt, i32_le, i32_eq, t_0, t_1, t_2, t_3, t_4, t_5, t_6, t_7, t_9, t_10, t_16, t_19, t_30, t_48, t_57, t_58, t_60, t_97, t_99, t_100, t_105, t_112, t_115, t_240, t_255, t_600, t_999, t_1000, t_m1, t_m2, t_m999, t_m1000000] at c_1 c_8; omega), rfl⟩ | exact Or.inr ⟨by (simp only [i32_lt, i32_le, i32_eq, t_0, t_1, t_2, t_3, t_4, t_5, t_6, t_7, t_9, t_10, t_16, t_19, t_30, t_48, t_57, t_58, t_60, t_97, t_99, t_100, t_105, t_112, t_115, t_240, t_255, t_600, t_999, t_1000, t_m1, t_m2, t_m999, t_m1000000] at c_1 c_8; omega), rfl⟩⟩
set_option maxHeartbeats 4000000 in
set_option maxRecDepth 100000 in
theorem m_X10_isValue {S : aw_S} {k : Int32} : aw_M yX10_isValue cX10_isValue 1 (some FieldType.boolean) 0 0 0 [.int k] S (fun r S2 => S2 = S ∧ bR (-999 ≤ k.toInt ∧ k.toInt ≤ 999) r) := by
  refine aw_enter (by decide +kernel) (Nat.le_of_ble_eq_true rfl) (fun g K E => ?_)
  refine a_iload_n K dX10_isValue_0 rfl ?_
  refine a_sipush K dX10_isValue_1 (v := -999) (by decide) ?_
  refine a_icmp_lt K dX10_isValue_4 (tgt := 18) (by decide) (fun c_4 => ?_) (fun c_4 => ?_)
  · refine a_iconst K dX10_isValue_18 (v := 0) (by decide) ?_
    exact a_iret K E rfl (by omega) (by omega) dX10_isValue_19 ⟨rfl, by first | exact Or.inl ⟨by (simp only [i32_lt, i32_le, i32_eq, t_0, t_1, t_2, t_3, t_4, t_5, t_6, t_7, t_9, t_10, t_16, t_19, t_30, t_48, t_57, t_58, t_60, t_97, t_99, t_100, t_105, t_112, t_115, t_240, t_255, t_600, t_999, t_1000, t_m1, t_m2, t_m999, t_m1000000] at c_4; omega), rfl⟩ | exact Or.inr ⟨by (simp only [i32_lt, i32_le, i32_eq, t_0, t_1, t_2, t_3, t_4, t_5, t_6, t_7, t_9, t_10, t_16, t_19, t_30, t_48, t_57, t_58, t_60, t_97, t_99, t_100, t_105, t_112, t_115, t_240, t_255, t_600, t_999, t_1000, t_m1, t_m2, t_m999, t_m1000000] at c_4; omega), rfl⟩⟩
  · refine a_iload_n K dX10_isValue_7 rfl ?_
    refine a_sipush K dX10_isValue_8 (v := 999) (by decide) ?_
    refine a_icmp_gt K dX10_isValue_11 (tgt := 18) (by decide) (fun c_11 => ?_) (fun c_11 => ?_)
    · refine a_iconst K dX10_isValue_18 (v := 0) (by decide) ?_
      exact a_iret K E rfl (by omega) (by omega) dX10_isValue_19 ⟨rfl, by first | exact Or.inl ⟨by (simp only [i32_lt, i32_le, i32_eq, t_0, t_1, t_2, t_3, t_4, t_5, t_6, t_7, t_9, t_10, t_16, t_19, t_30, t_48, t_57, t_58, t_60, t_97, t_99, t_100, t_105, t_112, t_115, t_240, t_255, t_600, t_999, t_1000, t_m1, t_m2, t_m999, t_m1000000] at c_4 c_11; omega), rfl⟩ | exact Or.inr ⟨by (simp only [i32_lt, i32_le, i32_eq, t_0, t_1, t_2, t_3, t_4, t_5, t_6, t_7, t_9, t_10, t_16, t_19, t_30, t_48, t_57, t_58, t_60, t_97, t_99, t_100, t_105, t_112, t_115, t_240, t_255, t_600, t_999, t_1000, t_m1, t_m2, t_m999, t_m1000000] at c_4 c_11; omega), rfl⟩⟩
    · refine a_iconst K dX10_isValue_14 (v := 1) (by decide) ?_
      refine a_goto K dX10_isValue_15 (tgt := 19) (by decide) ?_
      exact a_iret K E rfl (by omega) (by omega) dX10_isValue_19 ⟨rfl, by first | exact Or.inl ⟨by (simp only [i32_lt, i32_le, i32_eq, t_0, t_1, t_2, t_3, t_4, t_5, t_6, t_7, t_9, t_10, t_16, t_19, t_30, t_48, t_57, t_58, t_60, t_97, t_99, t_100, t_105, t_112, t_115, t_240, t_255, t_600, t_999, t_1000, t_m1, t_m2, t_m999, t_m1000000] at c_4 c_11; omega), rfl⟩ | exact Or.inr ⟨by (simp only [i32_lt, i32_le, i32_eq, t_0, t_1, t_2, t_3, t_4, t_5, t_6, t_7, t_9, t_10, t_16, t_19, t_30, t_48, t_57, t_58, t_60, t_97, t_99, t_100, t_105, t_112, t_115, t_240, t_255, t_600, t_999, t_1000, t_m1, t_m2, t_m999, t_m1000000] at c_4 c_11; omega), rfl⟩⟩
set_option maxHeartbeats 4000000 in
set_option maxRecDepth 100000 in
theorem m_X6_isDigit {S : aw_S} {k : Int32} : aw_M yX6_isDigit cX6_isDigit 1 (some FieldType.boolean) 0 0 0 [.int k] S (fun r S2 => S2 = S ∧ bR (48 ≤ k.toInt ∧ k.toInt ≤ 57) r) := by
  refine aw_enter (by decide +kernel) (Nat.le_of_ble_eq_true rfl) (fun g K E => ?_)
  refine a_iload_n K dX6_isDigit_0 rfl ?_
  refine a_bipush K dX6_isDigit_1 (v := 48) (by decide) ?_
  refine a_icmp_lt K dX6_isDigit_3 (tgt := 16) (by decide) (fun c_3 => ?_) (fun c_3 => ?_)
  · refine a_iconst K dX6_isDigit_16 (v := 0) (by decide) ?_
    exact a_iret K E rfl (by omega) (by omega) dX6_isDigit_17 ⟨rfl, by first | exact Or.inl ⟨by (simp only [i32_lt, i32_le, i32_eq, t_0, t_1, t_2, t_3, t_4, t_5, t_6, t_7, t_9, t_10, t_16, t_19, t_30, t_48, t_57, t_58, t_60, t_97, t_99, t_100, t_105, t_112, t_115, t_240, t_255, t_600, t_999, t_1000, t_m1, t_m2, t_m999, t_m1000000] at c_3; omega), rfl⟩ | exact Or.inr ⟨by (simp only [i32_lt, i32_le, i32_eq, t_0, t_1, t_2, t_3, t_4, t_5, t_6, t_7, t_9, t_10, t_16, t_19, t_30, t_48, t_57, t_58, t_60, t_97, t_99, t_100, t_105, t_112, t_115, t_240, t_255, t_600, t_999, t_1000, t_m1, t_m2, t_m999, t_m1000000] at c_3; omega), rfl⟩⟩
  · refine a_iload_n K dX6_isDigit_6 rfl ?_
    refine a_bipush K dX6_isDigit_7 (v := 57) (by decide) ?_
    refine a_icmp_gt K dX6_isDigit_9 (tgt := 16) (by decide) (fun c_9 => ?_) (fun c_9 => ?_)
    · refine a_iconst K dX6_isDigit_16 (v := 0) (by decide) ?_
      exact a_iret K E rfl (by omega) (by omega) dX6_isDigit_17 ⟨rfl, by first | exact Or.inl ⟨by (simp only [i32_lt, i32_le, i32_eq, t_0, t_1, t_2, t_3, t_4, t_5, t_6, t_7, t_9, t_10, t_16, t_19, t_30, t_48, t_57, t_58, t_60, t_97, t_99, t_100, t_105, t_112, t_115, t_240, t_255, t_600, t_999, t_1000, t_m1, t_m2, t_m999, t_m1000000] at c_3 c_9; omega), rfl⟩ | exact Or.inr ⟨by (simp only [i32_lt, i32_le, i32_eq, t_0, t_1, t_2, t_3, t_4, t_5, t_6, t_7, t_9, t_10, t_16, t_19, t_30, t_48, t_57, t_58, t_60, t_97, t_99, t_100, t_105, t_112, t_115, t_240, t_255, t_600, t_999, t_1000, t_m1, t_m2, t_m999, t_m1000000] at c_3 c_9; omega), rfl⟩⟩
    · refine a_iconst K dX6_isDigit_12 (v := 1) (by decide) ?_
      refine a_goto K dX6_isDigit_13 (tgt := 17) (by decide) ?_
      exact a_iret K E rfl (by omega) (by omega) dX6_isDigit_17 ⟨rfl, by first | exact Or.inl ⟨by (simp only [i32_lt, i32_le, i32_eq, t_0, t_1, t_2, t_3, t_4, t_5, t_6, t_7, t_9, t_10, t_16, t_19, t_30, t_48, t_57, t_58, t_60, t_97, t_99, t_100, t_105, t_112, t_115, t_240, t_255, t_600, t_999, t_1000, t_m1, t_m2, t_m999, t_m1000000] at c_3 c_9; omega), rfl⟩ | exact Or.inr ⟨by (simp only [i32_lt, i32_le, i32_eq, t_0, t_1, t_2, t_3, t_4, t_5, t_6, t_7, t_9, t_10, t_16, t_19, t_30, t_48, t_57, t_58, t_60, t_97, t_99, t_100, t_105, t_112, t_115, t_240, t_255, t_600, t_999, t_1000, t_m1, t_m2, t_m999, t_m1000000] at c_3 c_9; omega), rfl⟩⟩
set_option maxHeartbeats 4000000 in
set_option maxRecDepth 100000 in
theorem m_X10_stirred {S : aw_S} {x : Int64} : aw_M yX10_stirred cX10_stirred 2 (some FieldType.long) 0 0 0 [.long x] S (fun r S2 => S2 = S ∧ r = some (.long (x * 6364136223846793005 + 1442695040888963407))) := by
  refine aw_enter (by decide +kernel) (Nat.le_of_ble_eq_true rfl) (fun g K E => ?_)
  refine a_lload_n K dX10_stirred_0 rfl ?_
  refine a_ldc2 K kc_X10_376 dX10_stirred_1 ?_
  refine a_lmul K dX10_stirred_4 ?_
  refine a_ldc2 K kc_X10_378 dX10_stirred_5 ?_
  refine a_ladd K dX10_stirred_8 ?_
  exact a_lret K E (by omega) (by omega) dX10_stirred_9 ⟨rfl, rfl⟩
set_option maxHeartbeats 4000000 in
set_option maxRecDepth 100000 in
theorem m_X10_status {S : aw_S} {x ra : Nat} {i : Int32} (o : aw_is S x 10) (hr : sR S 648 x = some ra) (or : aw_is S ra 13) (hN : sN S ra = 5) : aw_M yX10_status cX10_status 2 (some FieldType.int) 0 0 0 [.ref x, .int i] S (fun r S2 => S2 = S ∧ r = some (.int (at0 (sA S ra) 5 (-1) i))) := by
  refine aw_enter (by decide +kernel) (Nat.le_of_ble_eq_true rfl) (fun g K E => ?_)
  refine a_iload_n K dX10_status_0 rfl ?_
  refine a_if_lt K dX10_status_1 (tgt := 22) (by decide) (fun c_1 => ?_) (fun c_1 => ?_)
  · refine a_iconst K dX10_status_22 (v := -1) (by decide) ?_
    exact a_iret K E rfl (by omega) (by omega) dX10_status_23 ⟨rfl, by first | rw [at0_neg c_1] | rw [at0_big (by omega) c_10] | rw [nI_clamp (by omega), at0_in hj (by omega)]⟩
  · refine a_iload_n K dX10_status_4 rfl ?_
    first | refine a_aload_n K dX10_status_5 rfl ?_ | refine a_aload_nN K dX10_status_5 rfl ?_
    refine a_getRs K fd_X10_57 (by assumption) (Or.inr ⟨_, rfl⟩) (by assumption) dX10_status_6 ?_
    refine a_alen K (v := nI 5) or (by decide) (by decide) (by rw [hN]; rfl) dX10_status_9 ?_
    refine a_icmp_ge K dX10_status_10 (tgt := 22) (by decide) (fun c_10 => ?_) (fun c_10 => ?_)
    · refine a_iconst K dX10_status_22 (v := -1) (by decide) ?_
      exact a_iret K E rfl (by omega) (by omega) dX10_status_23 ⟨rfl, by first | rw [at0_neg c_1] | rw [at0_big (by omega) c_10] | rw [nI_clamp (by omega), at0_in hj (by omega)]⟩
    · obtain ⟨j, hj, rfl⟩ := ix_of (n := 5) (by omega) c_1 (Int32.not_le.mp c_10)
      first | refine a_aload_n K dX10_status_13 rfl ?_ | refine a_aload_nN K dX10_status_13 rfl ?_
      refine a_getRs K fd_X10_57 (by assumption) (Or.inr ⟨_, rfl⟩) (by assumption) dX10_status_14 ?_
      refine a_iload_n K dX10_status_17 rfl ?_
      refine a_iald K (by assumption) (by rw [hN]; exact vp_in_nI hj (by omega)) dX10_status_18 ?_
      refine a_goto K dX10_status_19 (tgt := 23) (by decide) ?_
      exact a_iret K E rfl (by omega) (by omega) dX10_status_23 ⟨rfl, by first | rw [at0_neg c_1] | rw [at0_big (by omega) c_10] | rw [nI_clamp (by omega), at0_in hj (by omega)]⟩
set_option maxHeartbeats 4000000 in
set_option maxRecDepth 100000 in
theorem m_X10_refused {S : aw_S} {x ra : Nat} {j : Nat} (o : aw_is S x 10) (hr : sR S 648 x = some ra) (or : aw_is S ra 13) (hN : sN S ra = 5) (hj : j < 5) : aw_M yX10_refused cX10_refused 2 (some FieldType.int) 0 0 0 [.ref x, .int (nI j)] S (fun r S2 => r = some (.int (-1)) ∧ S2 = wA S ra j (sA S ra j + 1)) := by
  refine aw_enter (by decide +kernel) (Nat.le_of_ble_eq_true rfl) (fun g K E => ?_)
  refine a_iload_n K dX10_refused_0 rfl ?_
  refine a_if_lt K dX10_refused_1 (tgt := 23) (by decide) (fun c_1 => absurd c_1 (nI_pos (show j < 2 ^ 31 by omega))) (fun c_1 => ?_)
  refine a_iload_n K dX10_refused_4 rfl ?_
  first | refine a_aload_n K dX10_refused_5 rfl ?_ | refine a_aload_nN K dX10_refused_5 rfl ?_
  refine a_getRs K fd_X10_57 (by assumption) (Or.inr ⟨_, rfl⟩) (by assumption) dX10_refused_6 ?_
  refine a_alen K (v := nI 5) or (by decide) (by decide) (by rw [hN]; rfl) dX10_refused_9 ?_
  refine a_icmp_ge K dX10_refused_10 (tgt := 23) (by decide) (fun c_10 => absurd c_10 (nI_ge hj (by omega))) (fun c_10 => ?_)
  first | refine a_aload_n K dX10_refused_13 rfl ?_ | refine a_aload_nN K dX10_refused_13 rfl ?_
  refine a_getRs K fd_X10_57 (by assumption) (Or.inr ⟨_, rfl⟩) (by assumption) dX10_refused_14 ?_
  refine a_iload_n K dX10_refused_17 rfl ?_
  refine a_dup2 K dX10_refused_18 rfl rfl ?_
  refine a_iald K (by assumption) (by rw [hN]; exact vp_in_nI hj (by omega)) dX10_refused_19 ?_
  refine a_iconst K dX10_refused_20 (v := 1) (by decide) ?_
  refine a_iadd K dX10_refused_21 ?_
  refine a_iast K (by assumption) (by rw [hN]; exact vp_in_nI hj (by omega)) dX10_refused_22 ?_
  refine a_iconst K dX10_refused_23 (v := -1) (by decide) ?_
  exact a_iret K E rfl (by omega) (by omega) dX10_refused_24 ⟨rfl, by rw [nI_clamp (by omega)]⟩
set_option maxHeartbeats 4000000 in
set_option maxRecDepth 100000 in
theorem m_X10_builderAt {S : aw_S} {x ba : Nat} {i : Int32} (o : aw_is S x 10) (hr : sR S 647 x = some ba) (or : aw_is S ba 15) (hN : sN S ba = 4) : aw_M yX10_builderAt cX10_builderAt 2 (some (FieldType.object "WideMap$Builder")) 0 0 0 [.ref x, .int i] S (fun r S2 => S2 = S ∧ r = some (va_rf (atR (sQ S ba) 4 i))) := by
  refine aw_enter (by decide +kernel) (Nat.le_of_ble_eq_true rfl) (fun g K E => ?_)
  refine a_iload_n K dX10_builderAt_0 rfl ?_
  refine a_if_lt K dX10_builderAt_1 (tgt := 22) (by decide) (fun c_1 => ?_) (fun c_1 => ?_)
  · refine a_null K dX10_builderAt_22 ?_
    exact a_aret K E (Or.inl ⟨_, rfl⟩) (by first | exact Or.inl rfl | exact va_rf_or _) (by omega) (by omega) dX10_builderAt_23 ⟨rfl, by first | (rw [atR_neg c_1]; rfl) | (rw [atR_big (by omega) c_10]; rfl) | rw [nI_clamp (by omega), atR_in hj (by omega)]⟩
  · refine a_iload_n K dX10_builderAt_4 rfl ?_
    first | refine a_aload_n K dX10_builderAt_5 rfl ?_ | refine a_aload_nN K dX10_builderAt_5 rfl ?_
    refine a_getRs K fd_X10_52 (by assumption) (Or.inr ⟨_, rfl⟩) (by assumption) dX10_builderAt_6 ?_
    refine a_alen K (v := nI 4) or (by decide) (by decide) (by rw [hN]; rfl) dX10_builderAt_9 ?_
    refine a_icmp_ge K dX10_builderAt_10 (tgt := 22) (by decide) (fun c_10 => ?_) (fun c_10 => ?_)
    · refine a_null K dX10_builderAt_22 ?_
      exact a_aret K E (Or.inl ⟨_, rfl⟩) (by first | exact Or.inl rfl | exact va_rf_or _) (by omega) (by omega) dX10_builderAt_23 ⟨rfl, by first | (rw [atR_neg c_1]; rfl) | (rw [atR_big (by omega) c_10]; rfl) | rw [nI_clamp (by omega), atR_in hj (by omega)]⟩
    · obtain ⟨j, hj, rfl⟩ := ix_of (n := 4) (by omega) c_1 (Int32.not_le.mp c_10)
      first | refine a_aload_n K dX10_builderAt_13 rfl ?_ | refine a_aload_nN K dX10_builderAt_13 rfl ?_
      refine a_getRs K fd_X10_52 (by assumption) (Or.inr ⟨_, rfl⟩) (by assumption) dX10_builderAt_14 ?_
      refine a_iload_n K dX10_builderAt_17 rfl ?_
      refine a_aaldB K (by assumption) (by rw [hN]; exact vp_in_nI hj (by omega)) dX10_builderAt_18 ?_
      refine a_goto K dX10_builderAt_19 (tgt := 23) (by decide) ?_
      exact a_aret K E (Or.inl ⟨_, rfl⟩) (by first | exact Or.inl rfl | exact va_rf_or _) (by omega) (by omega) dX10_builderAt_23 ⟨rfl, by first | (rw [atR_neg c_1]; rfl) | (rw [atR_big (by omega) c_10]; rfl) | rw [nI_clamp (by omega), atR_in hj (by omega)]⟩
set_option maxHeartbeats 4000000 in
set_option maxRecDepth 100000 in
theorem m_X10_programAt {S : aw_S} {x ba : Nat} {i : Int32} (o : aw_is S x 10) (hr : sR S 642 x = some ba) (or : aw_is S ba 17) (hN : sN S ba = 4) : aw_M yX10_programAt cX10_programAt 2 (some (FieldType.object "WideMap$Program")) 0 0 0 [.ref x, .int i] S (fun r S2 => S2 = S ∧ r = some (va_rf (atR (sQ S ba) 4 i))) := by
  refine aw_enter (by decide +kernel) (Nat.le_of_ble_eq_true rfl) (fun g K E => ?_)
  refine a_iload_n K dX10_programAt_0 rfl ?_
  refine a_if_lt K dX10_programAt_1 (tgt := 22) (by decide) (fun c_1 => ?_) (fun c_1 => ?_)
  · refine a_null K dX10_programAt_22 ?_
    exact a_aret K E (Or.inl ⟨_, rfl⟩) (by first | exact Or.inl rfl | exact va_rf_or _) (by omega) (by omega) dX10_programAt_23 ⟨rfl, by first | (rw [atR_neg c_1]; rfl) | (rw [atR_big (by omega) c_10]; rfl) | rw [nI_clamp (by omega), atR_in hj (by omega)]⟩
  · refine a_iload_n K dX10_programAt_4 rfl ?_
    first | refine a_aload_n K dX10_programAt_5 rfl ?_ | refine a_aload_nN K dX10_programAt_5 rfl ?_
    refine a_getRs K fd_X10_27 (by assumption) (Or.inr ⟨_, rfl⟩) (by assumption) dX10_programAt_6 ?_
    refine a_alen K (v := nI 4) or (by decide) (by decide) (by rw [hN]; rfl) dX10_programAt_9 ?_
    refine a_icmp_ge K dX10_programAt_10 (tgt := 22) (by decide) (fun c_10 => ?_) (fun c_10 => ?_)
    · refine a_null K dX10_programAt_22 ?_
      exact a_aret K E (Or.inl ⟨_, rfl⟩) (by first | exact Or.inl rfl | exact va_rf_or _) (by omega) (by omega) dX10_programAt_23 ⟨rfl, by first | (rw [atR_neg c_1]; rfl) | (rw [atR_big (by omega) c_10]; rfl) | rw [nI_clamp (by omega), atR_in hj (by omega)]⟩
    · obtain ⟨j, hj, rfl⟩ := ix_of (n := 4) (by omega) c_1 (Int32.not_le.mp c_10)
      first | refine a_aload_n K dX10_programAt_13 rfl ?_ | refine a_aload_nN K dX10_programAt_13 rfl ?_
      refine a_getRs K fd_X10_27 (by assumption) (Or.inr ⟨_, rfl⟩) (by assumption) dX10_programAt_14 ?_
      refine a_iload_n K dX10_programAt_17 rfl ?_
      refine a_aaldP K (by assumption) (by rw [hN]; exact vp_in_nI hj (by omega)) dX10_programAt_18 ?_
      refine a_goto K dX10_programAt_19 (tgt := 23) (by decide) ?_
      exact a_aret K E (Or.inl ⟨_, rfl⟩) (by first | exact Or.inl rfl | exact va_rf_or _) (by omega) (by omega) dX10_programAt_23 ⟨rfl, by first | (rw [atR_neg c_1]; rfl) | (rw [atR_big (by omega) c_10]; rfl) | rw [nI_clamp (by omega), atR_in hj (by omega)]⟩
set_option maxHeartbeats 4000000 in
set_option maxRecDepth 100000 in
theorem m_X1_newToken {S : aw_S} {a : Nat} (o : aw_is S a 1) : aw_M yX1_newToken cX1_newToken 1 (some FieldType.int) 0 0 0 [.ref a] S (fun r S2 => r = some (.int (sI S 66 a)) ∧ S2 = wI S 66 a (sI S 66 a + 1)) := by
  refine aw_enter (by decide +kernel) (Nat.le_of_ble_eq_true rfl) (fun g K E => ?_)
  first | refine a_aload_n K dX1_newToken_0 rfl ?_ | refine a_aload_nN K dX1_newToken_0 rfl ?_
  refine a_dup K dX1_newToken_1 rfl ?_
  refine a_getI K fd_X1_18 (by assumption) (Or.inl rfl) dX1_newToken_2 ?_
  refine a_dup_x1 K dX1_newToken_5 rfl rfl ?_
  refine a_iconst K dX1_newToken_6 (v := 1) (by decide) ?_
  refine a_iadd K dX1_newToken_7 ?_
  refine a_putI K fd_X1_18 (by assumption) rfl dX1_newToken_8 ?_
  exact a_iret K E rfl (by omega) (by omega) dX1_newToken_11 ⟨rfl, rfl⟩
set_option maxHeartbeats 4000000 in
set_option maxRecDepth 100000 in
theorem m_X1_open {S : aw_S} {a : Nat} {w : Int32} (o : aw_is S a 1) : aw_M yX1_open cX1_open 2 (none : Option FieldType) 0 0 0 [.ref a, .int w] S (fun r S2 => r = none ∧ S2 = wI (wI S 64 a w) 65 a 0) := by
  refine aw_enter (by decide +kernel) (Nat.le_of_ble_eq_true rfl) (fun g K E => ?_)
  first | refine a_aload_n K dX1_open_0 rfl ?_ | refine a_aload_nN K dX1_open_0 rfl ?_
  refine a_iload_n K dX1_open_1 rfl ?_
  refine a_putI K fd_X1_9 (by assumption) rfl dX1_open_2 ?_
  first | refine a_aload_n K dX1_open_5 rfl ?_ | refine a_aload_nN K dX1_open_5 rfl ?_
  refine a_iconst K dX1_open_6 (v := 0) (by decide) ?_
  refine a_putI K fd_X1_15 (by assumption) rfl dX1_open_7 ?_
  exact a_vret K E (by omega) (by omega) dX1_open_10 ⟨rfl, rfl⟩
set_option maxHeartbeats 4000000 in
set_option maxRecDepth 100000 in
theorem m_X1_least {S : aw_S} {a : Nat} {w : Nat} (o : aw_is S a 1) (hw : sI S 64 a = nI w) (hb : w < 1000) : aw_M yX1_least cX1_least 1 (some FieldType.int) 0 0 0 [.ref a] S (fun r S2 => r = some (.int (nI ((w + 1) / 2))) ∧ S2 = S) := by
  refine aw_enter (by decide +kernel) (Nat.le_of_ble_eq_true rfl) (fun g K E => ?_)
  first | refine a_aload_n K dX1_least_0 rfl ?_ | refine a_aload_nN K dX1_least_0 rfl ?_
  refine a_getI K fd_X1_9 (by assumption) (Or.inl rfl) dX1_least_1 ?_
  refine a_iconst K dX1_least_4 (v := 1) (by decide) ?_
  refine a_iadd K dX1_least_5 ?_
  refine a_iconst K dX1_least_6 (v := 2) (by decide) ?_
  refine a_idiv K dX1_least_7 (by decide) ?_
  exact a_iret K E rfl (by omega) (by omega) dX1_least_8 ⟨by rw [hw, nI_1, show (2 : Int32) = nI 2 from by decide, pk_div (by omega) (by omega) (by omega)], rfl⟩
set_option maxHeartbeats 4000000 in
set_option maxRecDepth 100000 in
theorem m_X3_hasRoom {S : aw_S} {a hc gv : Nat} (o : aw_is S a 3) (h1 : sI S 200 a = nI hc) (h2 : sI S 199 a = nI gv) (b1 : hc < 1000000) (b2 : gv < 1000000) : aw_M yX3_hasRoom cX3_hasRoom 1 (some FieldType.boolean) 0 0 0 [.ref a] S (fun r S2 => S2 = S ∧ bR (hc < 16 ∧ gv < 999) r) := by
  refine aw_enter (by decide +kernel) (Nat.le_of_ble_eq_true rfl) (fun g K E => ?_)
  first | refine a_aload_n K dX3_hasRoom_0 rfl ?_ | refine a_aload_nN K dX3_hasRoom_0 rfl ?_
  refine a_getI K fd_X3_42 (by assumption) (Or.inl rfl) dX3_hasRoom_1 ?_
  refine a_bipush K dX3_hasRoom_4 (v := 16) (by decide) ?_
  refine a_icmp_ge K dX3_hasRoom_6 (tgt := 23) (by decide) (fun c_6 => ?_) (fun c_6 => ?_)
  · rw [h1] at c_6
    refine a_iconst K dX3_hasRoom_23 (v := 0) (by decide) ?_
    exact a_iret K E rfl (by omega) (by omega) dX3_hasRoom_24 ⟨rfl, by first | exact Or.inl ⟨by (simp only [i32_lt, i32_le, i32_eq, t_0, t_1, t_2, t_3, t_4, t_5, t_6, t_7, t_9, t_10, t_16, t_19, t_30, t_48, t_57, t_58, t_60, t_97, t_99, t_100, t_105, t_112, t_115, t_240, t_255, t_600, t_999, t_1000, t_m1, t_m2, t_m999, t_m1000000] at c_6; simp only [t_nI (show hc < 2147483648 by omega), t_nI (show gv < 2147483648 by omega)] at c_6; omega), rfl⟩ | exact Or.inr ⟨by (simp only [i32_lt, i32_le, i32_eq, t_0, t_1, t_2, t_3, t_4, t_5, t_6, t_7, t_9, t_10, t_16, t_19, t_30, t_48, t_57, t_58, t_60, t_97, t_99, t_100, t_105, t_112, t_115, t_240, t_255, t_600, t_999, t_1000, t_m1, t_m2, t_m999, t_m1000000] at c_6; simp only [t_nI (show hc < 2147483648 by omega), t_nI (show gv < 2147483648 by omega)] at c_6; omega), rfl⟩⟩
  · rw [h1] at c_6
    first | refine a_aload_n K dX3_hasRoom_9 rfl ?_ | refine a_aload_nN K dX3_hasRoom_9 rfl ?_
    refine a_getI K fd_X3_38 (by assumption) (Or.inl rfl) dX3_hasRoom_10 ?_
    refine a_sipush K dX3_hasRoom_13 (v := 999) (by decide) ?_
    refine a_icmp_ge K dX3_hasRoom_16 (tgt := 23) (by decide) (fun c_16 => ?_) (fun c_16 => ?_)
    · rw [h2] at c_16
      refine a_iconst K dX3_hasRoom_23 (v := 0) (by decide) ?_
      exact a_iret K E rfl (by omega) (by omega) dX3_hasRoom_24 ⟨rfl, by first | exact Or.inl ⟨by (simp only [i32_lt, i32_le, i32_eq, t_0, t_1, t_2, t_3, t_4, t_5, t_6, t_7, t_9, t_10, t_16, t_19, t_30, t_48, t_57, t_58, t_60, t_97, t_99, t_100, t_105, t_112, t_115, t_240, t_255, t_600, t_999, t_1000, t_m1, t_m2, t_m999, t_m1000000] at c_6 c_16; simp only [t_nI (show hc < 2147483648 by omega), t_nI (show gv < 2147483648 by omega)] at c_6 c_16; omega), rfl⟩ | exact Or.inr ⟨by (simp only [i32_lt, i32_le, i32_eq, t_0, t_1, t_2, t_3, t_4, t_5, t_6, t_7, t_9, t_10, t_16, t_19, t_30, t_48, t_57, t_58, t_60, t_97, t_99, t_100, t_105, t_112, t_115, t_240, t_255, t_600, t_999, t_1000, t_m1, t_m2, t_m999, t_m1000000] at c_6 c_16; simp only [t_nI (show hc < 2147483648 by omega), t_nI (show gv < 2147483648 by omega)] at c_6 c_16; omega), rfl⟩⟩
    · rw [h2] at c_16
      refine a_iconst K dX3_hasRoom_19 (v := 1) (by decide) ?_
      refine a_goto K dX3_hasRoom_20 (tgt := 24) (by decide) ?_
      exact a_iret K E rfl (by omega) (by omega) dX3_hasRoom_24 ⟨rfl, by first | exact Or.inl ⟨by (simp only [i32_lt, i32_le, i32_eq, t_0, t_1, t_2, t_3, t_4, t_5, t_6, t_7, t_9, t_10, t_16, t_19, t_30, t_48, t_57, t_58, t_60, t_97, t_99, t_100, t_105, t_112, t_115, t_240, t_255, t_600, t_999, t_1000, t_m1, t_m2, t_m999, t_m1000000] at c_6 c_16; simp only [t_nI (show hc < 2147483648 by omega), t_nI (show gv < 2147483648 by omega)] at c_6 c_16; omega), rfl⟩ | exact Or.inr ⟨by (simp only [i32_lt, i32_le, i32_eq, t_0, t_1, t_2, t_3, t_4, t_5, t_6, t_7, t_9, t_10, t_16, t_19, t_30, t_48, t_57, t_58, t_60, t_97, t_99, t_100, t_105, t_112, t_115, t_240, t_255, t_600, t_999, t_1000, t_m1, t_m2, t_m999, t_m1000000] at c_6 c_16; simp only [t_nI (show hc < 2147483648 by omega), t_nI (show gv < 2147483648 by omega)] at c_6 c_16; omega), rfl⟩⟩
/-- the root that is held under a number -/
def hRoot (gv : Nat) (held : Nat → Int32) (roots : Nat → Option Nat) (i : Int32) : Option Nat := if 0 ≤ i.toInt ∧ i.toInt < gv then (if held i.toNatClampNeg = 0 then none else roots i.toNatClampNeg) else none
theorem hRoot_neg {gv : Nat} {held : Nat → Int32} {roots : Nat → Option Nat} {i : Int32} (h : i < 0) : hRoot gv held roots i = none := by
  unfold hRoot
  rw [if_neg (fun z => by have := i32_lt.mp h; rw [t_0] at this; omega)]
theorem hRoot_big {gv : Nat} {held : Nat → Int32} {roots : Nat → Option Nat} {i : Int32} (hn : gv < 2 ^ 31) (h : nI gv ≤ i) : hRoot gv held roots i = none := by
  unfold hRoot
  rw [if_neg (fun z => by have := i32_le.mp h; rw [nI_toInt hn] at this; omega)]
theorem hRoot_in {gv : Nat} {held : Nat → Int32} {roots : Nat → Option Nat} {j : Nat} (h : j < gv) (hn : gv < 2 ^ 31) : hRoot gv held roots (nI j) = if held j = 0 then none else roots j := by
  unfold hRoot
  rw [nI_toInt (by omega), nI_clamp (by omega), if_pos (by omega)]
theorem hRoot_0 {held : Nat → Int32} {roots : Nat → Option Nat} {i : Int32} : hRoot 0 held roots i = none := by
  unfold hRoot
  rw [if_neg (by omega)]
set_option maxHeartbeats 4000000 in
set_option maxRecDepth 100000 in
theorem m_X3_heldRoot {S : aw_S} {a ra ha gv : Nat} {i : Int32} (o : aw_is S a 3) (hr : sR S 192 a = some ra) (or : aw_is S ra 16) (hN : sN S ra = 999) (hh : sR S 195 a = some ha) (oh : aw_is S ha 14) (hN2 : sN S ha = 999) (hg : sI S 199 a = nI gv) (hb : gv ≤ 999) : aw_M yX3_heldRoot cX3_heldRoot 2 (some (FieldType.object "WideMap$Node")) 0 0 0 [.ref a, .int i] S (fun r S2 => S2 = S ∧ r = some (va_rf (hRoot gv (sA S ha) (sQ S ra) i))) := by
  refine aw_enter (by decide +kernel) (Nat.le_of_ble_eq_true rfl) (fun g K E => ?_)
  refine a_iload_n K dX3_heldRoot_0 rfl ?_
  refine a_if_lt K dX3_heldRoot_1 (tgt := 37) (by decide) (fun c_1 => ?_) (fun c_1 => ?_)
  · refine a_null K dX3_heldRoot_37 ?_
    exact a_aret K E (Or.inl ⟨_, rfl⟩) (by first | exact Or.inl rfl | exact va_rf_or _) (by omega) (by omega) dX3_heldRoot_38 ⟨rfl, by first | (rw [hRoot_neg c_1]; rfl) | (rw [hRoot_big (by omega) (by rw [← hg]; exact c_9)]; rfl) | (rw [nI_clamp (by omega)] at c_25; rw [hRoot_in hj (by omega), if_pos c_25]; rfl) | (rw [nI_clamp (by omega)] at c_25; rw [nI_clamp (by omega), hRoot_in hj (by omega), if_neg c_25])⟩
  · refine a_iload_n K dX3_heldRoot_4 rfl ?_
    first | refine a_aload_n K dX3_heldRoot_5 rfl ?_ | refine a_aload_nN K dX3_heldRoot_5 rfl ?_
    refine a_getI K fd_X3_38 (by assumption) (Or.inl rfl) dX3_heldRoot_6 ?_
    refine a_icmp_ge K dX3_heldRoot_9 (tgt := 37) (by decide) (fun c_9 => ?_) (fun c_9 => ?_)
    · refine a_null K dX3_heldRoot_37 ?_
      exact a_aret K E (Or.inl ⟨_, rfl⟩) (by first | exact Or.inl rfl | exact va_rf_or _) (by omega) (by omega) dX3_heldRoot_38 ⟨rfl, by first | (rw [hRoot_neg c_1]; rfl) | (rw [hRoot_big (by omega) (by rw [← hg]; exact c_9)]; rfl) | (rw [nI_clamp (by omega)] at c_25; rw [hRoot_in hj (by omega), if_pos c_25]; rfl) | (rw [nI_clamp (by omega)] at c_25; rw [nI_clamp (by omega), hRoot_in hj (by omega), if_neg c_25])⟩
    · obtain ⟨j, hj, rfl⟩ := ix_of (n := gv) (by omega) c_1 (by rw [← hg]; exact Int32.not_le.mp c_9)
      refine a_iload_n K dX3_heldRoot_12 rfl ?_
      refine a_sipush K dX3_heldRoot_13 (v := 999) (by decide) ?_
      refine a_icmp_ge K dX3_heldRoot_16 (tgt := 37) (by decide) (fun c_16 => absurd c_16 (nI_ge (a := j) (b := 999) (by omega) (by omega))) (fun c_16 => ?_)
      first | refine a_aload_n K dX3_heldRoot_19 rfl ?_ | refine a_aload_nN K dX3_heldRoot_19 rfl ?_
      refine a_getRs K fd_X3_24 (by assumption) (Or.inr ⟨_, rfl⟩) (by assumption) dX3_heldRoot_20 ?_
      refine a_iload_n K dX3_heldRoot_23 rfl ?_
      refine a_zald K (by assumption) (by rw [hN2]; exact vp_in_nI (by omega) (by omega)) dX3_heldRoot_24 ?_
      refine a_if_eq K dX3_heldRoot_25 (tgt := 37) (by decide) (fun c_25 => ?_) (fun c_25 => ?_)
      · refine a_null K dX3_heldRoot_37 ?_
        exact a_aret K E (Or.inl ⟨_, rfl⟩) (by first | exact Or.inl rfl | exact va_rf_or _) (by omega) (by omega) dX3_heldRoot_38 ⟨rfl, by first | (rw [hRoot_neg c_1]; rfl) | (rw [hRoot_big (by omega) (by rw [← hg]; exact c_9)]; rfl) | (rw [nI_clamp (by omega)] at c_25; rw [hRoot_in hj (by omega), if_pos c_25]; rfl) | (rw [nI_clamp (by omega)] at c_25; rw [nI_clamp (by omega), hRoot_in hj (by omega), if_neg c_25])⟩
      · first | refine a_aload_n K dX3_heldRoot_28 rfl ?_ | refine a_aload_nN K dX3_heldRoot_28 rfl ?_
        refine a_getRs K fd_X3_11 (by assumption) (Or.inr ⟨_, rfl⟩) (by assumption) dX3_heldRoot_29 ?_
        refine a_iload_n K dX3_heldRoot_32 rfl ?_
        refine a_aaldN K (by assumption) (by rw [hN]; exact vp_in_nI (by omega) (by omega)) dX3_heldRoot_33 ?_
        refine a_goto K dX3_heldRoot_34 (tgt := 38) (by decide) ?_
        exact a_aret K E (Or.inl ⟨_, rfl⟩) (by first | exact Or.inl rfl | exact va_rf_or _) (by omega) (by omega) dX3_heldRoot_38 ⟨rfl, by first | (rw [hRoot_neg c_1]; rfl) | (rw [hRoot_big (by omega) (by rw [← hg]; exact c_9)]; rfl) | (rw [nI_clamp (by omega)] at c_25; rw [hRoot_in hj (by omega), if_pos c_25]; rfl) | (rw [nI_clamp (by omega)] at c_25; rw [nI_clamp (by omega), hRoot_in hj (by omega), if_neg c_25])⟩
set_option maxHeartbeats 4000000 in
set_option maxRecDepth 100000 in
theorem m_X3_oneOf {S : aw_S} {a ra gv : Nat} {i : Int32} (o : aw_is S a 3) (hr : sR S 193 a = some ra) (or : aw_is S ra 13) (hN : sN S ra = 999) (hg : sI S 199 a = nI gv) (hb : gv ≤ 999) : aw_M yX3_oneOf cX3_oneOf 2 (some FieldType.int) 0 0 0 [.ref a, .int i] S (fun r S2 => S2 = S ∧ r = some (.int (at0 (sA S ra) gv (-1) i))) := by
  refine aw_enter (by decide +kernel) (Nat.le_of_ble_eq_true rfl) (fun g K E => ?_)
  refine a_iload_n K dX3_oneOf_0 rfl ?_
  refine a_if_lt K dX3_oneOf_1 (tgt := 28) (by decide) (fun c_1 => ?_) (fun c_1 => ?_)
  · refine a_iconst K dX3_oneOf_28 (v := -1) (by decide) ?_
    exact a_iret K E rfl (by omega) (by omega) dX3_oneOf_29 ⟨rfl, by first | rw [at0_neg c_1] | rw [at0_big (by omega) (by rw [← hg]; exact c_9)] | rw [nI_clamp (by omega), at0_in hj (by omega)]⟩
  · refine a_iload_n K dX3_oneOf_4 rfl ?_
    first | refine a_aload_n K dX3_oneOf_5 rfl ?_ | refine a_aload_nN K dX3_oneOf_5 rfl ?_
    refine a_getI K fd_X3_38 (by assumption) (Or.inl rfl) dX3_oneOf_6 ?_
    refine a_icmp_ge K dX3_oneOf_9 (tgt := 28) (by decide) (fun c_9 => ?_) (fun c_9 => ?_)
    · refine a_iconst K dX3_oneOf_28 (v := -1) (by decide) ?_
      exact a_iret K E rfl (by omega) (by omega) dX3_oneOf_29 ⟨rfl, by first | rw [at0_neg c_1] | rw [at0_big (by omega) (by rw [← hg]; exact c_9)] | rw [nI_clamp (by omega), at0_in hj (by omega)]⟩
    · obtain ⟨j, hj, rfl⟩ := ix_of (n := gv) (by omega) c_1 (by rw [← hg]; exact Int32.not_le.mp c_9)
      refine a_iload_n K dX3_oneOf_12 rfl ?_
      refine a_sipush K dX3_oneOf_13 (v := 999) (by decide) ?_
      refine a_icmp_ge K dX3_oneOf_16 (tgt := 28) (by decide) (fun c_16 => absurd c_16 (nI_ge (a := j) (b := 999) (by omega) (by omega))) (fun c_16 => ?_)
      first | refine a_aload_n K dX3_oneOf_19 rfl ?_ | refine a_aload_nN K dX3_oneOf_19 rfl ?_
      refine a_getRs K fd_X3_17 (by assumption) (Or.inr ⟨_, rfl⟩) (by assumption) dX3_oneOf_20 ?_
      refine a_iload_n K dX3_oneOf_23 rfl ?_
      refine a_iald K (by assumption) (by rw [hN]; exact vp_in_nI (by omega) (by omega)) dX3_oneOf_24 ?_
      refine a_goto K dX3_oneOf_25 (tgt := 29) (by decide) ?_
      exact a_iret K E rfl (by omega) (by omega) dX3_oneOf_29 ⟨rfl, by first | rw [at0_neg c_1] | rw [at0_big (by omega) (by rw [← hg]; exact c_9)] | rw [nI_clamp (by omega), at0_in hj (by omega)]⟩
set_option maxHeartbeats 4000000 in
set_option maxRecDepth 100000 in
theorem m_X3_twoOf {S : aw_S} {a ra gv : Nat} {i : Int32} (o : aw_is S a 3) (hr : sR S 194 a = some ra) (or : aw_is S ra 13) (hN : sN S ra = 999) (hg : sI S 199 a = nI gv) (hb : gv ≤ 999) : aw_M yX3_twoOf cX3_twoOf 2 (some FieldType.int) 0 0 0 [.ref a, .int i] S (fun r S2 => S2 = S ∧ r = some (.int (at0 (sA S ra) gv (-1) i))) := by
  refine aw_enter (by decide +kernel) (Nat.le_of_ble_eq_true rfl) (fun g K E => ?_)
  refine a_iload_n K dX3_twoOf_0 rfl ?_
  refine a_if_lt K dX3_twoOf_1 (tgt := 28) (by decide) (fun c_1 => ?_) (fun c_1 => ?_)
  · refine a_iconst K dX3_twoOf_28 (v := -1) (by decide) ?_
    exact a_iret K E rfl (by omega) (by omega) dX3_twoOf_29 ⟨rfl, by first | rw [at0_neg c_1] | rw [at0_big (by omega) (by rw [← hg]; exact c_9)] | rw [nI_clamp (by omega), at0_in hj (by omega)]⟩
  · refine a_iload_n K dX3_twoOf_4 rfl ?_
    first | refine a_aload_n K dX3_twoOf_5 rfl ?_ | refine a_aload_nN K dX3_twoOf_5 rfl ?_
    refine a_getI K fd_X3_38 (by assumption) (Or.inl rfl) dX3_twoOf_6 ?_
    refine a_icmp_ge K dX3_twoOf_9 (tgt := 28) (by decide) (fun c_9 => ?_) (fun c_9 => ?_)
    · refine a_iconst K dX3_twoOf_28 (v := -1) (by decide) ?_
      exact a_iret K E rfl (by omega) (by omega) dX3_twoOf_29 ⟨rfl, by first | rw [at0_neg c_1] | rw [at0_big (by omega) (by rw [← hg]; exact c_9)] | rw [nI_clamp (by omega), at0_in hj (by omega)]⟩
    · obtain ⟨j, hj, rfl⟩ := ix_of (n := gv) (by omega) c_1 (by rw [← hg]; exact Int32.not_le.mp c_9)
      refine a_iload_n K dX3_twoOf_12 rfl ?_
      refine a_sipush K dX3_twoOf_13 (v := 999) (by decide) ?_
      refine a_icmp_ge K dX3_twoOf_16 (tgt := 28) (by decide) (fun c_16 => absurd c_16 (nI_ge (a := j) (b := 999) (by omega) (by omega))) (fun c_16 => ?_)
      first | refine a_aload_n K dX3_twoOf_19 rfl ?_ | refine a_aload_nN K dX3_twoOf_19 rfl ?_
      refine a_getRs K fd_X3_21 (by assumption) (Or.inr ⟨_, rfl⟩) (by assumption) dX3_twoOf_20 ?_
      refine a_iload_n K dX3_twoOf_23 rfl ?_
      refine a_iald K (by assumption) (by rw [hN]; exact vp_in_nI (by omega) (by omega)) dX3_twoOf_24 ?_
      refine a_goto K dX3_twoOf_25 (tgt := 29) (by decide) ?_
      exact a_iret K E rfl (by omega) (by omega) dX3_twoOf_29 ⟨rfl, by first | rw [at0_neg c_1] | rw [at0_big (by omega) (by rw [← hg]; exact c_9)] | rw [nI_clamp (by omega), at0_in hj (by omega)]⟩
set_option maxHeartbeats 4000000 in
set_option maxRecDepth 100000 in
theorem m_X4_isLeaf_y {S : aw_S} {a e : Nat} (o : aw_is S a 4) (h : sR S 257 a = some e) : aw_M yX4_isLeaf cX4_isLeaf 1 (some FieldType.boolean) 0 0 0 [.ref a] S (fun r S2 => S2 = S ∧ r = some (.int 1)) := by
  refine aw_enter (by decide +kernel) (Nat.le_of_ble_eq_true rfl) (fun g K E => ?_)
  first | refine a_aload_n K dX4_isLeaf_0 rfl ?_ | refine a_aload_nN K dX4_isLeaf_0 rfl ?_
  refine a_getRs K fd_X4_15 (by assumption) (Or.inr ⟨_, rfl⟩) (by assumption) dX4_isLeaf_1 ?_
  refine a_ifnull K dX4_isLeaf_4 ?_
  refine a_iconst K dX4_isLeaf_7 (v := 1) (by decide) ?_
  refine a_goto K dX4_isLeaf_8 (tgt := 12) (by decide) ?_
  exact a_iret K E rfl (by omega) (by omega) dX4_isLeaf_12 ⟨rfl, rfl⟩
set_option maxHeartbeats 4000000 in
set_option maxRecDepth 100000 in
theorem m_X4_isLeaf_n {S : aw_S} {a : Nat} (o : aw_is S a 4) (h : sR S 257 a = none) : aw_M yX4_isLeaf cX4_isLeaf 1 (some FieldType.boolean) 0 0 0 [.ref a] S (fun r S2 => S2 = S ∧ r = some (.int 0)) := by
  refine aw_enter (by decide +kernel) (Nat.le_of_ble_eq_true rfl) (fun g K E => ?_)
  first | refine a_aload_n K dX4_isLeaf_0 rfl ?_ | refine a_aload_nN K dX4_isLeaf_0 rfl ?_
  refine a_getRn K fd_X4_15 (by assumption) (Or.inr ⟨_, rfl⟩) (by assumption) dX4_isLeaf_1 ?_
  refine a_ifnullN K dX4_isLeaf_4 (tgt := 11) (by decide) ?_
  refine a_iconst K dX4_isLeaf_11 (v := 0) (by decide) ?_
  exact a_iret K E rfl (by omega) (by omega) dX4_isLeaf_12 ⟨rfl, rfl⟩
set_option maxHeartbeats 4000000 in
set_option maxRecDepth 100000 in
theorem m_X4_bears {S : aw_S} {a : Nat} {m : Int32} (o : aw_is S a 4) : aw_M yX4_bears cX4_bears 2 (some FieldType.boolean) 0 0 0 [.ref a, .int m] S (fun r S2 => S2 = S ∧ bR (sI S 260 a = m) r) := by
  refine aw_enter (by decide +kernel) (Nat.le_of_ble_eq_true rfl) (fun g K E => ?_)
  first | refine a_aload_n K dX4_bears_0 rfl ?_ | refine a_aload_nN K dX4_bears_0 rfl ?_
  refine a_getI K fd_X4_33 (by assumption) (Or.inl rfl) dX4_bears_1 ?_
  refine a_iload_n K dX4_bears_4 rfl ?_
  refine a_icmp_ne K dX4_bears_5 (tgt := 12) (by decide) (fun c_5 => ?_) (fun c_5 => ?_)
  · refine a_iconst K dX4_bears_12 (v := 0) (by decide) ?_
    exact a_iret K E rfl (by omega) (by omega) dX4_bears_13 ⟨rfl, by first | exact Or.inl ⟨c_5, rfl⟩ | exact Or.inr ⟨c_5, rfl⟩⟩
  · refine a_iconst K dX4_bears_8 (v := 1) (by decide) ?_
    refine a_goto K dX4_bears_9 (tgt := 13) (by decide) ?_
    exact a_iret K E rfl (by omega) (by omega) dX4_bears_13 ⟨rfl, by first | exact Or.inl ⟨c_5, rfl⟩ | exact Or.inr ⟨c_5, rfl⟩⟩
set_option maxHeartbeats 4000000 in
set_option maxRecDepth 100000 in
theorem m_X2_nodeAt {S : aw_S} {a ka n : Nat} {i : Int32} (o : aw_is S a 2) (ha : sR S 128 a = some ka) (ok : aw_is S ka 16) (hN : sN S ka = 64) (hs : sI S 130 a = nI n) (hn : n ≤ 64) : aw_M yX2_nodeAt cX2_nodeAt 2 (some (FieldType.object "WideMap$Node")) 0 0 0 [.ref a, .int i] S (fun r S2 => S2 = S ∧ r = some (va_rf (atR (sQ S ka) n i))) := by
  refine aw_enter (by decide +kernel) (Nat.le_of_ble_eq_true rfl) (fun g K E => ?_)
  refine a_iload_n K dX2_nodeAt_0 rfl ?_
  refine a_if_lt K dX2_nodeAt_1 (tgt := 30) (by decide) (fun c_1 => ?_) (fun c_1 => ?_)
  · refine a_null K dX2_nodeAt_30 ?_
    exact a_aret K E (Or.inl ⟨_, rfl⟩) (by first | exact Or.inl rfl | exact va_rf_or _) (by omega) (by omega) dX2_nodeAt_31 ⟨rfl, by first | (rw [atR_neg c_1]; rfl) | (rw [atR_big (by omega) (by rw [← hs]; exact c_9)]; rfl) | rw [nI_clamp (by omega), atR_in hj (by omega)]⟩
  · refine a_iload_n K dX2_nodeAt_4 rfl ?_
    first | refine a_aload_n K dX2_nodeAt_5 rfl ?_ | refine a_aload_nN K dX2_nodeAt_5 rfl ?_
    refine a_getI K fd_X2_21 (by assumption) (Or.inl rfl) dX2_nodeAt_6 ?_
    refine a_icmp_ge K dX2_nodeAt_9 (tgt := 30) (by decide) (fun c_9 => ?_) (fun c_9 => ?_)
    · refine a_null K dX2_nodeAt_30 ?_
      exact a_aret K E (Or.inl ⟨_, rfl⟩) (by first | exact Or.inl rfl | exact va_rf_or _) (by omega) (by omega) dX2_nodeAt_31 ⟨rfl, by first | (rw [atR_neg c_1]; rfl) | (rw [atR_big (by omega) (by rw [← hs]; exact c_9)]; rfl) | rw [nI_clamp (by omega), atR_in hj (by omega)]⟩
    · obtain ⟨j, hj, rfl⟩ := ix_of (n := n) (by omega) c_1 (by rw [← hs]; exact Int32.not_le.mp c_9)
      refine a_iload_n K dX2_nodeAt_12 rfl ?_
      first | refine a_aload_n K dX2_nodeAt_13 rfl ?_ | refine a_aload_nN K dX2_nodeAt_13 rfl ?_
      refine a_getRs K fd_X2_11 (by assumption) (Or.inr ⟨_, rfl⟩) (by assumption) dX2_nodeAt_14 ?_
      refine a_alen K (v := nI 64) ok (by decide) (by decide) (by rw [hN]; rfl) dX2_nodeAt_17 ?_
      refine a_icmp_ge K dX2_nodeAt_18 (tgt := 30) (by decide) (fun c_18 => absurd c_18 (nI_ge (show j < 64 by omega) (by omega))) (fun c_18 => ?_)
      first | refine a_aload_n K dX2_nodeAt_21 rfl ?_ | refine a_aload_nN K dX2_nodeAt_21 rfl ?_
      refine a_getRs K fd_X2_11 (by assumption) (Or.inr ⟨_, rfl⟩) (by assumption) dX2_nodeAt_22 ?_
      refine a_iload_n K dX2_nodeAt_25 rfl ?_
      refine a_aaldN K (by assumption) (by rw [hN]; exact vp_in_nI (by omega) (by omega)) dX2_nodeAt_26 ?_
      refine a_goto K dX2_nodeAt_27 (tgt := 31) (by decide) ?_
      exact a_aret K E (Or.inl ⟨_, rfl⟩) (by first | exact Or.inl rfl | exact va_rf_or _) (by omega) (by omega) dX2_nodeAt_31 ⟨rfl, by first | (rw [atR_neg c_1]; rfl) | (rw [atR_big (by omega) (by rw [← hs]; exact c_9)]; rfl) | rw [nI_clamp (by omega), atR_in hj (by omega)]⟩
set_option maxHeartbeats 4000000 in
set_option maxRecDepth 100000 in
theorem m_X7_append {S : aw_S} {a ka va n : Nat} {k v : Int32} (o : aw_is S a 7) (hk : sR S 448 a = some ka) (hv : sR S 449 a = some va) (ok : aw_is S ka 13) (ov : aw_is S va 13) (hN : sN S ka = 60) (hN2 : sN S va = 60) (hs : sI S 450 a = nI n) (hn : n < 60) : aw_M yX7_append cX7_append 3 (none : Option FieldType) 0 0 0 [.ref a, .int k, .int v] S (fun r S2 => r = none ∧ S2 = wI (wA (wA S ka n k) va n v) 450 a (nI (n + 1))) := by
  refine aw_enter (by decide +kernel) (Nat.le_of_ble_eq_true rfl) (fun g K E => ?_)
  first | refine a_aload_n K dX7_append_0 rfl ?_ | refine a_aload_nN K dX7_append_0 rfl ?_
  refine a_getI K fd_X7_18 (by assumption) (Or.inl rfl) dX7_append_1 ?_
  first | refine a_aload_n K dX7_append_4 rfl ?_ | refine a_aload_nN K dX7_append_4 rfl ?_
  refine a_getRs K fd_X7_9 (by assumption) (Or.inr ⟨_, rfl⟩) (by assumption) dX7_append_5 ?_
  refine a_alen K (v := nI 60) ok (by decide) (by decide) (by rw [hN]; rfl) dX7_append_8 ?_
  refine a_icmp_ge K dX7_append_9 (tgt := 54) (by decide) (fun c_9 => absurd c_9 (by rw [hs]; exact nI_ge hn (by omega))) (fun c_9 => ?_)
  first | refine a_aload_n K dX7_append_12 rfl ?_ | refine a_aload_nN K dX7_append_12 rfl ?_
  refine a_getI K fd_X7_18 (by assumption) (Or.inl rfl) dX7_append_13 ?_
  first | refine a_aload_n K dX7_append_16 rfl ?_ | refine a_aload_nN K dX7_append_16 rfl ?_
  refine a_getRs K fd_X7_15 (by assumption) (Or.inr ⟨_, rfl⟩) (by assumption) dX7_append_17 ?_
  refine a_alen K (v := nI 60) ov (by decide) (by decide) (by rw [hN2]; rfl) dX7_append_20 ?_
  refine a_icmp_ge K dX7_append_21 (tgt := 54) (by decide) (fun c_21 => absurd c_21 (by rw [hs]; exact nI_ge hn (by omega))) (fun c_21 => ?_)
  first | refine a_aload_n K dX7_append_24 rfl ?_ | refine a_aload_nN K dX7_append_24 rfl ?_
  refine a_getRs K fd_X7_9 (by assumption) (Or.inr ⟨_, rfl⟩) (by assumption) dX7_append_25 ?_
  first | refine a_aload_n K dX7_append_28 rfl ?_ | refine a_aload_nN K dX7_append_28 rfl ?_
  refine a_getI K fd_X7_18 (by assumption) (Or.inl rfl) dX7_append_29 ?_
  refine a_iload_n K dX7_append_32 rfl ?_
  refine a_iast K (by assumption) (by show vp_in (sI S 450 a) (sN S ka); rw [hN, hs]; exact vp_in_nI hn (by omega)) dX7_append_33 ?_
  first | refine a_aload_n K dX7_append_34 rfl ?_ | refine a_aload_nN K dX7_append_34 rfl ?_
  refine a_getRs K fd_X7_15 (by assumption) (Or.inr ⟨_, rfl⟩) (by assumption) dX7_append_35 ?_
  first | refine a_aload_n K dX7_append_38 rfl ?_ | refine a_aload_nN K dX7_append_38 rfl ?_
  refine a_getI K fd_X7_18 (by assumption) (Or.inl rfl) dX7_append_39 ?_
  refine a_iload_n K dX7_append_42 rfl ?_
  refine a_iast K (by assumption) (by show vp_in (sI S 450 a) (sN S va); rw [hN2, hs]; exact vp_in_nI hn (by omega)) dX7_append_43 ?_
  first | refine a_aload_n K dX7_append_44 rfl ?_ | refine a_aload_nN K dX7_append_44 rfl ?_
  refine a_dup K dX7_append_45 rfl ?_
  refine a_getI K fd_X7_18 (by assumption) (Or.inl rfl) dX7_append_46 ?_
  refine a_iconst K dX7_append_49 (v := 1) (by decide) ?_
  refine a_iadd K dX7_append_50 ?_
  refine a_putI K fd_X7_18 (by assumption) rfl dX7_append_51 ?_
  exact a_vret K E (by omega) (by omega) dX7_append_54 ⟨rfl, by (have e1 : (sI S 450 a).toNatClampNeg = n := (by rw [hs]; exact nI_clamp (by omega)); have e2 : sI S 450 a + 1 = nI (n + 1) := (by rw [hs]; exact nI_1 n); show wI (wA (wA S ka (sI S 450 a).toNatClampNeg k) va (sI S 450 a).toNatClampNeg v) 450 a (sI S 450 a + 1) = _; rw [e1, e2])⟩
set_option maxHeartbeats 4000000 in
set_option maxRecDepth 100000 in
theorem m_X8_append {S : aw_S} {a ka n : Nat} {k : Int32} (o : aw_is S a 8) (hk : sR S 512 a = some ka) (ok : aw_is S ka 13) (hN : sN S ka = 700) (hs : sI S 513 a = nI n) (hn : n < 700) : aw_M yX8_append cX8_append 2 (none : Option FieldType) 0 0 0 [.ref a, .int k] S (fun r S2 => r = none ∧ S2 = wI (wA S ka n k) 513 a (nI (n + 1))) := by
  refine aw_enter (by decide +kernel) (Nat.le_of_ble_eq_true rfl) (fun g K E => ?_)
  first | refine a_aload_n K dX8_append_0 rfl ?_ | refine a_aload_nN K dX8_append_0 rfl ?_
  refine a_getI K fd_X8_15 (by assumption) (Or.inl rfl) dX8_append_1 ?_
  first | refine a_aload_n K dX8_append_4 rfl ?_ | refine a_aload_nN K dX8_append_4 rfl ?_
  refine a_getRs K fd_X8_9 (by assumption) (Or.inr ⟨_, rfl⟩) (by assumption) dX8_append_5 ?_
  refine a_alen K (v := nI 700) ok (by decide) (by decide) (by rw [hN]; rfl) dX8_append_8 ?_
  refine a_icmp_ge K dX8_append_9 (tgt := 32) (by decide) (fun c_9 => absurd c_9 (by rw [hs]; exact nI_ge hn (by omega))) (fun c_9 => ?_)
  first | refine a_aload_n K dX8_append_12 rfl ?_ | refine a_aload_nN K dX8_append_12 rfl ?_
  refine a_getRs K fd_X8_9 (by assumption) (Or.inr ⟨_, rfl⟩) (by assumption) dX8_append_13 ?_
  first | refine a_aload_n K dX8_append_16 rfl ?_ | refine a_aload_nN K dX8_append_16 rfl ?_
  refine a_getI K fd_X8_15 (by assumption) (Or.inl rfl) dX8_append_17 ?_
  refine a_iload_n K dX8_append_20 rfl ?_
  refine a_iast K (by assumption) (by show vp_in (sI S 513 a) (sN S ka); rw [hN, hs]; exact vp_in_nI hn (by omega)) dX8_append_21 ?_
  first | refine a_aload_n K dX8_append_22 rfl ?_ | refine a_aload_nN K dX8_append_22 rfl ?_
  refine a_dup K dX8_append_23 rfl ?_
  refine a_getI K fd_X8_15 (by assumption) (Or.inl rfl) dX8_append_24 ?_
  refine a_iconst K dX8_append_27 (v := 1) (by decide) ?_
  refine a_iadd K dX8_append_28 ?_
  refine a_putI K fd_X8_15 (by assumption) rfl dX8_append_29 ?_
  exact a_vret K E (by omega) (by omega) dX8_append_32 ⟨rfl, by (have e1 : (sI S 513 a).toNatClampNeg = n := (by rw [hs]; exact nI_clamp (by omega)); have e2 : sI S 513 a + 1 = nI (n + 1) := (by rw [hs]; exact nI_1 n); show wI (wA S ka (sI S 513 a).toNatClampNeg k) 513 a (sI S 513 a + 1) = _; rw [e1, e2])⟩
set_option maxHeartbeats 4000000 in
set_option maxRecDepth 100000 in
theorem m_X9_shorten {S : aw_S} {a n : Nat} {i : Int32} (o : aw_is S a 9) (hs : sI S 577 a = nI n) (hn : n ≤ 240) : aw_M yX9_shorten cX9_shorten 2 (some FieldType.boolean) 0 0 0 [.ref a, .int i] S (fun r S2 => (0 ≤ i.toInt ∧ i.toInt ≤ n ∧ r = some (.int 1) ∧ S2 = wI S 577 a i) ∨ (¬ (0 ≤ i.toInt ∧ i.toInt ≤ n) ∧ r = some (.int 0) ∧ S2 = S)) := by
  refine aw_enter (by decide +kernel) (Nat.le_of_ble_eq_true rfl) (fun g K E => ?_)
  refine a_iload_n K dX9_shorten_0 rfl ?_
  refine a_if_lt K dX9_shorten_1 (tgt := 12) (by decide) (fun c_1 => ?_) (fun c_1 => ?_)
  · refine a_iconst K dX9_shorten_12 (v := 0) (by decide) ?_
    exact a_iret K E rfl (by omega) (by omega) dX9_shorten_13 (Or.inr ⟨by (simp only [i32_lt, i32_le, i32_eq, t_0, t_1, t_2, t_3, t_4, t_5, t_6, t_7, t_9, t_10, t_16, t_19, t_30, t_48, t_57, t_58, t_60, t_97, t_99, t_100, t_105, t_112, t_115, t_240, t_255, t_600, t_999, t_1000, t_m1, t_m2, t_m999, t_m1000000] at c_1; (try simp only [t_nI (show n < 2147483648 by omega)] at c_1); omega), rfl, rfl⟩)
  · refine a_iload_n K dX9_shorten_4 rfl ?_
    first | refine a_aload_n K dX9_shorten_5 rfl ?_ | refine a_aload_nN K dX9_shorten_5 rfl ?_
    refine a_getI K fd_X9_15 (by assumption) (Or.inl rfl) dX9_shorten_6 ?_
    refine a_icmp_le K dX9_shorten_9 (tgt := 14) (by decide) (fun c_9 => ?_) (fun c_9 => ?_)
    · rw [hs] at c_9
      first | refine a_aload_n K dX9_shorten_14 rfl ?_ | refine a_aload_nN K dX9_shorten_14 rfl ?_
      refine a_iload_n K dX9_shorten_15 rfl ?_
      refine a_putI K fd_X9_15 (by assumption) rfl dX9_shorten_16 ?_
      refine a_iconst K dX9_shorten_19 (v := 1) (by decide) ?_
      exact a_iret K E rfl (by omega) (by omega) dX9_shorten_20 (Or.inl ⟨by (simp only [i32_lt, i32_le, i32_eq, t_0, t_1, t_2, t_3, t_4, t_5, t_6, t_7, t_9, t_10, t_16, t_19, t_30, t_48, t_57, t_58, t_60, t_97, t_99, t_100, t_105, t_112, t_115, t_240, t_255, t_600, t_999, t_1000, t_m1, t_m2, t_m999, t_m1000000] at c_1 c_9; omega), by (simp only [i32_lt, i32_le, i32_eq, t_0, t_1, t_2, t_3, t_4, t_5, t_6, t_7, t_9, t_10, t_16, t_19, t_30, t_48, t_57, t_58, t_60, t_97, t_99, t_100, t_105, t_112, t_115, t_240, t_255, t_600, t_999, t_1000, t_m1, t_m2, t_m999, t_m1000000] at c_1 c_9; rw [t_nI (show n < 2147483648 by omega)] at c_9; omega), rfl, rfl⟩)
    · rw [hs] at c_9
      refine a_iconst K dX9_shorten_12 (v := 0) (by decide) ?_
      exact a_iret K E rfl (by omega) (by omega) dX9_shorten_13 (Or.inr ⟨by (simp only [i32_lt, i32_le, i32_eq, t_0, t_1, t_2, t_3, t_4, t_5, t_6, t_7, t_9, t_10, t_16, t_19, t_30, t_48, t_57, t_58, t_60, t_97, t_99, t_100, t_105, t_112, t_115, t_240, t_255, t_600, t_999, t_1000, t_m1, t_m2, t_m999, t_m1000000] at c_1 c_9; (try simp only [t_nI (show n < 2147483648 by omega)] at c_1 c_9); omega), rfl, rfl⟩)
