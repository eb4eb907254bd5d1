/-- the place i of a row that has n, else v -/
def at0 (f : Nat → Int32) (n : Nat) (v : Int32) (i : Int32) : Int32 := if 0 ≤ i.toInt ∧ i.toInt < n then f i.toNatClampNeg else v
theorem at0_in {f : Nat → Int32} {n : Nat} {v : Int32} {j : Nat} (h : j < n) (hn : n < 2 ^ 31) : at0 f n v (nI j) = f j := by
  unfold at0
  rw [nI_toInt (by omega), nI_clamp (by omega), if_pos (by omega)]
theorem at0_neg {f : Nat → Int32} {n : Nat} {v i : Int32} (h : i < 0) : at0 f n v i = v := by
  unfold at0
  rw [if_neg (fun z => by have := i32_lt.mp h; have e : (0 : Int32).toInt = 0 := by decide
                          omega)]
theorem at0_big {f : Nat → Int32} {n : Nat} {v i : Int32} (hn : n < 2 ^ 31) (h : nI n ≤ i) : at0 f n v i = v := by
  unfold at0
  rw [if_neg (fun z => by have := i32_le.mp h; rw [nI_toInt hn] at this; omega)]
def atR (f : Nat → Option Nat) (n : Nat) (i : Int32) : Option Nat := if 0 ≤ i.toInt ∧ i.toInt < n then f i.toNatClampNeg else none
theorem atR_in {f : Nat → Option Nat} {n : Nat} {j : Nat} (h : j < n) (hn : n < 2 ^ 31) : atR f n (nI j) = f j := by
  unfold atR
  rw [nI_toInt (by omega), nI_clamp (by omega), if_pos (by omega)]
theorem atR_neg {f : Nat → Option Nat} {n : Nat} {i : Int32} (h : i < 0) : atR f n i = none := by
  unfold atR
  rw [if_neg (fun z => by have := i32_lt.mp h; have e : (0 : Int32).toInt = 0 := by decide
                          omega)]
theorem atR_big {f : Nat → Option Nat} {n : Nat} {i : Int32} (hn : n < 2 ^ 31) (h : nI n ≤ i) : atR f n i = none := by
  unfold atR
  rw [if_neg (fun z => by have := i32_le.mp h; rw [nI_toInt hn] at this; omega)]
set_option maxHeartbeats 4000000 in
set_option maxRecDepth 100000 in
theorem m_X0_token {S : aw_S} {a : Nat} (o : aw_is S a 0) : aw_M yX0_token cX0_token 1 (some FieldType.int) 0 0 0 [.ref a] S (fun r S2 => r = some (.int (sI S 1 a)) ∧ S2 = S) := by
  refine aw_enter (by decide +kernel) (Nat.le_of_ble_eq_true rfl) (fun g K E => ?_)
  first | refine a_aload_n K dX0_token_0 rfl ?_ | refine a_aload_nN K dX0_token_0 rfl ?_
  refine a_getI K fd_X0_13 (by assumption) (Or.inl rfl) dX0_token_1 ?_
  exact a_iret K E rfl (by omega) (by omega) dX0_token_4 ⟨rfl, rfl⟩
set_option maxHeartbeats 4000000 in
set_option maxRecDepth 100000 in
theorem m_X0_from {S : aw_S} {a : Nat} (o : aw_is S a 0) : aw_M yX0_from cX0_from 1 (some FieldType.int) 0 0 0 [.ref a] S (fun r S2 => r = some (.int (sI S 2 a)) ∧ S2 = S) := by
  refine aw_enter (by decide +kernel) (Nat.le_of_ble_eq_true rfl) (fun g K E => ?_)
  first | refine a_aload_n K dX0_from_0 rfl ?_ | refine a_aload_nN K dX0_from_0 rfl ?_
  refine a_getI K fd_X0_17 (by assumption) (Or.inl rfl) dX0_from_1 ?_
  exact a_iret K E rfl (by omega) (by omega) dX0_from_4 ⟨rfl, rfl⟩
set_option maxHeartbeats 4000000 in
set_option maxRecDepth 100000 in
theorem m_X1_width {S : aw_S} {a : Nat} (o : aw_is S a 1) : aw_M yX1_width cX1_width 1 (some FieldType.int) 0 0 0 [.ref a] S (fun r S2 => r = some (.int (sI S 64 a)) ∧ S2 = S) := by
  refine aw_enter (by decide +kernel) (Nat.le_of_ble_eq_true rfl) (fun g K E => ?_)
  first | refine a_aload_n K dX1_width_0 rfl ?_ | refine a_aload_nN K dX1_width_0 rfl ?_
  refine a_getI K fd_X1_9 (by assumption) (Or.inl rfl) dX1_width_1 ?_
  exact a_iret K E rfl (by omega) (by omega) dX1_width_4 ⟨rfl, rfl⟩
set_option maxHeartbeats 4000000 in
set_option maxRecDepth 100000 in
theorem m_X1_made {S : aw_S} {a : Nat} (o : aw_is S a 1) : aw_M yX1_made cX1_made 1 (some FieldType.int) 0 0 0 [.ref a] S (fun r S2 => r = some (.int (sI S 65 a)) ∧ S2 = S) := by
  refine aw_enter (by decide +kernel) (Nat.le_of_ble_eq_true rfl) (fun g K E => ?_)
  first | refine a_aload_n K dX1_made_0 rfl ?_ | refine a_aload_nN K dX1_made_0 rfl ?_
  refine a_getI K fd_X1_15 (by assumption) (Or.inl rfl) dX1_made_1 ?_
  exact a_iret K E rfl (by omega) (by omega) dX1_made_4 ⟨rfl, rfl⟩
set_option maxHeartbeats 4000000 in
set_option maxRecDepth 100000 in
theorem m_X2_size {S : aw_S} {a : Nat} (o : aw_is S a 2) : aw_M yX2_size cX2_size 1 (some FieldType.int) 0 0 0 [.ref a] S (fun r S2 => r = some (.int (sI S 130 a)) ∧ S2 = S) := by
  refine aw_enter (by decide +kernel) (Nat.le_of_ble_eq_true rfl) (fun g K E => ?_)
  first | refine a_aload_n K dX2_size_0 rfl ?_ | refine a_aload_nN K dX2_size_0 rfl ?_
  refine a_getI K fd_X2_21 (by assumption) (Or.inl rfl) dX2_size_1 ?_
  exact a_iret K E rfl (by omega) (by omega) dX2_size_4 ⟨rfl, rfl⟩
set_option maxHeartbeats 4000000 in
set_option maxRecDepth 100000 in
theorem m_X3_given {S : aw_S} {a : Nat} (o : aw_is S a 3) : aw_M yX3_given cX3_given 1 (some FieldType.int) 0 0 0 [.ref a] S (fun r S2 => r = some (.int (sI S 199 a)) ∧ S2 = S) := by
  refine aw_enter (by decide +kernel) (Nat.le_of_ble_eq_true rfl) (fun g K E => ?_)
  first | refine a_aload_n K dX3_given_0 rfl ?_ | refine a_aload_nN K dX3_given_0 rfl ?_
  refine a_getI K fd_X3_38 (by assumption) (Or.inl rfl) dX3_given_1 ?_
  exact a_iret K E rfl (by omega) (by omega) dX3_given_4 ⟨rfl, rfl⟩
set_option maxHeartbeats 4000000 in
set_option maxRecDepth 100000 in
theorem m_X3_held {S : aw_S} {a : Nat} (o : aw_is S a 3) : aw_M yX3_held cX3_held 1 (some FieldType.int) 0 0 0 [.ref a] S (fun r S2 => r = some (.int (sI S 200 a)) ∧ S2 = S) := by
  refine aw_enter (by decide +kernel) (Nat.le_of_ble_eq_true rfl) (fun g K E => ?_)
  first | refine a_aload_n K dX3_held_0 rfl ?_ | refine a_aload_nN K dX3_held_0 rfl ?_
  refine a_getI K fd_X3_42 (by assumption) (Or.inl rfl) dX3_held_1 ?_
  exact a_iret K E rfl (by omega) (by omega) dX3_held_4 ⟨rfl, rfl⟩
set_option maxHeartbeats 4000000 in
set_option maxRecDepth 100000 in
theorem m_X4_size {S : aw_S} {a : Nat} (o : aw_is S a 4) : aw_M yX4_size cX4_size 1 (some FieldType.int) 0 0 0 [.ref a] S (fun r S2 => r = some (.int (sI S 259 a)) ∧ S2 = S) := by
  refine aw_enter (by decide +kernel) (Nat.le_of_ble_eq_true rfl) (fun g K E => ?_)
  first | refine a_aload_n K dX4_size_0 rfl ?_ | refine a_aload_nN K dX4_size_0 rfl ?_
  refine a_getI K fd_X4_30 (by assumption) (Or.inl rfl) dX4_size_1 ?_
  exact a_iret K E rfl (by omega) (by omega) dX4_size_4 ⟨rfl, rfl⟩
set_option maxHeartbeats 4000000 in
set_option maxRecDepth 100000 in
theorem m_X4_token {S : aw_S} {a : Nat} (o : aw_is S a 4) : aw_M yX4_token cX4_token 1 (some FieldType.int) 0 0 0 [.ref a] S (fun r S2 => r = some (.int (sI S 256 a)) ∧ S2 = S) := by
  refine aw_enter (by decide +kernel) (Nat.le_of_ble_eq_true rfl) (fun g K E => ?_)
  first | refine a_aload_n K dX4_token_0 rfl ?_ | refine a_aload_nN K dX4_token_0 rfl ?_
  refine a_getI K fd_X4_9 (by assumption) (Or.inl rfl) dX4_token_1 ?_
  exact a_iret K E rfl (by omega) (by omega) dX4_token_4 ⟨rfl, rfl⟩
set_option maxHeartbeats 4000000 in
set_option maxRecDepth 100000 in
theorem m_X5_size {S : aw_S} {a : Nat} (o : aw_is S a 5) : aw_M yX5_size cX5_size 1 (some FieldType.int) 0 0 0 [.ref a] S (fun r S2 => r = some (.int (sI S 321 a)) ∧ S2 = S) := by
  refine aw_enter (by decide +kernel) (Nat.le_of_ble_eq_true rfl) (fun g K E => ?_)
  first | refine a_aload_n K dX5_size_0 rfl ?_ | refine a_aload_nN K dX5_size_0 rfl ?_
  refine a_getI K fd_X5_15 (by assumption) (Or.inl rfl) dX5_size_1 ?_
  exact a_iret K E rfl (by omega) (by omega) dX5_size_4 ⟨rfl, rfl⟩
set_option maxHeartbeats 4000000 in
set_option maxRecDepth 100000 in
theorem m_X7_size {S : aw_S} {a : Nat} (o : aw_is S a 7) : aw_M yX7_size cX7_size 1 (some FieldType.int) 0 0 0 [.ref a] S (fun r S2 => r = some (.int (sI S 450 a)) ∧ S2 = S) := by
  refine aw_enter (by decide +kernel) (Nat.le_of_ble_eq_true rfl) (fun g K E => ?_)
  first | refine a_aload_n K dX7_size_0 rfl ?_ | refine a_aload_nN K dX7_size_0 rfl ?_
  refine a_getI K fd_X7_18 (by assumption) (Or.inl rfl) dX7_size_1 ?_
  exact a_iret K E rfl (by omega) (by omega) dX7_size_4 ⟨rfl, rfl⟩
set_option maxHeartbeats 4000000 in
set_option maxRecDepth 100000 in
theorem m_X8_size {S : aw_S} {a : Nat} (o : aw_is S a 8) : aw_M yX8_size cX8_size 1 (some FieldType.int) 0 0 0 [.ref a] S (fun r S2 => r = some (.int (sI S 513 a)) ∧ S2 = S) := by
  refine aw_enter (by decide +kernel) (Nat.le_of_ble_eq_true rfl) (fun g K E => ?_)
  first | refine a_aload_n K dX8_size_0 rfl ?_ | refine a_aload_nN K dX8_size_0 rfl ?_
  refine a_getI K fd_X8_15 (by assumption) (Or.inl rfl) dX8_size_1 ?_
  exact a_iret K E rfl (by omega) (by omega) dX8_size_4 ⟨rfl, rfl⟩
set_option maxHeartbeats 4000000 in
set_option maxRecDepth 100000 in
theorem m_X9_size {S : aw_S} {a : Nat} (o : aw_is S a 9) : aw_M yX9_size cX9_size 1 (some FieldType.int) 0 0 0 [.ref a] S (fun r S2 => r = some (.int (sI S 577 a)) ∧ S2 = S) := by
  refine aw_enter (by decide +kernel) (Nat.le_of_ble_eq_true rfl) (fun g K E => ?_)
  first | refine a_aload_n K dX9_size_0 rfl ?_ | refine a_aload_nN K dX9_size_0 rfl ?_
  refine a_getI K fd_X9_15 (by assumption) (Or.inl rfl) dX9_size_1 ?_
  exact a_iret K E rfl (by omega) (by omega) dX9_size_4 ⟨rfl, rfl⟩
set_option maxHeartbeats 4000000 in
set_option maxRecDepth 100000 in
theorem m_X11_thrown {S : aw_S} {a : Nat} (o : aw_is S a 11) : aw_M yX11_thrown cX11_thrown 1 (some FieldType.int) 0 0 0 [.ref a] S (fun r S2 => r = some (.int (sI S 704 a)) ∧ S2 = S) := by
  refine aw_enter (by decide +kernel) (Nat.le_of_ble_eq_true rfl) (fun g K E => ?_)
  first | refine a_aload_n K dX11_thrown_0 rfl ?_ | refine a_aload_nN K dX11_thrown_0 rfl ?_
  refine a_getI K fd_X11_116 (by assumption) (Or.inl rfl) dX11_thrown_1 ?_
  exact a_iret K E rfl (by omega) (by omega) dX11_thrown_4 ⟨rfl, rfl⟩
set_option maxHeartbeats 4000000 in
set_option maxRecDepth 100000 in
theorem m_X0_root {S : aw_S} {a : Nat} (o : aw_is S a 0) : aw_M yX0_root cX0_root 1 (some (FieldType.object "WideMap$Node")) 0 0 0 [.ref a] S (fun r S2 => r = some (va_rf (sR S 0 a)) ∧ S2 = S) := by
  refine aw_enter (by decide +kernel) (Nat.le_of_ble_eq_true rfl) (fun g K E => ?_)
  first | refine a_aload_n K dX0_root_0 rfl ?_ | refine a_aload_nN K dX0_root_0 rfl ?_
  refine a_getR K fd_X0_7 (by assumption) (Or.inl ⟨_, rfl⟩) dX0_root_1 ?_
  exact a_aret K E (Or.inl ⟨_, rfl⟩) (va_rf_or _) (by omega) (by omega) dX0_root_4 ⟨rfl, rfl⟩
set_option maxHeartbeats 4000000 in
set_option maxRecDepth 100000 in
theorem m_X0_open {S : aw_S} {a : Nat} {r : Nat} {t m : Int32} (o : aw_is S a 0) : aw_M yX0_open cX0_open 4 (none : Option FieldType) 0 0 0 [.ref a, .ref r, .int t, .int m] S (fun w S2 => w = none ∧ S2 = wI (wI (wR S 0 a (some r)) 1 a t) 2 a m) := by
  refine aw_enter (by decide +kernel) (Nat.le_of_ble_eq_true rfl) (fun g K E => ?_)
  first | refine a_aload_n K dX0_open_0 rfl ?_ | refine a_aload_nN K dX0_open_0 rfl ?_
  first | refine a_aload_n K dX0_open_1 rfl ?_ | refine a_aload_nN K dX0_open_1 rfl ?_
  refine a_putR K fd_X0_7 (v := some r) (by assumption) (Or.inl ⟨_, rfl⟩) dX0_open_2 ?_
  first | refine a_aload_n K dX0_open_5 rfl ?_ | refine a_aload_nN K dX0_open_5 rfl ?_
  refine a_iload_n K dX0_open_6 rfl ?_
  refine a_putI K fd_X0_13 (by assumption) rfl dX0_open_7 ?_
  first | refine a_aload_n K dX0_open_10 rfl ?_ | refine a_aload_nN K dX0_open_10 rfl ?_
  refine a_iload_n K dX0_open_11 rfl ?_
  refine a_putI K fd_X0_17 (by assumption) rfl dX0_open_12 ?_
  exact a_vret K E (by omega) (by omega) dX0_open_15 ⟨rfl, rfl⟩
set_option maxHeartbeats 4000000 in
set_option maxRecDepth 100000 in
theorem m_X0_change {S : aw_S} {a : Nat} {r : Nat} (o : aw_is S a 0) : aw_M yX0_change cX0_change 2 (none : Option FieldType) 0 0 0 [.ref a, .ref r] S (fun w S2 => w = none ∧ S2 = wR S 0 a (some r)) := by
  refine aw_enter (by decide +kernel) (Nat.le_of_ble_eq_true rfl) (fun g K E => ?_)
  first | refine a_aload_n K dX0_change_0 rfl ?_ | refine a_aload_nN K dX0_change_0 rfl ?_
  first | refine a_aload_n K dX0_change_1 rfl ?_ | refine a_aload_nN K dX0_change_1 rfl ?_
  refine a_putR K fd_X0_7 (v := some r) (by assumption) (Or.inl ⟨_, rfl⟩) dX0_change_2 ?_
  exact a_vret K E (by omega) (by omega) dX0_change_5 ⟨rfl, rfl⟩
set_option maxHeartbeats 4000000 in
set_option maxRecDepth 100000 in
theorem m_X0_close {S : aw_S} {a : Nat} (o : aw_is S a 0) : aw_M yX0_close cX0_close 1 (none : Option FieldType) 0 0 0 [.ref a] S (fun w S2 => w = none ∧ S2 = wR S 0 a none) := by
  refine aw_enter (by decide +kernel) (Nat.le_of_ble_eq_true rfl) (fun g K E => ?_)
  first | refine a_aload_n K dX0_close_0 rfl ?_ | refine a_aload_nN K dX0_close_0 rfl ?_
  refine a_null K dX0_close_1 ?_
  refine a_putR K fd_X0_7 (v := none) (by assumption) (Or.inl ⟨_, rfl⟩) dX0_close_2 ?_
  exact a_vret K E (by omega) (by omega) dX0_close_5 ⟨rfl, rfl⟩
set_option maxHeartbeats 4000000 in
set_option maxRecDepth 100000 in
theorem m_X0_isStale_y {S : aw_S} {a : Nat} (o : aw_is S a 0) (h : sR S 0 a = none) : aw_M yX0_isStale cX0_isStale 1 (some FieldType.boolean) 0 0 0 [.ref a] S (fun w S2 => w = some (.int 1) ∧ S2 = S) := by
  refine aw_enter (by decide +kernel) (Nat.le_of_ble_eq_true rfl) (fun g K E => ?_)
  first | refine a_aload_n K dX0_isStale_0 rfl ?_ | refine a_aload_nN K dX0_isStale_0 rfl ?_
  refine a_getRn K fd_X0_7 (by assumption) (Or.inl ⟨_, rfl⟩) (by assumption) dX0_isStale_1 ?_
  refine a_ifnonnullN K dX0_isStale_4 ?_
  refine a_iconst K dX0_isStale_7 (v := 1) (by decide) ?_
  refine a_goto K dX0_isStale_8 (tgt := 12) (by decide) ?_
  exact a_iret K E rfl (by omega) (by omega) dX0_isStale_12 ⟨rfl, rfl⟩
set_option maxHeartbeats 4000000 in
set_option maxRecDepth 100000 in
theorem m_X0_isStale_n {S : aw_S} {a r : Nat} (o : aw_is S a 0) (h : sR S 0 a = some r) : aw_M yX0_isStale cX0_isStale 1 (some FieldType.boolean) 0 0 0 [.ref a] S (fun w S2 => w = some (.int 0) ∧ S2 = S) := by
  refine aw_enter (by decide +kernel) (Nat.le_of_ble_eq_true rfl) (fun g K E => ?_)
  first | refine a_aload_n K dX0_isStale_0 rfl ?_ | refine a_aload_nN K dX0_isStale_0 rfl ?_
  refine a_getRs K fd_X0_7 (by assumption) (Or.inl ⟨_, rfl⟩) (by assumption) dX0_isStale_1 ?_
  refine a_ifnonnull K dX0_isStale_4 (tgt := 11) (by decide) ?_
  refine a_iconst K dX0_isStale_11 (v := 0) (by decide) ?_
  exact a_iret K E rfl (by omega) (by omega) dX0_isStale_12 ⟨rfl, rfl⟩
set_option maxHeartbeats 4000000 in
set_option maxRecDepth 100000 in
theorem m_X7_clear {S : aw_S} {a : Nat} (o : aw_is S a 7) : aw_M yX7_clear cX7_clear 1 (none : Option FieldType) 0 0 0 [.ref a] S (fun w S2 => w = none ∧ S2 = wI S 450 a 0) := by
  refine aw_enter (by decide +kernel) (Nat.le_of_ble_eq_true rfl) (fun g K E => ?_)
  first | refine a_aload_n K dX7_clear_0 rfl ?_ | refine a_aload_nN K dX7_clear_0 rfl ?_
  refine a_iconst K dX7_clear_1 (v := 0) (by decide) ?_
  refine a_putI K fd_X7_18 (by assumption) rfl dX7_clear_2 ?_
  exact a_vret K E (by omega) (by omega) dX7_clear_5 ⟨rfl, rfl⟩
set_option maxHeartbeats 4000000 in
set_option maxRecDepth 100000 in
theorem m_X5_clear {S : aw_S} {a : Nat} (o : aw_is S a 5) : aw_M yX5_clear cX5_clear 1 (none : Option FieldType) 0 0 0 [.ref a] S (fun w S2 => w = none ∧ S2 = wI S 321 a 0) := by
  refine aw_enter (by decide +kernel) (Nat.le_of_ble_eq_true rfl) (fun g K E => ?_)
  first | refine a_aload_n K dX5_clear_0 rfl ?_ | refine a_aload_nN K dX5_clear_0 rfl ?_
  refine a_iconst K dX5_clear_1 (v := 0) (by decide) ?_
  refine a_putI K fd_X5_15 (by assumption) rfl dX5_clear_2 ?_
  exact a_vret K E (by omega) (by omega) dX5_clear_5 ⟨rfl, rfl⟩
set_option maxHeartbeats 4000000 in
set_option maxRecDepth 100000 in
theorem m_X4_bear {S : aw_S} {a : Nat} {v : Int32} (o : aw_is S a 4) : aw_M yX4_bear cX4_bear 2 (none : Option FieldType) 0 0 0 [.ref a, .int v] S (fun w S2 => w = none ∧ S2 = wI S 260 a v) := by
  refine aw_enter (by decide +kernel) (Nat.le_of_ble_eq_true rfl) (fun g K E => ?_)
  first | refine a_aload_n K dX4_bear_0 rfl ?_ | refine a_aload_nN K dX4_bear_0 rfl ?_
  refine a_iload_n K dX4_bear_1 rfl ?_
  refine a_putI K fd_X4_33 (by assumption) rfl dX4_bear_2 ?_
  exact a_vret K E (by omega) (by omega) dX4_bear_5 ⟨rfl, rfl⟩
set_option maxHeartbeats 4000000 in
set_option maxRecDepth 100000 in
theorem m_X7_keyAt {S : aw_S} {a ka n N : Nat} {i : Int32} (o : aw_is S a 7) (ha : sR S 448 a = some ka) (ok : aw_is S ka 13) (hN : sN S ka = N) (hs : sI S 450 a = nI n) (hn : n ≤ N) (hN2 : N < 2 ^ 31) : aw_M yX7_keyAt cX7_keyAt 2 (some FieldType.int) 0 0 0 [.ref a, .int i] S (fun r S2 => r = some (.int (at0 (sA S ka) n (-1) i)) ∧ S2 = S) := by
  refine aw_enter (by decide +kernel) (Nat.le_of_ble_eq_true rfl) (fun g K E => ?_)
  refine a_iload_n K dX7_keyAt_0 rfl ?_
  refine a_if_lt K dX7_keyAt_1 (tgt := 30) (by decide) (fun c_1 => ?_) (fun c_1 => ?_)
  · refine a_iconst K dX7_keyAt_30 (v := -1) (by decide) ?_
    exact a_iret K E rfl (by omega) (by omega) dX7_keyAt_31 ⟨by first | rw [at0_neg c_1] | rw [at0_big (by omega) (by rw [← hs]; exact c_9)] | rw [nI_clamp (by omega), at0_in hj (by omega)], rfl⟩
  · refine a_iload_n K dX7_keyAt_4 rfl ?_
    first | refine a_aload_n K dX7_keyAt_5 rfl ?_ | refine a_aload_nN K dX7_keyAt_5 rfl ?_
    refine a_getI K fd_X7_18 (by assumption) (Or.inl rfl) dX7_keyAt_6 ?_
    refine a_icmp_ge K dX7_keyAt_9 (tgt := 30) (by decide) (fun c_9 => ?_) (fun c_9 => ?_)
    · refine a_iconst K dX7_keyAt_30 (v := -1) (by decide) ?_
      exact a_iret K E rfl (by omega) (by omega) dX7_keyAt_31 ⟨by first | rw [at0_neg c_1] | rw [at0_big (by omega) (by rw [← hs]; exact c_9)] | rw [nI_clamp (by omega), at0_in hj (by omega)], rfl⟩
    · obtain ⟨j, hj, rfl⟩ := ix_of (n := n) (by omega) c_1 (by rw [← hs]; exact Int32.not_le.mp c_9)
      refine a_iload_n K dX7_keyAt_12 rfl ?_
      first | refine a_aload_n K dX7_keyAt_13 rfl ?_ | refine a_aload_nN K dX7_keyAt_13 rfl ?_
      refine a_getRs K fd_X7_9 (by assumption) (Or.inr ⟨_, rfl⟩) (by assumption) dX7_keyAt_14 ?_
      refine a_alen K (v := nI N) (by assumption) (by decide) (by decide) (by rw [hN]; rfl) dX7_keyAt_17 ?_
      refine a_icmp_ge K dX7_keyAt_18 (tgt := 30) (by decide) (fun c_18 => absurd c_18 (nI_ge (show j < N by omega) (by omega))) (fun c_18 => ?_)
      first | refine a_aload_n K dX7_keyAt_21 rfl ?_ | refine a_aload_nN K dX7_keyAt_21 rfl ?_
      refine a_getRs K fd_X7_9 (by assumption) (Or.inr ⟨_, rfl⟩) (by assumption) dX7_keyAt_22 ?_
      refine a_iload_n K dX7_keyAt_25 rfl ?_
      refine a_iald K (by assumption) (vp_in_nI (by omega) (by omega)) dX7_keyAt_26 ?_
      refine a_goto K dX7_keyAt_27 (tgt := 31) (by decide) ?_
      exact a_iret K E rfl (by omega) (by omega) dX7_keyAt_31 ⟨by first | rw [at0_neg c_1] | rw [at0_big (by omega) (by rw [← hs]; exact c_9)] | rw [nI_clamp (by omega), at0_in hj (by omega)], rfl⟩
set_option maxHeartbeats 4000000 in
set_option maxRecDepth 100000 in
theorem m_X7_valueAt {S : aw_S} {a ka n N : Nat} {i : Int32} (o : aw_is S a 7) (ha : sR S 449 a = some ka) (ok : aw_is S ka 13) (hN : sN S ka = N) (hs : sI S 450 a = nI n) (hn : n ≤ N) (hN2 : N < 2 ^ 31) : aw_M yX7_valueAt cX7_valueAt 2 (some FieldType.int) 0 0 0 [.ref a, .int i] S (fun r S2 => r = some (.int (at0 (sA S ka) n (-1000000) i)) ∧ S2 = S) := by
  refine aw_enter (by decide +kernel) (Nat.le_of_ble_eq_true rfl) (fun g K E => ?_)
  refine a_iload_n K dX7_valueAt_0 rfl ?_
  refine a_if_lt K dX7_valueAt_1 (tgt := 30) (by decide) (fun c_1 => ?_) (fun c_1 => ?_)
  · refine a_ldc K kc_X7_58 dX7_valueAt_30 ?_
    exact a_iret K E rfl (by omega) (by omega) dX7_valueAt_32 ⟨by first | rw [at0_neg c_1] | rw [at0_big (by omega) (by rw [← hs]; exact c_9)] | rw [nI_clamp (by omega), at0_in hj (by omega)], rfl⟩
  · refine a_iload_n K dX7_valueAt_4 rfl ?_
    first | refine a_aload_n K dX7_valueAt_5 rfl ?_ | refine a_aload_nN K dX7_valueAt_5 rfl ?_
    refine a_getI K fd_X7_18 (by assumption) (Or.inl rfl) dX7_valueAt_6 ?_
    refine a_icmp_ge K dX7_valueAt_9 (tgt := 30) (by decide) (fun c_9 => ?_) (fun c_9 => ?_)
    · refine a_ldc K kc_X7_58 dX7_valueAt_30 ?_
      exact a_iret K E rfl (by omega) (by omega) dX7_valueAt_32 ⟨by first | rw [at0_neg c_1] | rw [at0_big (by omega) (by rw [← hs]; exact c_9)] | rw [nI_clamp (by omega), at0_in hj (by omega)], rfl⟩
    · obtain ⟨j, hj, rfl⟩ := ix_of (n := n) (by omega) c_1 (by rw [← hs]; exact Int32.not_le.mp c_9)
      refine a_iload_n K dX7_valueAt_12 rfl ?_
      first | refine a_aload_n K dX7_valueAt_13 rfl ?_ | refine a_aload_nN K dX7_valueAt_13 rfl ?_
      refine a_getRs K fd_X7_15 (by assumption) (Or.inr ⟨_, rfl⟩) (by assumption) dX7_valueAt_14 ?_
      refine a_alen K (v := nI N) (by assumption) (by decide) (by decide) (by rw [hN]; rfl) dX7_valueAt_17 ?_
      refine a_icmp_ge K dX7_valueAt_18 (tgt := 30) (by decide) (fun c_18 => absurd c_18 (nI_ge (show j < N by omega) (by omega))) (fun c_18 => ?_)
      first | refine a_aload_n K dX7_valueAt_21 rfl ?_ | refine a_aload_nN K dX7_valueAt_21 rfl ?_
      refine a_getRs K fd_X7_15 (by assumption) (Or.inr ⟨_, rfl⟩) (by assumption) dX7_valueAt_22 ?_
      refine a_iload_n K dX7_valueAt_25 rfl ?_
      refine a_iald K (by assumption) (vp_in_nI (by omega) (by omega)) dX7_valueAt_26 ?_
      refine a_goto K dX7_valueAt_27 (tgt := 32) (by decide) ?_
      exact a_iret K E rfl (by omega) (by omega) dX7_valueAt_32 ⟨by first | rw [at0_neg c_1] | rw [at0_big (by omega) (by rw [← hs]; exact c_9)] | rw [nI_clamp (by omega), at0_in hj (by omega)], rfl⟩
set_option maxHeartbeats 4000000 in
set_option maxRecDepth 100000 in
theorem m_X2_depthAt {S : aw_S} {a ka n N : Nat} {i : Int32} (o : aw_is S a 2) (ha : sR S 129 a = some ka) (ok : aw_is S ka 13) (hN : sN S ka = N) (hs : sI S 130 a = nI n) (hn : n ≤ N) (hN2 : N < 2 ^ 31) : aw_M yX2_depthAt cX2_depthAt 2 (some FieldType.int) 0 0 0 [.ref a, .int i] S (fun r S2 => r = some (.int (at0 (sA S ka) n (-1) i)) ∧ S2 = S) := by
  refine aw_enter (by decide +kernel) (Nat.le_of_ble_eq_true rfl) (fun g K E => ?_)
  refine a_iload_n K dX2_depthAt_0 rfl ?_
  refine a_if_lt K dX2_depthAt_1 (tgt := 30) (by decide) (fun c_1 => ?_) (fun c_1 => ?_)
  · refine a_iconst K dX2_depthAt_30 (v := -1) (by decide) ?_
    exact a_iret K E rfl (by omega) (by omega) dX2_depthAt_31 ⟨by first | rw [at0_neg c_1] | rw [at0_big (by omega) (by rw [← hs]; exact c_9)] | rw [nI_clamp (by omega), at0_in hj (by omega)], rfl⟩
  · refine a_iload_n K dX2_depthAt_4 rfl ?_
    first | refine a_aload_n K dX2_depthAt_5 rfl ?_ | refine a_aload_nN K dX2_depthAt_5 rfl ?_
    refine a_getI K fd_X2_21 (by assumption) (Or.inl rfl) dX2_depthAt_6 ?_
    refine a_icmp_ge K dX2_depthAt_9 (tgt := 30) (by decide) (fun c_9 => ?_) (fun c_9 => ?_)
    · refine a_iconst K dX2_depthAt_30 (v := -1) (by decide) ?_
      exact a_iret K E rfl (by omega) (by omega) dX2_depthAt_31 ⟨by first | rw [at0_neg c_1] | rw [at0_big (by omega) (by rw [← hs]; exact c_9)] | rw [nI_clamp (by omega), at0_in hj (by omega)], rfl⟩
    · obtain ⟨j, hj, rfl⟩ := ix_of (n := n) (by omega) c_1 (by rw [← hs]; exact Int32.not_le.mp c_9)
      refine a_iload_n K dX2_depthAt_12 rfl ?_
      first | refine a_aload_n K dX2_depthAt_13 rfl ?_ | refine a_aload_nN K dX2_depthAt_13 rfl ?_
      refine a_getRs K fd_X2_17 (by assumption) (Or.inr ⟨_, rfl⟩) (by assumption) dX2_depthAt_14 ?_
      refine a_alen K (v := nI N) (by assumption) (by decide) (by decide) (by rw [hN]; rfl) dX2_depthAt_17 ?_
      refine a_icmp_ge K dX2_depthAt_18 (tgt := 30) (by decide) (fun c_18 => absurd c_18 (nI_ge (show j < N by omega) (by omega))) (fun c_18 => ?_)
      first | refine a_aload_n K dX2_depthAt_21 rfl ?_ | refine a_aload_nN K dX2_depthAt_21 rfl ?_
      refine a_getRs K fd_X2_17 (by assumption) (Or.inr ⟨_, rfl⟩) (by assumption) dX2_depthAt_22 ?_
      refine a_iload_n K dX2_depthAt_25 rfl ?_
      refine a_iald K (by assumption) (vp_in_nI (by omega) (by omega)) dX2_depthAt_26 ?_
      refine a_goto K dX2_depthAt_27 (tgt := 31) (by decide) ?_
      exact a_iret K E rfl (by omega) (by omega) dX2_depthAt_31 ⟨by first | rw [at0_neg c_1] | rw [at0_big (by omega) (by rw [← hs]; exact c_9)] | rw [nI_clamp (by omega), at0_in hj (by omega)], rfl⟩
set_option maxHeartbeats 4000000 in
set_option maxRecDepth 100000 in
theorem m_X8_signAt {S : aw_S} {a ka n N : Nat} {i : Int32} (o : aw_is S a 8) (ha : sR S 512 a = some ka) (ok : aw_is S ka 13) (hN : sN S ka = N) (hs : sI S 513 a = nI n) (hn : n ≤ N) (hN2 : N < 2 ^ 31) : aw_M yX8_signAt cX8_signAt 2 (some FieldType.int) 0 0 0 [.ref a, .int i] S (fun r S2 => r = some (.int (at0 (sA S ka) n (-1) i)) ∧ S2 = S) := by
  refine aw_enter (by decide +kernel) (Nat.le_of_ble_eq_true rfl) (fun g K E => ?_)
  refine a_iload_n K dX8_signAt_0 rfl ?_
  refine a_if_lt K dX8_signAt_1 (tgt := 30) (by decide) (fun c_1 => ?_) (fun c_1 => ?_)
  · refine a_iconst K dX8_signAt_30 (v := -1) (by decide) ?_
    exact a_iret K E rfl (by omega) (by omega) dX8_signAt_31 ⟨by first | rw [at0_neg c_1] | rw [at0_big (by omega) (by rw [← hs]; exact c_9)] | rw [nI_clamp (by omega), at0_in hj (by omega)], rfl⟩
  · refine a_iload_n K dX8_signAt_4 rfl ?_
    first | refine a_aload_n K dX8_signAt_5 rfl ?_ | refine a_aload_nN K dX8_signAt_5 rfl ?_
    refine a_getI K fd_X8_15 (by assumption) (Or.inl rfl) dX8_signAt_6 ?_
    refine a_icmp_ge K dX8_signAt_9 (tgt := 30) (by decide) (fun c_9 => ?_) (fun c_9 => ?_)
    · refine a_iconst K dX8_signAt_30 (v := -1) (by decide) ?_
      exact a_iret K E rfl (by omega) (by omega) dX8_signAt_31 ⟨by first | rw [at0_neg c_1] | rw [at0_big (by omega) (by rw [← hs]; exact c_9)] | rw [nI_clamp (by omega), at0_in hj (by omega)], rfl⟩
    · obtain ⟨j, hj, rfl⟩ := ix_of (n := n) (by omega) c_1 (by rw [← hs]; exact Int32.not_le.mp c_9)
      refine a_iload_n K dX8_signAt_12 rfl ?_
      first | refine a_aload_n K dX8_signAt_13 rfl ?_ | refine a_aload_nN K dX8_signAt_13 rfl ?_
      refine a_getRs K fd_X8_9 (by assumption) (Or.inr ⟨_, rfl⟩) (by assumption) dX8_signAt_14 ?_
      refine a_alen K (v := nI N) (by assumption) (by decide) (by decide) (by rw [hN]; rfl) dX8_signAt_17 ?_
      refine a_icmp_ge K dX8_signAt_18 (tgt := 30) (by decide) (fun c_18 => absurd c_18 (nI_ge (show j < N by omega) (by omega))) (fun c_18 => ?_)
      first | refine a_aload_n K dX8_signAt_21 rfl ?_ | refine a_aload_nN K dX8_signAt_21 rfl ?_
      refine a_getRs K fd_X8_9 (by assumption) (Or.inr ⟨_, rfl⟩) (by assumption) dX8_signAt_22 ?_
      refine a_iload_n K dX8_signAt_25 rfl ?_
      refine a_iald K (by assumption) (vp_in_nI (by omega) (by omega)) dX8_signAt_26 ?_
      refine a_goto K dX8_signAt_27 (tgt := 31) (by decide) ?_
      exact a_iret K E rfl (by omega) (by omega) dX8_signAt_31 ⟨by first | rw [at0_neg c_1] | rw [at0_big (by omega) (by rw [← hs]; exact c_9)] | rw [nI_clamp (by omega), at0_in hj (by omega)], rfl⟩
set_option maxHeartbeats 4000000 in
set_option maxRecDepth 100000 in
theorem m_X9_byteAt {S : aw_S} {a ka n N : Nat} {i : Int32} (o : aw_is S a 9) (ha : sR S 576 a = some ka) (ok : aw_is S ka 13) (hN : sN S ka = N) (hs : sI S 577 a = nI n) (hn : n ≤ N) (hN2 : N < 2 ^ 31) : aw_M yX9_byteAt cX9_byteAt 2 (some FieldType.int) 0 0 0 [.ref a, .int i] S (fun r S2 => r = some (.int (at0 (sA S ka) n (-1) i)) ∧ S2 = S) := by
  refine aw_enter (by decide +kernel) (Nat.le_of_ble_eq_true rfl) (fun g K E => ?_)
  refine a_iload_n K dX9_byteAt_0 rfl ?_
  refine a_if_lt K dX9_byteAt_1 (tgt := 30) (by decide) (fun c_1 => ?_) (fun c_1 => ?_)
  · refine a_iconst K dX9_byteAt_30 (v := -1) (by decide) ?_
    exact a_iret K E rfl (by omega) (by omega) dX9_byteAt_31 ⟨by first | rw [at0_neg c_1] | rw [at0_big (by omega) (by rw [← hs]; exact c_9)] | rw [nI_clamp (by omega), at0_in hj (by omega)], rfl⟩
  · refine a_iload_n K dX9_byteAt_4 rfl ?_
    first | refine a_aload_n K dX9_byteAt_5 rfl ?_ | refine a_aload_nN K dX9_byteAt_5 rfl ?_
    refine a_getI K fd_X9_15 (by assumption) (Or.inl rfl) dX9_byteAt_6 ?_
    refine a_icmp_ge K dX9_byteAt_9 (tgt := 30) (by decide) (fun c_9 => ?_) (fun c_9 => ?_)
    · refine a_iconst K dX9_byteAt_30 (v := -1) (by decide) ?_
      exact a_iret K E rfl (by omega) (by omega) dX9_byteAt_31 ⟨by first | rw [at0_neg c_1] | rw [at0_big (by omega) (by rw [← hs]; exact c_9)] | rw [nI_clamp (by omega), at0_in hj (by omega)], rfl⟩
    · obtain ⟨j, hj, rfl⟩ := ix_of (n := n) (by omega) c_1 (by rw [← hs]; exact Int32.not_le.mp c_9)
      refine a_iload_n K dX9_byteAt_12 rfl ?_
      first | refine a_aload_n K dX9_byteAt_13 rfl ?_ | refine a_aload_nN K dX9_byteAt_13 rfl ?_
      refine a_getRs K fd_X9_9 (by assumption) (Or.inr ⟨_, rfl⟩) (by assumption) dX9_byteAt_14 ?_
      refine a_alen K (v := nI N) (by assumption) (by decide) (by decide) (by rw [hN]; rfl) dX9_byteAt_17 ?_
      refine a_icmp_ge K dX9_byteAt_18 (tgt := 30) (by decide) (fun c_18 => absurd c_18 (nI_ge (show j < N by omega) (by omega))) (fun c_18 => ?_)
      first | refine a_aload_n K dX9_byteAt_21 rfl ?_ | refine a_aload_nN K dX9_byteAt_21 rfl ?_
      refine a_getRs K fd_X9_9 (by assumption) (Or.inr ⟨_, rfl⟩) (by assumption) dX9_byteAt_22 ?_
      refine a_iload_n K dX9_byteAt_25 rfl ?_
      refine a_iald K (by assumption) (vp_in_nI (by omega) (by omega)) dX9_byteAt_26 ?_
      refine a_goto K dX9_byteAt_27 (tgt := 31) (by decide) ?_
      exact a_iret K E rfl (by omega) (by omega) dX9_byteAt_31 ⟨by first | rw [at0_neg c_1] | rw [at0_big (by omega) (by rw [← hs]; exact c_9)] | rw [nI_clamp (by omega), at0_in hj (by omega)], rfl⟩
