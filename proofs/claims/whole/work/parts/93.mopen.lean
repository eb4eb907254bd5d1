/-! the model: builders' numbers -/
theorem i64_ge {x : Int32} {a : Int64} {n : Int} (h : a.toInt = n) : a ≤ x.toInt64 ↔ n ≤ x.toInt := by rw [Int64.le_iff_toInt_le, Int32.toInt_toInt64, h]
theorem i64_le {x : Int32} {a : Int64} {n : Int} (h : a.toInt = n) : x.toInt64 ≤ a ↔ x.toInt ≤ n := by rw [Int64.le_iff_toInt_le, Int32.toInt_toInt64, h]
theorem bR_cg {P Q : Prop} {r : Option Value} (h : P ↔ Q) (b : bR P r) : bR Q r := b.elim (fun z => Or.inl ⟨h.mp z.1, z.2⟩) (fun z => Or.inr ⟨fun y => z.1 (h.mpr y), z.2⟩)
def bld4 (x : Int32) : Prop := 0 ≤ x.toInt ∧ x.toInt < 4
theorem i64_34 : Int64.toInt 3 = 3 := by decide
theorem i64_00 : Int64.toInt 0 = 0 := by decide
set_option maxHeartbeats 4000000 in
set_option maxRecDepth 100000 in
theorem q_isBuilder {S : aw_S} {m : Nat → Nat} {x : Int32} : aw_M yX11_isBuilder cX11_isBuilder 2 (some FieldType.boolean) 1 0 0 [.ref (m 33), .int x] S (fun r S2 => S2 = S ∧ bR (bld4 x) r) := by
  refine aw_enter (by decide +kernel) (Nat.le_of_ble_eq_true rfl) (fun g K EE => ?_)
  refine a_iload_n K dX11_isBuilder_0 rfl ?_
  refine a_i2l K dX11_isBuilder_1 ?_
  refine a_lconst K dX11_isBuilder_2 (v := 0) (by decide) ?_
  refine a_ldc2 K kc_X11_305 dX11_isBuilder_3 ?_
  refine a_invS K (q_isIn (x := x.toInt64) (a := 0) (b := 3)) my_X11_isIn ml_X11_174 st_X11_isIn rfl (by omega) (by omega) (by omega) rfl (Nat.le_of_ble_eq_true rfl) dX11_isBuilder_6 ?_
  intro r9 S9 hp9
  obtain ⟨hS9, hb9⟩ := hp9
  obtain rfl := hS9.symm
  have hb8 : bR (bld4 x) r9 := bR_cg ⟨fun z => ⟨(i64_ge i64_00).mp z.1, by have := (i64_le i64_34).mp z.2; omega⟩, fun z => ⟨(i64_ge i64_00).mpr z.1, (i64_le i64_34).mpr (by have := z.2; omega)⟩⟩ hb9
  obtain ⟨b9, hr9⟩ : ∃ b, r9 = some (.int b) := hb9.elim (fun z => ⟨_, z.2⟩) (fun z => ⟨_, z.2⟩)
  have nb : narrow .boolean (.int b9) = .int b9 := hb9.elim (fun z => by have e := hr9.symm.trans z.2; cases e; rfl) (fun z => by have e := hr9.symm.trans z.2; cases e; rfl)
  rw [hr9] at hb8
  subst hr9
  exact a_iret K EE nb (by omega) (by omega) dX11_isBuilder_9 ⟨rfl, hb8⟩
set_option maxHeartbeats 4000000 in
set_option maxRecDepth 100000 in
theorem q_isOpen {S : aw_S} {m : Nat → Nat} (hM : LM S m) {x ob : Int32} (ho : sI S 747 (m 33) = ob) : aw_M yX11_isOpen cX11_isOpen 2 (some FieldType.boolean) 2 0 0 [.ref (m 33), .int x] S (fun r S2 => S2 = S ∧ bR (bld4 x ∧ hasB ob x) r) := by
  refine aw_enter (by decide +kernel) (Nat.le_of_ble_eq_true rfl) (fun g K EE => ?_)
  by_cases hb : bld4 x
  · by_cases hs : hasB ob x
    · first | refine a_aload_n K dX11_isOpen_0 rfl ?_ | refine a_aload_nN K dX11_isOpen_0 rfl ?_
      refine a_iload_n K dX11_isOpen_1 rfl ?_
      refine a_invV K (q_isBuilder (m := m) (x := x)) my_X11_isBuilder ml_X11_381 im_X11_isBuilder se_X11_isBuilder (ci := 11) (by exact lm_o hM) (by decide) ⟨_, _, rfl⟩ rfl (by omega) (by omega) (by omega) rfl (Nat.le_of_ble_eq_true rfl) dX11_isOpen_2 ?_
      intro r9 S9 hp9
      obtain ⟨hS9, hb9⟩ := hp9
      obtain rfl := hS9.symm
      obtain rfl : r9 = some (.int 1) := hb9.elim (fun z => z.2) (fun z => absurd hb z.1)
      refine a_if_eq K dX11_isOpen_5 (tgt := 23) (by decide) (fun c_5 => absurd c_5 (fun z => absurd z (by decide))) (fun c_5 => ?_)
      first | refine a_aload_n K dX11_isOpen_8 rfl ?_ | refine a_aload_nN K dX11_isOpen_8 rfl ?_
      refine a_getI K fd_X11_268 (by exact lm_o hM) (Or.inl rfl) dX11_isOpen_9 ?_
      rw [ho]
      refine a_iload_n K dX11_isOpen_12 rfl ?_
      refine a_invS K (q_has (s := ob) (k := x)) my_X11_has ml_X11_271 st_X11_has rfl (by omega) (by omega) (by omega) rfl (Nat.le_of_ble_eq_true rfl) dX11_isOpen_13 ?_
      intro r9 S9 hp9
      obtain ⟨hS9, hb9⟩ := hp9
      obtain rfl := hS9.symm
      obtain rfl : r9 = some (.int 1) := hb9.elim (fun z => z.2) (fun z => absurd hs z.1)
      refine a_if_eq K dX11_isOpen_16 (tgt := 23) (by decide) (fun c_16 => absurd c_16 (fun z => absurd z (by decide))) (fun c_16 => ?_)
      refine a_iconst K dX11_isOpen_19 (v := 1) (by decide) ?_
      refine a_goto K dX11_isOpen_20 (tgt := 24) (by decide) ?_
      exact a_iret K EE rfl (by omega) (by omega) dX11_isOpen_24 ⟨rfl, Or.inl ⟨⟨hb, hs⟩, rfl⟩⟩
    · first | refine a_aload_n K dX11_isOpen_0 rfl ?_ | refine a_aload_nN K dX11_isOpen_0 rfl ?_
      refine a_iload_n K dX11_isOpen_1 rfl ?_
      refine a_invV K (q_isBuilder (m := m) (x := x)) my_X11_isBuilder ml_X11_381 im_X11_isBuilder se_X11_isBuilder (ci := 11) (by exact lm_o hM) (by decide) ⟨_, _, rfl⟩ rfl (by omega) (by omega) (by omega) rfl (Nat.le_of_ble_eq_true rfl) dX11_isOpen_2 ?_
      intro r9 S9 hp9
      obtain ⟨hS9, hb9⟩ := hp9
      obtain rfl := hS9.symm
      obtain rfl : r9 = some (.int 1) := hb9.elim (fun z => z.2) (fun z => absurd hb z.1)
      refine a_if_eq K dX11_isOpen_5 (tgt := 23) (by decide) (fun c_5 => absurd c_5 (fun z => absurd z (by decide))) (fun c_5 => ?_)
      first | refine a_aload_n K dX11_isOpen_8 rfl ?_ | refine a_aload_nN K dX11_isOpen_8 rfl ?_
      refine a_getI K fd_X11_268 (by exact lm_o hM) (Or.inl rfl) dX11_isOpen_9 ?_
      rw [ho]
      refine a_iload_n K dX11_isOpen_12 rfl ?_
      refine a_invS K (q_has (s := ob) (k := x)) my_X11_has ml_X11_271 st_X11_has rfl (by omega) (by omega) (by omega) rfl (Nat.le_of_ble_eq_true rfl) dX11_isOpen_13 ?_
      intro r9 S9 hp9
      obtain ⟨hS9, hb9⟩ := hp9
      obtain rfl := hS9.symm
      obtain rfl : r9 = some (.int 0) := hb9.elim (fun z => absurd z.1 hs) (fun z => z.2)
      refine a_if_eq K dX11_isOpen_16 (tgt := 23) (by decide) (fun c_16 => ?_) (fun c_16 => absurd c_16 (fun z => z rfl))
      refine a_iconst K dX11_isOpen_23 (v := 0) (by decide) ?_
      exact a_iret K EE rfl (by omega) (by omega) dX11_isOpen_24 ⟨rfl, Or.inr ⟨fun z => hs z.2, rfl⟩⟩
  · first | refine a_aload_n K dX11_isOpen_0 rfl ?_ | refine a_aload_nN K dX11_isOpen_0 rfl ?_
    refine a_iload_n K dX11_isOpen_1 rfl ?_
    refine a_invV K (q_isBuilder (m := m) (x := x)) my_X11_isBuilder ml_X11_381 im_X11_isBuilder se_X11_isBuilder (ci := 11) (by exact lm_o hM) (by decide) ⟨_, _, rfl⟩ rfl (by omega) (by omega) (by omega) rfl (Nat.le_of_ble_eq_true rfl) dX11_isOpen_2 ?_
    intro r9 S9 hp9
    obtain ⟨hS9, hb9⟩ := hp9
    obtain rfl := hS9.symm
    obtain rfl : r9 = some (.int 0) := hb9.elim (fun z => absurd z.1 hb) (fun z => z.2)
    refine a_if_eq K dX11_isOpen_5 (tgt := 23) (by decide) (fun c_5 => ?_) (fun c_5 => absurd c_5 (fun z => z rfl))
    refine a_iconst K dX11_isOpen_23 (v := 0) (by decide) ?_
    exact a_iret K EE rfl (by omega) (by omega) dX11_isOpen_24 ⟨rfl, Or.inr ⟨fun z => hb z.1, rfl⟩⟩
/-- why a builder can't be changed: no builder, out of bounds, not open; -1: it can -/
def stpW (x ob : Int32) (ok : Bool) : Int32 := if ¬ (0 ≤ x.toInt ∧ x.toInt < 4) then 0 else if ok = false then 1 else if ¬ hasB ob x then 2 else -1
set_option maxHeartbeats 4000000 in
set_option maxRecDepth 100000 in
theorem q_stops {S : aw_S} {m : Nat → Nat} (hM : LM S m) {x ob : Int32} {ok : Bool} (ho : sI S 747 (m 33) = ob) : aw_M yX11_stops cX11_stops 3 (some FieldType.int) 3 0 0 [.ref (m 33), .int x, .int (if ok = true then 1 else 0)] S (fun r S2 => r = some (.int (stpW x ob ok)) ∧ S2 = S) := by
  refine aw_enter (by decide +kernel) (Nat.le_of_ble_eq_true rfl) (fun g K EE => ?_)
  by_cases hb : bld4 x
  · cases ok with
    | false =>
      first | refine a_aload_n K dX11_stops_0 rfl ?_ | refine a_aload_nN K dX11_stops_0 rfl ?_
      refine a_iload_n K dX11_stops_1 rfl ?_
      refine a_invV K (q_isBuilder (m := m) (x := x)) my_X11_isBuilder ml_X11_381 im_X11_isBuilder se_X11_isBuilder (ci := 11) (by exact lm_o hM) (by decide) ⟨_, _, rfl⟩ rfl (by omega) (by omega) (by omega) rfl (Nat.le_of_ble_eq_true rfl) dX11_stops_2 ?_
      intro r9 S9 hp9
      obtain ⟨hS9, hb9⟩ := hp9
      obtain rfl := hS9.symm
      obtain rfl : r9 = some (.int 1) := hb9.elim (fun z => z.2) (fun z => absurd hb z.1)
      refine a_if_ne K dX11_stops_5 (tgt := 12) (by decide) (fun c_5 => ?_) (fun c_5 => absurd c_5 (by decide))
      refine a_iload_n K dX11_stops_12 rfl ?_
      refine a_if_ne K dX11_stops_13 (tgt := 20) (by decide) (fun c_13 => absurd c_13 (fun z => z rfl)) (fun c_13 => ?_)
      refine a_iconst K dX11_stops_16 (v := 1) (by decide) ?_
      refine a_goto K dX11_stops_17 (tgt := 33) (by decide) ?_
      exact a_iret K EE rfl (by omega) (by omega) dX11_stops_33 ⟨by unfold stpW; rw [if_neg (fun z => z hb), if_pos rfl], rfl⟩
    | true =>
      by_cases hs : bld4 x ∧ hasB ob x
      · first | refine a_aload_n K dX11_stops_0 rfl ?_ | refine a_aload_nN K dX11_stops_0 rfl ?_
        refine a_iload_n K dX11_stops_1 rfl ?_
        refine a_invV K (q_isBuilder (m := m) (x := x)) my_X11_isBuilder ml_X11_381 im_X11_isBuilder se_X11_isBuilder (ci := 11) (by exact lm_o hM) (by decide) ⟨_, _, rfl⟩ rfl (by omega) (by omega) (by omega) rfl (Nat.le_of_ble_eq_true rfl) dX11_stops_2 ?_
        intro r9 S9 hp9
        obtain ⟨hS9, hb9⟩ := hp9
        obtain rfl := hS9.symm
        obtain rfl : r9 = some (.int 1) := hb9.elim (fun z => z.2) (fun z => absurd hb z.1)
        refine a_if_ne K dX11_stops_5 (tgt := 12) (by decide) (fun c_5 => ?_) (fun c_5 => absurd c_5 (by decide))
        refine a_iload_n K dX11_stops_12 rfl ?_
        refine a_if_ne K dX11_stops_13 (tgt := 20) (by decide) (fun c_13 => ?_) (fun c_13 => absurd c_13 (by decide))
        first | refine a_aload_n K dX11_stops_20 rfl ?_ | refine a_aload_nN K dX11_stops_20 rfl ?_
        refine a_iload_n K dX11_stops_21 rfl ?_
        refine a_invV K (q_isOpen hM (x := x) ho) my_X11_isOpen ml_X11_390 im_X11_isOpen se_X11_isOpen (ci := 11) (by exact lm_o hM) (by decide) ⟨_, _, rfl⟩ rfl (by omega) (by omega) (by omega) rfl (Nat.le_of_ble_eq_true rfl) dX11_stops_22 ?_
        intro r9 S9 hp9
        obtain ⟨hS9, hb9⟩ := hp9
        obtain rfl := hS9.symm
        obtain rfl : r9 = some (.int 1) := hb9.elim (fun z => z.2) (fun z => absurd hs z.1)
        refine a_if_ne K dX11_stops_25 (tgt := 32) (by decide) (fun c_25 => ?_) (fun c_25 => absurd c_25 (by decide))
        refine a_iconst K dX11_stops_32 (v := -1) (by decide) ?_
        exact a_iret K EE rfl (by omega) (by omega) dX11_stops_33 ⟨by unfold stpW; rw [if_neg (fun z => z hb), if_neg (by decide), if_neg (fun z => z hs.2)], rfl⟩
      · first | refine a_aload_n K dX11_stops_0 rfl ?_ | refine a_aload_nN K dX11_stops_0 rfl ?_
        refine a_iload_n K dX11_stops_1 rfl ?_
        refine a_invV K (q_isBuilder (m := m) (x := x)) my_X11_isBuilder ml_X11_381 im_X11_isBuilder se_X11_isBuilder (ci := 11) (by exact lm_o hM) (by decide) ⟨_, _, rfl⟩ rfl (by omega) (by omega) (by omega) rfl (Nat.le_of_ble_eq_true rfl) dX11_stops_2 ?_
        intro r9 S9 hp9
        obtain ⟨hS9, hb9⟩ := hp9
        obtain rfl := hS9.symm
        obtain rfl : r9 = some (.int 1) := hb9.elim (fun z => z.2) (fun z => absurd hb z.1)
        refine a_if_ne K dX11_stops_5 (tgt := 12) (by decide) (fun c_5 => ?_) (fun c_5 => absurd c_5 (by decide))
        refine a_iload_n K dX11_stops_12 rfl ?_
        refine a_if_ne K dX11_stops_13 (tgt := 20) (by decide) (fun c_13 => ?_) (fun c_13 => absurd c_13 (by decide))
        first | refine a_aload_n K dX11_stops_20 rfl ?_ | refine a_aload_nN K dX11_stops_20 rfl ?_
        refine a_iload_n K dX11_stops_21 rfl ?_
        refine a_invV K (q_isOpen hM (x := x) ho) my_X11_isOpen ml_X11_390 im_X11_isOpen se_X11_isOpen (ci := 11) (by exact lm_o hM) (by decide) ⟨_, _, rfl⟩ rfl (by omega) (by omega) (by omega) rfl (Nat.le_of_ble_eq_true rfl) dX11_stops_22 ?_
        intro r9 S9 hp9
        obtain ⟨hS9, hb9⟩ := hp9
        obtain rfl := hS9.symm
        obtain rfl : r9 = some (.int 0) := hb9.elim (fun z => absurd z.1 hs) (fun z => z.2)
        refine a_if_ne K dX11_stops_25 (tgt := 32) (by decide) (fun c_25 => absurd c_25 (fun z => z rfl)) (fun c_25 => ?_)
        refine a_iconst K dX11_stops_28 (v := 2) (by decide) ?_
        refine a_goto K dX11_stops_29 (tgt := 33) (by decide) ?_
        exact a_iret K EE rfl (by omega) (by omega) dX11_stops_33 ⟨by unfold stpW; rw [if_neg (fun z => z hb), if_neg (by decide), if_pos (fun z => hs ⟨hb, z⟩)], rfl⟩
  · first | refine a_aload_n K dX11_stops_0 rfl ?_ | refine a_aload_nN K dX11_stops_0 rfl ?_
    refine a_iload_n K dX11_stops_1 rfl ?_
    refine a_invV K (q_isBuilder (m := m) (x := x)) my_X11_isBuilder ml_X11_381 im_X11_isBuilder se_X11_isBuilder (ci := 11) (by exact lm_o hM) (by decide) ⟨_, _, rfl⟩ rfl (by omega) (by omega) (by omega) rfl (Nat.le_of_ble_eq_true rfl) dX11_stops_2 ?_
    intro r9 S9 hp9
    obtain ⟨hS9, hb9⟩ := hp9
    obtain rfl := hS9.symm
    obtain rfl : r9 = some (.int 0) := hb9.elim (fun z => absurd z.1 hb) (fun z => z.2)
    refine a_if_ne K dX11_stops_5 (tgt := 12) (by decide) (fun c_5 => absurd c_5 (fun z => z rfl)) (fun c_5 => ?_)
    refine a_iconst K dX11_stops_8 (v := 0) (by decide) ?_
    refine a_goto K dX11_stops_9 (tgt := 33) (by decide) ?_
    exact a_iret K EE rfl (by omega) (by omega) dX11_stops_33 ⟨by unfold stpW; rw [if_pos (show ¬ (0 ≤ x.toInt ∧ x.toInt < 4) from hb)], rfl⟩
