/-! three maps -/
abbrev askP (E B O : List KV) (k : Int32) : Prop := ¬ valIn O k = valIn B k ∧ ¬ valIn O k = valIn E k
abbrev cflP (E B O : List KV) (k : Int32) : Prop := askP E B O k ∧ ¬ valIn E k = valIn B k
def v3V (E B O : List KV) (r k : Int32) : Int32 := if askP E B O k then (if r = 1 ∨ ¬ cflP E B O k then valIn O k else if r = 0 then valIn E k else valIn B k) else valIn E k
/-- the three rows -/
def R3 (S : aw_S) (v : Nat → Nat) (E O B : List KV) : Prop := RoK S (v 25) (v 26) (v 27) E ∧ RoK S (v 28) (v 29) (v 30) O ∧ RoK S (v 31) (v 32) (v 33) B
theorem vqro31 {S : aw_S} {v : Nat → Nat} (hL : LW S v) {j : Nat} (hj : j < 31) : ¬ Qro (v 31) (v 32) (v 33) (v j) := fun z => by
  rcases z with z | z | z
  · have := lw_inj hL j 31 (by omega) (by decide) z; omega
  · have := lw_inj hL j 32 (by omega) (by decide) z; omega
  · have := lw_inj hL j 33 (by omega) (by decide) z; omega
set_option maxHeartbeats 4000000 in
set_option maxRecDepth 100000 in
theorem m_isAsked {S : aw_S} {v : Nat → Nat} (hL : LW S v) {E O B : List KV} (hR : R3 S v E O B) {k : Int32} : aw_M yX10_isAsked cX10_isAsked 3 (some FieldType.boolean) 3 0 0 [.ref (v 4), .int k] S (fun r S2 => S2 = S ∧ bR (askP E B O k) r) := by
  refine aw_enter (by decide +kernel) (Nat.le_of_ble_eq_true rfl) (fun g K EE => ?_)
  first | refine a_aload_n K dX10_isAsked_0 rfl ?_ | refine a_aload_nN K dX10_isAsked_0 rfl ?_
  refine a_getRs K fd_X10_81 (lw_i4 hL) (Or.inl ⟨_, rfl⟩) (lw_f653 hL) dX10_isAsked_1 ?_
  refine a_iload_n K dX10_isAsked_4 rfl ?_
  refine a_invV K (m_R_valueOf (key := k) hR.2.1.1 hR.2.1.2.1) my_X7_valueOf ml_X10_263 im_X7_valueOf se_X7_valueOf (ci := 7) (by first | exact lw_i25 hL | exact lw_i28 hL | exact lw_i31 hL) (by decide) ⟨_, _, rfl⟩ rfl (by omega) (by omega) (by omega) rfl (Nat.le_of_ble_eq_true rfl) dX10_isAsked_5 ?_
  intro r9 S9 hp9
  obtain ⟨rfl, hS9⟩ := hp9
  obtain rfl := hS9.symm
  refine a_istore_n K dX10_isAsked_8 (by decide) ?_
  refine a_iload_n K dX10_isAsked_9 rfl ?_
  first | refine a_aload_n K dX10_isAsked_10 rfl ?_ | refine a_aload_nN K dX10_isAsked_10 rfl ?_
  refine a_getRs K fd_X10_84 (lw_i4 hL) (Or.inl ⟨_, rfl⟩) (lw_f654 hL) dX10_isAsked_11 ?_
  refine a_iload_n K dX10_isAsked_14 rfl ?_
  refine a_invV K (m_R_valueOf (key := k) hR.2.2.1 hR.2.2.2.1) my_X7_valueOf ml_X10_263 im_X7_valueOf se_X7_valueOf (ci := 7) (by first | exact lw_i25 hL | exact lw_i28 hL | exact lw_i31 hL) (by decide) ⟨_, _, rfl⟩ rfl (by omega) (by omega) (by omega) rfl (Nat.le_of_ble_eq_true rfl) dX10_isAsked_15 ?_
  intro r9 S9 hp9
  obtain ⟨rfl, hS9⟩ := hp9
  obtain rfl := hS9.symm
  refine a_icmp_eq K dX10_isAsked_18 (tgt := 37) (by decide) (fun c_18 => ?_) (fun c_18 => ?_)
  · refine a_iconst K dX10_isAsked_37 (v := 0) (by decide) ?_
    exact a_iret K EE rfl (by omega) (by omega) dX10_isAsked_38 (by first | exact ⟨rfl, Or.inl ⟨⟨c_18, c_30⟩, rfl⟩⟩ | exact ⟨rfl, Or.inr ⟨fun z => z.2 c_30, rfl⟩⟩ | exact ⟨rfl, Or.inr ⟨fun z => z.1 c_18, rfl⟩⟩)
  · refine a_iload_n K dX10_isAsked_21 rfl ?_
    first | refine a_aload_n K dX10_isAsked_22 rfl ?_ | refine a_aload_nN K dX10_isAsked_22 rfl ?_
    refine a_getRs K fd_X10_77 (lw_i4 hL) (Or.inl ⟨_, rfl⟩) (lw_f652 hL) dX10_isAsked_23 ?_
    refine a_iload_n K dX10_isAsked_26 rfl ?_
    refine a_invV K (m_R_valueOf (key := k) hR.1.1 hR.1.2.1) my_X7_valueOf ml_X10_263 im_X7_valueOf se_X7_valueOf (ci := 7) (by first | exact lw_i25 hL | exact lw_i28 hL | exact lw_i31 hL) (by decide) ⟨_, _, rfl⟩ rfl (by omega) (by omega) (by omega) rfl (Nat.le_of_ble_eq_true rfl) dX10_isAsked_27 ?_
    intro r9 S9 hp9
    obtain ⟨rfl, hS9⟩ := hp9
    obtain rfl := hS9.symm
    refine a_icmp_eq K dX10_isAsked_30 (tgt := 37) (by decide) (fun c_30 => ?_) (fun c_30 => ?_)
    · refine a_iconst K dX10_isAsked_37 (v := 0) (by decide) ?_
      exact a_iret K EE rfl (by omega) (by omega) dX10_isAsked_38 (by first | exact ⟨rfl, Or.inl ⟨⟨c_18, c_30⟩, rfl⟩⟩ | exact ⟨rfl, Or.inr ⟨fun z => z.2 c_30, rfl⟩⟩ | exact ⟨rfl, Or.inr ⟨fun z => z.1 c_18, rfl⟩⟩)
    · refine a_iconst K dX10_isAsked_33 (v := 1) (by decide) ?_
      refine a_goto K dX10_isAsked_34 (tgt := 38) (by decide) ?_
      exact a_iret K EE rfl (by omega) (by omega) dX10_isAsked_38 (by first | exact ⟨rfl, Or.inl ⟨⟨c_18, c_30⟩, rfl⟩⟩ | exact ⟨rfl, Or.inr ⟨fun z => z.2 c_30, rfl⟩⟩ | exact ⟨rfl, Or.inr ⟨fun z => z.1 c_18, rfl⟩⟩)
set_option maxHeartbeats 4000000 in
set_option maxRecDepth 100000 in
theorem m_isConflict {S : aw_S} {v : Nat → Nat} (hL : LW S v) {E O B : List KV} (hR : R3 S v E O B) {k : Int32} : aw_M yX10_isConflict cX10_isConflict 2 (some FieldType.boolean) 4 0 0 [.ref (v 4), .int k] S (fun r S2 => S2 = S ∧ bR (cflP E B O k) r) := by
  refine aw_enter (by decide +kernel) (Nat.le_of_ble_eq_true rfl) (fun g K EE => ?_)
  first | refine a_aload_n K dX10_isConflict_0 rfl ?_ | refine a_aload_nN K dX10_isConflict_0 rfl ?_
  refine a_iload_n K dX10_isConflict_1 rfl ?_
  refine a_invV K (m_isAsked hL hR (k := k)) my_X10_isAsked ml_X10_298 im_X10_isAsked se_X10_isAsked (ci := 10) (lw_i4 hL) (by decide) ⟨_, _, rfl⟩ rfl (by omega) (by omega) (by omega) rfl (Nat.le_of_ble_eq_true rfl) dX10_isConflict_2 ?_
  intro r9 S9 hp9
  obtain ⟨hS9, hb9⟩ := hp9
  obtain rfl := hS9.symm
  rcases hb9 with ⟨b_2, rfl⟩ | ⟨b_2, rfl⟩
  · refine a_if_eq K dX10_isConflict_5 (tgt := 31) (by decide) (fun z => absurd z (by decide)) (fun _ => ?_)
    first | refine a_aload_n K dX10_isConflict_8 rfl ?_ | refine a_aload_nN K dX10_isConflict_8 rfl ?_
    refine a_getRs K fd_X10_77 (lw_i4 hL) (Or.inl ⟨_, rfl⟩) (lw_f652 hL) dX10_isConflict_9 ?_
    refine a_iload_n K dX10_isConflict_12 rfl ?_
    refine a_invV K (m_R_valueOf (key := k) hR.1.1 hR.1.2.1) my_X7_valueOf ml_X10_263 im_X7_valueOf se_X7_valueOf (ci := 7) (by first | exact lw_i25 hL | exact lw_i28 hL | exact lw_i31 hL) (by decide) ⟨_, _, rfl⟩ rfl (by omega) (by omega) (by omega) rfl (Nat.le_of_ble_eq_true rfl) dX10_isConflict_13 ?_
    intro r9 S9 hp9
    obtain ⟨rfl, hS9⟩ := hp9
    obtain rfl := hS9.symm
    first | refine a_aload_n K dX10_isConflict_16 rfl ?_ | refine a_aload_nN K dX10_isConflict_16 rfl ?_
    refine a_getRs K fd_X10_84 (lw_i4 hL) (Or.inl ⟨_, rfl⟩) (lw_f654 hL) dX10_isConflict_17 ?_
    refine a_iload_n K dX10_isConflict_20 rfl ?_
    refine a_invV K (m_R_valueOf (key := k) hR.2.2.1 hR.2.2.2.1) my_X7_valueOf ml_X10_263 im_X7_valueOf se_X7_valueOf (ci := 7) (by first | exact lw_i25 hL | exact lw_i28 hL | exact lw_i31 hL) (by decide) ⟨_, _, rfl⟩ rfl (by omega) (by omega) (by omega) rfl (Nat.le_of_ble_eq_true rfl) dX10_isConflict_21 ?_
    intro r9 S9 hp9
    obtain ⟨rfl, hS9⟩ := hp9
    obtain rfl := hS9.symm
    refine a_icmp_eq K dX10_isConflict_24 (tgt := 31) (by decide) (fun c_24 => ?_) (fun c_24 => ?_)
    · refine a_iconst K dX10_isConflict_31 (v := 0) (by decide) ?_
      exact a_iret K EE rfl (by omega) (by omega) dX10_isConflict_32 (by first | exact ⟨rfl, Or.inl ⟨⟨b_2, c_24⟩, rfl⟩⟩ | exact ⟨rfl, Or.inr ⟨fun z => z.2 c_24, rfl⟩⟩ | exact ⟨rfl, Or.inr ⟨fun z => b_2 z.1, rfl⟩⟩)
    · refine a_iconst K dX10_isConflict_27 (v := 1) (by decide) ?_
      refine a_goto K dX10_isConflict_28 (tgt := 32) (by decide) ?_
      exact a_iret K EE rfl (by omega) (by omega) dX10_isConflict_32 (by first | exact ⟨rfl, Or.inl ⟨⟨b_2, c_24⟩, rfl⟩⟩ | exact ⟨rfl, Or.inr ⟨fun z => z.2 c_24, rfl⟩⟩ | exact ⟨rfl, Or.inr ⟨fun z => b_2 z.1, rfl⟩⟩)
  · refine a_if_eq K dX10_isConflict_5 (tgt := 31) (by decide) (fun _ => ?_) (fun z => absurd z (by decide))
    refine a_iconst K dX10_isConflict_31 (v := 0) (by decide) ?_
    exact a_iret K EE rfl (by omega) (by omega) dX10_isConflict_32 (by first | exact ⟨rfl, Or.inl ⟨⟨b_2, c_24⟩, rfl⟩⟩ | exact ⟨rfl, Or.inr ⟨fun z => z.2 c_24, rfl⟩⟩ | exact ⟨rfl, Or.inr ⟨fun z => b_2 z.1, rfl⟩⟩)
set_option maxHeartbeats 4000000 in
set_option maxRecDepth 100000 in
theorem m_valueOfThree {S : aw_S} {v : Nat → Nat} (hL : LW S v) {E O B : List KV} (hR : R3 S v E O B) {k : Int32} {r : Int32} : aw_M yX10_valueOfThree cX10_valueOfThree 3 (some FieldType.int) 5 0 0 [.ref (v 4), .int k, .int r] S (fun q S2 => q = some (.int (v3V E B O r k)) ∧ S2 = S) := by
  refine aw_enter (by decide +kernel) (Nat.le_of_ble_eq_true rfl) (fun g K EE => ?_)
  first | refine a_aload_n K dX10_valueOfThree_0 rfl ?_ | refine a_aload_nN K dX10_valueOfThree_0 rfl ?_
  refine a_iload_n K dX10_valueOfThree_1 rfl ?_
  refine a_invV K (m_isAsked hL hR (k := k)) my_X10_isAsked ml_X10_298 im_X10_isAsked se_X10_isAsked (ci := 10) (lw_i4 hL) (by decide) ⟨_, _, rfl⟩ rfl (by omega) (by omega) (by omega) rfl (Nat.le_of_ble_eq_true rfl) dX10_valueOfThree_2 ?_
  intro r9 S9 hp9
  obtain ⟨hS9, hb9⟩ := hp9
  obtain rfl := hS9.symm
  rcases hb9 with ⟨b_2, rfl⟩ | ⟨b_2, rfl⟩
  · refine a_if_ne K dX10_valueOfThree_5 (tgt := 17) (by decide) (fun _ => ?_) (fun z => absurd z (by decide))
    refine a_iload_n K dX10_valueOfThree_17 rfl ?_
    refine a_iconst K dX10_valueOfThree_18 (v := 1) (by decide) ?_
    refine a_icmp_eq K dX10_valueOfThree_19 (tgt := 30) (by decide) (fun c_19 => ?_) (fun c_19 => ?_)
    · first | refine a_aload_n K dX10_valueOfThree_30 rfl ?_ | refine a_aload_nN K dX10_valueOfThree_30 rfl ?_
      refine a_getRs K fd_X10_81 (lw_i4 hL) (Or.inl ⟨_, rfl⟩) (lw_f653 hL) dX10_valueOfThree_31 ?_
      refine a_iload_n K dX10_valueOfThree_34 rfl ?_
      refine a_invV K (m_R_valueOf (key := k) hR.2.1.1 hR.2.1.2.1) my_X7_valueOf ml_X10_263 im_X7_valueOf se_X7_valueOf (ci := 7) (by first | exact lw_i25 hL | exact lw_i28 hL | exact lw_i31 hL) (by decide) ⟨_, _, rfl⟩ rfl (by omega) (by omega) (by omega) rfl (Nat.le_of_ble_eq_true rfl) dX10_valueOfThree_35 ?_
      intro r9 S9 hp9
      obtain ⟨rfl, hS9⟩ := hp9
      obtain rfl := hS9.symm
      exact a_iret K EE rfl (by omega) (by omega) dX10_valueOfThree_38 ⟨by unfold v3V; first | rw [if_pos b_2, if_pos (Or.inl (by first | exact c_19 | exact Classical.not_not.mp c_19))] | rw [if_pos b_2, if_pos (Or.inr b_24)], rfl⟩
    · first | refine a_aload_n K dX10_valueOfThree_22 rfl ?_ | refine a_aload_nN K dX10_valueOfThree_22 rfl ?_
      refine a_iload_n K dX10_valueOfThree_23 rfl ?_
      refine a_invV K (m_isConflict hL hR (k := k)) my_X10_isConflict ml_X10_292 im_X10_isConflict se_X10_isConflict (ci := 10) (lw_i4 hL) (by decide) ⟨_, _, rfl⟩ rfl (by omega) (by omega) (by omega) rfl (Nat.le_of_ble_eq_true rfl) dX10_valueOfThree_24 ?_
      intro r9 S9 hp9
      obtain ⟨hS9, hb9⟩ := hp9
      obtain rfl := hS9.symm
      rcases hb9 with ⟨b_24, rfl⟩ | ⟨b_24, rfl⟩
      · refine a_if_ne K dX10_valueOfThree_27 (tgt := 39) (by decide) (fun _ => ?_) (fun z => absurd z (by decide))
        refine a_iload_n K dX10_valueOfThree_39 rfl ?_
        refine a_if_ne K dX10_valueOfThree_40 (tgt := 54) (by decide) (fun c_40 => ?_) (fun c_40 => ?_)
        · first | refine a_aload_n K dX10_valueOfThree_54 rfl ?_ | refine a_aload_nN K dX10_valueOfThree_54 rfl ?_
          refine a_getRs K fd_X10_84 (lw_i4 hL) (Or.inl ⟨_, rfl⟩) (lw_f654 hL) dX10_valueOfThree_55 ?_
          refine a_iload_n K dX10_valueOfThree_58 rfl ?_
          refine a_invV K (m_R_valueOf (key := k) hR.2.2.1 hR.2.2.2.1) my_X7_valueOf ml_X10_263 im_X7_valueOf se_X7_valueOf (ci := 7) (by first | exact lw_i25 hL | exact lw_i28 hL | exact lw_i31 hL) (by decide) ⟨_, _, rfl⟩ rfl (by omega) (by omega) (by omega) rfl (Nat.le_of_ble_eq_true rfl) dX10_valueOfThree_59 ?_
          intro r9 S9 hp9
          obtain ⟨rfl, hS9⟩ := hp9
          obtain rfl := hS9.symm
          exact a_iret K EE rfl (by omega) (by omega) dX10_valueOfThree_62 ⟨by unfold v3V; first | rw [if_pos b_2, if_neg (fun z => z.elim c_19 (fun y => y b_24)), if_pos (by first | exact c_40 | exact Classical.not_not.mp c_40)] | rw [if_pos b_2, if_neg (fun z => z.elim c_19 (fun y => y b_24)), if_neg c_40], rfl⟩
        · first | refine a_aload_n K dX10_valueOfThree_43 rfl ?_ | refine a_aload_nN K dX10_valueOfThree_43 rfl ?_
          refine a_getRs K fd_X10_77 (lw_i4 hL) (Or.inl ⟨_, rfl⟩) (lw_f652 hL) dX10_valueOfThree_44 ?_
          refine a_iload_n K dX10_valueOfThree_47 rfl ?_
          refine a_invV K (m_R_valueOf (key := k) hR.1.1 hR.1.2.1) my_X7_valueOf ml_X10_263 im_X7_valueOf se_X7_valueOf (ci := 7) (by first | exact lw_i25 hL | exact lw_i28 hL | exact lw_i31 hL) (by decide) ⟨_, _, rfl⟩ rfl (by omega) (by omega) (by omega) rfl (Nat.le_of_ble_eq_true rfl) dX10_valueOfThree_48 ?_
          intro r9 S9 hp9
          obtain ⟨rfl, hS9⟩ := hp9
          obtain rfl := hS9.symm
          refine a_goto K dX10_valueOfThree_51 (tgt := 62) (by decide) ?_
          exact a_iret K EE rfl (by omega) (by omega) dX10_valueOfThree_62 ⟨by unfold v3V; first | rw [if_pos b_2, if_neg (fun z => z.elim c_19 (fun y => y b_24)), if_pos (by first | exact c_40 | exact Classical.not_not.mp c_40)] | rw [if_pos b_2, if_neg (fun z => z.elim c_19 (fun y => y b_24)), if_neg c_40], rfl⟩
      · refine a_if_ne K dX10_valueOfThree_27 (tgt := 39) (by decide) (fun z => absurd z (by decide)) (fun _ => ?_)
        first | refine a_aload_n K dX10_valueOfThree_30 rfl ?_ | refine a_aload_nN K dX10_valueOfThree_30 rfl ?_
        refine a_getRs K fd_X10_81 (lw_i4 hL) (Or.inl ⟨_, rfl⟩) (lw_f653 hL) dX10_valueOfThree_31 ?_
        refine a_iload_n K dX10_valueOfThree_34 rfl ?_
        refine a_invV K (m_R_valueOf (key := k) hR.2.1.1 hR.2.1.2.1) my_X7_valueOf ml_X10_263 im_X7_valueOf se_X7_valueOf (ci := 7) (by first | exact lw_i25 hL | exact lw_i28 hL | exact lw_i31 hL) (by decide) ⟨_, _, rfl⟩ rfl (by omega) (by omega) (by omega) rfl (Nat.le_of_ble_eq_true rfl) dX10_valueOfThree_35 ?_
        intro r9 S9 hp9
        obtain ⟨rfl, hS9⟩ := hp9
        obtain rfl := hS9.symm
        exact a_iret K EE rfl (by omega) (by omega) dX10_valueOfThree_38 ⟨by unfold v3V; first | rw [if_pos b_2, if_pos (Or.inl (by first | exact c_19 | exact Classical.not_not.mp c_19))] | rw [if_pos b_2, if_pos (Or.inr b_24)], rfl⟩
  · refine a_if_ne K dX10_valueOfThree_5 (tgt := 17) (by decide) (fun z => absurd z (by decide)) (fun _ => ?_)
    first | refine a_aload_n K dX10_valueOfThree_8 rfl ?_ | refine a_aload_nN K dX10_valueOfThree_8 rfl ?_
    refine a_getRs K fd_X10_77 (lw_i4 hL) (Or.inl ⟨_, rfl⟩) (lw_f652 hL) dX10_valueOfThree_9 ?_
    refine a_iload_n K dX10_valueOfThree_12 rfl ?_
    refine a_invV K (m_R_valueOf (key := k) hR.1.1 hR.1.2.1) my_X7_valueOf ml_X10_263 im_X7_valueOf se_X7_valueOf (ci := 7) (by first | exact lw_i25 hL | exact lw_i28 hL | exact lw_i31 hL) (by decide) ⟨_, _, rfl⟩ rfl (by omega) (by omega) (by omega) rfl (Nat.le_of_ble_eq_true rfl) dX10_valueOfThree_13 ?_
    intro r9 S9 hp9
    obtain ⟨rfl, hS9⟩ := hp9
    obtain rfl := hS9.symm
    exact a_iret K EE rfl (by omega) (by omega) dX10_valueOfThree_16 ⟨by unfold v3V; rw [if_neg b_2], rfl⟩
set_option maxHeartbeats 4000000 in
set_option maxRecDepth 100000 in
theorem c_fillThree_n {S : aw_S} {v ad ar : Nat → Nat} {PA : List (Nat × Nat)} {X : List Nat} {mb : Nat} {P : PS} (h : RC S v ad ar PA X mb P) (hP : PI P) {b m o : Int32} (hn : rootP P b = none ∨ rootP P m = none ∨ rootP P o = none) : aw_M yX10_fillThree cX10_fillThree 5 (some FieldType.boolean) 10 0 0 [.ref (v 4), .int b, .int m, .int o] S (fun r S2 => r = some (.int 0) ∧ S2 = S) := by
  have hL := h.L
  cases hx : rootP P b with
  | none =>
    refine aw_enter (by decide +kernel) (Nat.le_of_ble_eq_true rfl) (fun g K EE => ?_)
    first | refine a_aload_n K dX10_fillThree_0 rfl ?_ | refine a_aload_nN K dX10_fillThree_0 rfl ?_
    refine a_getRs K fd_X10_46 (lw_i4 hL) (Or.inl ⟨_, rfl⟩) (lw_f646 hL) dX10_fillThree_1 ?_
    refine a_iload_n K dX10_fillThree_4 rfl ?_
    refine a_invV K (m_root h b) my_X3_heldRoot ml_X10_165 im_X3_heldRoot se_X3_heldRoot (ci := 3) (lw_i6 hL) (by decide) ⟨_, _, rfl⟩ rfl (by omega) (by omega) (by omega) rfl (Nat.le_of_ble_eq_true rfl) dX10_fillThree_5 ?_
    intro r9 S9 hp9
    obtain ⟨rfl, hS9⟩ := hp9
    obtain rfl := hS9.symm
    rw [hx]
    first | refine a_astore K dX10_fillThree_8 (by decide) ?_ | refine a_astoreN K dX10_fillThree_8 (by decide) ?_
    first | refine a_aload K dX10_fillThree_10 rfl ?_ | refine a_aloadN K dX10_fillThree_10 rfl ?_
    refine a_ifnullN K dX10_fillThree_12 (tgt := 24) (by decide) ?_
    refine a_iconst K dX10_fillThree_24 (v := 0) (by decide) ?_
    exact a_iret K EE rfl (by omega) (by omega) dX10_fillThree_25 ⟨rfl, rfl⟩
  | some x =>
    have hn : rootP P m = none ∨ rootP P o = none := hn.elim (fun z => absurd (hx.symm.trans z) (by simp)) id
    refine aw_enter (by decide +kernel) (Nat.le_of_ble_eq_true rfl) (fun g K EE => ?_)
    first | refine a_aload_n K dX10_fillThree_0 rfl ?_ | refine a_aload_nN K dX10_fillThree_0 rfl ?_
    refine a_getRs K fd_X10_46 (lw_i4 hL) (Or.inl ⟨_, rfl⟩) (lw_f646 hL) dX10_fillThree_1 ?_
    refine a_iload_n K dX10_fillThree_4 rfl ?_
    refine a_invV K (m_root h b) my_X3_heldRoot ml_X10_165 im_X3_heldRoot se_X3_heldRoot (ci := 3) (lw_i6 hL) (by decide) ⟨_, _, rfl⟩ rfl (by omega) (by omega) (by omega) rfl (Nat.le_of_ble_eq_true rfl) dX10_fillThree_5 ?_
    intro r9 S9 hp9
    obtain ⟨rfl, hS9⟩ := hp9
    obtain rfl := hS9.symm
    rw [hx]
    first | refine a_astore K dX10_fillThree_8 (by decide) ?_ | refine a_astoreN K dX10_fillThree_8 (by decide) ?_
    first | refine a_aload K dX10_fillThree_10 rfl ?_ | refine a_aloadN K dX10_fillThree_10 rfl ?_
    refine a_ifnull K dX10_fillThree_12 ?_
    first | refine a_aload_n K dX10_fillThree_15 rfl ?_ | refine a_aload_nN K dX10_fillThree_15 rfl ?_
    refine a_iload_n K dX10_fillThree_16 rfl ?_
    refine a_iload_n K dX10_fillThree_17 rfl ?_
    refine a_invV K (c_fillTwo_n h hP hn) my_X10_fillTwo ml_X10_295 im_X10_fillTwo se_X10_fillTwo (ci := 10) (lw_i4 hL) (by decide) ⟨_, _, rfl⟩ rfl (by omega) (by omega) (by omega) rfl (Nat.le_of_ble_eq_true rfl) dX10_fillThree_18 ?_
    intro r9 S9 hp9
    obtain ⟨rfl, hS9⟩ := hp9
    obtain rfl := hS9.symm
    refine a_if_ne K dX10_fillThree_21 (tgt := 26) (by decide) (fun c_21 => absurd c_21 (fun z => z rfl)) (fun c_21 => ?_)
    refine a_iconst K dX10_fillThree_24 (v := 0) (by decide) ?_
    exact a_iret K EE rfl (by omega) (by omega) dX10_fillThree_25 ⟨rfl, rfl⟩
set_option maxHeartbeats 4000000 in
set_option maxRecDepth 100000 in
theorem c_fillThree_y {S : aw_S} {v ad ar : Nat → Nat} {PA : List (Nat × Nat)} {X : List Nat} {mb : Nat} {P : PS} (h : RC S v ad ar PA X mb P) (hP : PI P) {b m o : Int32} {x z y : Tz} (hx : rootP P b = some x) (hz : rootP P m = some z) (hy : rootP P o = some y) : aw_M yX10_fillThree cX10_fillThree 5 (some FieldType.boolean) 10 0 0 [.ref (v 4), .int b, .int m, .int o] S (fun r S2 => r = some (.int 1) ∧ R3 S2 v (ent z.1 z.2) (ent y.1 y.2) (ent x.1 x.2) ∧ RC S2 v ad ar PA X mb P ∧ keepX X S S2) := by
  have hL := h.L
  have tx := h.tt hP hx
  obtain ⟨hx4, -, -⟩ := tx.2.h4 hP.1.1
  refine aw_enter (by decide +kernel) (Nat.le_of_ble_eq_true rfl) (fun g K EE => ?_)
  first | refine a_aload_n K dX10_fillThree_0 rfl ?_ | refine a_aload_nN K dX10_fillThree_0 rfl ?_
  refine a_getRs K fd_X10_46 (lw_i4 hL) (Or.inl ⟨_, rfl⟩) (lw_f646 hL) dX10_fillThree_1 ?_
  refine a_iload_n K dX10_fillThree_4 rfl ?_
  refine a_invV K (m_root h b) my_X3_heldRoot ml_X10_165 im_X3_heldRoot se_X3_heldRoot (ci := 3) (lw_i6 hL) (by decide) ⟨_, _, rfl⟩ rfl (by omega) (by omega) (by omega) rfl (Nat.le_of_ble_eq_true rfl) dX10_fillThree_5 ?_
  intro r9 S9 hp9
  obtain ⟨rfl, hS9⟩ := hp9
  obtain rfl := hS9.symm
  rw [hx]
  first | refine a_astore K dX10_fillThree_8 (by decide) ?_ | refine a_astoreN K dX10_fillThree_8 (by decide) ?_
  first | refine a_aload K dX10_fillThree_10 rfl ?_ | refine a_aloadN K dX10_fillThree_10 rfl ?_
  refine a_ifnull K dX10_fillThree_12 ?_
  first | refine a_aload_n K dX10_fillThree_15 rfl ?_ | refine a_aload_nN K dX10_fillThree_15 rfl ?_
  refine a_iload_n K dX10_fillThree_16 rfl ?_
  refine a_iload_n K dX10_fillThree_17 rfl ?_
  refine a_invV K (c_fillTwo_y h hP hz hy) my_X10_fillTwo ml_X10_295 im_X10_fillTwo se_X10_fillTwo (ci := 10) (lw_i4 hL) (by decide) ⟨_, _, rfl⟩ rfl (by omega) (by omega) (by omega) rfl (Nat.le_of_ble_eq_true rfl) dX10_fillThree_18 ?_
  intro r9 S3 hp9
  obtain ⟨rfl, hR, hF, h3, k3, tz3, ty3⟩ := hp9
  have hL := h3.L
  have tx3 : TT_ S3 ad ar P x := ⟨h3.trw hx rfl, tx.2⟩
  refine a_if_ne K dX10_fillThree_21 (tgt := 26) (by decide) (fun c_21 => ?_) (fun c_21 => absurd c_21 (by decide))
  first | refine a_aload_n K dX10_fillThree_26 rfl ?_ | refine a_aload_nN K dX10_fillThree_26 rfl ?_
  refine a_getRs K fd_X10_84 (lw_i4 hL) (Or.inl ⟨_, rfl⟩) (lw_f654 hL) dX10_fillThree_27 ?_
  first | refine a_aload K dX10_fillThree_30 rfl ?_ | refine a_aloadN K dX10_fillThree_30 rfl ?_
  refine a_invV K (m_fill31 h3 hP.1.1 tx3) my_X7_fill ml_X10_173 im_X7_fill se_X7_fill (ci := 7) (by first | exact lw_i25 hL | exact lw_i28 hL | exact lw_i31 hL) (by decide) ⟨_, _, rfl⟩ rfl (by omega) (by omega) (by omega) rfl (Nat.le_of_ble_eq_true rfl) dX10_fillThree_32 ?_
  intro r9 S9 hp9
  obtain ⟨rfl, hB, h4, k4, f4⟩ := hp9
  have hL := h4.L
  refine a_iconst K dX10_fillThree_35 (v := 1) (by decide) ?_
  exact a_iret K EE rfl (by omega) (by omega) dX10_fillThree_36 ⟨rfl, ⟨⟨hR.fr f4.fr (vqro31 hL (by decide)) (vqro31 hL (by decide)) (vqro31 hL (by decide)), hP.rok hz⟩, ⟨hF.fr f4.fr (vqro31 hL (by decide)) (vqro31 hL (by decide)) (vqro31 hL (by decide)), hP.rok hy⟩, ⟨hB, hP.rok hx⟩⟩, h4, k3.tr k4⟩
def cfl (E B O : List KV) (k : Nat) : Bool := decide (cflP E B O (nI k))
theorem cfl_no {E B O : List KV} {k : Nat} (h : valIn B (nI k) = -1000000 ∧ valIn O (nI k) = -1000000) : cfl E B O k = false := decide_eq_false (fun z => z.1.1 (h.2.trans h.1.symm))
theorem cntU_y {U : Nat → Bool} {n f : Nat} (h : U (999 - n) = true) : cntU U (n + 1) f = cntU U n (f + 1) := by rw [cntU, if_pos h]
theorem cntU_n {U : Nat → Bool} {n f : Nat} (h : U (999 - n) = false) : cntU U (n + 1) f = cntU U n f := by rw [cntU, h, if_neg (by decide)]
def aConf (P : PS) (b m o : Int32) : Int32 := match rootP P b, rootP P m, rootP P o with
  | some x, some z, some y => nI (cntU (cfl (ent z.1 z.2) (ent x.1 x.2) (ent y.1 y.2)) 1000 0)
  | _, _, _ => -1
set_option maxHeartbeats 4000000 in
set_option maxRecDepth 100000 in
theorem c_conflicts {S : aw_S} {v ad ar : Nat → Nat} {PA : List (Nat × Nat)} {X : List Nat} {mb : Nat} {P : PS} (h : RC S v ad ar PA X mb P) (hP : PI P) {b m o : Int32} : aw_M yX10_conflicts cX10_conflicts 7 (some FieldType.int) 11 0 0 [.ref (v 4), .int b, .int m, .int o] S (fun r S2 => r = some (.int (aConf P b m o)) ∧ RC S2 v ad ar PA X mb P ∧ keepX X S S2) := by
  have hL := h.L
  cases hx : rootP P b with
  | none =>
    refine aw_enter (by decide +kernel) (Nat.le_of_ble_eq_true rfl) (fun g K EE => ?_)
    first | refine a_aload_n K dX10_conflicts_0 rfl ?_ | refine a_aload_nN K dX10_conflicts_0 rfl ?_
    refine a_iload_n K dX10_conflicts_1 rfl ?_
    refine a_iload_n K dX10_conflicts_2 rfl ?_
    refine a_iload_n K dX10_conflicts_3 rfl ?_
    refine a_invV K (c_fillThree_n h hP (Or.inl hx)) my_X10_fillThree ml_X10_278 im_X10_fillThree se_X10_fillThree (ci := 10) (lw_i4 hL) (by decide) ⟨_, _, rfl⟩ rfl (by omega) (by omega) (by omega) rfl (Nat.le_of_ble_eq_true rfl) dX10_conflicts_4 ?_
    intro r9 S9 hp9
    obtain ⟨rfl, hS9⟩ := hp9
    obtain rfl := hS9.symm
    refine a_if_ne K dX10_conflicts_7 (tgt := 12) (by decide) (fun c_7 => absurd c_7 (fun z => z rfl)) (fun c_7 => ?_)
    refine a_iconst K dX10_conflicts_10 (v := -1) (by decide) ?_
    exact a_iret K EE rfl (by omega) (by omega) dX10_conflicts_11 ⟨by unfold aConf; rw [hx], h, h.X⟩
  | some x =>
    cases hz : rootP P m with
    | none =>
      refine aw_enter (by decide +kernel) (Nat.le_of_ble_eq_true rfl) (fun g K EE => ?_)
      first | refine a_aload_n K dX10_conflicts_0 rfl ?_ | refine a_aload_nN K dX10_conflicts_0 rfl ?_
      refine a_iload_n K dX10_conflicts_1 rfl ?_
      refine a_iload_n K dX10_conflicts_2 rfl ?_
      refine a_iload_n K dX10_conflicts_3 rfl ?_
      refine a_invV K (c_fillThree_n h hP (Or.inr (Or.inl hz))) my_X10_fillThree ml_X10_278 im_X10_fillThree se_X10_fillThree (ci := 10) (lw_i4 hL) (by decide) ⟨_, _, rfl⟩ rfl (by omega) (by omega) (by omega) rfl (Nat.le_of_ble_eq_true rfl) dX10_conflicts_4 ?_
      intro r9 S9 hp9
      obtain ⟨rfl, hS9⟩ := hp9
      obtain rfl := hS9.symm
      refine a_if_ne K dX10_conflicts_7 (tgt := 12) (by decide) (fun c_7 => absurd c_7 (fun z => z rfl)) (fun c_7 => ?_)
      refine a_iconst K dX10_conflicts_10 (v := -1) (by decide) ?_
      exact a_iret K EE rfl (by omega) (by omega) dX10_conflicts_11 ⟨by unfold aConf; rw [hx, hz], h, h.X⟩
    | some z =>
      cases hy : rootP P o with
      | none =>
        refine aw_enter (by decide +kernel) (Nat.le_of_ble_eq_true rfl) (fun g K EE => ?_)
        first | refine a_aload_n K dX10_conflicts_0 rfl ?_ | refine a_aload_nN K dX10_conflicts_0 rfl ?_
        refine a_iload_n K dX10_conflicts_1 rfl ?_
        refine a_iload_n K dX10_conflicts_2 rfl ?_
        refine a_iload_n K dX10_conflicts_3 rfl ?_
        refine a_invV K (c_fillThree_n h hP (Or.inr (Or.inr hy))) my_X10_fillThree ml_X10_278 im_X10_fillThree se_X10_fillThree (ci := 10) (lw_i4 hL) (by decide) ⟨_, _, rfl⟩ rfl (by omega) (by omega) (by omega) rfl (Nat.le_of_ble_eq_true rfl) dX10_conflicts_4 ?_
        intro r9 S9 hp9
        obtain ⟨rfl, hS9⟩ := hp9
        obtain rfl := hS9.symm
        refine a_if_ne K dX10_conflicts_7 (tgt := 12) (by decide) (fun c_7 => absurd c_7 (fun z => z rfl)) (fun c_7 => ?_)
        refine a_iconst K dX10_conflicts_10 (v := -1) (by decide) ?_
        exact a_iret K EE rfl (by omega) (by omega) dX10_conflicts_11 ⟨by unfold aConf; rw [hx, hz, hy], h, h.X⟩
      | some y =>
        refine aw_enter (by decide +kernel) (Nat.le_of_ble_eq_true rfl) (fun g K EE => ?_)
        first | refine a_aload_n K dX10_conflicts_0 rfl ?_ | refine a_aload_nN K dX10_conflicts_0 rfl ?_
        refine a_iload_n K dX10_conflicts_1 rfl ?_
        refine a_iload_n K dX10_conflicts_2 rfl ?_
        refine a_iload_n K dX10_conflicts_3 rfl ?_
        refine a_invV K (c_fillThree_y h hP hx hz hy) my_X10_fillThree ml_X10_278 im_X10_fillThree se_X10_fillThree (ci := 10) (lw_i4 hL) (by decide) ⟨_, _, rfl⟩ rfl (by omega) (by omega) (by omega) rfl (Nat.le_of_ble_eq_true rfl) dX10_conflicts_4 ?_
        intro r9 S3 hp9
        obtain ⟨rfl, hR, h3, k3⟩ := hp9
        have hL := h3.L
        obtain ⟨E, eE⟩ : ∃ E, E = ent z.1 z.2 := ⟨_, rfl⟩
        obtain ⟨O, eO⟩ : ∃ F, F = ent y.1 y.2 := ⟨_, rfl⟩
        obtain ⟨B, eB⟩ : ∃ F, F = ent x.1 x.2 := ⟨_, rfl⟩
        rw [← eE, ← eO, ← eB] at hR
        have loop : ∀ (n c p f : Nat) (x9 ky : Int32), p + n = 1000 → x9 = nI c → c ≤ p → f ≤ p → nxt B O p ky → cntU (cfl E B O) 1000 0 = cntU (cfl E B O) n f → aw g 7 S3 0 0 [(6, .int x9), (5, .int ky), (4, .int (nI f)), (0, .ref (v 4))] [] 32 := by
          intro n
          induction n using Nat.strongRecOn with
          | ind n ih =>
            intro c p f x9 ky hp hx9 hc hf9 hn hf
            subst hx9
            rcases hn with ⟨rfl, ha⟩ | ⟨q, hq1, hq2, rfl, ha⟩
            · by_cases hc9 : c < 1000
              · refine a_iload K dX10_conflicts_32 rfl ?_
                refine a_sipush K dX10_conflicts_34 (v := 1000) (by decide) ?_
                refine a_icmp_ge K dX10_conflicts_37 (tgt := 79) (by decide) (fun c_37 => absurd c_37 (nI_ge (a := c) (b := 1000) (by omega) (by omega))) (fun c_37 => ?_)
                refine a_iload K dX10_conflicts_40 rfl ?_
                refine a_iconst K dX10_conflicts_42 (v := -1) (by decide) ?_
                refine a_icmp_eq K dX10_conflicts_43 (tgt := 79) (by decide) (fun c_43 => ?_) (fun c_43 => absurd c_43 (by decide))
                refine a_iload K dX10_conflicts_79 rfl ?_
                exact a_iret K EE rfl (by omega) (by omega) dX10_conflicts_81 ⟨by unfold aConf; rw [hx, hz, hy]; show some (Value.int _) = some (Value.int (nI (cntU (cfl (ent z.1 z.2) (ent x.1 x.2) (ent y.1 y.2)) 1000 0))); rw [← eE, ← eO, ← eB, hf, cntU_skip (m := 0) n (Nat.zero_le _) (fun j h1 h2 => cfl_no (ha (999 - j) (by omega) (by omega)))]; rfl, h3, k3⟩
              · obtain rfl : c = 1000 := by omega
                refine a_iload K dX10_conflicts_32 rfl ?_
                refine a_sipush K dX10_conflicts_34 (v := 1000) (by decide) ?_
                refine a_icmp_ge K dX10_conflicts_37 (tgt := 79) (by decide) (fun c_37 => ?_) (fun c_37 => absurd c_37 (fun z => z (nI_le (a := 1000) (b := 1000) (Nat.le_refl _) (by omega))))
                refine a_iload K dX10_conflicts_79 rfl ?_
                exact a_iret K EE rfl (by omega) (by omega) dX10_conflicts_81 ⟨by unfold aConf; rw [hx, hz, hy]; show some (Value.int _) = some (Value.int (nI (cntU (cfl (ent z.1 z.2) (ent x.1 x.2) (ent y.1 y.2)) 1000 0))); rw [← eE, ← eO, ← eB, hf, cntU_skip (m := 0) n (Nat.zero_le _) (fun j h1 h2 => cfl_no (ha (999 - j) (by omega) (by omega)))]; rfl, h3, k3⟩
            · rw [cntU_skip (m := 999 - q + 1) (f := f) n (by omega) (fun j h1 h2 => cfl_no (ha (999 - j) (by omega) (by omega)))] at hf
              refine a_iload K dX10_conflicts_32 rfl ?_
              refine a_sipush K dX10_conflicts_34 (v := 1000) (by decide) ?_
              refine a_icmp_ge K dX10_conflicts_37 (tgt := 79) (by decide) (fun c_37 => absurd c_37 (nI_ge (a := c) (b := 1000) (by omega) (by omega))) (fun c_37 => ?_)
              refine a_iload K dX10_conflicts_40 rfl ?_
              refine a_iconst K dX10_conflicts_42 (v := -1) (by decide) ?_
              refine a_icmp_eq K dX10_conflicts_43 (tgt := 79) (by decide) (fun c_43 => absurd c_43 (nI_m1n (by omega))) (fun c_43 => ?_)
              first | refine a_aload_n K dX10_conflicts_46 rfl ?_ | refine a_aload_nN K dX10_conflicts_46 rfl ?_
              refine a_iload K dX10_conflicts_47 rfl ?_
              refine a_invV K (m_isConflict hL hR (k := nI q)) my_X10_isConflict ml_X10_292 im_X10_isConflict se_X10_isConflict (ci := 10) (lw_i4 hL) (by decide) ⟨_, _, rfl⟩ rfl (by omega) (by omega) (by omega) rfl (Nat.le_of_ble_eq_true rfl) dX10_conflicts_49 ?_
              intro r9 S9 hp9
              obtain ⟨hS9, hb9⟩ := hp9
              obtain rfl := hS9.symm
              rcases hb9 with ⟨b_49, rfl⟩ | ⟨b_49, rfl⟩
              · refine a_if_eq K dX10_conflicts_52 (tgt := 58) (by decide) (fun z => absurd z (by decide)) (fun _ => ?_)
                refine a_iinc K dX10_conflicts_55 (v := 1) rfl (by decide) (by decide) ?_
                first | refine a_aload_n K dX10_conflicts_58 rfl ?_ | refine a_aload_nN K dX10_conflicts_58 rfl ?_
                refine a_getRs K fd_X10_84 (lw_i4 hL) (Or.inl ⟨_, rfl⟩) (lw_f654 hL) dX10_conflicts_59 ?_
                first | refine a_aload_n K dX10_conflicts_62 rfl ?_ | refine a_aload_nN K dX10_conflicts_62 rfl ?_
                refine a_getRs K fd_X10_81 (lw_i4 hL) (Or.inl ⟨_, rfl⟩) (lw_f653 hL) dX10_conflicts_63 ?_
                refine a_iload K dX10_conflicts_66 rfl ?_
                refine a_invS K (m_lowestAbove (k := nI q) hR.2.2 hR.2.1) my_X10_lowestAbove ml_X10_288 st_X10_lowestAbove rfl (by omega) (by omega) (by omega) rfl (Nat.le_of_ble_eq_true rfl) dX10_conflicts_68 ?_
                intro r9 S9 hp9
                obtain ⟨rfl, hS9⟩ := hp9
                obtain rfl := hS9.symm
                refine a_istore K dX10_conflicts_71 (by decide) ?_
                refine a_iinc K dX10_conflicts_73 (v := 1) rfl (by decide) (by decide) ?_
                refine a_goto K dX10_conflicts_76 (tgt := 32) (by decide) ?_
                first
                  | (have hf2 := hf.trans (cntU_y (U := cfl E B O) (n := 999 - q) (f := f) (by rw [show 999 - (999 - q) = q by omega]; exact decide_eq_true b_49)); rw [nI_1 f]; exact aw_locl rfl (ih (999 - q) (by omega) (c + 1) (q + 1) (f + 1) _ _ (by omega) (nI_1 c) (by omega) (by omega) (nxK_spec hR.2.2.2.2 hR.2.2.2.1 hR.2.1.2.2 hR.2.1.2.1 (by omega) (nI_1 q)) hf2))
                  | (have hf2 := hf.trans (cntU_n (U := cfl E B O) (n := 999 - q) (f := f) (by rw [show 999 - (999 - q) = q by omega]; exact decide_eq_false b_49)); exact aw_locl rfl (ih (999 - q) (by omega) (c + 1) (q + 1) (f) _ _ (by omega) (nI_1 c) (by omega) (by omega) (nxK_spec hR.2.2.2.2 hR.2.2.2.1 hR.2.1.2.2 hR.2.1.2.1 (by omega) (nI_1 q)) hf2))
              · refine a_if_eq K dX10_conflicts_52 (tgt := 58) (by decide) (fun _ => ?_) (fun z => absurd z (by decide))
                first | refine a_aload_n K dX10_conflicts_58 rfl ?_ | refine a_aload_nN K dX10_conflicts_58 rfl ?_
                refine a_getRs K fd_X10_84 (lw_i4 hL) (Or.inl ⟨_, rfl⟩) (lw_f654 hL) dX10_conflicts_59 ?_
                first | refine a_aload_n K dX10_conflicts_62 rfl ?_ | refine a_aload_nN K dX10_conflicts_62 rfl ?_
                refine a_getRs K fd_X10_81 (lw_i4 hL) (Or.inl ⟨_, rfl⟩) (lw_f653 hL) dX10_conflicts_63 ?_
                refine a_iload K dX10_conflicts_66 rfl ?_
                refine a_invS K (m_lowestAbove (k := nI q) hR.2.2 hR.2.1) my_X10_lowestAbove ml_X10_288 st_X10_lowestAbove rfl (by omega) (by omega) (by omega) rfl (Nat.le_of_ble_eq_true rfl) dX10_conflicts_68 ?_
                intro r9 S9 hp9
                obtain ⟨rfl, hS9⟩ := hp9
                obtain rfl := hS9.symm
                refine a_istore K dX10_conflicts_71 (by decide) ?_
                refine a_iinc K dX10_conflicts_73 (v := 1) rfl (by decide) (by decide) ?_
                refine a_goto K dX10_conflicts_76 (tgt := 32) (by decide) ?_
                first
                  | (have hf2 := hf.trans (cntU_y (U := cfl E B O) (n := 999 - q) (f := f) (by rw [show 999 - (999 - q) = q by omega]; exact decide_eq_true b_49)); rw [nI_1 f]; exact aw_locl rfl (ih (999 - q) (by omega) (c + 1) (q + 1) (f + 1) _ _ (by omega) (nI_1 c) (by omega) (by omega) (nxK_spec hR.2.2.2.2 hR.2.2.2.1 hR.2.1.2.2 hR.2.1.2.1 (by omega) (nI_1 q)) hf2))
                  | (have hf2 := hf.trans (cntU_n (U := cfl E B O) (n := 999 - q) (f := f) (by rw [show 999 - (999 - q) = q by omega]; exact decide_eq_false b_49)); exact aw_locl rfl (ih (999 - q) (by omega) (c + 1) (q + 1) (f) _ _ (by omega) (nI_1 c) (by omega) (by omega) (nxK_spec hR.2.2.2.2 hR.2.2.2.1 hR.2.1.2.2 hR.2.1.2.1 (by omega) (nI_1 q)) hf2))
        refine a_if_ne K dX10_conflicts_7 (tgt := 12) (by decide) (fun c_7 => ?_) (fun c_7 => absurd c_7 (by decide))
        refine a_iconst K dX10_conflicts_12 (v := 0) (by decide) ?_
        refine a_istore K dX10_conflicts_13 (by decide) ?_
        first | refine a_aload_n K dX10_conflicts_15 rfl ?_ | refine a_aload_nN K dX10_conflicts_15 rfl ?_
        refine a_getRs K fd_X10_84 (lw_i4 hL) (Or.inl ⟨_, rfl⟩) (lw_f654 hL) dX10_conflicts_16 ?_
        first | refine a_aload_n K dX10_conflicts_19 rfl ?_ | refine a_aload_nN K dX10_conflicts_19 rfl ?_
        refine a_getRs K fd_X10_81 (lw_i4 hL) (Or.inl ⟨_, rfl⟩) (lw_f653 hL) dX10_conflicts_20 ?_
        refine a_iconst K dX10_conflicts_23 (v := -1) (by decide) ?_
        refine a_invS K (m_lowestAbove (k := -1) hR.2.2 hR.2.1) my_X10_lowestAbove ml_X10_288 st_X10_lowestAbove rfl (by omega) (by omega) (by omega) rfl (Nat.le_of_ble_eq_true rfl) dX10_conflicts_24 ?_
        intro r9 S9 hp9
        obtain ⟨rfl, hS9⟩ := hp9
        obtain rfl := hS9.symm
        refine a_istore K dX10_conflicts_27 (by decide) ?_
        refine a_iconst K dX10_conflicts_29 (v := 0) (by decide) ?_
        refine a_istore K dX10_conflicts_30 (by decide) ?_
        exact aw_locl rfl (loop 1000 0 0 0 _ _ rfl nI_0.symm (Nat.le_refl _) (Nat.le_refl _) (nxK_spec hR.2.2.2.2 hR.2.2.2.1 hR.2.1.2.2 hR.2.1.2.1 (by omega) (by decide)) rfl)
/-- which keys are there -/
def hsU (E : List KV) (k : Nat) : Bool := decide (¬ valIn E (nI k) = -1000000)
def vsU (V : Nat → Int32) (k : Nat) : Bool := decide (¬ V k = -1000000)
theorem cntU_add (U : Nat → Bool) : ∀ (n f : Nat), cntU U n f = f + cntU U n 0
  | 0, f => rfl
  | n + 1, f => by
    rw [cntU, cntU]
    split
    · rw [cntU_add U n (f + 1), cntU_add U n (0 + 1)]
      omega
    · exact cntU_add U n f
theorem cntU_le (U : Nat → Bool) : ∀ (n f : Nat), cntU U n f ≤ f + n
  | 0, f => Nat.le_refl _
  | n + 1, f => by
    rw [cntU]
    split
    · have := cntU_le U n (f + 1); omega
    · have := cntU_le U n f; omega
theorem cntU_cons {U W : Nat → Bool} {a : Nat} (h0 : W a = false) (hU : ∀ k, k < 1000 → U k = (k == a || W k)) : ∀ n, n ≤ 1000 → cntU U n 0 = cntU W n 0 + if 1000 ≤ a + n ∧ a < 1000 then 1 else 0
  | 0, _ => by rw [if_neg (by omega)]; rfl
  | n + 1, hn => by
    have ih := cntU_cons h0 hU n (by omega)
    by_cases e : 999 - n = a
    · rw [cntU_y (by rw [hU _ (by omega), e]; simp), cntU_n (U := W) (by rw [e]; exact h0), cntU_add, ih, if_neg (by omega), if_pos (by omega)]
      omega
    · have e1 : U (999 - n) = W (999 - n) := by
        rw [hU _ (by omega), show (999 - n == a) = false from by simp [e], Bool.false_or]
      by_cases w : W (999 - n) = true
      · rw [cntU_y (e1.trans w), cntU_y w, cntU_add U n (0 + 1), ih, cntU_add W n (0 + 1)]
        by_cases c : 1000 ≤ a + n ∧ a < 1000
        · rw [if_pos c, if_pos (by omega)]; omega
        · rw [if_neg c, if_neg (by omega)]; omega
      · have w : W (999 - n) = false := by simpa using w
        rw [cntU_n (e1.trans w), cntU_n w, ih]
        by_cases c : 1000 ≤ a + n ∧ a < 1000
        · rw [if_pos c, if_pos (by omega)]
        · rw [if_neg c, if_neg (by omega)]
theorem cnt_len : ∀ {E : List KV}, srt E → (∀ x ∈ E, okE x) → cntU (hsU E) 1000 0 = E.length
  | [], _, _ => by
    have : ∀ n, cntU (hsU []) n 0 = 0 := fun n => by
      induction n with
      | zero => rfl
      | succ n ih => rw [cntU_n (by unfold hsU; rw [valIn_nil]; decide), ih]
    exact this 1000
  | x :: r, hs, hE => by
    obtain ⟨a, ha, e⟩ := okE_key (hE x List.mem_cons_self)
    have hs2 : srt r := (List.pairwise_cons.mp hs).2
    have hgt : ∀ y ∈ r, x.1 < y.1 := (List.pairwise_cons.mp hs).1
    have h0 : hsU r a = false := by
      unfold hsU
      rw [valIn_hi (fun y hy => by rw [← e]; exact hgt y hy)]
      decide
    have hx : ¬ x.2 = -1000000 := okV.ne (hE x List.mem_cons_self).2
    rw [cntU_cons (W := hsU r) h0 (fun k hk => ?_) 1000 (Nat.le_refl _), cnt_len hs2 (fun y hy => hE y (List.mem_cons_of_mem _ hy)), if_pos (by omega)]
    · rfl
    · unfold hsU
      by_cases e2 : k = a
      · rw [e2, valIn_at e, decide_eq_true hx]
        simp
      · rw [show (k == a) = false from by simp [e2], Bool.false_or]
        by_cases h1 : x.1 < nI k
        · rw [valIn_skip h1]
        · have h2 : nI k < x.1 := lt_3 h1 (fun z => e2 (nI_inj (by omega) (by omega) (z.symm.trans e)))
          rw [valIn_over h2, valIn_hi (fun y hy => lt_tr h2 (hgt y hy))]
/-- keys that nobody asks for -/
theorem sz_skip {E : List KV} {V : Nat → Int32} {m f : Nat} : ∀ n, m ≤ n → (∀ j, m ≤ j → j < n → V (999 - j) = valIn E (nI (999 - j))) → ∃ f2, cntU (vsU V) n f = cntU (vsU V) m f2 ∧ f + cntU (hsU E) n 0 = f2 + cntU (hsU E) m 0 ∧ f2 + m ≤ f + n
  | 0, h, _ => ⟨f, by rw [show m = 0 by omega], by rw [show m = 0 by omega], by omega⟩
  | n + 1, h, hV => by
    by_cases e : m = n + 1
    · exact ⟨f, by rw [e], by rw [e], by omega⟩
    · have h1 := hV n (by omega) (by omega)
      by_cases w : V (999 - n) = -1000000
      · obtain ⟨f2, a, b, c⟩ := sz_skip (f := f) n (by omega) (fun j q1 q2 => hV j q1 (by omega))
        exact ⟨f2, by rw [cntU_n (decide_eq_false (fun z => z w)), a], by rw [cntU_n (decide_eq_false (fun z => z (h1.symm.trans w))), b], by omega⟩
      · obtain ⟨f2, a, b, c⟩ := sz_skip (f := f + 1) n (by omega) (fun j q1 q2 => hV j q1 (by omega))
        exact ⟨f2, by rw [cntU_y (decide_eq_true w), a], by rw [cntU_y (decide_eq_true (p := ¬ valIn E (nI (999 - n)) = -1000000) (fun z => w (h1.trans z))), cntU_add (hsU E) n (0 + 1)]; omega, by omega⟩
theorem v3V_no {E B O : List KV} {r k : Int32} (h : valIn B k = -1000000 ∧ valIn O k = -1000000) : v3V E B O r k = valIn E k := by
  unfold v3V
  rw [if_neg (fun z => z.1 (h.2.trans h.1.symm))]
def v3U (E B O : List KV) (r : Int32) (k : Nat) : Int32 := v3V E B O r (nI k)
set_option maxHeartbeats 4000000 in
set_option maxRecDepth 100000 in
theorem m_sizeOfThree {S : aw_S} {v : Nat → Nat} (hL : LW S v) {E O B : List KV} (hR : R3 S v E O B) {r : Int32} : aw_M yX10_sizeOfThree cX10_sizeOfThree 7 (some FieldType.int) 6 0 0 [.ref (v 4), .int r] S (fun q S2 => q = some (.int (nI (cntU (vsU (v3U E B O r)) 1000 0))) ∧ S2 = S) := by
  refine aw_enter (by decide +kernel) (Nat.le_of_ble_eq_true rfl) (fun g K EE => ?_)
  have loop : ∀ (n c p f : Nat) (x9 ky : Int32), p + n = 1000 → x9 = nI c → c ≤ p → f ≤ p → nxt B O p ky → cntU (vsU (v3U E B O r)) 1000 0 = cntU (vsU (v3U E B O r)) n f → aw g 7 S 0 0 [(4, .int x9), (3, .int ky), (2, .int (nI (f + cntU (hsU E) n 0))), (1, .int r), (0, .ref (v 4))] [] 24 := by
    intro n
    induction n using Nat.strongRecOn with
    | ind n ih =>
      intro c p f x9 ky hp hx9 hc hf9 hn hf
      subst hx9
      rcases hn with ⟨rfl, ha⟩ | ⟨q, hq1, hq2, rfl, ha⟩
      · by_cases hc9 : c < 1000
        · refine a_iload K dX10_sizeOfThree_24 rfl ?_
          refine a_sipush K dX10_sizeOfThree_26 (v := 1000) (by decide) ?_
          refine a_icmp_ge K dX10_sizeOfThree_29 (tgt := 114) (by decide) (fun c_29 => absurd c_29 (nI_ge (a := c) (b := 1000) (by omega) (by omega))) (fun c_29 => ?_)
          refine a_iload_n K dX10_sizeOfThree_32 rfl ?_
          refine a_iconst K dX10_sizeOfThree_33 (v := -1) (by decide) ?_
          refine a_icmp_eq K dX10_sizeOfThree_34 (tgt := 114) (by decide) (fun c_34 => ?_) (fun c_34 => absurd c_34 (by decide))
          refine a_iload_n K dX10_sizeOfThree_114 rfl ?_
          exact a_iret K EE rfl (by omega) (by omega) dX10_sizeOfThree_115 ⟨by rw [hf]; obtain ⟨f2, a2, b2, -⟩ := sz_skip (E := E) (V := v3U E B O r) (m := 0) (f := f) n (Nat.zero_le _) (fun j h1 h2 => v3V_no (ha (999 - j) (by omega) (by omega))); rw [a2, b2]; rfl, rfl⟩
        · obtain rfl : c = 1000 := by omega
          refine a_iload K dX10_sizeOfThree_24 rfl ?_
          refine a_sipush K dX10_sizeOfThree_26 (v := 1000) (by decide) ?_
          refine a_icmp_ge K dX10_sizeOfThree_29 (tgt := 114) (by decide) (fun c_29 => ?_) (fun c_29 => absurd c_29 (fun z => z (nI_le (a := 1000) (b := 1000) (Nat.le_refl _) (by omega))))
          refine a_iload_n K dX10_sizeOfThree_114 rfl ?_
          exact a_iret K EE rfl (by omega) (by omega) dX10_sizeOfThree_115 ⟨by rw [hf]; obtain ⟨f2, a2, b2, -⟩ := sz_skip (E := E) (V := v3U E B O r) (m := 0) (f := f) n (Nat.zero_le _) (fun j h1 h2 => v3V_no (ha (999 - j) (by omega) (by omega))); rw [a2, b2]; rfl, rfl⟩
      · obtain ⟨f2, a2, b2, c2⟩ := sz_skip (E := E) (V := v3U E B O r) (m := 999 - q + 1) (f := f) n (by omega) (fun j h1 h2 => v3V_no (ha (999 - j) (by omega) (by omega)))
        rw [b2]
        have hf := hf.trans a2
        have hf9 : f2 ≤ q := by omega
        clear a2 b2 c2
        generalize f2 = f at *
        refine a_iload K dX10_sizeOfThree_24 rfl ?_
        refine a_sipush K dX10_sizeOfThree_26 (v := 1000) (by decide) ?_
        refine a_icmp_ge K dX10_sizeOfThree_29 (tgt := 114) (by decide) (fun c_29 => absurd c_29 (nI_ge (a := c) (b := 1000) (by omega) (by omega))) (fun c_29 => ?_)
        refine a_iload_n K dX10_sizeOfThree_32 rfl ?_
        refine a_iconst K dX10_sizeOfThree_33 (v := -1) (by decide) ?_
        refine a_icmp_eq K dX10_sizeOfThree_34 (tgt := 114) (by decide) (fun c_34 => absurd c_34 (nI_m1n (by omega))) (fun c_34 => ?_)
        first | refine a_aload_n K dX10_sizeOfThree_37 rfl ?_ | refine a_aload_nN K dX10_sizeOfThree_37 rfl ?_
        refine a_getRs K fd_X10_77 (lw_i4 hL) (Or.inl ⟨_, rfl⟩) (lw_f652 hL) dX10_sizeOfThree_38 ?_
        refine a_iload_n K dX10_sizeOfThree_41 rfl ?_
        refine a_invV K (m_R_valueOf (key := nI q) hR.1.1 hR.1.2.1) my_X7_valueOf ml_X10_263 im_X7_valueOf se_X7_valueOf (ci := 7) (by first | exact lw_i25 hL | exact lw_i28 hL | exact lw_i31 hL) (by decide) ⟨_, _, rfl⟩ rfl (by omega) (by omega) (by omega) rfl (Nat.le_of_ble_eq_true rfl) dX10_sizeOfThree_42 ?_
        intro r9 S9 hp9
        obtain ⟨rfl, hS9⟩ := hp9
        obtain rfl := hS9.symm
        refine a_ldc K kc_X10_180 dX10_sizeOfThree_45 ?_
        refine a_icmp_eq K dX10_sizeOfThree_47 (tgt := 54) (by decide) (fun c_47 => ?_) (fun c_47 => ?_)
        · have hE9 : hsU E (999 - (999 - q)) = false := by rw [show 999 - (999 - q) = q by omega]; exact decide_eq_false (fun z => z c_47)
          have hh : cntU (hsU E) (999 - q + 1) 0 = cntU (hsU E) (999 - q) 0 := cntU_n hE9
          refine a_iconst K dX10_sizeOfThree_54 (v := 0) (by decide) ?_
          refine a_istore K dX10_sizeOfThree_55 (by decide) ?_
          first | refine a_aload_n K dX10_sizeOfThree_57 rfl ?_ | refine a_aload_nN K dX10_sizeOfThree_57 rfl ?_
          refine a_iload_n K dX10_sizeOfThree_58 rfl ?_
          refine a_iload_n K dX10_sizeOfThree_59 rfl ?_
          refine a_invV K (m_valueOfThree hL hR (k := nI q) (r := r)) my_X10_valueOfThree ml_X10_301 im_X10_valueOfThree se_X10_valueOfThree (ci := 10) (lw_i4 hL) (by decide) ⟨_, _, rfl⟩ rfl (by omega) (by omega) (by omega) rfl (Nat.le_of_ble_eq_true rfl) dX10_sizeOfThree_60 ?_
          intro r9 S9 hp9
          obtain ⟨rfl, hS9⟩ := hp9
          obtain rfl := hS9.symm
          refine a_ldc K kc_X10_180 dX10_sizeOfThree_63 ?_
          refine a_icmp_eq K dX10_sizeOfThree_65 (tgt := 72) (by decide) (fun c_65 => ?_) (fun c_65 => ?_)
          · have hV9 : vsU (v3U E B O r) (999 - (999 - q)) = false := by rw [show 999 - (999 - q) = q by omega]; exact decide_eq_false (fun z => z c_65)
            have hf2 := hf.trans (cntU_n hV9)
            rw [hh]
            refine a_iconst K dX10_sizeOfThree_72 (v := 0) (by decide) ?_
            refine a_istore K dX10_sizeOfThree_73 (by decide) ?_
            refine a_iload K dX10_sizeOfThree_75 rfl ?_
            refine a_iload K dX10_sizeOfThree_77 rfl ?_
            refine a_icmp_eq K dX10_sizeOfThree_79 (tgt := 95) (by decide) (fun c_79 => ?_) (fun c_79 => absurd c_79 (by decide))
            first | refine a_aload_n K dX10_sizeOfThree_95 rfl ?_ | refine a_aload_nN K dX10_sizeOfThree_95 rfl ?_
            refine a_getRs K fd_X10_84 (lw_i4 hL) (Or.inl ⟨_, rfl⟩) (lw_f654 hL) dX10_sizeOfThree_96 ?_
            first | refine a_aload_n K dX10_sizeOfThree_99 rfl ?_ | refine a_aload_nN K dX10_sizeOfThree_99 rfl ?_
            refine a_getRs K fd_X10_81 (lw_i4 hL) (Or.inl ⟨_, rfl⟩) (lw_f653 hL) dX10_sizeOfThree_100 ?_
            refine a_iload_n K dX10_sizeOfThree_103 rfl ?_
            refine a_invS K (m_lowestAbove (k := nI q) hR.2.2 hR.2.1) my_X10_lowestAbove ml_X10_288 st_X10_lowestAbove rfl (by omega) (by omega) (by omega) rfl (Nat.le_of_ble_eq_true rfl) dX10_sizeOfThree_104 ?_
            intro r9 S9 hp9
            obtain ⟨rfl, hS9⟩ := hp9
            obtain rfl := hS9.symm
            refine a_istore_n K dX10_sizeOfThree_107 (by decide) ?_
            refine a_iinc K dX10_sizeOfThree_108 (v := 1) rfl (by decide) (by decide) ?_
            refine a_goto K dX10_sizeOfThree_111 (tgt := 24) (by decide) ?_
            first
              | exact aw_locl rfl (ih (999 - q) (by omega) (c + 1) (q + 1) (f) _ _ (by omega) (nI_1 c) (by omega) (by omega) (nxK_spec hR.2.2.2.2 hR.2.2.2.1 hR.2.1.2.2 hR.2.1.2.1 (by omega) (nI_1 q)) hf2)
              | (rw [show f + cntU (hsU E) (999 - q) 0 + 1 = f + 1 + cntU (hsU E) (999 - q) 0 by omega]; exact aw_locl rfl (ih (999 - q) (by omega) (c + 1) (q + 1) (f + 1) _ _ (by omega) (nI_1 c) (by omega) (by omega) (nxK_spec hR.2.2.2.2 hR.2.2.2.1 hR.2.1.2.2 hR.2.1.2.1 (by omega) (nI_1 q)) hf2))
              | (rw [show f + (cntU (hsU E) (999 - q) 0 + 1) = f + 1 + cntU (hsU E) (999 - q) 0 by omega]; exact aw_locl rfl (ih (999 - q) (by omega) (c + 1) (q + 1) (f + 1) _ _ (by omega) (nI_1 c) (by omega) (by omega) (nxK_spec hR.2.2.2.2 hR.2.2.2.1 hR.2.1.2.2 hR.2.1.2.1 (by omega) (nI_1 q)) hf2))
          · have hV9 : vsU (v3U E B O r) (999 - (999 - q)) = true := by rw [show 999 - (999 - q) = q by omega]; exact decide_eq_true c_65
            have hf2 := hf.trans (cntU_y hV9)
            rw [hh]
            refine a_iconst K dX10_sizeOfThree_68 (v := 1) (by decide) ?_
            refine a_goto K dX10_sizeOfThree_69 (tgt := 73) (by decide) ?_
            refine a_istore K dX10_sizeOfThree_73 (by decide) ?_
            refine a_iload K dX10_sizeOfThree_75 rfl ?_
            refine a_iload K dX10_sizeOfThree_77 rfl ?_
            refine a_icmp_eq K dX10_sizeOfThree_79 (tgt := 95) (by decide) (fun c_79 => absurd c_79 (by decide)) (fun c_79 => ?_)
            refine a_iload_n K dX10_sizeOfThree_82 rfl ?_
            refine a_iload K dX10_sizeOfThree_83 rfl ?_
            refine a_if_eq K dX10_sizeOfThree_85 (tgt := 92) (by decide) (fun c_85 => absurd c_85 (by decide)) (fun c_85 => ?_)
            refine a_iconst K dX10_sizeOfThree_88 (v := 1) (by decide) ?_
            refine a_goto K dX10_sizeOfThree_89 (tgt := 93) (by decide) ?_
            refine a_iadd K dX10_sizeOfThree_93 ?_
            first | rw [nI_1] | rw [← Nat.add_assoc, nI_m1]
            refine a_istore_n K dX10_sizeOfThree_94 (by decide) ?_
            first | refine a_aload_n K dX10_sizeOfThree_95 rfl ?_ | refine a_aload_nN K dX10_sizeOfThree_95 rfl ?_
            refine a_getRs K fd_X10_84 (lw_i4 hL) (Or.inl ⟨_, rfl⟩) (lw_f654 hL) dX10_sizeOfThree_96 ?_
            first | refine a_aload_n K dX10_sizeOfThree_99 rfl ?_ | refine a_aload_nN K dX10_sizeOfThree_99 rfl ?_
            refine a_getRs K fd_X10_81 (lw_i4 hL) (Or.inl ⟨_, rfl⟩) (lw_f653 hL) dX10_sizeOfThree_100 ?_
            refine a_iload_n K dX10_sizeOfThree_103 rfl ?_
            refine a_invS K (m_lowestAbove (k := nI q) hR.2.2 hR.2.1) my_X10_lowestAbove ml_X10_288 st_X10_lowestAbove rfl (by omega) (by omega) (by omega) rfl (Nat.le_of_ble_eq_true rfl) dX10_sizeOfThree_104 ?_
            intro r9 S9 hp9
            obtain ⟨rfl, hS9⟩ := hp9
            obtain rfl := hS9.symm
            refine a_istore_n K dX10_sizeOfThree_107 (by decide) ?_
            refine a_iinc K dX10_sizeOfThree_108 (v := 1) rfl (by decide) (by decide) ?_
            refine a_goto K dX10_sizeOfThree_111 (tgt := 24) (by decide) ?_
            first
              | exact aw_locl rfl (ih (999 - q) (by omega) (c + 1) (q + 1) (f) _ _ (by omega) (nI_1 c) (by omega) (by omega) (nxK_spec hR.2.2.2.2 hR.2.2.2.1 hR.2.1.2.2 hR.2.1.2.1 (by omega) (nI_1 q)) hf2)
              | (rw [show f + cntU (hsU E) (999 - q) 0 + 1 = f + 1 + cntU (hsU E) (999 - q) 0 by omega]; exact aw_locl rfl (ih (999 - q) (by omega) (c + 1) (q + 1) (f + 1) _ _ (by omega) (nI_1 c) (by omega) (by omega) (nxK_spec hR.2.2.2.2 hR.2.2.2.1 hR.2.1.2.2 hR.2.1.2.1 (by omega) (nI_1 q)) hf2))
              | (rw [show f + (cntU (hsU E) (999 - q) 0 + 1) = f + 1 + cntU (hsU E) (999 - q) 0 by omega]; exact aw_locl rfl (ih (999 - q) (by omega) (c + 1) (q + 1) (f + 1) _ _ (by omega) (nI_1 c) (by omega) (by omega) (nxK_spec hR.2.2.2.2 hR.2.2.2.1 hR.2.1.2.2 hR.2.1.2.1 (by omega) (nI_1 q)) hf2))
        · have hE9 : hsU E (999 - (999 - q)) = true := by rw [show 999 - (999 - q) = q by omega]; exact decide_eq_true c_47
          have hh : cntU (hsU E) (999 - q + 1) 0 = cntU (hsU E) (999 - q) 0 + 1 := by rw [cntU_y hE9, cntU_add]; omega
          refine a_iconst K dX10_sizeOfThree_50 (v := 1) (by decide) ?_
          refine a_goto K dX10_sizeOfThree_51 (tgt := 55) (by decide) ?_
          refine a_istore K dX10_sizeOfThree_55 (by decide) ?_
          first | refine a_aload_n K dX10_sizeOfThree_57 rfl ?_ | refine a_aload_nN K dX10_sizeOfThree_57 rfl ?_
          refine a_iload_n K dX10_sizeOfThree_58 rfl ?_
          refine a_iload_n K dX10_sizeOfThree_59 rfl ?_
          refine a_invV K (m_valueOfThree hL hR (k := nI q) (r := r)) my_X10_valueOfThree ml_X10_301 im_X10_valueOfThree se_X10_valueOfThree (ci := 10) (lw_i4 hL) (by decide) ⟨_, _, rfl⟩ rfl (by omega) (by omega) (by omega) rfl (Nat.le_of_ble_eq_true rfl) dX10_sizeOfThree_60 ?_
          intro r9 S9 hp9
          obtain ⟨rfl, hS9⟩ := hp9
          obtain rfl := hS9.symm
          refine a_ldc K kc_X10_180 dX10_sizeOfThree_63 ?_
          refine a_icmp_eq K dX10_sizeOfThree_65 (tgt := 72) (by decide) (fun c_65 => ?_) (fun c_65 => ?_)
          · have hV9 : vsU (v3U E B O r) (999 - (999 - q)) = false := by rw [show 999 - (999 - q) = q by omega]; exact decide_eq_false (fun z => z c_65)
            have hf2 := hf.trans (cntU_n hV9)
            rw [hh]
            refine a_iconst K dX10_sizeOfThree_72 (v := 0) (by decide) ?_
            refine a_istore K dX10_sizeOfThree_73 (by decide) ?_
            refine a_iload K dX10_sizeOfThree_75 rfl ?_
            refine a_iload K dX10_sizeOfThree_77 rfl ?_
            refine a_icmp_eq K dX10_sizeOfThree_79 (tgt := 95) (by decide) (fun c_79 => absurd c_79 (by decide)) (fun c_79 => ?_)
            refine a_iload_n K dX10_sizeOfThree_82 rfl ?_
            refine a_iload K dX10_sizeOfThree_83 rfl ?_
            refine a_if_eq K dX10_sizeOfThree_85 (tgt := 92) (by decide) (fun c_85 => ?_) (fun c_85 => absurd c_85 (by decide))
            refine a_iconst K dX10_sizeOfThree_92 (v := -1) (by decide) ?_
            refine a_iadd K dX10_sizeOfThree_93 ?_
            first | rw [nI_1] | rw [← Nat.add_assoc, nI_m1]
            refine a_istore_n K dX10_sizeOfThree_94 (by decide) ?_
            first | refine a_aload_n K dX10_sizeOfThree_95 rfl ?_ | refine a_aload_nN K dX10_sizeOfThree_95 rfl ?_
            refine a_getRs K fd_X10_84 (lw_i4 hL) (Or.inl ⟨_, rfl⟩) (lw_f654 hL) dX10_sizeOfThree_96 ?_
            first | refine a_aload_n K dX10_sizeOfThree_99 rfl ?_ | refine a_aload_nN K dX10_sizeOfThree_99 rfl ?_
            refine a_getRs K fd_X10_81 (lw_i4 hL) (Or.inl ⟨_, rfl⟩) (lw_f653 hL) dX10_sizeOfThree_100 ?_
            refine a_iload_n K dX10_sizeOfThree_103 rfl ?_
            refine a_invS K (m_lowestAbove (k := nI q) hR.2.2 hR.2.1) my_X10_lowestAbove ml_X10_288 st_X10_lowestAbove rfl (by omega) (by omega) (by omega) rfl (Nat.le_of_ble_eq_true rfl) dX10_sizeOfThree_104 ?_
            intro r9 S9 hp9
            obtain ⟨rfl, hS9⟩ := hp9
            obtain rfl := hS9.symm
            refine a_istore_n K dX10_sizeOfThree_107 (by decide) ?_
            refine a_iinc K dX10_sizeOfThree_108 (v := 1) rfl (by decide) (by decide) ?_
            refine a_goto K dX10_sizeOfThree_111 (tgt := 24) (by decide) ?_
            first
              | exact aw_locl rfl (ih (999 - q) (by omega) (c + 1) (q + 1) (f) _ _ (by omega) (nI_1 c) (by omega) (by omega) (nxK_spec hR.2.2.2.2 hR.2.2.2.1 hR.2.1.2.2 hR.2.1.2.1 (by omega) (nI_1 q)) hf2)
              | (rw [show f + cntU (hsU E) (999 - q) 0 + 1 = f + 1 + cntU (hsU E) (999 - q) 0 by omega]; exact aw_locl rfl (ih (999 - q) (by omega) (c + 1) (q + 1) (f + 1) _ _ (by omega) (nI_1 c) (by omega) (by omega) (nxK_spec hR.2.2.2.2 hR.2.2.2.1 hR.2.1.2.2 hR.2.1.2.1 (by omega) (nI_1 q)) hf2))
              | (rw [show f + (cntU (hsU E) (999 - q) 0 + 1) = f + 1 + cntU (hsU E) (999 - q) 0 by omega]; exact aw_locl rfl (ih (999 - q) (by omega) (c + 1) (q + 1) (f + 1) _ _ (by omega) (nI_1 c) (by omega) (by omega) (nxK_spec hR.2.2.2.2 hR.2.2.2.1 hR.2.1.2.2 hR.2.1.2.1 (by omega) (nI_1 q)) hf2))
          · have hV9 : vsU (v3U E B O r) (999 - (999 - q)) = true := by rw [show 999 - (999 - q) = q by omega]; exact decide_eq_true c_65
            have hf2 := hf.trans (cntU_y hV9)
            rw [hh]
            refine a_iconst K dX10_sizeOfThree_68 (v := 1) (by decide) ?_
            refine a_goto K dX10_sizeOfThree_69 (tgt := 73) (by decide) ?_
            refine a_istore K dX10_sizeOfThree_73 (by decide) ?_
            refine a_iload K dX10_sizeOfThree_75 rfl ?_
            refine a_iload K dX10_sizeOfThree_77 rfl ?_
            refine a_icmp_eq K dX10_sizeOfThree_79 (tgt := 95) (by decide) (fun c_79 => ?_) (fun c_79 => absurd c_79 (by decide))
            first | refine a_aload_n K dX10_sizeOfThree_95 rfl ?_ | refine a_aload_nN K dX10_sizeOfThree_95 rfl ?_
            refine a_getRs K fd_X10_84 (lw_i4 hL) (Or.inl ⟨_, rfl⟩) (lw_f654 hL) dX10_sizeOfThree_96 ?_
            first | refine a_aload_n K dX10_sizeOfThree_99 rfl ?_ | refine a_aload_nN K dX10_sizeOfThree_99 rfl ?_
            refine a_getRs K fd_X10_81 (lw_i4 hL) (Or.inl ⟨_, rfl⟩) (lw_f653 hL) dX10_sizeOfThree_100 ?_
            refine a_iload_n K dX10_sizeOfThree_103 rfl ?_
            refine a_invS K (m_lowestAbove (k := nI q) hR.2.2 hR.2.1) my_X10_lowestAbove ml_X10_288 st_X10_lowestAbove rfl (by omega) (by omega) (by omega) rfl (Nat.le_of_ble_eq_true rfl) dX10_sizeOfThree_104 ?_
            intro r9 S9 hp9
            obtain ⟨rfl, hS9⟩ := hp9
            obtain rfl := hS9.symm
            refine a_istore_n K dX10_sizeOfThree_107 (by decide) ?_
            refine a_iinc K dX10_sizeOfThree_108 (v := 1) rfl (by decide) (by decide) ?_
            refine a_goto K dX10_sizeOfThree_111 (tgt := 24) (by decide) ?_
            first
              | exact aw_locl rfl (ih (999 - q) (by omega) (c + 1) (q + 1) (f) _ _ (by omega) (nI_1 c) (by omega) (by omega) (nxK_spec hR.2.2.2.2 hR.2.2.2.1 hR.2.1.2.2 hR.2.1.2.1 (by omega) (nI_1 q)) hf2)
              | (rw [show f + cntU (hsU E) (999 - q) 0 + 1 = f + 1 + cntU (hsU E) (999 - q) 0 by omega]; exact aw_locl rfl (ih (999 - q) (by omega) (c + 1) (q + 1) (f + 1) _ _ (by omega) (nI_1 c) (by omega) (by omega) (nxK_spec hR.2.2.2.2 hR.2.2.2.1 hR.2.1.2.2 hR.2.1.2.1 (by omega) (nI_1 q)) hf2))
              | (rw [show f + (cntU (hsU E) (999 - q) 0 + 1) = f + 1 + cntU (hsU E) (999 - q) 0 by omega]; exact aw_locl rfl (ih (999 - q) (by omega) (c + 1) (q + 1) (f + 1) _ _ (by omega) (nI_1 c) (by omega) (by omega) (nxK_spec hR.2.2.2.2 hR.2.2.2.1 hR.2.1.2.2 hR.2.1.2.1 (by omega) (nI_1 q)) hf2))
  first | refine a_aload_n K dX10_sizeOfThree_0 rfl ?_ | refine a_aload_nN K dX10_sizeOfThree_0 rfl ?_
  refine a_getRs K fd_X10_77 (lw_i4 hL) (Or.inl ⟨_, rfl⟩) (lw_f652 hL) dX10_sizeOfThree_1 ?_
  refine a_invV K (m_X7_size hR.1.1.1) my_X7_size ml_X10_138 im_X7_size se_X7_size (ci := 7) (by first | exact lw_i25 hL | exact lw_i28 hL | exact lw_i31 hL) (by decide) ⟨_, _, rfl⟩ rfl (by omega) (by omega) (by omega) rfl (Nat.le_of_ble_eq_true rfl) dX10_sizeOfThree_4 ?_
  intro r9 S9 hp9
  obtain ⟨rfl, hS9⟩ := hp9
  obtain rfl := hS9.symm
  rw [hR.1.1.2.2.2.2.2.2.2.2.1, ← cnt_len hR.1.2.1 hR.1.2.2, ← Nat.zero_add (cntU (hsU E) 1000 0)]
  refine a_istore_n K dX10_sizeOfThree_7 (by decide) ?_
  first | refine a_aload_n K dX10_sizeOfThree_8 rfl ?_ | refine a_aload_nN K dX10_sizeOfThree_8 rfl ?_
  refine a_getRs K fd_X10_84 (lw_i4 hL) (Or.inl ⟨_, rfl⟩) (lw_f654 hL) dX10_sizeOfThree_9 ?_
  first | refine a_aload_n K dX10_sizeOfThree_12 rfl ?_ | refine a_aload_nN K dX10_sizeOfThree_12 rfl ?_
  refine a_getRs K fd_X10_81 (lw_i4 hL) (Or.inl ⟨_, rfl⟩) (lw_f653 hL) dX10_sizeOfThree_13 ?_
  refine a_iconst K dX10_sizeOfThree_16 (v := -1) (by decide) ?_
  refine a_invS K (m_lowestAbove (k := -1) hR.2.2 hR.2.1) my_X10_lowestAbove ml_X10_288 st_X10_lowestAbove rfl (by omega) (by omega) (by omega) rfl (Nat.le_of_ble_eq_true rfl) dX10_sizeOfThree_17 ?_
  intro r9 S9 hp9
  obtain ⟨rfl, hS9⟩ := hp9
  obtain rfl := hS9.symm
  refine a_istore_n K dX10_sizeOfThree_20 (by decide) ?_
  refine a_iconst K dX10_sizeOfThree_21 (v := 0) (by decide) ?_
  refine a_istore K dX10_sizeOfThree_22 (by decide) ?_
  exact aw_locl rfl (loop 1000 0 0 0 _ _ rfl nI_0.symm (Nat.le_refl _) (Nat.le_refl _) (nxK_spec hR.2.2.2.2 hR.2.2.2.1 hR.2.1.2.2 hR.2.1.2.1 (by omega) (by decide)) rfl)
