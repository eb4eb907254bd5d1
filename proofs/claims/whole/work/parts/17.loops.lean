theorem aw_locl {g : aw_G} {mL : Nat} {S : aw_S} {k n : Nat} {lv lv2 : List (Nat × Value)} {st : List Value} {pc : Nat} (h : lv2.map (fun q => lv.lookup q.1) = lv2.map (fun q => some q.2)) (q : aw g mL S k n lv2 st pc) : aw g mL S k n lv st pc := by
  refine aw_locs (fun z hz => ?_) q
  obtain ⟨i, hi⟩ := List.getElem?_of_mem hz
  have h1 := congrArg (fun l => l[i]?) h
  simp only [List.getElem?_map, hi, Option.map_some] at h1
  exact aw_lkm (Option.some.inj h1)
/-- the maps' rows emptied up to i -/
def opn (S : aw_S) (h m r : Nat) : Nat → aw_S
  | 0 => S
  | i + 1 => wQ (wA (wA (opn S h m r i) h i 0) m i 0) r i none
theorem opn_same (S : aw_S) (h m r : Nat) : ∀ i, sL (opn S h m r i) = sL S ∧ sK (opn S h m r i) = sK S ∧ sI (opn S h m r i) = sI S ∧ sR (opn S h m r i) = sR S ∧ sN (opn S h m r i) = sN S
  | 0 => ⟨rfl, rfl, rfl, rfl, rfl⟩
  | i + 1 => opn_same S h m r i
theorem is_opn {S : aw_S} {h m r i b c : Nat} (k : aw_is S b c) : aw_is (opn S h m r i) b c := by
  obtain ⟨e1, e2, -⟩ := opn_same S h m r i
  exact ⟨by rw [e1]; exact k.1, by rw [e2]; exact k.2⟩
/-- the held maps' row copied up to i -/
def kim (S : aw_S) (h m : Nat) : Nat → aw_S
  | 0 => S
  | i + 1 => wA (kim S h m i) m i (vp_nar .boolean (sA (kim S h m i) h i))
theorem kim_same (S : aw_S) (h m : Nat) : ∀ i, sL (kim S h m i) = sL S ∧ sK (kim S h m i) = sK S ∧ sI (kim S h m i) = sI S ∧ sR (kim S h m i) = sR S ∧ sN (kim S h m i) = sN S
  | 0 => ⟨rfl, rfl, rfl, rfl, rfl⟩
  | i + 1 => kim_same S h m i
theorem is_kim {S : aw_S} {h m i b c : Nat} (k : aw_is S b c) : aw_is (kim S h m i) b c := by
  obtain ⟨e1, e2, -⟩ := kim_same S h m i
  exact ⟨by rw [e1]; exact k.1, by rw [e2]; exact k.2⟩
set_option maxHeartbeats 4000000 in
set_option maxRecDepth 100000 in
theorem m_X3_open {S : aw_S} {a h m r : Nat} (o : aw_is S a 3) (fr : sR S 192 a = some r) (fh : sR S 195 a = some h) (fm : sR S 196 a = some m) (ir : aw_is S r 16) (ih0 : aw_is S h 14) (im : aw_is S m 14) (nr : sN S r = 999) (nh : sN S h = 999) (nm : sN S m = 999) : aw_M yX3_open cX3_open 2 (none : Option FieldType) 0 0 0 [.ref a] S (fun w S2 => w = none ∧ S2 = wI (wI (wI (opn S h m r 999) 198 a 0) 199 a 0) 200 a 0) := by
  refine aw_enter (by decide +kernel) (Nat.le_of_ble_eq_true rfl) (fun g K E => ?_)
  have loop : ∀ (n i : Nat) (x : Int32), x = nI i → i + n = 999 → aw g 2 (opn S h m r i) 0 0 [(1, .int x), (0, .ref a)] [] 2 := by
    intro n
    induction n with
    | zero =>
      intro i x hx hi
      subst hx
      have o1 : aw_is (opn S h m r i) a 3 := is_opn o
      have f1 : sR (opn S h m r i) 192 a = some r := by rw [(opn_same S h m r i).2.2.2.1]; exact fr
      have f2 : sR (opn S h m r i) 195 a = some h := by rw [(opn_same S h m r i).2.2.2.1]; exact fh
      have f3 : sR (opn S h m r i) 196 a = some m := by rw [(opn_same S h m r i).2.2.2.1]; exact fm
      have i1 : aw_is (opn S h m r i) r 16 := is_opn ir
      have i2 : aw_is (opn S h m r i) h 14 := is_opn ih0
      have i3 : aw_is (opn S h m r i) m 14 := is_opn im
      refine a_iload_n K dX3_open_2 rfl ?_
      refine a_sipush K dX3_open_3 (v := 999) (by decide) ?_
      refine a_icmp_ge K dX3_open_6 (tgt := 36) (by decide) (fun c_6 => ?_) (fun c_6 => absurd c_6 (by rw [show i = 999 by omega]; decide))
      first | refine a_aload_n K dX3_open_36 rfl ?_ | refine a_aload_nN K dX3_open_36 rfl ?_
      refine a_iconst K dX3_open_37 (v := 0) (by decide) ?_
      refine a_putZ K fd_X3_34 (by assumption) rfl (by decide) dX3_open_38 ?_
      first | refine a_aload_n K dX3_open_41 rfl ?_ | refine a_aload_nN K dX3_open_41 rfl ?_
      refine a_iconst K dX3_open_42 (v := 0) (by decide) ?_
      refine a_putI K fd_X3_38 (by assumption) rfl dX3_open_43 ?_
      first | refine a_aload_n K dX3_open_46 rfl ?_ | refine a_aload_nN K dX3_open_46 rfl ?_
      refine a_iconst K dX3_open_47 (v := 0) (by decide) ?_
      refine a_putI K fd_X3_42 (by assumption) rfl dX3_open_48 ?_
      exact a_vret K E (by omega) (by omega) dX3_open_51 ⟨rfl, by rw [show i = 999 by omega]⟩
    | succ n ih =>
      intro i x hx hi
      subst hx
      have o1 : aw_is (opn S h m r i) a 3 := is_opn o
      have f1 : sR (opn S h m r i) 192 a = some r := by rw [(opn_same S h m r i).2.2.2.1]; exact fr
      have f2 : sR (opn S h m r i) 195 a = some h := by rw [(opn_same S h m r i).2.2.2.1]; exact fh
      have f3 : sR (opn S h m r i) 196 a = some m := by rw [(opn_same S h m r i).2.2.2.1]; exact fm
      have i1 : aw_is (opn S h m r i) r 16 := is_opn ir
      have i2 : aw_is (opn S h m r i) h 14 := is_opn ih0
      have i3 : aw_is (opn S h m r i) m 14 := is_opn im
      refine a_iload_n K dX3_open_2 rfl ?_
      refine a_sipush K dX3_open_3 (v := 999) (by decide) ?_
      refine a_icmp_ge K dX3_open_6 (tgt := 36) (by decide) (fun c_6 => absurd c_6 (nI_ge (a := i) (b := 999) (by omega) (by omega))) (fun c_6 => ?_)
      first | refine a_aload_n K dX3_open_9 rfl ?_ | refine a_aload_nN K dX3_open_9 rfl ?_
      refine a_getRs K fd_X3_24 (by assumption) (Or.inr ⟨_, rfl⟩) (by assumption) dX3_open_10 ?_
      refine a_iload_n K dX3_open_13 rfl ?_
      refine a_iconst K dX3_open_14 (v := 0) (by decide) ?_
      refine a_zast K (by assumption) (by show vp_in (nI i) (sN (opn S h m r i) h); rw [(opn_same S h m r i).2.2.2.2, nh]; exact vp_in_nI (by omega) (by omega)) dX3_open_15 ?_
      first | refine a_aload_n K dX3_open_16 rfl ?_ | refine a_aload_nN K dX3_open_16 rfl ?_
      refine a_getRs K fd_X3_28 (by assumption) (Or.inr ⟨_, rfl⟩) (by assumption) dX3_open_17 ?_
      refine a_iload_n K dX3_open_20 rfl ?_
      refine a_iconst K dX3_open_21 (v := 0) (by decide) ?_
      refine a_zast K (by assumption) (by show vp_in (nI i) (sN (opn S h m r i) m); rw [(opn_same S h m r i).2.2.2.2, nm]; exact vp_in_nI (by omega) (by omega)) dX3_open_22 ?_
      first | refine a_aload_n K dX3_open_23 rfl ?_ | refine a_aload_nN K dX3_open_23 rfl ?_
      refine a_getRs K fd_X3_11 (by assumption) (Or.inr ⟨_, rfl⟩) (by assumption) dX3_open_24 ?_
      refine a_iload_n K dX3_open_27 rfl ?_
      refine a_null K dX3_open_28 ?_
      refine a_aastNN K (by assumption) (by show vp_in (nI i) (sN (opn S h m r i) r); rw [(opn_same S h m r i).2.2.2.2, nr]; exact vp_in_nI (by omega) (by omega)) dX3_open_29 ?_
      refine a_iinc K dX3_open_30 (v := 1) rfl (by decide) (by decide) ?_
      refine a_goto K dX3_open_33 (tgt := 2) (by decide) ?_
      simp only [nI_clamp (show i < 2 ^ 31 by omega)]
      exact aw_locl rfl (ih (i + 1) _ (nI_1 i) (by omega))
  refine a_iconst K dX3_open_0 (v := 0) (by decide) ?_
  refine a_istore_n K dX3_open_1 (by decide) ?_
  exact aw_locl rfl (loop 999 0 0 nI_0.symm (by omega))
set_option maxHeartbeats 4000000 in
set_option maxRecDepth 100000 in
theorem m_X3_keepImage {S : aw_S} {a h m r : Nat} (o : aw_is S a 3) (fr : sR S 192 a = some r) (fh : sR S 195 a = some h) (fm : sR S 196 a = some m) (ir : aw_is S r 16) (ih0 : aw_is S h 14) (im : aw_is S m 14) (nr : sN S r = 999) (nh : sN S h = 999) (nm : sN S m = 999) : aw_M yX3_keepImage cX3_keepImage 2 (none : Option FieldType) 0 0 0 [.ref a] S (fun w S2 => w = none ∧ S2 = kim (wI S 198 a 1) h m 999) := by
  refine aw_enter (by decide +kernel) (Nat.le_of_ble_eq_true rfl) (fun g K E => ?_)
  have loop : ∀ (n i : Nat) (x : Int32), x = nI i → i + n = 999 → aw g 2 (kim (wI S 198 a 1) h m i) 0 0 [(1, .int x), (0, .ref a)] [] 7 := by
    intro n
    induction n with
    | zero =>
      intro i x hx hi
      subst hx
      have o1 : aw_is (kim (wI S 198 a 1) h m i) a 3 := is_kim o
      have f2 : sR (kim (wI S 198 a 1) h m i) 195 a = some h := by rw [(kim_same (wI S 198 a 1) h m i).2.2.2.1]; exact fh
      have f3 : sR (kim (wI S 198 a 1) h m i) 196 a = some m := by rw [(kim_same (wI S 198 a 1) h m i).2.2.2.1]; exact fm
      have i2 : aw_is (kim (wI S 198 a 1) h m i) h 14 := is_kim ih0
      have i3 : aw_is (kim (wI S 198 a 1) h m i) m 14 := is_kim im
      refine a_iload_n K dX3_keepImage_7 rfl ?_
      refine a_sipush K dX3_keepImage_8 (v := 999) (by decide) ?_
      refine a_icmp_ge K dX3_keepImage_11 (tgt := 32) (by decide) (fun c_11 => ?_) (fun c_11 => absurd c_11 (by rw [show i = 999 by omega]; decide))
      exact a_vret K E (by omega) (by omega) dX3_keepImage_32 ⟨rfl, by rw [show i = 999 by omega]⟩
    | succ n ih =>
      intro i x hx hi
      subst hx
      have o1 : aw_is (kim (wI S 198 a 1) h m i) a 3 := is_kim o
      have f2 : sR (kim (wI S 198 a 1) h m i) 195 a = some h := by rw [(kim_same (wI S 198 a 1) h m i).2.2.2.1]; exact fh
      have f3 : sR (kim (wI S 198 a 1) h m i) 196 a = some m := by rw [(kim_same (wI S 198 a 1) h m i).2.2.2.1]; exact fm
      have i2 : aw_is (kim (wI S 198 a 1) h m i) h 14 := is_kim ih0
      have i3 : aw_is (kim (wI S 198 a 1) h m i) m 14 := is_kim im
      refine a_iload_n K dX3_keepImage_7 rfl ?_
      refine a_sipush K dX3_keepImage_8 (v := 999) (by decide) ?_
      refine a_icmp_ge K dX3_keepImage_11 (tgt := 32) (by decide) (fun c_11 => absurd c_11 (nI_ge (a := i) (b := 999) (by omega) (by omega))) (fun c_11 => ?_)
      first | refine a_aload_n K dX3_keepImage_14 rfl ?_ | refine a_aload_nN K dX3_keepImage_14 rfl ?_
      refine a_getRs K fd_X3_28 (by assumption) (Or.inr ⟨_, rfl⟩) (by assumption) dX3_keepImage_15 ?_
      refine a_iload_n K dX3_keepImage_18 rfl ?_
      first | refine a_aload_n K dX3_keepImage_19 rfl ?_ | refine a_aload_nN K dX3_keepImage_19 rfl ?_
      refine a_getRs K fd_X3_24 (by assumption) (Or.inr ⟨_, rfl⟩) (by assumption) dX3_keepImage_20 ?_
      refine a_iload_n K dX3_keepImage_23 rfl ?_
      refine a_zald K (by assumption) (by show vp_in (nI i) (sN (kim (wI S 198 a 1) h m i) h); rw [(kim_same (wI S 198 a 1) h m i).2.2.2.2]; show vp_in (nI i) (sN S h); rw [nh]; exact vp_in_nI (by omega) (by omega)) dX3_keepImage_24 ?_
      refine a_zast K (by assumption) (by show vp_in (nI i) (sN (kim (wI S 198 a 1) h m i) m); rw [(kim_same (wI S 198 a 1) h m i).2.2.2.2]; show vp_in (nI i) (sN S m); rw [nm]; exact vp_in_nI (by omega) (by omega)) dX3_keepImage_25 ?_
      refine a_iinc K dX3_keepImage_26 (v := 1) rfl (by decide) (by decide) ?_
      refine a_goto K dX3_keepImage_29 (tgt := 7) (by decide) ?_
      simp only [nI_clamp (show i < 2 ^ 31 by omega)]
      exact aw_locl rfl (ih (i + 1) _ (nI_1 i) (by omega))
  first | refine a_aload_n K dX3_keepImage_0 rfl ?_ | refine a_aload_nN K dX3_keepImage_0 rfl ?_
  refine a_iconst K dX3_keepImage_1 (v := 1) (by decide) ?_
  refine a_putZ K fd_X3_34 (by assumption) rfl (by decide) dX3_keepImage_2 ?_
  refine a_iconst K dX3_keepImage_5 (v := 0) (by decide) ?_
  refine a_istore_n K dX3_keepImage_6 (by decide) ?_
  exact aw_locl rfl (loop 999 0 0 nI_0.symm (by omega))
theorem LW_w0 {S : aw_S} {v : Nat → Nat} {b : Nat} {z : Option Nat} (hL : LW S v) : LW (wR S 0 b z) v := hL
/-- all builders stale -/
def LS0 (S : aw_S) (v : Nat → Nat) : Prop := ∀ j, j < 4 → sR S 0 (v (14 + j)) = none
theorem atR_b {S : aw_S} {v : Nat → Nat} (hL : LW S v) {i : Int32} {b : Nat} (h : atR (sQ S (v 13)) 4 i = some b) : ∃ j, j < 4 ∧ i = nI j ∧ b = v (14 + j) := by
  unfold atR at h
  by_cases hi : 0 ≤ i.toInt ∧ i.toInt < (4 : Nat)
  · rw [if_pos hi] at h
    rcases pk_ix i (n := 4) (by decide) with z | z | ⟨j, hj, rfl⟩
    · have := i32_lt.mp z; rw [t_0] at this; omega
    · have := i32_le.mp z; rw [nI_toInt (by decide)] at this; omega
    · rw [nI_clamp (by omega)] at h
      refine ⟨j, hj, rfl, ?_⟩
      have h3 : j = 0 ∨ j = 1 ∨ j = 2 ∨ j = 3 := by omega
      rcases h3 with rfl | rfl | rfl | rfl
      · exact Option.some.inj (h.symm.trans (lw_q0 hL))
      · exact Option.some.inj (h.symm.trans (lw_q1 hL))
      · exact Option.some.inj (h.symm.trans (lw_q2 hL))
      · exact Option.some.inj (h.symm.trans (lw_q3 hL))
  · rw [if_neg hi] at h
    cases h
theorem lw_b {S : aw_S} {v : Nat → Nat} (hL : LW S v) {j : Nat} (hj : j < 4) : aw_is S (v (14 + j)) 0 := by
  have h3 : j = 0 ∨ j = 1 ∨ j = 2 ∨ j = 3 := by omega
  rcases h3 with rfl | rfl | rfl | rfl
  · exact lw_i14 hL
  · exact lw_i15 hL
  · exact lw_i16 hL
  · exact lw_i17 hL
theorem sQ_b {S : aw_S} {v : Nat → Nat} (hL : LW S v) {j : Nat} (hj : j < 4) : sQ S (v 13) j = some (v (14 + j)) := by
  have h3 : j = 0 ∨ j = 1 ∨ j = 2 ∨ j = 3 := by omega
  rcases h3 with rfl | rfl | rfl | rfl
  · exact lw_q0 hL
  · exact lw_q1 hL
  · exact lw_q2 hL
  · exact lw_q3 hL
/-- builders closed up to i -/
def clo (S : aw_S) (v : Nat → Nat) : Nat → aw_S
  | 0 => S
  | i + 1 => wR (clo S v i) 0 (v (14 + i)) none
theorem LW_clo {S : aw_S} {v : Nat → Nat} (hL : LW S v) : ∀ i, LW (clo S v i) v
  | 0 => hL
  | i + 1 => LW_w0 (LW_clo hL i)
set_option maxHeartbeats 4000000 in
set_option maxRecDepth 100000 in
theorem m_X10_closeBuilders {S : aw_S} {v : Nat → Nat} (hL : LW S v) : aw_M yX10_closeBuilders cX10_closeBuilders 3 (none : Option FieldType) 2 0 0 [.ref (v 4)] S (fun r S2 => r = none ∧ S2 = clo S v 4) := by
  refine aw_enter (by decide +kernel) (Nat.le_of_ble_eq_true rfl) (fun g K E => ?_)
  have loop : ∀ (n i : Nat) (x : Int32), x = nI i → i + n = 4 → aw g 3 (clo S v i) 0 0 [(1, .int x), (0, .ref (v 4))] [] 2 := by
    intro n
    induction n with
    | zero =>
      intro i x hx hi
      subst hx
      have hL1 := LW_clo hL i
      have i4 := lw_i4 hL1
      have ib : aw_is (clo S v i) (v (14 + (if i < 4 then i else 0))) 0 := lw_b hL1 (by split <;> omega)
      refine a_iload_n K dX10_closeBuilders_2 rfl ?_
      refine a_iconst K dX10_closeBuilders_3 (v := 4) (by decide) ?_
      refine a_icmp_ge K dX10_closeBuilders_4 (tgt := 27) (by decide) (fun c_4 => ?_) (fun c_4 => absurd c_4 (by rw [show i = 4 by omega]; decide))
      exact a_vret K E (by omega) (by omega) dX10_closeBuilders_27 ⟨rfl, by rw [show i = 4 by omega]⟩
    | succ n ih =>
      intro i x hx hi
      subst hx
      have hL1 := LW_clo hL i
      have i4 := lw_i4 hL1
      have ib : aw_is (clo S v i) (v (14 + (if i < 4 then i else 0))) 0 := lw_b hL1 (by split <;> omega)
      refine a_iload_n K dX10_closeBuilders_2 rfl ?_
      refine a_iconst K dX10_closeBuilders_3 (v := 4) (by decide) ?_
      refine a_icmp_ge K dX10_closeBuilders_4 (tgt := 27) (by decide) (fun c_4 => absurd c_4 (nI_ge (a := i) (b := 4) (by omega) (by omega))) (fun c_4 => ?_)
      first | refine a_aload_n K dX10_closeBuilders_7 rfl ?_ | refine a_aload_nN K dX10_closeBuilders_7 rfl ?_
      refine a_iload_n K dX10_closeBuilders_8 rfl ?_
      refine a_invV K (w_builderAt hL1 _) my_X10_builderAt ml_X10_313 im_X10_builderAt se_X10_builderAt (ci := 10) (by assumption) (by decide) ⟨_, _, rfl⟩ rfl (by omega) (by omega) (by omega) rfl (Nat.le_of_ble_eq_true rfl) dX10_closeBuilders_9 ?_
      intro r9 S9 hp9
      obtain ⟨rfl, rfl⟩ := hp9
      rw [atR_in (show i < 4 by omega) (by decide), sQ_b hL1 (by omega)]
      first | refine a_astore_n K dX10_closeBuilders_12 (by decide) ?_ | refine a_astore_nN K dX10_closeBuilders_12 (by decide) ?_
      first | refine a_aload_n K dX10_closeBuilders_13 rfl ?_ | refine a_aload_nN K dX10_closeBuilders_13 rfl ?_
      refine a_ifnull K dX10_closeBuilders_14 ?_
      first | refine a_aload_n K dX10_closeBuilders_17 rfl ?_ | refine a_aload_nN K dX10_closeBuilders_17 rfl ?_
      refine a_invV K (m_X0_close (lw_b hL1 (by omega))) my_X0_close ml_X10_359 im_X0_close se_X0_close (ci := 0) (lw_b hL1 (by omega)) (by decide) ⟨_, _, rfl⟩ rfl (by omega) (by omega) (by omega) rfl (Nat.le_of_ble_eq_true rfl) dX10_closeBuilders_18 ?_
      intro r9 S9 hp9
      obtain ⟨rfl, rfl⟩ := hp9
      refine a_iinc K dX10_closeBuilders_21 (v := 1) rfl (by decide) (by decide) ?_
      refine a_goto K dX10_closeBuilders_24 (tgt := 2) (by decide) ?_
      exact aw_locl rfl (ih (i + 1) _ (nI_1 i) (by omega))
  refine a_iconst K dX10_closeBuilders_0 (v := 0) (by decide) ?_
  refine a_istore_n K dX10_closeBuilders_1 (by decide) ?_
  exact aw_locl rfl (loop 4 0 0 nI_0.symm (by omega))
