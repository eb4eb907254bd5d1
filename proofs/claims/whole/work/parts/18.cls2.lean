theorem LW_wI {S : aw_S} {v : Nat → Nat} {F a : Nat} {z : Int32} (hL : LW S v) : LW (wI S F a z) v := hL
theorem LW_wA {S : aw_S} {v : Nat → Nat} {a k : Nat} {z : Int32} (hL : LW S v) : LW (wA S a k z) v := hL
theorem LW_eq {S S2 : aw_S} {v : Nat → Nat} (hL : LW S v) (e1 : sL S2 = sL S) (e2 : sK S2 = sK S) (e3 : sR S2 = sR S) (e4 : sN S2 = sN S) (e5 : sQ S2 (v 13) = sQ S (v 13)) : LW S2 v := by
  have h : LW S2 v = LW S v := by
    unfold LW aw_is
    rw [e1, e2, e3, e4, e5]
  rw [h]
  exact hL
theorem opn_Q {S : aw_S} {h m r b : Nat} (hb : b ≠ r) : ∀ i, sQ (opn S h m r i) b = sQ S b
  | 0 => rfl
  | i + 1 => by
    have h1 : sQ (opn S h m r (i + 1)) b = sQ (opn S h m r i) b := va_up_ne _ _ hb
    rw [h1]
    exact opn_Q hb i
theorem LW_opn {S : aw_S} {v : Nat → Nat} (hL : LW S v) (i : Nat) : LW (opn S (v 10) (v 11) (v 7) i) v := by
  obtain ⟨e1, e2, e3, e4, e5⟩ := opn_same S (v 10) (v 11) (v 7) i
  exact LW_eq hL e1 e2 e4 e5 (opn_Q (fun z => absurd (lw_inj hL 13 7 (by decide) (by decide) z) (by decide)) i)
theorem LW_kim {S : aw_S} {v : Nat → Nat} (hL : LW S v) (h m i : Nat) : LW (kim S h m i) v := by
  obtain ⟨e1, e2, e3, e4, e5⟩ := kim_same S h m i
  have e6 : ∀ i, sQ (kim S h m i) = sQ S := fun i => by
    induction i with
    | zero => rfl
    | succ i ih => exact ih
  exact LW_eq hL e1 e2 e4 e5 (by rw [e6])
/-- the listing emptied i times, for LIVE where no builder is open -/
def lvn (S : aw_S) (a : Nat) : Nat → aw_S
  | 0 => S
  | i + 1 => wI (lvn S a i) 130 a 0
theorem LW_lvn {S : aw_S} {v : Nat → Nat} (hL : LW S v) (a : Nat) : ∀ i, LW (lvn S a i) v
  | 0 => hL
  | i + 1 => LW_wI (LW_lvn hL a i)
theorem lvn_R {S : aw_S} (a : Nat) : ∀ i, sR (lvn S a i) = sR S
  | 0 => rfl
  | i + 1 => lvn_R a i
theorem wI_at {S : aw_S} {F a : Nat} {z : Int32} : sI (wI S F a z) F a = z := by rw [sI_wI, if_pos ⟨rfl, rfl⟩]
set_option maxHeartbeats 4000000 in
set_option maxRecDepth 100000 in
theorem m_X2_mark_0 {S : aw_S} {a : Nat} {m : Int32} (o : aw_is S a 2) (hs : sI S 130 a = 0) : aw_M yX2_mark cX2_mark 5 (some FieldType.int) 1 0 0 [.ref a, .int m] S (fun r S2 => S2 = S ∧ r = some (.int 0)) := by
  refine aw_enter (by decide +kernel) (Nat.le_of_ble_eq_true rfl) (fun g K E => ?_)
  refine a_iconst K dX2_mark_0 (v := 0) (by decide) ?_
  refine a_istore_n K dX2_mark_1 (by decide) ?_
  refine a_iconst K dX2_mark_2 (v := 0) (by decide) ?_
  refine a_istore_n K dX2_mark_3 (by decide) ?_
  refine a_iload_n K dX2_mark_4 rfl ?_
  first | refine a_aload_n K dX2_mark_5 rfl ?_ | refine a_aload_nN K dX2_mark_5 rfl ?_
  refine a_getI K fd_X2_21 (by assumption) (Or.inl rfl) dX2_mark_6 ?_
  refine a_icmp_ge K dX2_mark_9 (tgt := 48) (by decide) (fun c_9 => ?_) (fun c_9 => absurd c_9 (by rw [hs]; decide))
  refine a_iload_n K dX2_mark_48 rfl ?_
  exact a_iret K E rfl (by omega) (by omega) dX2_mark_49 ⟨rfl, rfl⟩
set_option maxHeartbeats 4000000 in
set_option maxRecDepth 100000 in
theorem m_X10_openBuilders_0 {S : aw_S} {v : Nat → Nat} (hL : LW S v) (h0 : LS0 S v) : aw_M yX10_openBuilders cX10_openBuilders 4 (some FieldType.int) 2 0 0 [.ref (v 4)] S (fun r S2 => r = some (.int 0) ∧ S2 = S) := by
  refine aw_enter (by decide +kernel) (Nat.le_of_ble_eq_true rfl) (fun g K E => ?_)
  have loop : ∀ (n i : Nat) (x : Int32), x = nI i → i + n = 4 → aw g 4 S 0 0 [(2, .int x), (1, .int 0), (0, .ref (v 4))] [] 4 := by
    intro n
    induction n with
    | zero =>
      intro i x hx hi
      subst hx
      have hL1 := hL
      have i4 := lw_i4 hL1
      refine a_iload_n K dX10_openBuilders_4 rfl ?_
      refine a_iconst K dX10_openBuilders_5 (v := 4) (by decide) ?_
      refine a_icmp_ge K dX10_openBuilders_6 (tgt := 38) (by decide) (fun c_6 => ?_) (fun c_6 => absurd c_6 (by rw [show i = 4 by omega]; decide))
      refine a_iload_n K dX10_openBuilders_38 rfl ?_
      exact a_iret K E rfl (by omega) (by omega) dX10_openBuilders_39 ⟨rfl, rfl⟩
    | succ n ih =>
      intro i x hx hi
      subst hx
      have hL1 := hL
      have i4 := lw_i4 hL1
      refine a_iload_n K dX10_openBuilders_4 rfl ?_
      refine a_iconst K dX10_openBuilders_5 (v := 4) (by decide) ?_
      refine a_icmp_ge K dX10_openBuilders_6 (tgt := 38) (by decide) (fun c_6 => absurd c_6 (nI_ge (a := i) (b := 4) (by omega) (by omega))) (fun c_6 => ?_)
      first | refine a_aload_n K dX10_openBuilders_9 rfl ?_ | refine a_aload_nN K dX10_openBuilders_9 rfl ?_
      refine a_iload_n K dX10_openBuilders_10 rfl ?_
      refine a_invV K (w_builderAt hL1 _) my_X10_builderAt ml_X10_313 im_X10_builderAt se_X10_builderAt (ci := 10) (by assumption) (by decide) ⟨_, _, rfl⟩ rfl (by omega) (by omega) (by omega) rfl (Nat.le_of_ble_eq_true rfl) dX10_openBuilders_11 ?_
      intro r9 S9 hp9
      obtain ⟨rfl, rfl⟩ := hp9
      rw [atR_in (show i < 4 by omega) (by decide), sQ_b hL1 (by omega)]
      first | refine a_astore_n K dX10_openBuilders_14 (by decide) ?_ | refine a_astore_nN K dX10_openBuilders_14 (by decide) ?_
      first | refine a_aload_n K dX10_openBuilders_15 rfl ?_ | refine a_aload_nN K dX10_openBuilders_15 rfl ?_
      refine a_ifnull K dX10_openBuilders_16 ?_
      first | refine a_aload_n K dX10_openBuilders_19 rfl ?_ | refine a_aload_nN K dX10_openBuilders_19 rfl ?_
      refine a_invV K (m_X0_isStale_y (lw_b hL1 (show i < 4 by omega)) (h0 i (by omega))) my_X0_isStale ml_X10_342 im_X0_isStale se_X0_isStale (ci := 0) (lw_b hL1 (by omega)) (by decide) ⟨_, _, rfl⟩ rfl (by omega) (by omega) (by omega) rfl (Nat.le_of_ble_eq_true rfl) dX10_openBuilders_20 ?_
      intro r9 S9 hp9
      obtain ⟨rfl, rfl⟩ := hp9
      refine a_if_ne K dX10_openBuilders_23 (tgt := 32) (by decide) (fun c_23 => ?_) (fun c_23 => absurd c_23 (by decide))
      refine a_iinc K dX10_openBuilders_32 (v := 1) rfl (by decide) (by decide) ?_
      refine a_goto K dX10_openBuilders_35 (tgt := 4) (by decide) ?_
      exact aw_locl rfl (ih (i + 1) _ (nI_1 i) (by omega))
  refine a_iconst K dX10_openBuilders_0 (v := 0) (by decide) ?_
  refine a_istore_n K dX10_openBuilders_1 (by decide) ?_
  refine a_iconst K dX10_openBuilders_2 (v := 0) (by decide) ?_
  refine a_istore_n K dX10_openBuilders_3 (by decide) ?_
  exact aw_locl rfl (loop 4 0 0 nI_0.symm (by omega))
set_option maxHeartbeats 4000000 in
set_option maxRecDepth 100000 in
theorem m_X10_liveNodes_0 {S : aw_S} {v : Nat → Nat} (hL : LW S v) (hg : sI S 199 (v 6) = 0) (h0 : LS0 S v) : aw_M yX10_liveNodes cX10_liveNodes 4 (some FieldType.int) 2 0 0 [.ref (v 4)] S (fun r S2 => r = some (.int 0) ∧ S2 = lvn (wI S 656 (v 4) (sI S 656 (v 4) + 1)) (v 34) 4) := by
  refine aw_enter (by decide +kernel) (Nat.le_of_ble_eq_true rfl) (fun g K E => ?_)
  have i4 := lw_i4 hL
  have f646 := lw_f646 hL
  have i6 := lw_i6 hL
  have loop : ∀ (n i : Nat) (x : Int32), x = nI i → i + n = 4 → aw g 4 (lvn (wI S 656 (v 4) (sI S 656 (v 4) + 1)) (v 34) i) 0 0 [(2, .int x), (1, .int 0), (0, .ref (v 4))] [] 62 := by
    intro n
    induction n with
    | zero =>
      intro i x hx hi
      subst hx
      have hL1 : LW (lvn (wI S 656 (v 4) (sI S 656 (v 4) + 1)) (v 34) i) v := LW_lvn (LW_wI hL) (v 34) i
      have i4 := lw_i4 hL1
      have f655 := lw_f655 hL1
      have i34 := lw_i34 hL1
      refine a_iload_n K dX10_liveNodes_62 rfl ?_
      refine a_iconst K dX10_liveNodes_63 (v := 4) (by decide) ?_
      refine a_icmp_ge K dX10_liveNodes_64 (tgt := 108) (by decide) (fun c_64 => ?_) (fun c_64 => absurd c_64 (by rw [show i = 4 by omega]; decide))
      refine a_iload_n K dX10_liveNodes_108 rfl ?_
      exact a_iret K E rfl (by omega) (by omega) dX10_liveNodes_109 ⟨rfl, by rw [show i = 4 by omega]⟩
    | succ n ih =>
      intro i x hx hi
      subst hx
      have hL1 : LW (lvn (wI S 656 (v 4) (sI S 656 (v 4) + 1)) (v 34) i) v := LW_lvn (LW_wI hL) (v 34) i
      have i4 := lw_i4 hL1
      have f655 := lw_f655 hL1
      have i34 := lw_i34 hL1
      refine a_iload_n K dX10_liveNodes_62 rfl ?_
      refine a_iconst K dX10_liveNodes_63 (v := 4) (by decide) ?_
      refine a_icmp_ge K dX10_liveNodes_64 (tgt := 108) (by decide) (fun c_64 => absurd c_64 (nI_ge (a := i) (b := 4) (by omega) (by omega))) (fun c_64 => ?_)
      first | refine a_aload_n K dX10_liveNodes_67 rfl ?_ | refine a_aload_nN K dX10_liveNodes_67 rfl ?_
      refine a_iload_n K dX10_liveNodes_68 rfl ?_
      refine a_invV K (w_builderAt hL1 _) my_X10_builderAt ml_X10_313 im_X10_builderAt se_X10_builderAt (ci := 10) (by assumption) (by decide) ⟨_, _, rfl⟩ rfl (by omega) (by omega) (by omega) rfl (Nat.le_of_ble_eq_true rfl) dX10_liveNodes_69 ?_
      intro r9 S9 hp9
      obtain ⟨rfl, rfl⟩ := hp9
      rw [atR_in (show i < 4 by omega) (by decide), sQ_b hL1 (by omega)]
      first | refine a_astore_n K dX10_liveNodes_72 (by decide) ?_ | refine a_astore_nN K dX10_liveNodes_72 (by decide) ?_
      first | refine a_aload_n K dX10_liveNodes_73 rfl ?_ | refine a_aload_nN K dX10_liveNodes_73 rfl ?_
      refine a_ifnull K dX10_liveNodes_74 ?_
      first | refine a_aload_n K dX10_liveNodes_77 rfl ?_ | refine a_aload_nN K dX10_liveNodes_77 rfl ?_
      refine a_getRs K fd_X10_90 (by assumption) (Or.inl ⟨_, rfl⟩) (by assumption) dX10_liveNodes_78 ?_
      first | refine a_aload_n K dX10_liveNodes_81 rfl ?_ | refine a_aload_nN K dX10_liveNodes_81 rfl ?_
      refine a_invV K (m_X0_root (lw_b hL1 (show i < 4 by omega))) my_X0_root ml_X10_345 im_X0_root se_X0_root (ci := 0) (lw_b hL1 (by omega)) (by decide) ⟨_, _, rfl⟩ rfl (by omega) (by omega) (by omega) rfl (Nat.le_of_ble_eq_true rfl) dX10_liveNodes_82 ?_
      intro r9 S9 hp9
      obtain ⟨rfl, rfl⟩ := hp9
      rw [show sR (lvn (wI S 656 (v 4) (sI S 656 (v 4) + 1)) (v 34) i) 0 (v (14 + i)) = none by rw [lvn_R]; exact h0 i (by omega)]
      refine a_invV K (m_X2_fill_null i34) my_X2_fill ml_X10_181 im_X2_fill se_X2_fill (ci := 2) (by assumption) (by decide) ⟨_, _, rfl⟩ rfl (by omega) (by omega) (by omega) rfl (Nat.le_of_ble_eq_true rfl) dX10_liveNodes_85 ?_
      intro r9 S9 hp9
      obtain ⟨rfl, rfl⟩ := hp9
      refine a_iload_n K dX10_liveNodes_88 rfl ?_
      first | refine a_aload_n K dX10_liveNodes_89 rfl ?_ | refine a_aload_nN K dX10_liveNodes_89 rfl ?_
      refine a_getRs K fd_X10_90 (by assumption) (Or.inl ⟨_, rfl⟩) (by assumption) dX10_liveNodes_90 ?_
      first | refine a_aload_n K dX10_liveNodes_93 rfl ?_ | refine a_aload_nN K dX10_liveNodes_93 rfl ?_
      refine a_getI K fd_X10_395 (by assumption) (Or.inl rfl) dX10_liveNodes_94 ?_
      refine a_invV K (m_X2_mark_0 i34 wI_at) my_X2_mark ml_X10_392 im_X2_mark se_X2_mark (ci := 2) (by assumption) (by decide) ⟨_, _, rfl⟩ rfl (by omega) (by omega) (by omega) rfl (Nat.le_of_ble_eq_true rfl) dX10_liveNodes_97 ?_
      intro r9 S9 hp9
      obtain ⟨rfl, rfl⟩ := hp9
      refine a_iadd K dX10_liveNodes_100 ?_
      refine a_istore_n K dX10_liveNodes_101 (by decide) ?_
      refine a_iinc K dX10_liveNodes_102 (v := 1) rfl (by decide) (by decide) ?_
      refine a_goto K dX10_liveNodes_105 (tgt := 62) (by decide) ?_
      exact aw_locl rfl (ih (i + 1) _ (nI_1 i) (by omega))
  first | refine a_aload_n K dX10_liveNodes_0 rfl ?_ | refine a_aload_nN K dX10_liveNodes_0 rfl ?_
  refine a_dup K dX10_liveNodes_1 rfl ?_
  refine a_getI K fd_X10_395 (by assumption) (Or.inl rfl) dX10_liveNodes_2 ?_
  refine a_iconst K dX10_liveNodes_5 (v := 1) (by decide) ?_
  refine a_iadd K dX10_liveNodes_6 ?_
  refine a_putI K fd_X10_395 (by assumption) rfl dX10_liveNodes_7 ?_
  refine a_iconst K dX10_liveNodes_10 (v := 0) (by decide) ?_
  refine a_istore_n K dX10_liveNodes_11 (by decide) ?_
  refine a_iconst K dX10_liveNodes_12 (v := 0) (by decide) ?_
  refine a_istore_n K dX10_liveNodes_13 (by decide) ?_
  refine a_iload_n K dX10_liveNodes_14 rfl ?_
  first | refine a_aload_n K dX10_liveNodes_15 rfl ?_ | refine a_aload_nN K dX10_liveNodes_15 rfl ?_
  refine a_getRs K fd_X10_46 (by assumption) (Or.inl ⟨_, rfl⟩) (by assumption) dX10_liveNodes_16 ?_
  refine a_invV K (m_X3_given i6) my_X3_given ml_X10_228 im_X3_given se_X3_given (ci := 3) (by assumption) (by decide) ⟨_, _, rfl⟩ rfl (by omega) (by omega) (by omega) rfl (Nat.le_of_ble_eq_true rfl) dX10_liveNodes_19 ?_
  intro r9 S9 hp9
  obtain ⟨rfl, rfl⟩ := hp9
  refine a_icmp_ge K dX10_liveNodes_22 (tgt := 60) (by decide) (fun c_22 => ?_) (fun c_22 => absurd c_22 (fun z => z (by show sI S 199 (v 6) ≤ 0; rw [hg]; decide)))
  refine a_iconst K dX10_liveNodes_60 (v := 0) (by decide) ?_
  refine a_istore_n K dX10_liveNodes_61 (by decide) ?_
  exact aw_locl rfl (loop 4 0 0 nI_0.symm (by omega))
set_option maxHeartbeats 4000000 in
set_option maxRecDepth 100000 in
theorem m_X10_count_0 {S : aw_S} {v : Nat → Nat} (hL : LW S v) : aw_M yX10_count cX10_count 2 (some FieldType.int) 2 0 0 [.ref (v 4), .int 0] S (fun r S2 => r = some (.int (sI S 64 (v 5))) ∧ S2 = S) := by
  refine aw_enter (by decide +kernel) (Nat.le_of_ble_eq_true rfl) (fun g K E => ?_)
  have hL0 := hL
  have i4 := lw_i4 hL
  have f645 := lw_f645 hL
  have i5 := lw_i5 hL
  have f646 := lw_f646 hL
  have i6 := lw_i6 hL
  have f640 := lw_f640 hL
  have i0 := lw_i0 hL
  refine a_iload_n K dX10_count_0 rfl ?_
  refine a_tsIn K dX10_count_1 (off := 47) (tgt := 48) (by decide) (by decide) rfl (by decide) ?_
  first | refine a_aload_n K dX10_count_48 rfl ?_ | refine a_aload_nN K dX10_count_48 rfl ?_
  refine a_getRs K fd_X10_39 (by assumption) (Or.inl ⟨_, rfl⟩) (by assumption) dX10_count_49 ?_
  refine a_invV K (m_X1_width i5) my_X1_width ml_X10_427 im_X1_width se_X1_width (ci := 1) (by assumption) (by decide) ⟨_, _, rfl⟩ rfl (by omega) (by omega) (by omega) rfl (Nat.le_of_ble_eq_true rfl) dX10_count_52 ?_
  intro r9 S9 hp9
  obtain ⟨rfl, rfl⟩ := hp9
  exact a_iret K E rfl (by omega) (by omega) dX10_count_55 ⟨rfl, rfl⟩
set_option maxHeartbeats 4000000 in
set_option maxRecDepth 100000 in
theorem m_X10_count_1 {S : aw_S} {v : Nat → Nat} (hL : LW S v) : aw_M yX10_count cX10_count 2 (some FieldType.int) 2 0 0 [.ref (v 4), .int 1] S (fun r S2 => r = some (.int (sI S 200 (v 6))) ∧ S2 = S) := by
  refine aw_enter (by decide +kernel) (Nat.le_of_ble_eq_true rfl) (fun g K E => ?_)
  have hL0 := hL
  have i4 := lw_i4 hL
  have f645 := lw_f645 hL
  have i5 := lw_i5 hL
  have f646 := lw_f646 hL
  have i6 := lw_i6 hL
  have f640 := lw_f640 hL
  have i0 := lw_i0 hL
  refine a_iload_n K dX10_count_0 rfl ?_
  refine a_tsIn K dX10_count_1 (off := 55) (tgt := 56) (by decide) (by decide) rfl (by decide) ?_
  first | refine a_aload_n K dX10_count_56 rfl ?_ | refine a_aload_nN K dX10_count_56 rfl ?_
  refine a_getRs K fd_X10_46 (by assumption) (Or.inl ⟨_, rfl⟩) (by assumption) dX10_count_57 ?_
  refine a_invV K (m_X3_held i6) my_X3_held ml_X10_310 im_X3_held se_X3_held (ci := 3) (by assumption) (by decide) ⟨_, _, rfl⟩ rfl (by omega) (by omega) (by omega) rfl (Nat.le_of_ble_eq_true rfl) dX10_count_60 ?_
  intro r9 S9 hp9
  obtain ⟨rfl, rfl⟩ := hp9
  exact a_iret K E rfl (by omega) (by omega) dX10_count_63 ⟨rfl, rfl⟩
set_option maxHeartbeats 4000000 in
set_option maxRecDepth 100000 in
theorem m_X10_count_2 {S : aw_S} {v : Nat → Nat} (hL : LW S v) : aw_M yX10_count cX10_count 2 (some FieldType.int) 2 0 0 [.ref (v 4), .int 2] S (fun r S2 => r = some (.int (sI S 199 (v 6))) ∧ S2 = S) := by
  refine aw_enter (by decide +kernel) (Nat.le_of_ble_eq_true rfl) (fun g K E => ?_)
  have hL0 := hL
  have i4 := lw_i4 hL
  have f645 := lw_f645 hL
  have i5 := lw_i5 hL
  have f646 := lw_f646 hL
  have i6 := lw_i6 hL
  have f640 := lw_f640 hL
  have i0 := lw_i0 hL
  refine a_iload_n K dX10_count_0 rfl ?_
  refine a_tsIn K dX10_count_1 (off := 63) (tgt := 64) (by decide) (by decide) rfl (by decide) ?_
  first | refine a_aload_n K dX10_count_64 rfl ?_ | refine a_aload_nN K dX10_count_64 rfl ?_
  refine a_getRs K fd_X10_46 (by assumption) (Or.inl ⟨_, rfl⟩) (by assumption) dX10_count_65 ?_
  refine a_invV K (m_X3_given i6) my_X3_given ml_X10_228 im_X3_given se_X3_given (ci := 3) (by assumption) (by decide) ⟨_, _, rfl⟩ rfl (by omega) (by omega) (by omega) rfl (Nat.le_of_ble_eq_true rfl) dX10_count_68 ?_
  intro r9 S9 hp9
  obtain ⟨rfl, rfl⟩ := hp9
  exact a_iret K E rfl (by omega) (by omega) dX10_count_71 ⟨rfl, rfl⟩
set_option maxHeartbeats 4000000 in
set_option maxRecDepth 100000 in
theorem m_X10_count_3 {S : aw_S} {v : Nat → Nat} (hL : LW S v) : aw_M yX10_count cX10_count 2 (some FieldType.int) 2 0 0 [.ref (v 4), .int 3] S (fun r S2 => r = some (.int (sI S 65 (v 5))) ∧ S2 = S) := by
  refine aw_enter (by decide +kernel) (Nat.le_of_ble_eq_true rfl) (fun g K E => ?_)
  have hL0 := hL
  have i4 := lw_i4 hL
  have f645 := lw_f645 hL
  have i5 := lw_i5 hL
  have f646 := lw_f646 hL
  have i6 := lw_i6 hL
  have f640 := lw_f640 hL
  have i0 := lw_i0 hL
  refine a_iload_n K dX10_count_0 rfl ?_
  refine a_tsIn K dX10_count_1 (off := 71) (tgt := 72) (by decide) (by decide) rfl (by decide) ?_
  first | refine a_aload_n K dX10_count_72 rfl ?_ | refine a_aload_nN K dX10_count_72 rfl ?_
  refine a_getRs K fd_X10_39 (by assumption) (Or.inl ⟨_, rfl⟩) (by assumption) dX10_count_73 ?_
  refine a_invV K (m_X1_made i5) my_X1_made ml_X10_324 im_X1_made se_X1_made (ci := 1) (by assumption) (by decide) ⟨_, _, rfl⟩ rfl (by omega) (by omega) (by omega) rfl (Nat.le_of_ble_eq_true rfl) dX10_count_76 ?_
  intro r9 S9 hp9
  obtain ⟨rfl, rfl⟩ := hp9
  exact a_iret K E rfl (by omega) (by omega) dX10_count_79 ⟨rfl, rfl⟩
set_option maxHeartbeats 4000000 in
set_option maxRecDepth 100000 in
theorem m_X10_count_5 {S : aw_S} {v : Nat → Nat} (hL : LW S v) : aw_M yX10_count cX10_count 2 (some FieldType.int) 2 0 0 [.ref (v 4), .int 5] S (fun r S2 => r = some (.int (sI S 644 (v 4))) ∧ S2 = S) := by
  refine aw_enter (by decide +kernel) (Nat.le_of_ble_eq_true rfl) (fun g K E => ?_)
  have hL0 := hL
  have i4 := lw_i4 hL
  have f645 := lw_f645 hL
  have i5 := lw_i5 hL
  have f646 := lw_f646 hL
  have i6 := lw_i6 hL
  have f640 := lw_f640 hL
  have i0 := lw_i0 hL
  refine a_iload_n K dX10_count_0 rfl ?_
  refine a_tsIn K dX10_count_1 (off := 84) (tgt := 85) (by decide) (by decide) rfl (by decide) ?_
  first | refine a_aload_n K dX10_count_85 rfl ?_ | refine a_aload_nN K dX10_count_85 rfl ?_
  refine a_getI K fd_X10_153 (by assumption) (Or.inl rfl) dX10_count_86 ?_
  exact a_iret K E rfl (by omega) (by omega) dX10_count_89 ⟨rfl, rfl⟩
set_option maxHeartbeats 4000000 in
set_option maxRecDepth 100000 in
theorem m_X10_count_6 {S : aw_S} {v : Nat → Nat} (hL : LW S v) : aw_M yX10_count cX10_count 2 (some FieldType.int) 2 0 0 [.ref (v 4), .int 6] S (fun r S2 => r = some (.int (sI S 577 (v 0))) ∧ S2 = S) := by
  refine aw_enter (by decide +kernel) (Nat.le_of_ble_eq_true rfl) (fun g K E => ?_)
  have hL0 := hL
  have i4 := lw_i4 hL
  have f645 := lw_f645 hL
  have i5 := lw_i5 hL
  have f646 := lw_f646 hL
  have i6 := lw_i6 hL
  have f640 := lw_f640 hL
  have i0 := lw_i0 hL
  refine a_iload_n K dX10_count_0 rfl ?_
  refine a_tsIn K dX10_count_1 (off := 89) (tgt := 90) (by decide) (by decide) rfl (by decide) ?_
  first | refine a_aload_n K dX10_count_90 rfl ?_ | refine a_aload_nN K dX10_count_90 rfl ?_
  refine a_getRs K fd_X10_10 (by assumption) (Or.inl ⟨_, rfl⟩) (by assumption) dX10_count_91 ?_
  refine a_invV K (m_X9_size i0) my_X9_size ml_X10_98 im_X9_size se_X9_size (ci := 9) (by assumption) (by decide) ⟨_, _, rfl⟩ rfl (by omega) (by omega) (by omega) rfl (Nat.le_of_ble_eq_true rfl) dX10_count_94 ?_
  intro r9 S9 hp9
  obtain ⟨rfl, rfl⟩ := hp9
  exact a_iret K E rfl (by omega) (by omega) dX10_count_97 ⟨rfl, rfl⟩
set_option maxHeartbeats 4000000 in
set_option maxRecDepth 100000 in
theorem m_X10_count_out {S : aw_S} {v : Nat → Nat} {c : Int32} (hL : LW S v) (hc : c.toInt < 0 ∨ 7 < c.toInt) : aw_M yX10_count cX10_count 2 (some FieldType.int) 2 0 0 [.ref (v 4), .int c] S (fun r S2 => r = some (.int (-1000000)) ∧ S2 = S) := by
  refine aw_enter (by decide +kernel) (Nat.le_of_ble_eq_true rfl) (fun g K E => ?_)
  have hL0 := hL
  have i4 := lw_i4 hL
  have f645 := lw_f645 hL
  have i5 := lw_i5 hL
  have f646 := lw_f646 hL
  have i6 := lw_i6 hL
  have f640 := lw_f640 hL
  have i0 := lw_i0 hL
  refine a_iload_n K dX10_count_0 rfl ?_
  refine a_tsOut K dX10_count_1 (tgt := 103) (hc) (by decide) ?_
  refine a_ldc K kc_X10_180 dX10_count_103 ?_
  exact a_iret K E rfl (by omega) (by omega) dX10_count_105 ⟨rfl, rfl⟩
set_option maxHeartbeats 4000000 in
set_option maxRecDepth 100000 in
theorem m_X10_count_7_0 {S : aw_S} {v : Nat → Nat} (hL : LW S v) (h0 : LS0 S v) : aw_M yX10_count cX10_count 2 (some FieldType.int) 3 0 0 [.ref (v 4), .int 7] S (fun r S2 => r = some (.int (0)) ∧ S2 = S) := by
  refine aw_enter (by decide +kernel) (Nat.le_of_ble_eq_true rfl) (fun g K E => ?_)
  have hL0 := hL
  have i4 := lw_i4 hL
  have f645 := lw_f645 hL
  have i5 := lw_i5 hL
  have f646 := lw_f646 hL
  have i6 := lw_i6 hL
  have f640 := lw_f640 hL
  have i0 := lw_i0 hL
  refine a_iload_n K dX10_count_0 rfl ?_
  refine a_tsIn K dX10_count_1 (off := 97) (tgt := 98) (by decide) (by decide) rfl (by decide) ?_
  first | refine a_aload_n K dX10_count_98 rfl ?_ | refine a_aload_nN K dX10_count_98 rfl ?_
  refine a_invV K (m_X10_openBuilders_0 hL0 h0) my_X10_openBuilders ml_X10_433 im_X10_openBuilders se_X10_openBuilders (ci := 10) (by assumption) (by decide) ⟨_, _, rfl⟩ rfl (by omega) (by omega) (by omega) rfl (Nat.le_of_ble_eq_true rfl) dX10_count_99 ?_
  intro r9 S9 hp9
  obtain ⟨rfl, rfl⟩ := hp9
  exact a_iret K E rfl (by omega) (by omega) dX10_count_102 ⟨rfl, rfl⟩
set_option maxHeartbeats 4000000 in
set_option maxRecDepth 100000 in
theorem m_X10_count_4_0 {S : aw_S} {v : Nat → Nat} (hL : LW S v) (hg : sI S 199 (v 6) = 0) (h0 : LS0 S v) : aw_M yX10_count cX10_count 2 (some FieldType.int) 3 0 0 [.ref (v 4), .int 4] S (fun r S2 => r = some (.int 0)) := by
  refine aw_enter (by decide +kernel) (Nat.le_of_ble_eq_true rfl) (fun g K E => ?_)
  have hL0 := hL
  have i4 := lw_i4 hL
  have f645 := lw_f645 hL
  have i5 := lw_i5 hL
  have f646 := lw_f646 hL
  have i6 := lw_i6 hL
  have f640 := lw_f640 hL
  have i0 := lw_i0 hL
  refine a_iload_n K dX10_count_0 rfl ?_
  refine a_tsIn K dX10_count_1 (off := 79) (tgt := 80) (by decide) (by decide) rfl (by decide) ?_
  first | refine a_aload_n K dX10_count_80 rfl ?_ | refine a_aload_nN K dX10_count_80 rfl ?_
  refine a_invV K (m_X10_liveNodes_0 hL0 hg h0) my_X10_liveNodes ml_X10_430 im_X10_liveNodes se_X10_liveNodes (ci := 10) (by assumption) (by decide) ⟨_, _, rfl⟩ rfl (by omega) (by omega) (by omega) rfl (Nat.le_of_ble_eq_true rfl) dX10_count_81 ?_
  intro r9 S9 hp9
  obtain ⟨rfl, rfl⟩ := hp9
  exact a_iret K E rfl (by omega) (by omega) dX10_count_84 rfl
set_option maxHeartbeats 4000000 in
set_option maxRecDepth 100000 in
theorem m_X10_wide_bad {S : aw_S} {v : Nat → Nat} {w : Int32} (hL : LW S v) (hw : w.toInt < 3 ∨ 6 < w.toInt) : aw_M yX10_wide cX10_wide 2 (some FieldType.int) 1 0 0 [.ref (v 4), .int w] S (fun r S2 => r = some (.int (-1)) ∧ S2 = wA S (v 18) 1 (sA S (v 18) 1 + 1)) := by
  refine aw_enter (by decide +kernel) (Nat.le_of_ble_eq_true rfl) (fun g K E => ?_)
  have hL0 := hL
  have i4 := lw_i4 hL
  have f645 := lw_f645 hL
  have i5 := lw_i5 hL
  have f646 := lw_f646 hL
  have i6 := lw_i6 hL
  refine a_iload_n K dX10_wide_0 rfl ?_
  refine a_iconst K dX10_wide_1 (v := 3) (by decide) ?_
  refine a_icmp_lt K dX10_wide_2 (tgt := 11) (by decide) (fun c_2 => ?_) (fun c_2 => ?_)
  · first | refine a_aload_n K dX10_wide_11 rfl ?_ | refine a_aload_nN K dX10_wide_11 rfl ?_
    refine a_iconst K dX10_wide_12 (v := 1) (by decide) ?_
    refine a_invV K (w_refused hL0 1 (by decide)) my_X10_refused ml_X10_128 im_X10_refused se_X10_refused (ci := 10) (by assumption) (by decide) ⟨_, _, rfl⟩ rfl (by omega) (by omega) (by omega) rfl (Nat.le_of_ble_eq_true rfl) dX10_wide_13 ?_
    intro r9 S9 hp9
    obtain ⟨rfl, hS9⟩ := hp9
    exact a_iret K E rfl (by omega) (by omega) dX10_wide_16 ⟨rfl, hS9⟩
  · refine a_iload_n K dX10_wide_5 rfl ?_
    refine a_bipush K dX10_wide_6 (v := 6) (by decide) ?_
    refine a_icmp_le K dX10_wide_8 (tgt := 17) (by decide) (fun c_8 => ?_) (fun c_8 => ?_)
    · exact absurd hw (by simp only [i32_lt, i32_le, t_3, t_6] at c_2 c_8; omega)
    · first | refine a_aload_n K dX10_wide_11 rfl ?_ | refine a_aload_nN K dX10_wide_11 rfl ?_
      refine a_iconst K dX10_wide_12 (v := 1) (by decide) ?_
      refine a_invV K (w_refused hL0 1 (by decide)) my_X10_refused ml_X10_128 im_X10_refused se_X10_refused (ci := 10) (by assumption) (by decide) ⟨_, _, rfl⟩ rfl (by omega) (by omega) (by omega) rfl (Nat.le_of_ble_eq_true rfl) dX10_wide_13 ?_
      intro r9 S9 hp9
      obtain ⟨rfl, hS9⟩ := hp9
      exact a_iret K E rfl (by omega) (by omega) dX10_wide_16 ⟨rfl, hS9⟩
set_option maxHeartbeats 4000000 in
set_option maxRecDepth 100000 in
theorem m_X10_wide_ok {S : aw_S} {v : Nat → Nat} {w : Int32} (hL : LW S v) (hw : 3 ≤ w.toInt ∧ w.toInt ≤ 6) : aw_M yX10_wide cX10_wide 2 (some FieldType.int) 3 0 0 [.ref (v 4), .int w] S (fun r S2 => r = some (.int w) ∧ S2 = clo (wI (wI (wI (opn (wI (wI S 64 (v 5) w) 65 (v 5) 0) (v 10) (v 11) (v 7) 999) 198 (v 6) 0) 199 (v 6) 0) 200 (v 6) 0) v 4) := by
  refine aw_enter (by decide +kernel) (Nat.le_of_ble_eq_true rfl) (fun g K E => ?_)
  have hL0 := hL
  have i4 := lw_i4 hL
  have f645 := lw_f645 hL
  have i5 := lw_i5 hL
  have f646 := lw_f646 hL
  have i6 := lw_i6 hL
  refine a_iload_n K dX10_wide_0 rfl ?_
  refine a_iconst K dX10_wide_1 (v := 3) (by decide) ?_
  refine a_icmp_lt K dX10_wide_2 (tgt := 11) (by decide) (fun c_2 => absurd c_2 (fun z => by simp only [i32_lt, t_3] at z; omega)) (fun c_2 => ?_)
  refine a_iload_n K dX10_wide_5 rfl ?_
  refine a_bipush K dX10_wide_6 (v := 6) (by decide) ?_
  refine a_icmp_le K dX10_wide_8 (tgt := 17) (by decide) (fun c_8 => ?_) (fun c_8 => absurd c_8 (by simp only [i32_le, t_6]; omega))
  first | refine a_aload_n K dX10_wide_17 rfl ?_ | refine a_aload_nN K dX10_wide_17 rfl ?_
  refine a_getRs K fd_X10_39 (by assumption) (Or.inl ⟨_, rfl⟩) (by assumption) dX10_wide_18 ?_
  refine a_iload_n K dX10_wide_21 rfl ?_
  refine a_invV K (m_X1_open i5) my_X1_open ml_X10_157 im_X1_open se_X1_open (ci := 1) (by assumption) (by decide) ⟨_, _, rfl⟩ rfl (by omega) (by omega) (by omega) rfl (Nat.le_of_ble_eq_true rfl) dX10_wide_22 ?_
  intro r9 S9 hp9
  obtain ⟨rfl, rfl⟩ := hp9
  first | refine a_aload_n K dX10_wide_25 rfl ?_ | refine a_aload_nN K dX10_wide_25 rfl ?_
  refine a_getRs K fd_X10_46 (by assumption) (Or.inl ⟨_, rfl⟩) (by assumption) dX10_wide_26 ?_
  refine a_invV K (m_X3_open (S := (wI (wI S 64 (v 5) w) 65 (v 5) 0)) i6 (lw_f192_6 hL0) (lw_f195_6 hL0) (lw_f196_6 hL0) (lw_i7 hL0) (lw_i10 hL0) (lw_i11 hL0) (lw_n7 hL0) (lw_n10 hL0) (lw_n11 hL0)) my_X3_open ml_X10_160 im_X3_open se_X3_open (ci := 3) (by assumption) (by decide) ⟨_, _, rfl⟩ rfl (by omega) (by omega) (by omega) rfl (Nat.le_of_ble_eq_true rfl) dX10_wide_29 ?_
  intro r9 S9 hp9
  obtain ⟨rfl, rfl⟩ := hp9
  have hL2 : LW (wI (wI (wI (opn (wI (wI S 64 (v 5) w) 65 (v 5) 0) (v 10) (v 11) (v 7) 999) 198 (v 6) 0) 199 (v 6) 0) 200 (v 6) 0) v := LW_wI (LW_wI (LW_wI (LW_opn (LW_wI (LW_wI hL0)) 999)))
  have i4 := lw_i4 hL2
  first | refine a_aload_n K dX10_wide_32 rfl ?_ | refine a_aload_nN K dX10_wide_32 rfl ?_
  refine a_invV K (m_X10_closeBuilders hL2) my_X10_closeBuilders ml_X10_162 im_X10_closeBuilders se_X10_closeBuilders (ci := 10) (by assumption) (by decide) ⟨_, _, rfl⟩ rfl (by omega) (by omega) (by omega) rfl (Nat.le_of_ble_eq_true rfl) dX10_wide_33 ?_
  intro r9 S9 hp9
  obtain ⟨rfl, rfl⟩ := hp9
  refine a_iload_n K dX10_wide_36 rfl ?_
  exact a_iret K E rfl (by omega) (by omega) dX10_wide_37 ⟨rfl, rfl⟩
set_option maxHeartbeats 4000000 in
set_option maxRecDepth 100000 in
theorem m_X10_image {S : aw_S} {v : Nat → Nat} (hL : LW S v) : aw_M yX10_image cX10_image 1 (some FieldType.int) 1 0 0 [.ref (v 4)] S (fun r S2 => r = some (.int (sI S 200 (v 6))) ∧ S2 = (kim (wI S 198 (v 6) 1) (v 10) (v 11) 999)) := by
  refine aw_enter (by decide +kernel) (Nat.le_of_ble_eq_true rfl) (fun g K E => ?_)
  have hL0 := hL
  have i4 := lw_i4 hL
  have f646 := lw_f646 hL
  have i6 := lw_i6 hL
  first | refine a_aload_n K dX10_image_0 rfl ?_ | refine a_aload_nN K dX10_image_0 rfl ?_
  refine a_getRs K fd_X10_46 (by assumption) (Or.inl ⟨_, rfl⟩) (by assumption) dX10_image_1 ?_
  refine a_invV K (m_X3_keepImage i6 (lw_f192_6 hL0) (lw_f195_6 hL0) (lw_f196_6 hL0) (lw_i7 hL0) (lw_i10 hL0) (lw_i11 hL0) (lw_n7 hL0) (lw_n10 hL0) (lw_n11 hL0)) my_X3_keepImage ml_X10_421 im_X3_keepImage se_X3_keepImage (ci := 3) (by assumption) (by decide) ⟨_, _, rfl⟩ rfl (by omega) (by omega) (by omega) rfl (Nat.le_of_ble_eq_true rfl) dX10_image_4 ?_
  intro r9 S9 hp9
  obtain ⟨rfl, rfl⟩ := hp9
  have hL2 : LW (kim (wI S 198 (v 6) 1) (v 10) (v 11) 999) v := LW_kim (LW_wI hL0) _ _ _
  have i4 := lw_i4 hL2
  have f646 := lw_f646 hL2
  have i6 := lw_i6 hL2
  first | refine a_aload_n K dX10_image_7 rfl ?_ | refine a_aload_nN K dX10_image_7 rfl ?_
  refine a_getRs K fd_X10_46 (by assumption) (Or.inl ⟨_, rfl⟩) (by assumption) dX10_image_8 ?_
  refine a_invV K (m_X3_held i6) my_X3_held ml_X10_310 im_X3_held se_X3_held (ci := 3) (by assumption) (by decide) ⟨_, _, rfl⟩ rfl (by omega) (by omega) (by omega) rfl (Nat.le_of_ble_eq_true rfl) dX10_image_11 ?_
  intro r9 S9 hp9
  obtain ⟨rfl, rfl⟩ := hp9
  exact a_iret K E rfl (by omega) (by omega) dX10_image_14 ⟨by rw [(kim_same _ _ _ _).2.2.1]; rw [sI_wI, if_neg (fun z => absurd z.1 (by decide))], rfl⟩
