/-! the model: small methods -/
/-- is k in the set -/
abbrev hasB (s k : Int32) : Prop := s >>> (k &&& 31) &&& 1 = 1
set_option maxHeartbeats 4000000 in
set_option maxRecDepth 100000 in
theorem q_has {S : aw_S} {s k : Int32} : aw_M yX11_has cX11_has 2 (some FieldType.boolean) 0 0 0 [.int s, .int k] S (fun r S2 => S2 = S ∧ bR (hasB s k) r) := by
  refine aw_enter (by decide +kernel) (Nat.le_of_ble_eq_true rfl) (fun g K EE => ?_)
  refine a_iload_n K dX11_has_0 rfl ?_
  refine a_iload_n K dX11_has_1 rfl ?_
  refine a_ishr K dX11_has_2 ?_
  refine a_iconst K dX11_has_3 (v := 1) (by decide) ?_
  refine a_iand K dX11_has_4 ?_
  refine a_iconst K dX11_has_5 (v := 1) (by decide) ?_
  refine a_icmp_ne K dX11_has_6 (tgt := 13) (by decide) (fun c_6 => ?_) (fun c_6 => ?_)
  · refine a_iconst K dX11_has_13 (v := 0) (by decide) ?_
    exact a_iret K EE rfl (by omega) (by omega) dX11_has_14 (by first | exact ⟨rfl, Or.inl ⟨Classical.not_not.mp (fun z => z (by first | exact c_6 | exact Classical.not_not.mp c_6)), rfl⟩⟩ | exact ⟨rfl, Or.inr ⟨c_6, rfl⟩⟩)
  · refine a_iconst K dX11_has_9 (v := 1) (by decide) ?_
    refine a_goto K dX11_has_10 (tgt := 14) (by decide) ?_
    exact a_iret K EE rfl (by omega) (by omega) dX11_has_14 (by first | exact ⟨rfl, Or.inl ⟨Classical.not_not.mp (fun z => z (by first | exact c_6 | exact Classical.not_not.mp c_6)), rfl⟩⟩ | exact ⟨rfl, Or.inr ⟨c_6, rfl⟩⟩)
set_option maxHeartbeats 4000000 in
set_option maxRecDepth 100000 in
theorem q_held {S : aw_S} {x : Int32} : aw_M yX11_held cX11_held 1 (some FieldType.int) 1 0 0 [.int x] S (fun r S2 => r = some (.int (hldW x)) ∧ S2 = S) := by
  refine aw_enter (by decide +kernel) (Nat.le_of_ble_eq_true rfl) (fun g K EE => ?_)
  refine a_sipush K dX11_held_0 (v := -999) (by decide) ?_
  refine a_sipush K dX11_held_3 (v := 999) (by decide) ?_
  refine a_iload_n K dX11_held_6 rfl ?_
  refine a_mmin K ml_X11_345 (by omega) (Nat.le_of_ble_eq_true rfl) (by omega) (by omega) dX11_held_7 ?_
  refine a_mmax K ml_X11_313 (by omega) (Nat.le_of_ble_eq_true rfl) (by omega) (by omega) dX11_held_10 ?_
  exact a_iret K EE rfl (by omega) (by omega) dX11_held_13 ⟨by unfold hldW mn9; rfl, rfl⟩
set_option maxHeartbeats 4000000 in
set_option maxRecDepth 100000 in
theorem q_least {S : aw_S} {m : Nat → Nat} (hM : LM S m) {w : Nat} (hw : sI S 723 (m 33) = nI w) (hw6 : w ≤ 6) : aw_M yX11_least cX11_least 1 (some FieldType.int) 0 0 0 [.ref (m 33)] S (fun r S2 => r = some (.int (nI (lea w))) ∧ S2 = S) := by
  refine aw_enter (by decide +kernel) (Nat.le_of_ble_eq_true rfl) (fun g K EE => ?_)
  first | refine a_aload_n K dX11_least_0 rfl ?_ | refine a_aload_nN K dX11_least_0 rfl ?_
  refine a_getI K fd_X11_45 (by exact lm_o hM) (Or.inl rfl) dX11_least_1 ?_
  rw [hw]
  refine a_iconst K dX11_least_4 (v := 1) (by decide) ?_
  refine a_iadd K dX11_least_5 ?_
  rw [nI_1]
  refine a_iconst K dX11_least_6 (v := 2) (by decide) ?_
  refine a_idiv K dX11_least_7 (by decide) ?_
  rw [nI_half (by omega)]
  exact a_iret K EE rfl (by omega) (by omega) dX11_least_8 ⟨rfl, rfl⟩
set_option maxHeartbeats 4000000 in
set_option maxRecDepth 100000 in
theorem q_refused {S : aw_S} {m : Nat → Nat} (hM : LM S m) {k : Nat} (hk : k < 5) : aw_M yX11_refused cX11_refused 2 (some FieldType.int) 0 0 0 [.ref (m 33), .int (nI k)] S (fun r S2 => r = some (.int (-1)) ∧ S2 = wA S (m 23) k (sA S (m 23) k + 1)) := by
  refine aw_enter (by decide +kernel) (Nat.le_of_ble_eq_true rfl) (fun g K EE => ?_)
  first | refine a_aload_n K dX11_refused_0 rfl ?_ | refine a_aload_nN K dX11_refused_0 rfl ?_
  refine a_getRs K fd_X11_85 (by exact lm_o hM) (Or.inr ⟨_, rfl⟩) (by exact lm_r742 hM) dX11_refused_1 ?_
  refine a_iload_n K dX11_refused_4 rfl ?_
  refine a_dup2 K dX11_refused_5 rfl rfl ?_
  refine a_iald K (by exact lm_kk hM (by decide) (by decide)) (by show vp_in _ (sN S (m 23)); exact lm_ix (z := 5) hM (by decide) (by decide) (show k < 5 by omega) (by decide)) dX11_refused_6 ?_
  rw [nI_clamp (by omega)]
  refine a_iconst K dX11_refused_7 (v := 1) (by decide) ?_
  refine a_iadd K dX11_refused_8 ?_
  refine a_iast K (by exact lm_kk hM (by decide) (by decide)) (by show vp_in _ (sN S (m 23)); exact lm_ix (z := 5) hM (by decide) (by decide) (show k < 5 by omega) (by decide)) dX11_refused_9 ?_
  rw [nI_clamp (by omega)]
  refine a_iconst K dX11_refused_10 (v := -1) (by decide) ?_
  exact a_iret K EE rfl (by omega) (by omega) dX11_refused_11 ⟨rfl, rfl⟩
set_option maxHeartbeats 4000000 in
set_option maxRecDepth 100000 in
theorem q_hasRoom {S : aw_S} {m : Nat → Nat} (hM : LM S m) {hd nm : Nat} (hh : sI S 746 (m 33) = nI hd) (hn : sI S 745 (m 33) = nI nm) (h1 : hd < 1000000) (h2 : nm < 1000000) : aw_M yX11_hasRoom cX11_hasRoom 1 (some FieldType.boolean) 0 0 0 [.ref (m 33)] S (fun r S2 => S2 = S ∧ bR (hd < 16 ∧ nm < 999) r) := by
  refine aw_enter (by decide +kernel) (Nat.le_of_ble_eq_true rfl) (fun g K EE => ?_)
  first | refine a_aload_n K dX11_hasRoom_0 rfl ?_ | refine a_aload_nN K dX11_hasRoom_0 rfl ?_
  refine a_getI K fd_X11_275 (by exact lm_o hM) (Or.inl rfl) dX11_hasRoom_1 ?_
  rw [hh]
  refine a_bipush K dX11_hasRoom_4 (v := 16) (by decide) ?_
  refine a_icmp_ge K dX11_hasRoom_6 (tgt := 23) (by decide) (fun c_6 => ?_) (fun c_6 => ?_)
  · refine a_iconst K dX11_hasRoom_23 (v := 0) (by decide) ?_
    exact a_iret K EE rfl (by omega) (by omega) dX11_hasRoom_24 (by first | exact ⟨rfl, Or.inl ⟨⟨Classical.byContradiction (fun z => c_6 (nI_le (a := 16) (b := hd) (by omega) (by omega))), Classical.byContradiction (fun z => c_16 (nI_le (a := 999) (b := nm) (by omega) (by omega)))⟩, rfl⟩⟩ | exact ⟨rfl, Or.inr ⟨fun z => nI_ge (a := nm) (b := 999) z.2 (by decide) c_16, rfl⟩⟩ | exact ⟨rfl, Or.inr ⟨fun z => nI_ge (a := hd) (b := 16) z.1 (by decide) c_6, rfl⟩⟩)
  · first | refine a_aload_n K dX11_hasRoom_9 rfl ?_ | refine a_aload_nN K dX11_hasRoom_9 rfl ?_
    refine a_getI K fd_X11_261 (by exact lm_o hM) (Or.inl rfl) dX11_hasRoom_10 ?_
    rw [hn]
    refine a_sipush K dX11_hasRoom_13 (v := 999) (by decide) ?_
    refine a_icmp_ge K dX11_hasRoom_16 (tgt := 23) (by decide) (fun c_16 => ?_) (fun c_16 => ?_)
    · refine a_iconst K dX11_hasRoom_23 (v := 0) (by decide) ?_
      exact a_iret K EE rfl (by omega) (by omega) dX11_hasRoom_24 (by first | exact ⟨rfl, Or.inl ⟨⟨Classical.byContradiction (fun z => c_6 (nI_le (a := 16) (b := hd) (by omega) (by omega))), Classical.byContradiction (fun z => c_16 (nI_le (a := 999) (b := nm) (by omega) (by omega)))⟩, rfl⟩⟩ | exact ⟨rfl, Or.inr ⟨fun z => nI_ge (a := nm) (b := 999) z.2 (by decide) c_16, rfl⟩⟩ | exact ⟨rfl, Or.inr ⟨fun z => nI_ge (a := hd) (b := 16) z.1 (by decide) c_6, rfl⟩⟩)
    · refine a_iconst K dX11_hasRoom_19 (v := 1) (by decide) ?_
      refine a_goto K dX11_hasRoom_20 (tgt := 24) (by decide) ?_
      exact a_iret K EE rfl (by omega) (by omega) dX11_hasRoom_24 (by first | exact ⟨rfl, Or.inl ⟨⟨Classical.byContradiction (fun z => c_6 (nI_le (a := 16) (b := hd) (by omega) (by omega))), Classical.byContradiction (fun z => c_16 (nI_le (a := 999) (b := nm) (by omega) (by omega)))⟩, rfl⟩⟩ | exact ⟨rfl, Or.inr ⟨fun z => nI_ge (a := nm) (b := 999) z.2 (by decide) c_16, rfl⟩⟩ | exact ⟨rfl, Or.inr ⟨fun z => nI_ge (a := hd) (b := 16) z.1 (by decide) c_6, rfl⟩⟩)
/-- a map that is held -/
def isMapP (hd : Nat → Bool) (n : Nat) (i : Int32) : Prop := 0 ≤ i.toInt ∧ i.toInt < n ∧ hd i.toNatClampNeg = true
set_option maxHeartbeats 4000000 in
set_option maxRecDepth 100000 in
theorem q_isMap {S : aw_S} {m : Nat → Nat} (hM : LM S m) {hd : Nat → Bool} {nm : Nat} {i : Int32} (hn : sI S 745 (m 33) = nI nm) (h9 : nm ≤ 999) (hH : ∀ k, k < 999 → sA S (m 24) k = (if hd k = true then 1 else 0)) : aw_M yX11_isMap cX11_isMap 2 (some FieldType.boolean) 0 0 0 [.ref (m 33), .int i] S (fun r S2 => S2 = S ∧ bR (isMapP hd nm i) r) := by
  refine aw_enter (by decide +kernel) (Nat.le_of_ble_eq_true rfl) (fun g K EE => ?_)
  by_cases hi : i < 0
  · refine a_iload_n K dX11_isMap_0 rfl ?_
    refine a_if_lt K dX11_isMap_1 (tgt := 25) (by decide) (fun c_1 => ?_) (fun c_1 => absurd c_1 (fun z => z hi))
    refine a_iconst K dX11_isMap_25 (v := 0) (by decide) ?_
    exact a_iret K EE rfl (by omega) (by omega) dX11_isMap_26 ⟨rfl, Or.inr ⟨fun z => ky_neg hi z.1, rfl⟩⟩
  · obtain ⟨j, hj9, rfl⟩ := nI_of hi
    by_cases hlt : j < nm
    · cases he : hd j with
      | true =>
        refine a_iload_n K dX11_isMap_0 rfl ?_
        refine a_if_lt K dX11_isMap_1 (tgt := 25) (by decide) (fun c_1 => absurd c_1 (hi)) (fun c_1 => ?_)
        refine a_iload_n K dX11_isMap_4 rfl ?_
        first | refine a_aload_n K dX11_isMap_5 rfl ?_ | refine a_aload_nN K dX11_isMap_5 rfl ?_
        refine a_getI K fd_X11_261 (by exact lm_o hM) (Or.inl rfl) dX11_isMap_6 ?_
        rw [hn]
        refine a_icmp_ge K dX11_isMap_9 (tgt := 25) (by decide) (fun c_9 => absurd c_9 (nI_ge (a := j) (b := nm) hlt (by omega))) (fun c_9 => ?_)
        first | refine a_aload_n K dX11_isMap_12 rfl ?_ | refine a_aload_nN K dX11_isMap_12 rfl ?_
        refine a_getRs K fd_X11_88 (by exact lm_o hM) (Or.inr ⟨_, rfl⟩) (by exact lm_r743 hM) dX11_isMap_13 ?_
        refine a_iload_n K dX11_isMap_16 rfl ?_
        refine a_zald K (by exact lm_kk hM (by decide) (by decide)) (by show vp_in _ (sN S (m 24)); exact lm_ix (z := 999) hM (by decide) (by decide) (show j < 999 by omega) (by decide)) dX11_isMap_17 ?_
        rw [nI_clamp hj9]
        rw [hH j (by omega)]
        rw [he]
        rw [if_pos rfl]
        refine a_if_eq K dX11_isMap_18 (tgt := 25) (by decide) (fun c_18 => absurd c_18 (fun z => absurd z (by decide))) (fun c_18 => ?_)
        refine a_iconst K dX11_isMap_21 (v := 1) (by decide) ?_
        refine a_goto K dX11_isMap_22 (tgt := 26) (by decide) ?_
        exact a_iret K EE rfl (by omega) (by omega) dX11_isMap_26 ⟨rfl, Or.inl ⟨⟨by rw [nI_toInt hj9]; exact Int.natCast_nonneg _, by rw [nI_toInt hj9]; omega, by rw [nI_clamp hj9]; exact he⟩, rfl⟩⟩
      | false =>
        refine a_iload_n K dX11_isMap_0 rfl ?_
        refine a_if_lt K dX11_isMap_1 (tgt := 25) (by decide) (fun c_1 => absurd c_1 (hi)) (fun c_1 => ?_)
        refine a_iload_n K dX11_isMap_4 rfl ?_
        first | refine a_aload_n K dX11_isMap_5 rfl ?_ | refine a_aload_nN K dX11_isMap_5 rfl ?_
        refine a_getI K fd_X11_261 (by exact lm_o hM) (Or.inl rfl) dX11_isMap_6 ?_
        rw [hn]
        refine a_icmp_ge K dX11_isMap_9 (tgt := 25) (by decide) (fun c_9 => absurd c_9 (nI_ge (a := j) (b := nm) hlt (by omega))) (fun c_9 => ?_)
        first | refine a_aload_n K dX11_isMap_12 rfl ?_ | refine a_aload_nN K dX11_isMap_12 rfl ?_
        refine a_getRs K fd_X11_88 (by exact lm_o hM) (Or.inr ⟨_, rfl⟩) (by exact lm_r743 hM) dX11_isMap_13 ?_
        refine a_iload_n K dX11_isMap_16 rfl ?_
        refine a_zald K (by exact lm_kk hM (by decide) (by decide)) (by show vp_in _ (sN S (m 24)); exact lm_ix (z := 999) hM (by decide) (by decide) (show j < 999 by omega) (by decide)) dX11_isMap_17 ?_
        rw [nI_clamp hj9]
        rw [hH j (by omega)]
        rw [he]
        rw [if_neg (by decide)]
        refine a_if_eq K dX11_isMap_18 (tgt := 25) (by decide) (fun c_18 => ?_) (fun c_18 => absurd c_18 (fun z => z rfl))
        refine a_iconst K dX11_isMap_25 (v := 0) (by decide) ?_
        exact a_iret K EE rfl (by omega) (by omega) dX11_isMap_26 ⟨rfl, Or.inr ⟨fun z => by have h1 := z.2.2; rw [nI_clamp hj9, he] at h1; exact absurd h1 (by decide), rfl⟩⟩
    · refine a_iload_n K dX11_isMap_0 rfl ?_
      refine a_if_lt K dX11_isMap_1 (tgt := 25) (by decide) (fun c_1 => absurd c_1 (hi)) (fun c_1 => ?_)
      refine a_iload_n K dX11_isMap_4 rfl ?_
      first | refine a_aload_n K dX11_isMap_5 rfl ?_ | refine a_aload_nN K dX11_isMap_5 rfl ?_
      refine a_getI K fd_X11_261 (by exact lm_o hM) (Or.inl rfl) dX11_isMap_6 ?_
      rw [hn]
      refine a_icmp_ge K dX11_isMap_9 (tgt := 25) (by decide) (fun c_9 => ?_) (fun c_9 => absurd c_9 (fun z => z (nI_le (a := nm) (b := j) (by omega) hj9)))
      refine a_iconst K dX11_isMap_25 (v := 0) (by decide) ?_
      exact a_iret K EE rfl (by omega) (by omega) dX11_isMap_26 ⟨rfl, Or.inr ⟨fun z => by have h1 := z.2.1; rw [nI_toInt hj9] at h1; omega, rfl⟩⟩
