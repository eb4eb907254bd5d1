def shI (z y : Tz) : Int32 := nI (sub y.1 y.2).length - nI (mkC (mkS (fun _ => false) (sub z.1 z.2)) (sub y.1 y.2) 0)
def aShared (P : PS) (m o : Int32) : Int32 := match rootP P m, rootP P o with
  | some z, some y => shI z y
  | _, _ => -1
def aLooked (P : PS) (m o : Int32) : Int32 := match rootP P m, rootP P o with
  | some z, some y => nI (sub z.1 z.2).length + nI (sub y.1 y.2).length - 2 * shI z y
  | _, _ => -1
theorem RC.up {S : aw_S} {v ad ar : Nat → Nat} {PA : List (Nat × Nat)} {X : List Nat} {mb m2 : Nat} {P : PS} (h : RC S v ad ar PA X mb P) (hm : mb ≤ m2) (hm2 : m2 < 2147483000) : RC S v ad ar PA X m2 P := by
  obtain ⟨hL, hG, hM, hB, hR, hP, hT, hS, hN, ⟨k0, mr, k1, k2⟩, hV⟩ := h
  exact ⟨hL, hG, hM, hB, hR, hP, hT, hS, hN, ⟨hm2, mr, by omega, k2⟩, hV⟩
set_option maxHeartbeats 4000000 in
set_option maxRecDepth 100000 in
theorem c_sharedNodes {S : aw_S} {v ad ar : Nat → Nat} {PA : List (Nat × Nat)} {X : List Nat} {mb : Nat} {P : PS} (h : RC S v ad ar PA X mb P) (hP : PI P) (hm : mb + 1 < 2147483000) {z y : Tz} (tz : TT_ S ad ar P z) (ty : tok (pW P) (pU P) (pTk P) y) (hty2 : ∀ S2, RC S2 v ad ar PA X (mb + 1) P → TT_ S2 ad ar P y) : aw_M yX10_sharedNodes cX10_sharedNodes 4 (some FieldType.int) 10 0 0 [.ref (v 4), .ref (ad z.2.1), .ref (ad y.2.1)] S (fun r S2 => r = some (.int (shI z y)) ∧ RC S2 v ad ar PA X (mb + 1) P ∧ keepX X S S2) := by
  have hL := h.L
  obtain ⟨hz4, -, -⟩ := tz.2.h4 hP.1.1
  obtain ⟨hy4, -, -⟩ := ty.h4 hP.1.1
  refine aw_enter (by decide +kernel) (Nat.le_of_ble_eq_true rfl) (fun g K EE => ?_)
  first | refine a_aload_n K dX10_sharedNodes_0 rfl ?_ | refine a_aload_nN K dX10_sharedNodes_0 rfl ?_
  first | refine a_aload_n K dX10_sharedNodes_1 rfl ?_ | refine a_aload_nN K dX10_sharedNodes_1 rfl ?_
  refine a_invV K (c_marked h hP hm tz) my_X10_marked ml_X10_249 im_X10_marked se_X10_marked (ci := 10) (lw_i4 hL) (by decide) ⟨_, _, rfl⟩ rfl (by omega) (by omega) (by omega) rfl (Nat.le_of_ble_eq_true rfl) dX10_sharedNodes_2 ?_
  intro r9 S9 hp9
  obtain ⟨mr, rfl, hmr2, h2, k2, e2, n2⟩ := hp9
  have hL := h2.L
  have ty2 := hty2 _ h2
  refine a_istore_n K dX10_sharedNodes_5 (by decide) ?_
  first | refine a_aload_n K dX10_sharedNodes_6 rfl ?_ | refine a_aload_nN K dX10_sharedNodes_6 rfl ?_
  refine a_getRs K fd_X10_90 (lw_i4 hL) (Or.inl ⟨_, rfl⟩) (lw_f655 hL) dX10_sharedNodes_7 ?_
  first | refine a_aload_n K dX10_sharedNodes_10 rfl ?_ | refine a_aload_nN K dX10_sharedNodes_10 rfl ?_
  refine a_invV K (m_fillL h2 hP.1.1 ty2) my_X2_fill ml_X10_181 im_X2_fill se_X2_fill (ci := 2) (lw_i34 hL) (by decide) ⟨_, _, rfl⟩ rfl (by omega) (by omega) (by omega) rfl (Nat.le_of_ble_eq_true rfl) dX10_sharedNodes_11 ?_
  intro r9 S9 hp9
  obtain ⟨rfl, hLs, h3, k3, f3⟩ := hp9
  have hL := h3.L
  have e3 := ((f3.2.2.2.2.2.2.2 _ (vqls hL (show 4 < 34 by decide))).1 656).trans e2
  have h0 : ∀ i, i < pU P → (_ = nI mr ↔ mkS (fun _ => false) (sub z.1 z.2) i = true) := fun i hi => by rw [← n2 i hi, ← f3.2.2.2.2.2.2.1 (ad i) 260 (Or.inl rfl)]
  first | refine a_aload_n K dX10_sharedNodes_14 rfl ?_ | refine a_aload_nN K dX10_sharedNodes_14 rfl ?_
  refine a_getRs K fd_X10_90 (lw_i4 hL) (Or.inl ⟨_, rfl⟩) (lw_f655 hL) dX10_sharedNodes_15 ?_
  refine a_invV K (m_X2_size hLs.1) my_X2_size ml_X10_185 im_X2_size se_X2_size (ci := 2) (lw_i34 hL) (by decide) ⟨_, _, rfl⟩ rfl (by omega) (by omega) (by omega) rfl (Nat.le_of_ble_eq_true rfl) dX10_sharedNodes_18 ?_
  intro r9 S9 hp9
  obtain ⟨rfl, hS9⟩ := hp9
  obtain rfl := hS9.symm
  rw [hLs.2.2.2.2.2.2.2.1]
  first | refine a_aload_n K dX10_sharedNodes_21 rfl ?_ | refine a_aload_nN K dX10_sharedNodes_21 rfl ?_
  refine a_getRs K fd_X10_90 (lw_i4 hL) (Or.inl ⟨_, rfl⟩) (lw_f655 hL) dX10_sharedNodes_22 ?_
  refine a_iload_n K dX10_sharedNodes_25 rfl ?_
  refine a_invV K (m_Ls_mark hLs h3.2.2.2.2.2.2.2.2.1.1 (sub_ids ty2.1.2) h0 rfl) my_X2_mark ml_X10_392 im_X2_mark se_X2_mark (ci := 2) (lw_i34 hL) (by decide) ⟨_, _, rfl⟩ rfl (by omega) (by omega) (by omega) rfl (Nat.le_of_ble_eq_true rfl) dX10_sharedNodes_26 ?_
  intro r9 T hp9
  obtain ⟨rfl, hmk⟩ := hp9
  have h4 := h3.mkr hmk e3 (fun i hi => by obtain ⟨y, hy, e⟩ := List.mem_map.mp hi; rw [← e]; exact sub_ids ty2.1.2 y hy)
  refine a_isub K dX10_sharedNodes_29 ?_
  exact a_iret K EE rfl (by omega) (by omega) dX10_sharedNodes_30 ⟨rfl, h4.1, (k2.tr k3).tr h4.2⟩
set_option maxHeartbeats 4000000 in
set_option maxRecDepth 100000 in
theorem c_shared {S : aw_S} {v ad ar : Nat → Nat} {PA : List (Nat × Nat)} {X : List Nat} {mb : Nat} {P : PS} (h : RC S v ad ar PA X mb P) (hP : PI P) (hm : mb + 1 < 2147483000) {m o : Int32} : aw_M yX10_shared cX10_shared 5 (some FieldType.int) 11 0 0 [.ref (v 4), .int m, .int o] S (fun r S2 => r = some (.int (aShared P m o)) ∧ RC S2 v ad ar PA X (mb + 1) P ∧ keepX X S S2) := by
  have hL := h.L
  cases hz : rootP P m with
  | none =>
    cases hy : rootP P o with
    | none =>
      refine aw_enter (by decide +kernel) (Nat.le_of_ble_eq_true rfl) (fun g K EE => ?_)
      first | refine a_aload_n K dX10_shared_0 rfl ?_ | refine a_aload_nN K dX10_shared_0 rfl ?_
      refine a_getRs K fd_X10_46 (lw_i4 hL) (Or.inl ⟨_, rfl⟩) (lw_f646 hL) dX10_shared_1 ?_
      refine a_iload_n K dX10_shared_4 rfl ?_
      refine a_invV K (m_root h m) my_X3_heldRoot ml_X10_165 im_X3_heldRoot se_X3_heldRoot (ci := 3) (lw_i6 hL) (by decide) ⟨_, _, rfl⟩ rfl (by omega) (by omega) (by omega) rfl (Nat.le_of_ble_eq_true rfl) dX10_shared_5 ?_
      intro r9 S9 hp9
      obtain ⟨rfl, hS9⟩ := hp9
      obtain rfl := hS9.symm
      rw [hz]
      first | refine a_astore_n K dX10_shared_8 (by decide) ?_ | refine a_astore_nN K dX10_shared_8 (by decide) ?_
      first | refine a_aload_n K dX10_shared_9 rfl ?_ | refine a_aload_nN K dX10_shared_9 rfl ?_
      refine a_getRs K fd_X10_46 (lw_i4 hL) (Or.inl ⟨_, rfl⟩) (lw_f646 hL) dX10_shared_10 ?_
      refine a_iload_n K dX10_shared_13 rfl ?_
      refine a_invV K (m_root h o) my_X3_heldRoot ml_X10_165 im_X3_heldRoot se_X3_heldRoot (ci := 3) (lw_i6 hL) (by decide) ⟨_, _, rfl⟩ rfl (by omega) (by omega) (by omega) rfl (Nat.le_of_ble_eq_true rfl) dX10_shared_14 ?_
      intro r9 S9 hp9
      obtain ⟨rfl, hS9⟩ := hp9
      obtain rfl := hS9.symm
      rw [hy]
      first | refine a_astore K dX10_shared_17 (by decide) ?_ | refine a_astoreN K dX10_shared_17 (by decide) ?_
      first | refine a_aload_n K dX10_shared_19 rfl ?_ | refine a_aload_nN K dX10_shared_19 rfl ?_
      refine a_ifnullN K dX10_shared_20 (tgt := 28) (by decide) ?_
      refine a_iconst K dX10_shared_28 (v := -1) (by decide) ?_
      refine a_goto K dX10_shared_29 (tgt := 39) (by decide) ?_
      exact a_iret K EE rfl (by omega) (by omega) dX10_shared_39 ⟨by unfold aShared; rw [hz], h.up (by omega) (by omega), h.X⟩
    | some y =>
      refine aw_enter (by decide +kernel) (Nat.le_of_ble_eq_true rfl) (fun g K EE => ?_)
      first | refine a_aload_n K dX10_shared_0 rfl ?_ | refine a_aload_nN K dX10_shared_0 rfl ?_
      refine a_getRs K fd_X10_46 (lw_i4 hL) (Or.inl ⟨_, rfl⟩) (lw_f646 hL) dX10_shared_1 ?_
      refine a_iload_n K dX10_shared_4 rfl ?_
      refine a_invV K (m_root h m) my_X3_heldRoot ml_X10_165 im_X3_heldRoot se_X3_heldRoot (ci := 3) (lw_i6 hL) (by decide) ⟨_, _, rfl⟩ rfl (by omega) (by omega) (by omega) rfl (Nat.le_of_ble_eq_true rfl) dX10_shared_5 ?_
      intro r9 S9 hp9
      obtain ⟨rfl, hS9⟩ := hp9
      obtain rfl := hS9.symm
      rw [hz]
      first | refine a_astore_n K dX10_shared_8 (by decide) ?_ | refine a_astore_nN K dX10_shared_8 (by decide) ?_
      first | refine a_aload_n K dX10_shared_9 rfl ?_ | refine a_aload_nN K dX10_shared_9 rfl ?_
      refine a_getRs K fd_X10_46 (lw_i4 hL) (Or.inl ⟨_, rfl⟩) (lw_f646 hL) dX10_shared_10 ?_
      refine a_iload_n K dX10_shared_13 rfl ?_
      refine a_invV K (m_root h o) my_X3_heldRoot ml_X10_165 im_X3_heldRoot se_X3_heldRoot (ci := 3) (lw_i6 hL) (by decide) ⟨_, _, rfl⟩ rfl (by omega) (by omega) (by omega) rfl (Nat.le_of_ble_eq_true rfl) dX10_shared_14 ?_
      intro r9 S9 hp9
      obtain ⟨rfl, hS9⟩ := hp9
      obtain rfl := hS9.symm
      rw [hy]
      first | refine a_astore K dX10_shared_17 (by decide) ?_ | refine a_astoreN K dX10_shared_17 (by decide) ?_
      first | refine a_aload_n K dX10_shared_19 rfl ?_ | refine a_aload_nN K dX10_shared_19 rfl ?_
      refine a_ifnullN K dX10_shared_20 (tgt := 28) (by decide) ?_
      refine a_iconst K dX10_shared_28 (v := -1) (by decide) ?_
      refine a_goto K dX10_shared_29 (tgt := 39) (by decide) ?_
      exact a_iret K EE rfl (by omega) (by omega) dX10_shared_39 ⟨by unfold aShared; rw [hz], h.up (by omega) (by omega), h.X⟩
  | some z =>
    have tz := h.tt hP hz
    obtain ⟨hz4, -, -⟩ := tz.2.h4 hP.1.1
    cases hy : rootP P o with
    | none =>
      refine aw_enter (by decide +kernel) (Nat.le_of_ble_eq_true rfl) (fun g K EE => ?_)
      first | refine a_aload_n K dX10_shared_0 rfl ?_ | refine a_aload_nN K dX10_shared_0 rfl ?_
      refine a_getRs K fd_X10_46 (lw_i4 hL) (Or.inl ⟨_, rfl⟩) (lw_f646 hL) dX10_shared_1 ?_
      refine a_iload_n K dX10_shared_4 rfl ?_
      refine a_invV K (m_root h m) my_X3_heldRoot ml_X10_165 im_X3_heldRoot se_X3_heldRoot (ci := 3) (lw_i6 hL) (by decide) ⟨_, _, rfl⟩ rfl (by omega) (by omega) (by omega) rfl (Nat.le_of_ble_eq_true rfl) dX10_shared_5 ?_
      intro r9 S9 hp9
      obtain ⟨rfl, hS9⟩ := hp9
      obtain rfl := hS9.symm
      rw [hz]
      first | refine a_astore_n K dX10_shared_8 (by decide) ?_ | refine a_astore_nN K dX10_shared_8 (by decide) ?_
      first | refine a_aload_n K dX10_shared_9 rfl ?_ | refine a_aload_nN K dX10_shared_9 rfl ?_
      refine a_getRs K fd_X10_46 (lw_i4 hL) (Or.inl ⟨_, rfl⟩) (lw_f646 hL) dX10_shared_10 ?_
      refine a_iload_n K dX10_shared_13 rfl ?_
      refine a_invV K (m_root h o) my_X3_heldRoot ml_X10_165 im_X3_heldRoot se_X3_heldRoot (ci := 3) (lw_i6 hL) (by decide) ⟨_, _, rfl⟩ rfl (by omega) (by omega) (by omega) rfl (Nat.le_of_ble_eq_true rfl) dX10_shared_14 ?_
      intro r9 S9 hp9
      obtain ⟨rfl, hS9⟩ := hp9
      obtain rfl := hS9.symm
      rw [hy]
      first | refine a_astore K dX10_shared_17 (by decide) ?_ | refine a_astoreN K dX10_shared_17 (by decide) ?_
      first | refine a_aload_n K dX10_shared_19 rfl ?_ | refine a_aload_nN K dX10_shared_19 rfl ?_
      refine a_ifnull K dX10_shared_20 ?_
      first | refine a_aload K dX10_shared_23 rfl ?_ | refine a_aloadN K dX10_shared_23 rfl ?_
      refine a_ifnonnullN K dX10_shared_25 ?_
      refine a_iconst K dX10_shared_28 (v := -1) (by decide) ?_
      refine a_goto K dX10_shared_29 (tgt := 39) (by decide) ?_
      exact a_iret K EE rfl (by omega) (by omega) dX10_shared_39 ⟨by unfold aShared; rw [hz, hy], h.up (by omega) (by omega), h.X⟩
    | some y =>
      have ty := h.tt hP hy
      obtain ⟨hy4, -, -⟩ := ty.2.h4 hP.1.1
      refine aw_enter (by decide +kernel) (Nat.le_of_ble_eq_true rfl) (fun g K EE => ?_)
      first | refine a_aload_n K dX10_shared_0 rfl ?_ | refine a_aload_nN K dX10_shared_0 rfl ?_
      refine a_getRs K fd_X10_46 (lw_i4 hL) (Or.inl ⟨_, rfl⟩) (lw_f646 hL) dX10_shared_1 ?_
      refine a_iload_n K dX10_shared_4 rfl ?_
      refine a_invV K (m_root h m) my_X3_heldRoot ml_X10_165 im_X3_heldRoot se_X3_heldRoot (ci := 3) (lw_i6 hL) (by decide) ⟨_, _, rfl⟩ rfl (by omega) (by omega) (by omega) rfl (Nat.le_of_ble_eq_true rfl) dX10_shared_5 ?_
      intro r9 S9 hp9
      obtain ⟨rfl, hS9⟩ := hp9
      obtain rfl := hS9.symm
      rw [hz]
      first | refine a_astore_n K dX10_shared_8 (by decide) ?_ | refine a_astore_nN K dX10_shared_8 (by decide) ?_
      first | refine a_aload_n K dX10_shared_9 rfl ?_ | refine a_aload_nN K dX10_shared_9 rfl ?_
      refine a_getRs K fd_X10_46 (lw_i4 hL) (Or.inl ⟨_, rfl⟩) (lw_f646 hL) dX10_shared_10 ?_
      refine a_iload_n K dX10_shared_13 rfl ?_
      refine a_invV K (m_root h o) my_X3_heldRoot ml_X10_165 im_X3_heldRoot se_X3_heldRoot (ci := 3) (lw_i6 hL) (by decide) ⟨_, _, rfl⟩ rfl (by omega) (by omega) (by omega) rfl (Nat.le_of_ble_eq_true rfl) dX10_shared_14 ?_
      intro r9 S9 hp9
      obtain ⟨rfl, hS9⟩ := hp9
      obtain rfl := hS9.symm
      rw [hy]
      first | refine a_astore K dX10_shared_17 (by decide) ?_ | refine a_astoreN K dX10_shared_17 (by decide) ?_
      first | refine a_aload_n K dX10_shared_19 rfl ?_ | refine a_aload_nN K dX10_shared_19 rfl ?_
      refine a_ifnull K dX10_shared_20 ?_
      first | refine a_aload K dX10_shared_23 rfl ?_ | refine a_aloadN K dX10_shared_23 rfl ?_
      refine a_ifnonnull K dX10_shared_25 (tgt := 32) (by decide) ?_
      first | refine a_aload_n K dX10_shared_32 rfl ?_ | refine a_aload_nN K dX10_shared_32 rfl ?_
      first | refine a_aload_n K dX10_shared_33 rfl ?_ | refine a_aload_nN K dX10_shared_33 rfl ?_
      first | refine a_aload K dX10_shared_34 rfl ?_ | refine a_aloadN K dX10_shared_34 rfl ?_
      refine a_invV K (c_sharedNodes h hP hm tz ty.2 (fun S2 h2 => h2.tt hP hy)) my_X10_sharedNodes ml_X10_388 im_X10_sharedNodes se_X10_sharedNodes (ci := 10) (lw_i4 hL) (by decide) ⟨_, _, rfl⟩ rfl (by omega) (by omega) (by omega) rfl (Nat.le_of_ble_eq_true rfl) dX10_shared_36 ?_
      intro r9 S9 hp9
      obtain ⟨rfl, h2, k2⟩ := hp9
      have hL := h2.L
      have tz2 := h2.tt hP hz
      exact a_iret K EE rfl (by omega) (by omega) dX10_shared_39 ⟨by unfold aShared; rw [hz, hy], h2, k2⟩
set_option maxHeartbeats 4000000 in
set_option maxRecDepth 100000 in
theorem c_looked {S : aw_S} {v ad ar : Nat → Nat} {PA : List (Nat × Nat)} {X : List Nat} {mb : Nat} {P : PS} (h : RC S v ad ar PA X mb P) (hP : PI P) (hm : mb + 1 < 2147483000) {m o : Int32} : aw_M yX10_looked cX10_looked 7 (some FieldType.int) 11 0 0 [.ref (v 4), .int m, .int o] S (fun r S2 => r = some (.int (aLooked P m o)) ∧ RC S2 v ad ar PA X (mb + 1) P ∧ keepX X S S2) := by
  have hL := h.L
  cases hz : rootP P m with
  | none =>
    cases hy : rootP P o with
    | none =>
      refine aw_enter (by decide +kernel) (Nat.le_of_ble_eq_true rfl) (fun g K EE => ?_)
      first | refine a_aload_n K dX10_looked_0 rfl ?_ | refine a_aload_nN K dX10_looked_0 rfl ?_
      refine a_getRs K fd_X10_46 (lw_i4 hL) (Or.inl ⟨_, rfl⟩) (lw_f646 hL) dX10_looked_1 ?_
      refine a_iload_n K dX10_looked_4 rfl ?_
      refine a_invV K (m_root h m) my_X3_heldRoot ml_X10_165 im_X3_heldRoot se_X3_heldRoot (ci := 3) (lw_i6 hL) (by decide) ⟨_, _, rfl⟩ rfl (by omega) (by omega) (by omega) rfl (Nat.le_of_ble_eq_true rfl) dX10_looked_5 ?_
      intro r9 S9 hp9
      obtain ⟨rfl, hS9⟩ := hp9
      obtain rfl := hS9.symm
      rw [hz]
      first | refine a_astore_n K dX10_looked_8 (by decide) ?_ | refine a_astore_nN K dX10_looked_8 (by decide) ?_
      first | refine a_aload_n K dX10_looked_9 rfl ?_ | refine a_aload_nN K dX10_looked_9 rfl ?_
      refine a_getRs K fd_X10_46 (lw_i4 hL) (Or.inl ⟨_, rfl⟩) (lw_f646 hL) dX10_looked_10 ?_
      refine a_iload_n K dX10_looked_13 rfl ?_
      refine a_invV K (m_root h o) my_X3_heldRoot ml_X10_165 im_X3_heldRoot se_X3_heldRoot (ci := 3) (lw_i6 hL) (by decide) ⟨_, _, rfl⟩ rfl (by omega) (by omega) (by omega) rfl (Nat.le_of_ble_eq_true rfl) dX10_looked_14 ?_
      intro r9 S9 hp9
      obtain ⟨rfl, hS9⟩ := hp9
      obtain rfl := hS9.symm
      rw [hy]
      first | refine a_astore K dX10_looked_17 (by decide) ?_ | refine a_astoreN K dX10_looked_17 (by decide) ?_
      first | refine a_aload_n K dX10_looked_19 rfl ?_ | refine a_aload_nN K dX10_looked_19 rfl ?_
      refine a_ifnullN K dX10_looked_20 (tgt := 28) (by decide) ?_
      refine a_iconst K dX10_looked_28 (v := -1) (by decide) ?_
      exact a_iret K EE rfl (by omega) (by omega) dX10_looked_29 ⟨by unfold aLooked; rw [hz], h.up (by omega) (by omega), h.X⟩
    | some y =>
      refine aw_enter (by decide +kernel) (Nat.le_of_ble_eq_true rfl) (fun g K EE => ?_)
      first | refine a_aload_n K dX10_looked_0 rfl ?_ | refine a_aload_nN K dX10_looked_0 rfl ?_
      refine a_getRs K fd_X10_46 (lw_i4 hL) (Or.inl ⟨_, rfl⟩) (lw_f646 hL) dX10_looked_1 ?_
      refine a_iload_n K dX10_looked_4 rfl ?_
      refine a_invV K (m_root h m) my_X3_heldRoot ml_X10_165 im_X3_heldRoot se_X3_heldRoot (ci := 3) (lw_i6 hL) (by decide) ⟨_, _, rfl⟩ rfl (by omega) (by omega) (by omega) rfl (Nat.le_of_ble_eq_true rfl) dX10_looked_5 ?_
      intro r9 S9 hp9
      obtain ⟨rfl, hS9⟩ := hp9
      obtain rfl := hS9.symm
      rw [hz]
      first | refine a_astore_n K dX10_looked_8 (by decide) ?_ | refine a_astore_nN K dX10_looked_8 (by decide) ?_
      first | refine a_aload_n K dX10_looked_9 rfl ?_ | refine a_aload_nN K dX10_looked_9 rfl ?_
      refine a_getRs K fd_X10_46 (lw_i4 hL) (Or.inl ⟨_, rfl⟩) (lw_f646 hL) dX10_looked_10 ?_
      refine a_iload_n K dX10_looked_13 rfl ?_
      refine a_invV K (m_root h o) my_X3_heldRoot ml_X10_165 im_X3_heldRoot se_X3_heldRoot (ci := 3) (lw_i6 hL) (by decide) ⟨_, _, rfl⟩ rfl (by omega) (by omega) (by omega) rfl (Nat.le_of_ble_eq_true rfl) dX10_looked_14 ?_
      intro r9 S9 hp9
      obtain ⟨rfl, hS9⟩ := hp9
      obtain rfl := hS9.symm
      rw [hy]
      first | refine a_astore K dX10_looked_17 (by decide) ?_ | refine a_astoreN K dX10_looked_17 (by decide) ?_
      first | refine a_aload_n K dX10_looked_19 rfl ?_ | refine a_aload_nN K dX10_looked_19 rfl ?_
      refine a_ifnullN K dX10_looked_20 (tgt := 28) (by decide) ?_
      refine a_iconst K dX10_looked_28 (v := -1) (by decide) ?_
      exact a_iret K EE rfl (by omega) (by omega) dX10_looked_29 ⟨by unfold aLooked; rw [hz], h.up (by omega) (by omega), h.X⟩
  | some z =>
    have tz := h.tt hP hz
    obtain ⟨hz4, -, -⟩ := tz.2.h4 hP.1.1
    cases hy : rootP P o with
    | none =>
      refine aw_enter (by decide +kernel) (Nat.le_of_ble_eq_true rfl) (fun g K EE => ?_)
      first | refine a_aload_n K dX10_looked_0 rfl ?_ | refine a_aload_nN K dX10_looked_0 rfl ?_
      refine a_getRs K fd_X10_46 (lw_i4 hL) (Or.inl ⟨_, rfl⟩) (lw_f646 hL) dX10_looked_1 ?_
      refine a_iload_n K dX10_looked_4 rfl ?_
      refine a_invV K (m_root h m) my_X3_heldRoot ml_X10_165 im_X3_heldRoot se_X3_heldRoot (ci := 3) (lw_i6 hL) (by decide) ⟨_, _, rfl⟩ rfl (by omega) (by omega) (by omega) rfl (Nat.le_of_ble_eq_true rfl) dX10_looked_5 ?_
      intro r9 S9 hp9
      obtain ⟨rfl, hS9⟩ := hp9
      obtain rfl := hS9.symm
      rw [hz]
      first | refine a_astore_n K dX10_looked_8 (by decide) ?_ | refine a_astore_nN K dX10_looked_8 (by decide) ?_
      first | refine a_aload_n K dX10_looked_9 rfl ?_ | refine a_aload_nN K dX10_looked_9 rfl ?_
      refine a_getRs K fd_X10_46 (lw_i4 hL) (Or.inl ⟨_, rfl⟩) (lw_f646 hL) dX10_looked_10 ?_
      refine a_iload_n K dX10_looked_13 rfl ?_
      refine a_invV K (m_root h o) my_X3_heldRoot ml_X10_165 im_X3_heldRoot se_X3_heldRoot (ci := 3) (lw_i6 hL) (by decide) ⟨_, _, rfl⟩ rfl (by omega) (by omega) (by omega) rfl (Nat.le_of_ble_eq_true rfl) dX10_looked_14 ?_
      intro r9 S9 hp9
      obtain ⟨rfl, hS9⟩ := hp9
      obtain rfl := hS9.symm
      rw [hy]
      first | refine a_astore K dX10_looked_17 (by decide) ?_ | refine a_astoreN K dX10_looked_17 (by decide) ?_
      first | refine a_aload_n K dX10_looked_19 rfl ?_ | refine a_aload_nN K dX10_looked_19 rfl ?_
      refine a_ifnull K dX10_looked_20 ?_
      first | refine a_aload K dX10_looked_23 rfl ?_ | refine a_aloadN K dX10_looked_23 rfl ?_
      refine a_ifnonnullN K dX10_looked_25 ?_
      refine a_iconst K dX10_looked_28 (v := -1) (by decide) ?_
      exact a_iret K EE rfl (by omega) (by omega) dX10_looked_29 ⟨by unfold aLooked; rw [hz, hy], h.up (by omega) (by omega), h.X⟩
    | some y =>
      have ty := h.tt hP hy
      obtain ⟨hy4, -, -⟩ := ty.2.h4 hP.1.1
      refine aw_enter (by decide +kernel) (Nat.le_of_ble_eq_true rfl) (fun g K EE => ?_)
      first | refine a_aload_n K dX10_looked_0 rfl ?_ | refine a_aload_nN K dX10_looked_0 rfl ?_
      refine a_getRs K fd_X10_46 (lw_i4 hL) (Or.inl ⟨_, rfl⟩) (lw_f646 hL) dX10_looked_1 ?_
      refine a_iload_n K dX10_looked_4 rfl ?_
      refine a_invV K (m_root h m) my_X3_heldRoot ml_X10_165 im_X3_heldRoot se_X3_heldRoot (ci := 3) (lw_i6 hL) (by decide) ⟨_, _, rfl⟩ rfl (by omega) (by omega) (by omega) rfl (Nat.le_of_ble_eq_true rfl) dX10_looked_5 ?_
      intro r9 S9 hp9
      obtain ⟨rfl, hS9⟩ := hp9
      obtain rfl := hS9.symm
      rw [hz]
      first | refine a_astore_n K dX10_looked_8 (by decide) ?_ | refine a_astore_nN K dX10_looked_8 (by decide) ?_
      first | refine a_aload_n K dX10_looked_9 rfl ?_ | refine a_aload_nN K dX10_looked_9 rfl ?_
      refine a_getRs K fd_X10_46 (lw_i4 hL) (Or.inl ⟨_, rfl⟩) (lw_f646 hL) dX10_looked_10 ?_
      refine a_iload_n K dX10_looked_13 rfl ?_
      refine a_invV K (m_root h o) my_X3_heldRoot ml_X10_165 im_X3_heldRoot se_X3_heldRoot (ci := 3) (lw_i6 hL) (by decide) ⟨_, _, rfl⟩ rfl (by omega) (by omega) (by omega) rfl (Nat.le_of_ble_eq_true rfl) dX10_looked_14 ?_
      intro r9 S9 hp9
      obtain ⟨rfl, hS9⟩ := hp9
      obtain rfl := hS9.symm
      rw [hy]
      first | refine a_astore K dX10_looked_17 (by decide) ?_ | refine a_astoreN K dX10_looked_17 (by decide) ?_
      first | refine a_aload_n K dX10_looked_19 rfl ?_ | refine a_aload_nN K dX10_looked_19 rfl ?_
      refine a_ifnull K dX10_looked_20 ?_
      first | refine a_aload K dX10_looked_23 rfl ?_ | refine a_aloadN K dX10_looked_23 rfl ?_
      refine a_ifnonnull K dX10_looked_25 (tgt := 30) (by decide) ?_
      first | refine a_aload_n K dX10_looked_30 rfl ?_ | refine a_aload_nN K dX10_looked_30 rfl ?_
      first | refine a_aload_n K dX10_looked_31 rfl ?_ | refine a_aload_nN K dX10_looked_31 rfl ?_
      first | refine a_aload K dX10_looked_32 rfl ?_ | refine a_aloadN K dX10_looked_32 rfl ?_
      refine a_invV K (c_sharedNodes h hP hm tz ty.2 (fun S2 h2 => h2.tt hP hy)) my_X10_sharedNodes ml_X10_388 im_X10_sharedNodes se_X10_sharedNodes (ci := 10) (lw_i4 hL) (by decide) ⟨_, _, rfl⟩ rfl (by omega) (by omega) (by omega) rfl (Nat.le_of_ble_eq_true rfl) dX10_looked_34 ?_
      intro r9 S9 hp9
      obtain ⟨rfl, h2, k2⟩ := hp9
      have hL := h2.L
      have tz2 := h2.tt hP hz
      refine a_istore K dX10_looked_37 (by decide) ?_
      first | refine a_aload_n K dX10_looked_39 rfl ?_ | refine a_aload_nN K dX10_looked_39 rfl ?_
      refine a_getRs K fd_X10_90 (lw_i4 hL) (Or.inl ⟨_, rfl⟩) (lw_f655 hL) dX10_looked_40 ?_
      first | refine a_aload_n K dX10_looked_43 rfl ?_ | refine a_aload_nN K dX10_looked_43 rfl ?_
      refine a_invV K (m_fillL h2 hP.1.1 tz2) my_X2_fill ml_X10_181 im_X2_fill se_X2_fill (ci := 2) (lw_i34 hL) (by decide) ⟨_, _, rfl⟩ rfl (by omega) (by omega) (by omega) rfl (Nat.le_of_ble_eq_true rfl) dX10_looked_44 ?_
      intro r9 S9 hp9
      obtain ⟨rfl, hLs, h3, k3, f3⟩ := hp9
      have hL := h3.L
      have ty3 := h3.tt hP hy
      first | refine a_aload_n K dX10_looked_47 rfl ?_ | refine a_aload_nN K dX10_looked_47 rfl ?_
      refine a_getRs K fd_X10_90 (lw_i4 hL) (Or.inl ⟨_, rfl⟩) (lw_f655 hL) dX10_looked_48 ?_
      refine a_invV K (m_X2_size hLs.1) my_X2_size ml_X10_185 im_X2_size se_X2_size (ci := 2) (lw_i34 hL) (by decide) ⟨_, _, rfl⟩ rfl (by omega) (by omega) (by omega) rfl (Nat.le_of_ble_eq_true rfl) dX10_looked_51 ?_
      intro r9 S9 hp9
      obtain ⟨rfl, hS9⟩ := hp9
      obtain rfl := hS9.symm
      rw [hLs.2.2.2.2.2.2.2.1]
      refine a_istore K dX10_looked_54 (by decide) ?_
      first | refine a_aload_n K dX10_looked_56 rfl ?_ | refine a_aload_nN K dX10_looked_56 rfl ?_
      refine a_getRs K fd_X10_90 (lw_i4 hL) (Or.inl ⟨_, rfl⟩) (lw_f655 hL) dX10_looked_57 ?_
      first | refine a_aload K dX10_looked_60 rfl ?_ | refine a_aloadN K dX10_looked_60 rfl ?_
      refine a_invV K (m_fillL h3 hP.1.1 ty3) my_X2_fill ml_X10_181 im_X2_fill se_X2_fill (ci := 2) (lw_i34 hL) (by decide) ⟨_, _, rfl⟩ rfl (by omega) (by omega) (by omega) rfl (Nat.le_of_ble_eq_true rfl) dX10_looked_62 ?_
      intro r9 S9 hp9
      obtain ⟨rfl, hLs, h4, k4, f4⟩ := hp9
      have hL := h4.L
      refine a_iload K dX10_looked_65 rfl ?_
      first | refine a_aload_n K dX10_looked_67 rfl ?_ | refine a_aload_nN K dX10_looked_67 rfl ?_
      refine a_getRs K fd_X10_90 (lw_i4 hL) (Or.inl ⟨_, rfl⟩) (lw_f655 hL) dX10_looked_68 ?_
      refine a_invV K (m_X2_size hLs.1) my_X2_size ml_X10_185 im_X2_size se_X2_size (ci := 2) (lw_i34 hL) (by decide) ⟨_, _, rfl⟩ rfl (by omega) (by omega) (by omega) rfl (Nat.le_of_ble_eq_true rfl) dX10_looked_71 ?_
      intro r9 S9 hp9
      obtain ⟨rfl, hS9⟩ := hp9
      obtain rfl := hS9.symm
      rw [hLs.2.2.2.2.2.2.2.1]
      refine a_iadd K dX10_looked_74 ?_
      refine a_iconst K dX10_looked_75 (v := 2) (by decide) ?_
      refine a_iload K dX10_looked_76 rfl ?_
      refine a_imul K dX10_looked_78 ?_
      refine a_isub K dX10_looked_79 ?_
      exact a_iret K EE rfl (by omega) (by omega) dX10_looked_80 ⟨by unfold aLooked; rw [hz, hy], h4, (k2.tr k3).tr k4⟩
def aShow (P : PS) (m : Int32) : Int32 := match rootP P m with
  | none => -1
  | some z => nI (txt z.1 z.2).length
def nShow (P : PS) (m : Int32) : PS := match rootP P m with
  | none => P
  | some z => setS P (txt z.1 z.2)
set_option maxHeartbeats 4000000 in
set_option maxRecDepth 100000 in
theorem c_show {S : aw_S} {v ad ar : Nat → Nat} {PA : List (Nat × Nat)} {X : List Nat} {mb : Nat} {P : PS} (h : RC S v ad ar PA X mb P) (hP : PI P) {m : Int32} : aw_M yX10_show cX10_show 3 (some FieldType.int) 9 0 0 [.ref (v 4), .int m] S (fun r S2 => r = some (.int (aShow P m)) ∧ RC S2 v ad ar PA X mb (nShow P m) ∧ keepX X S S2) := by
  have hL := h.L
  cases hz : rootP P m with
  | none =>
    refine aw_enter (by decide +kernel) (Nat.le_of_ble_eq_true rfl) (fun g K EE => ?_)
    first | refine a_aload_n K dX10_show_0 rfl ?_ | refine a_aload_nN K dX10_show_0 rfl ?_
    refine a_getRs K fd_X10_46 (lw_i4 hL) (Or.inl ⟨_, rfl⟩) (lw_f646 hL) dX10_show_1 ?_
    refine a_iload_n K dX10_show_4 rfl ?_
    refine a_invV K (m_root h m) my_X3_heldRoot ml_X10_165 im_X3_heldRoot se_X3_heldRoot (ci := 3) (lw_i6 hL) (by decide) ⟨_, _, rfl⟩ rfl (by omega) (by omega) (by omega) rfl (Nat.le_of_ble_eq_true rfl) dX10_show_5 ?_
    intro r9 S9 hp9
    obtain ⟨rfl, hS9⟩ := hp9
    obtain rfl := hS9.symm
    rw [hz]
    first | refine a_astore_n K dX10_show_8 (by decide) ?_ | refine a_astore_nN K dX10_show_8 (by decide) ?_
    first | refine a_aload_n K dX10_show_9 rfl ?_ | refine a_aload_nN K dX10_show_9 rfl ?_
    refine a_ifnonnullN K dX10_show_10 ?_
    refine a_iconst K dX10_show_13 (v := -1) (by decide) ?_
    exact a_iret K EE rfl (by omega) (by omega) dX10_show_14 ⟨by unfold aShow; rw [hz], by unfold nShow; rw [hz]; exact h, h.X⟩
  | some z =>
    have t := h.tt hP hz
    obtain ⟨h4, h61, -⟩ := t.2.h4 hP.1.1
    refine aw_enter (by decide +kernel) (Nat.le_of_ble_eq_true rfl) (fun g K EE => ?_)
    first | refine a_aload_n K dX10_show_0 rfl ?_ | refine a_aload_nN K dX10_show_0 rfl ?_
    refine a_getRs K fd_X10_46 (lw_i4 hL) (Or.inl ⟨_, rfl⟩) (lw_f646 hL) dX10_show_1 ?_
    refine a_iload_n K dX10_show_4 rfl ?_
    refine a_invV K (m_root h m) my_X3_heldRoot ml_X10_165 im_X3_heldRoot se_X3_heldRoot (ci := 3) (lw_i6 hL) (by decide) ⟨_, _, rfl⟩ rfl (by omega) (by omega) (by omega) rfl (Nat.le_of_ble_eq_true rfl) dX10_show_5 ?_
    intro r9 S9 hp9
    obtain ⟨rfl, hS9⟩ := hp9
    obtain rfl := hS9.symm
    rw [hz]
    first | refine a_astore_n K dX10_show_8 (by decide) ?_ | refine a_astore_nN K dX10_show_8 (by decide) ?_
    first | refine a_aload_n K dX10_show_9 rfl ?_ | refine a_aload_nN K dX10_show_9 rfl ?_
    refine a_ifnonnull K dX10_show_10 (tgt := 15) (by decide) ?_
    first | refine a_aload_n K dX10_show_15 rfl ?_ | refine a_aload_nN K dX10_show_15 rfl ?_
    refine a_getRs K fd_X10_64 (lw_i4 hL) (Or.inl ⟨_, rfl⟩) (lw_f649 hL) dX10_show_16 ?_
    first | refine a_aload_n K dX10_show_19 rfl ?_ | refine a_aload_nN K dX10_show_19 rfl ?_
    refine a_invV K (m_Sh_write (lw_Sh19 h.L) t.1.1 (by omega) (h.scq (fun b y => y.elim (fun e => ⟨19, by decide, e⟩) (fun e => ⟨20, by decide, e⟩)) t.1) t.2.2.1 (by have h5 := (t.2.h4 hP.1.1).2.2; have h60 := t.2.2.2.1; omega)) my_X8_write ml_X10_405 im_X8_write se_X8_write (ci := 8) (by first | exact lw_i19 hL | exact lw_i21 hL | exact lw_i23 hL) (by decide) ⟨_, _, rfl⟩ rfl (by omega) (by omega) (by omega) rfl (Nat.le_of_ble_eq_true rfl) dX10_show_20 ?_
    intro r9 S9 hp9
    obtain ⟨rfl, hB, f2⟩ := hp9
    obtain ⟨h2, k2⟩ := h.shown f2 hB
    have hL := h2.L
    first | refine a_aload_n K dX10_show_23 rfl ?_ | refine a_aload_nN K dX10_show_23 rfl ?_
    refine a_getRs K fd_X10_64 (lw_i4 hL) (Or.inl ⟨_, rfl⟩) (lw_f649 hL) dX10_show_24 ?_
    refine a_invV K (m_X8_size hB.1) my_X8_size ml_X10_414 im_X8_size se_X8_size (ci := 8) (by first | exact lw_i19 hL | exact lw_i21 hL | exact lw_i23 hL) (by decide) ⟨_, _, rfl⟩ rfl (by omega) (by omega) (by omega) rfl (Nat.le_of_ble_eq_true rfl) dX10_show_27 ?_
    intro r9 S9 hp9
    obtain ⟨rfl, hS9⟩ := hp9
    obtain rfl := hS9.symm
    rw [hB.2.2.2.2.1]
    exact a_iret K EE rfl (by omega) (by omega) dX10_show_30 ⟨by unfold aShow; rw [hz], by unfold nShow; rw [hz]; exact h2, k2⟩
