def bldC (P : PS) (m : Int32) (j : Nat) : Int32 × PS := match rootP P m with
  | none => (-1, refP P 0)
  | some z => (nI (sub z.1 z.2).length, setB (incT P) j (some (z, pTk P, m)))
def bldB (P : PS) (i m : Int32) : Int32 × PS := match bAt i with
  | none => (-1, refP P 0)
  | some j => bldC P m j
set_option maxHeartbeats 4000000 in
set_option maxRecDepth 100000 in
theorem c_build {S : aw_S} {v ad ar : Nat → Nat} {PA : List (Nat × Nat)} {X : List Nat} {mb : Nat} {P : PS} (h : RC S v ad ar PA X mb P) (hP : PI P) {i m : Int32} : aw_M yX10_build cX10_build 5 (some FieldType.int) 9 0 0 [.ref (v 4), .int i, .int m] S (mutQ X v PA mb S (bldB P i m)) := by
  have hL := h.L
  obtain ⟨e, hj⟩ := bAt_at h.L i
  cases hb : bAt i with
  | none =>
    rw [hb] at e
    have e : atR (sQ S (v 13)) 4 i = none := e
    cases hz : rootP P m with
    | none =>
      refine aw_enter (by decide +kernel) (Nat.le_of_ble_eq_true rfl) (fun g K EE => ?_)
      first | refine a_aload_n K dX10_build_0 rfl ?_ | refine a_aload_nN K dX10_build_0 rfl ?_
      refine a_iload_n K dX10_build_1 rfl ?_
      refine a_invV K (w_builderAt hL _) my_X10_builderAt ml_X10_313 im_X10_builderAt se_X10_builderAt (ci := 10) (lw_i4 hL) (by decide) ⟨_, _, rfl⟩ rfl (by omega) (by omega) (by omega) rfl (Nat.le_of_ble_eq_true rfl) dX10_build_2 ?_
      intro r9 S9 hp9
      obtain ⟨hS9, rfl⟩ := hp9
      obtain rfl := hS9.symm
      rw [e]
      first | refine a_astore_n K dX10_build_5 (by decide) ?_ | refine a_astore_nN K dX10_build_5 (by decide) ?_
      first | refine a_aload_n K dX10_build_6 rfl ?_ | refine a_aload_nN K dX10_build_6 rfl ?_
      refine a_getRs K fd_X10_46 (lw_i4 hL) (Or.inl ⟨_, rfl⟩) (lw_f646 hL) dX10_build_7 ?_
      refine a_iload_n K dX10_build_10 rfl ?_
      refine a_invV K (m_root h m) my_X3_heldRoot ml_X10_165 im_X3_heldRoot se_X3_heldRoot (ci := 3) (lw_i6 hL) (by decide) ⟨_, _, rfl⟩ rfl (by omega) (by omega) (by omega) rfl (Nat.le_of_ble_eq_true rfl) dX10_build_11 ?_
      intro r9 S9 hp9
      obtain ⟨rfl, hS9⟩ := hp9
      obtain rfl := hS9.symm
      rw [hz]
      first | refine a_astore K dX10_build_14 (by decide) ?_ | refine a_astoreN K dX10_build_14 (by decide) ?_
      first | refine a_aload_n K dX10_build_16 rfl ?_ | refine a_aload_nN K dX10_build_16 rfl ?_
      refine a_ifnullN K dX10_build_17 (tgt := 25) (by decide) ?_
      first | refine a_aload_n K dX10_build_25 rfl ?_ | refine a_aload_nN K dX10_build_25 rfl ?_
      refine a_iconst K dX10_build_26 (v := 0) (by decide) ?_
      refine a_invV K (c_refused h 0 (by decide)) my_X10_refused ml_X10_128 im_X10_refused se_X10_refused (ci := 10) (lw_i4 hL) (by decide) ⟨_, _, rfl⟩ rfl (by omega) (by omega) (by omega) rfl (Nat.le_of_ble_eq_true rfl) dX10_build_27 ?_
      intro r9 S9 hp9
      obtain ⟨rfl, h2, k2⟩ := hp9
      exact a_iret K EE rfl (by omega) (by omega) dX10_build_30 (by unfold bldB; rw [hb]; exact ⟨ad, ar, rfl, h2, k2⟩)
    | some z =>
      refine aw_enter (by decide +kernel) (Nat.le_of_ble_eq_true rfl) (fun g K EE => ?_)
      first | refine a_aload_n K dX10_build_0 rfl ?_ | refine a_aload_nN K dX10_build_0 rfl ?_
      refine a_iload_n K dX10_build_1 rfl ?_
      refine a_invV K (w_builderAt hL _) my_X10_builderAt ml_X10_313 im_X10_builderAt se_X10_builderAt (ci := 10) (lw_i4 hL) (by decide) ⟨_, _, rfl⟩ rfl (by omega) (by omega) (by omega) rfl (Nat.le_of_ble_eq_true rfl) dX10_build_2 ?_
      intro r9 S9 hp9
      obtain ⟨hS9, rfl⟩ := hp9
      obtain rfl := hS9.symm
      rw [e]
      first | refine a_astore_n K dX10_build_5 (by decide) ?_ | refine a_astore_nN K dX10_build_5 (by decide) ?_
      first | refine a_aload_n K dX10_build_6 rfl ?_ | refine a_aload_nN K dX10_build_6 rfl ?_
      refine a_getRs K fd_X10_46 (lw_i4 hL) (Or.inl ⟨_, rfl⟩) (lw_f646 hL) dX10_build_7 ?_
      refine a_iload_n K dX10_build_10 rfl ?_
      refine a_invV K (m_root h m) my_X3_heldRoot ml_X10_165 im_X3_heldRoot se_X3_heldRoot (ci := 3) (lw_i6 hL) (by decide) ⟨_, _, rfl⟩ rfl (by omega) (by omega) (by omega) rfl (Nat.le_of_ble_eq_true rfl) dX10_build_11 ?_
      intro r9 S9 hp9
      obtain ⟨rfl, hS9⟩ := hp9
      obtain rfl := hS9.symm
      rw [hz]
      first | refine a_astore K dX10_build_14 (by decide) ?_ | refine a_astoreN K dX10_build_14 (by decide) ?_
      first | refine a_aload_n K dX10_build_16 rfl ?_ | refine a_aload_nN K dX10_build_16 rfl ?_
      refine a_ifnullN K dX10_build_17 (tgt := 25) (by decide) ?_
      first | refine a_aload_n K dX10_build_25 rfl ?_ | refine a_aload_nN K dX10_build_25 rfl ?_
      refine a_iconst K dX10_build_26 (v := 0) (by decide) ?_
      refine a_invV K (c_refused h 0 (by decide)) my_X10_refused ml_X10_128 im_X10_refused se_X10_refused (ci := 10) (lw_i4 hL) (by decide) ⟨_, _, rfl⟩ rfl (by omega) (by omega) (by omega) rfl (Nat.le_of_ble_eq_true rfl) dX10_build_27 ?_
      intro r9 S9 hp9
      obtain ⟨rfl, h2, k2⟩ := hp9
      exact a_iret K EE rfl (by omega) (by omega) dX10_build_30 (by unfold bldB; rw [hb]; exact ⟨ad, ar, rfl, h2, k2⟩)
  | some j =>
    rw [hb] at e
    have e : atR (sQ S (v 13)) 4 i = some (v (14 + j)) := e
    have hj := hj j hb
    cases hz : rootP P m with
    | none =>
      refine aw_enter (by decide +kernel) (Nat.le_of_ble_eq_true rfl) (fun g K EE => ?_)
      first | refine a_aload_n K dX10_build_0 rfl ?_ | refine a_aload_nN K dX10_build_0 rfl ?_
      refine a_iload_n K dX10_build_1 rfl ?_
      refine a_invV K (w_builderAt hL _) my_X10_builderAt ml_X10_313 im_X10_builderAt se_X10_builderAt (ci := 10) (lw_i4 hL) (by decide) ⟨_, _, rfl⟩ rfl (by omega) (by omega) (by omega) rfl (Nat.le_of_ble_eq_true rfl) dX10_build_2 ?_
      intro r9 S9 hp9
      obtain ⟨hS9, rfl⟩ := hp9
      obtain rfl := hS9.symm
      rw [e]
      first | refine a_astore_n K dX10_build_5 (by decide) ?_ | refine a_astore_nN K dX10_build_5 (by decide) ?_
      first | refine a_aload_n K dX10_build_6 rfl ?_ | refine a_aload_nN K dX10_build_6 rfl ?_
      refine a_getRs K fd_X10_46 (lw_i4 hL) (Or.inl ⟨_, rfl⟩) (lw_f646 hL) dX10_build_7 ?_
      refine a_iload_n K dX10_build_10 rfl ?_
      refine a_invV K (m_root h m) my_X3_heldRoot ml_X10_165 im_X3_heldRoot se_X3_heldRoot (ci := 3) (lw_i6 hL) (by decide) ⟨_, _, rfl⟩ rfl (by omega) (by omega) (by omega) rfl (Nat.le_of_ble_eq_true rfl) dX10_build_11 ?_
      intro r9 S9 hp9
      obtain ⟨rfl, hS9⟩ := hp9
      obtain rfl := hS9.symm
      rw [hz]
      first | refine a_astore K dX10_build_14 (by decide) ?_ | refine a_astoreN K dX10_build_14 (by decide) ?_
      first | refine a_aload_n K dX10_build_16 rfl ?_ | refine a_aload_nN K dX10_build_16 rfl ?_
      refine a_ifnull K dX10_build_17 ?_
      first | refine a_aload K dX10_build_20 rfl ?_ | refine a_aloadN K dX10_build_20 rfl ?_
      refine a_ifnonnullN K dX10_build_22 ?_
      first | refine a_aload_n K dX10_build_25 rfl ?_ | refine a_aload_nN K dX10_build_25 rfl ?_
      refine a_iconst K dX10_build_26 (v := 0) (by decide) ?_
      refine a_invV K (c_refused h 0 (by decide)) my_X10_refused ml_X10_128 im_X10_refused se_X10_refused (ci := 10) (lw_i4 hL) (by decide) ⟨_, _, rfl⟩ rfl (by omega) (by omega) (by omega) rfl (Nat.le_of_ble_eq_true rfl) dX10_build_27 ?_
      intro r9 S9 hp9
      obtain ⟨rfl, h2, k2⟩ := hp9
      exact a_iret K EE rfl (by omega) (by omega) dX10_build_30 (by unfold bldB; rw [hb]; show mutQ X v PA mb S (bldC P m j) _ _; unfold bldC; rw [hz]; exact ⟨ad, ar, rfl, h2, k2⟩)
    | some z =>
      have t := h.tt hP hz
      obtain ⟨h40, -, -⟩ := t.2.h4 hP.1.1
      refine aw_enter (by decide +kernel) (Nat.le_of_ble_eq_true rfl) (fun g K EE => ?_)
      first | refine a_aload_n K dX10_build_0 rfl ?_ | refine a_aload_nN K dX10_build_0 rfl ?_
      refine a_iload_n K dX10_build_1 rfl ?_
      refine a_invV K (w_builderAt hL _) my_X10_builderAt ml_X10_313 im_X10_builderAt se_X10_builderAt (ci := 10) (lw_i4 hL) (by decide) ⟨_, _, rfl⟩ rfl (by omega) (by omega) (by omega) rfl (Nat.le_of_ble_eq_true rfl) dX10_build_2 ?_
      intro r9 S9 hp9
      obtain ⟨hS9, rfl⟩ := hp9
      obtain rfl := hS9.symm
      rw [e]
      first | refine a_astore_n K dX10_build_5 (by decide) ?_ | refine a_astore_nN K dX10_build_5 (by decide) ?_
      first | refine a_aload_n K dX10_build_6 rfl ?_ | refine a_aload_nN K dX10_build_6 rfl ?_
      refine a_getRs K fd_X10_46 (lw_i4 hL) (Or.inl ⟨_, rfl⟩) (lw_f646 hL) dX10_build_7 ?_
      refine a_iload_n K dX10_build_10 rfl ?_
      refine a_invV K (m_root h m) my_X3_heldRoot ml_X10_165 im_X3_heldRoot se_X3_heldRoot (ci := 3) (lw_i6 hL) (by decide) ⟨_, _, rfl⟩ rfl (by omega) (by omega) (by omega) rfl (Nat.le_of_ble_eq_true rfl) dX10_build_11 ?_
      intro r9 S9 hp9
      obtain ⟨rfl, hS9⟩ := hp9
      obtain rfl := hS9.symm
      rw [hz]
      first | refine a_astore K dX10_build_14 (by decide) ?_ | refine a_astoreN K dX10_build_14 (by decide) ?_
      first | refine a_aload_n K dX10_build_16 rfl ?_ | refine a_aload_nN K dX10_build_16 rfl ?_
      refine a_ifnull K dX10_build_17 ?_
      first | refine a_aload K dX10_build_20 rfl ?_ | refine a_aloadN K dX10_build_20 rfl ?_
      refine a_ifnonnull K dX10_build_22 (tgt := 31) (by decide) ?_
      first | refine a_aload_n K dX10_build_31 rfl ?_ | refine a_aload_nN K dX10_build_31 rfl ?_
      first | refine a_aload K dX10_build_32 rfl ?_ | refine a_aloadN K dX10_build_32 rfl ?_
      first | refine a_aload_n K dX10_build_34 rfl ?_ | refine a_aload_nN K dX10_build_34 rfl ?_
      refine a_getRs K fd_X10_39 (lw_i4 hL) (Or.inl ⟨_, rfl⟩) (lw_f645 hL) dX10_build_35 ?_
      refine a_invV K (c_newToken h) my_X1_newToken ml_X10_131 im_X1_newToken se_X1_newToken (ci := 1) (lw_i5 hL) (by decide) ⟨_, _, rfl⟩ rfl (by omega) (by omega) (by omega) rfl (Nat.le_of_ble_eq_true rfl) dX10_build_38 ?_
      intro r9 S9 hp9
      obtain ⟨rfl, h2, k2⟩ := hp9
      have hL := h2.L
      have tz := h2.trw hz rfl
      have ob := lw_b hL hj
      refine a_iload_n K dX10_build_41 rfl ?_
      refine a_invV K (m_X0_open (lw_b hL hj)) my_X0_open ml_X10_317 im_X0_open se_X0_open (ci := 0) (by assumption) (by decide) ⟨_, _, rfl⟩ rfl (by omega) (by omega) (by omega) rfl (Nat.le_of_ble_eq_true rfl) dX10_build_42 ?_
      intro r9 S9 hp9
      obtain ⟨rfl, hS9⟩ := hp9
      obtain ⟨h4, k4⟩ := h2.opn hj (z := z) (t := pTk P) (m := m) tz
      rw [show wI (wI (wR _ 0 (v (14 + j)) (some (ad z.2.1))) 1 (v (14 + j)) (nI (pTk P))) 2 (v (14 + j)) m = S9 from hS9.symm] at h4 k4
      have hL := h4.L
      have tz4 := h4.trw hz rfl
      have t4 : TT_ S9 ad ar (setB (incT P) j (some (z, pTk P, m))) z := ⟨tz4, t.2.mono (Nat.le_refl _) (Nat.le_succ _)⟩
      first | refine a_aload_n K dX10_build_45 rfl ?_ | refine a_aload_nN K dX10_build_45 rfl ?_
      refine a_getRs K fd_X10_90 (lw_i4 hL) (Or.inl ⟨_, rfl⟩) (lw_f655 hL) dX10_build_46 ?_
      first | refine a_aload K dX10_build_49 rfl ?_ | refine a_aloadN K dX10_build_49 rfl ?_
      refine a_invV K (m_fillL h4 hP.1.1 t4) my_X2_fill ml_X10_181 im_X2_fill se_X2_fill (ci := 2) (lw_i34 hL) (by decide) ⟨_, _, rfl⟩ rfl (by omega) (by omega) (by omega) rfl (Nat.le_of_ble_eq_true rfl) dX10_build_51 ?_
      intro r9 S9 hp9
      obtain ⟨rfl, hLs, h5, k5, f5⟩ := hp9
      have hL := h5.L
      first | refine a_aload_n K dX10_build_54 rfl ?_ | refine a_aload_nN K dX10_build_54 rfl ?_
      refine a_getRs K fd_X10_90 (lw_i4 hL) (Or.inl ⟨_, rfl⟩) (lw_f655 hL) dX10_build_55 ?_
      refine a_invV K (m_X2_size hLs.1) my_X2_size ml_X10_185 im_X2_size se_X2_size (ci := 2) (lw_i34 hL) (by decide) ⟨_, _, rfl⟩ rfl (by omega) (by omega) (by omega) rfl (Nat.le_of_ble_eq_true rfl) dX10_build_58 ?_
      intro r9 S9 hp9
      obtain ⟨rfl, hS9⟩ := hp9
      obtain rfl := hS9.symm
      rw [hLs.2.2.2.2.2.2.2.1]
      exact a_iret K EE rfl (by omega) (by omega) dX10_build_61 (by unfold bldB; rw [hb]; show mutQ X v PA mb S (bldC P m j) _ _; unfold bldC; rw [hz]; exact ⟨ad, ar, rfl, h5, (k2.tr k4).tr k5⟩)
def peeB (P : PS) (k : Int32) (j : Nat) : Int32 := match pB P j with
  | none => -1000000
  | some b => valIn (ent b.1.1 b.1.2) k
def peeA (P : PS) (i k : Int32) : Int32 := match bAt i with
  | none => -1000000
  | some j => peeB P k j
set_option maxHeartbeats 4000000 in
set_option maxRecDepth 100000 in
theorem c_peek {S : aw_S} {v ad ar : Nat → Nat} {PA : List (Nat × Nat)} {X : List Nat} {mb : Nat} {P : PS} (h : RC S v ad ar PA X mb P) (hP : PI P) {i k : Int32} : aw_M yX10_peek cX10_peek 4 (some FieldType.int) 9 0 0 [.ref (v 4), .int i, .int k] S (fun r S2 => r = some (.int (peeA P i k)) ∧ RC S2 v ad ar PA X mb P ∧ keepX X S S2) := by
  have hL := h.L
  obtain ⟨e, hj⟩ := bAt_at h.L i
  cases hb : bAt i with
  | none =>
    rw [hb] at e
    have e : atR (sQ S (v 13)) 4 i = none := e
    exact ((m_X10_peek_null hL e).post (fun r S2 p => by obtain ⟨rfl, rfl⟩ := p; unfold peeA; rw [hb]; exact ⟨rfl, h, h.X⟩)).le (by decide) (Nat.zero_le _) (Nat.zero_le _)
  | some j =>
    rw [hb] at e
    have e : atR (sQ S (v 13)) 4 i = some (v (14 + j)) := e
    have hj := hj j hb
    cases hp : pB P j with
    | none => exact ((m_X10_peek_stale hL e (lw_b hL hj) ((h.2.2.2.1 j hj).1 hp)).post (fun r S2 p => by obtain ⟨rfl, rfl⟩ := p; unfold peeA; rw [hb]; show some (Value.int _) = some (Value.int (peeB P k j)) ∧ _; unfold peeB; rw [hp]; exact ⟨rfl, h, h.X⟩)).le (by decide) (Nat.zero_le _) (Nat.zero_le _)
    | some b =>
      obtain ⟨z, t, f⟩ := b
      obtain ⟨ob, qr, qt, ht, htk, htl, hh⟩ := h.bk hP hj hp
      refine aw_enter (by decide +kernel) (Nat.le_of_ble_eq_true rfl) (fun g K EE => ?_)
      first | refine a_aload_n K dX10_peek_0 rfl ?_ | refine a_aload_nN K dX10_peek_0 rfl ?_
      refine a_iload_n K dX10_peek_1 rfl ?_
      refine a_invV K (w_builderAt hL _) my_X10_builderAt ml_X10_313 im_X10_builderAt se_X10_builderAt (ci := 10) (lw_i4 hL) (by decide) ⟨_, _, rfl⟩ rfl (by omega) (by omega) (by omega) rfl (Nat.le_of_ble_eq_true rfl) dX10_peek_2 ?_
      intro r9 S9 hp9
      obtain ⟨hS9, rfl⟩ := hp9
      obtain rfl := hS9.symm
      rw [e]
      first | refine a_astore_n K dX10_peek_5 (by decide) ?_ | refine a_astore_nN K dX10_peek_5 (by decide) ?_
      first | refine a_aload_n K dX10_peek_6 rfl ?_ | refine a_aload_nN K dX10_peek_6 rfl ?_
      refine a_ifnonnull K dX10_peek_7 (tgt := 15) (by decide) ?_
      first | refine a_aload_n K dX10_peek_15 rfl ?_ | refine a_aload_nN K dX10_peek_15 rfl ?_
      refine a_invV K (m_X0_root ob) my_X0_root ml_X10_345 im_X0_root se_X0_root (ci := 0) (by assumption) (by decide) ⟨_, _, rfl⟩ rfl (by omega) (by omega) (by omega) rfl (Nat.le_of_ble_eq_true rfl) dX10_peek_16 ?_
      intro r9 S9 hp9
      obtain ⟨rfl, hS9⟩ := hp9
      obtain rfl := hS9.symm
      rw [qr]
      refine a_iload_n K dX10_peek_19 rfl ?_
      refine a_invS K (m_X10_valueIn (key := k) ht.1.1 (ht.2.1.ne hP.1.1) (by omega) rfl) my_X10_valueIn ml_X10_169 st_X10_valueIn rfl (by omega) (by omega) (by omega) rfl (Nat.le_of_ble_eq_true rfl) dX10_peek_20 ?_
      intro r9 S9 hp9
      obtain ⟨rfl, hS9⟩ := hp9
      obtain rfl := hS9.symm
      exact a_iret K EE rfl (by omega) (by omega) dX10_peek_23 (by unfold peeA; rw [hb]; show some (Value.int _) = some (Value.int (peeB P k j)) ∧ _; unfold peeB; rw [hp]; exact ⟨by rw [ht.2.1.val hP.1.1], h, h.X⟩)
def relP (P : PS) (j : Nat) : PS := (P.1, pM P, fun i => if i = j then false else pH P i, pI P, pY P, pB P, pR P, pG P, pT P, pS P)
def drpF (P : PS) (m : Int32) : Int32 × PS := match rootP P m with
  | none => (-1, refP P 0)
  | some _ => (nI (hcnt (pH (relP P m.toNatClampNeg))), relP P m.toNatClampNeg)
theorem hcnt_rel {hd : Nat → Bool} {g : Nat} (h0 : hd g = true) : ∀ n, g < n → (List.range n).countP (fun i => if i = g then false else hd i) + 1 = (List.range n).countP hd
  | 0, h => absurd h (Nat.not_lt_zero _)
  | n + 1, h => by
    rw [List.range_succ, List.countP_append, List.countP_append, List.countP_singleton, List.countP_singleton]
    by_cases e : g = n
    · subst e
      have e1 : (List.range g).countP (fun i => if i = g then false else hd i) = (List.range g).countP hd := List.countP_congr (fun i hi => by
        have h1 : i ≠ g := Nat.ne_of_lt (List.mem_range.mp hi)
        rw [if_neg h1])
      rw [e1, h0, if_pos rfl]
      simp
    · have ih := hcnt_rel h0 n (by omega)
      have e2 : (if n = g then false else hd n) = hd n := if_neg (fun z => e z.symm)
      rw [e2]
      omega
set_option maxHeartbeats 4000000 in
set_option maxRecDepth 100000 in
theorem m_X3_release {S : aw_S} {a ha j : Nat} (o3 : aw_is S a 3) (r4 : sR S 195 a = some ha) (i10 : aw_is S ha 14) (n10 : sN S ha = 999) (hj : j < 999) (h1 : sA S ha j = 1) : aw_M yX3_release cX3_release 2 (none : Option FieldType) 0 0 0 [.ref a, .int (nI j)] S (fun r S2 => r = none ∧ S2 = wI (wA S ha j (vp_nar .boolean 0)) 200 a (sI S 200 a - 1)) := by
  refine aw_enter (by decide +kernel) (Nat.le_of_ble_eq_true rfl) (fun g K EE => ?_)
  refine a_iload_n K dX3_release_0 rfl ?_
  refine a_if_lt K dX3_release_1 (tgt := 37) (by decide) (fun c_1 => absurd c_1 (nI_pos (by omega))) (fun c_1 => ?_)
  refine a_iload_n K dX3_release_4 rfl ?_
  refine a_sipush K dX3_release_5 (v := 999) (by decide) ?_
  refine a_icmp_ge K dX3_release_8 (tgt := 37) (by decide) (fun c_8 => absurd c_8 (nI_ge (a := j) (b := 999) (by omega) (by omega))) (fun c_8 => ?_)
  first | refine a_aload_n K dX3_release_11 rfl ?_ | refine a_aload_nN K dX3_release_11 rfl ?_
  refine a_getRs K fd_X3_24 (by assumption) (Or.inr ⟨_, rfl⟩) (by assumption) dX3_release_12 ?_
  refine a_iload_n K dX3_release_15 rfl ?_
  refine a_zald K (by assumption) (by rw [n10]; exact vp_in_nI (by omega) (by omega)) dX3_release_16 ?_
  refine a_if_eq K dX3_release_17 (tgt := 37) (by decide) (fun c_17 => absurd c_17 (by simp only [nI_clamp (show j < 2 ^ 31 by omega)]; rw [h1]; decide)) (fun c_17 => ?_)
  first | refine a_aload_n K dX3_release_20 rfl ?_ | refine a_aload_nN K dX3_release_20 rfl ?_
  refine a_getRs K fd_X3_24 (by assumption) (Or.inr ⟨_, rfl⟩) (by assumption) dX3_release_21 ?_
  refine a_iload_n K dX3_release_24 rfl ?_
  refine a_iconst K dX3_release_25 (v := 0) (by decide) ?_
  refine a_zast K (by assumption) (by rw [n10]; exact vp_in_nI (by omega) (by omega)) dX3_release_26 ?_
  first | refine a_aload_n K dX3_release_27 rfl ?_ | refine a_aload_nN K dX3_release_27 rfl ?_
  refine a_dup K dX3_release_28 rfl ?_
  refine a_getI K fd_X3_42 (by assumption) (Or.inl rfl) dX3_release_29 ?_
  refine a_iconst K dX3_release_32 (v := 1) (by decide) ?_
  refine a_isub K dX3_release_33 ?_
  refine a_putI K fd_X3_42 (by assumption) rfl dX3_release_34 ?_
  exact a_vret K EE (by omega) (by omega) dX3_release_37 ⟨rfl, by first | rfl | (simp only [nI_clamp (show j < 2 ^ 31 by omega)]; rfl)⟩
theorem RC.drp {S S2 : aw_S} {v ad ar : Nat → Nat} {PA : List (Nat × Nat)} {X : List Nat} {mb : Nat} {P : PS} (h : RC S v ad ar PA X mb P) {j : Nat} (hj : j < 999) (hh : pH P j = true) (hS : S2 = wI (wA S (v 10) j (vp_nar .boolean 0)) 200 (v 6) (sI S 200 (v 6) - 1)) : RC S2 v ad ar PA X mb (relP P j) ∧ keepX X S S2 := by
  have hL := h.L
  obtain ⟨m1, m2, m3, m4, m5, m6, m7⟩ := h.2.2.1
  have f : frS S S2 (Qk v [6, 10]) := by
    rw [hS]
    exact ((frS_wA (S := S)).mono (fun b e => ⟨10, by decide, e⟩)).st (frS_wI (by decide)) (fun b e => ⟨6, by decide, e⟩)
  have no : ∀ i, i < 37 → i ≠ 6 ∧ i ≠ 10 → ¬ Qk v [6, 10] (v i) := fun i hi h5 => Qk_no hL (by decide) hi (by simp; omega)
  have eA : ∀ k, sA S2 (v 10) k = if k = j then 0 else sA S (v 10) k := fun k => by
    rw [hS, sA_wI, sA_wA]
    by_cases e : k = j
    · rw [if_pos ⟨rfl, e⟩, if_pos e]
      rfl
    · rw [if_neg (fun z => e z.2), if_neg e]
  have hq := hcnt_rel (hd := pH P) hh 999 hj
  refine RC.gen (P2 := relP P j) h f (Qk37 (by decide)) (no 13 (by decide) (by decide)) (no 3 (by decide) (by decide)) ((f.2.2.2.2.2.2.2 _ (no 4 (by decide) (by decide))).1 _) ((f.2.2.2.2.2.2.2 _ (no 4 (by decide) (by decide))).1 _) rfl rfl (GrW.fr h.2.1 f (no 5 (by decide) (by decide)) rfl rfl rfl) ⟨?_, m2, ?_, ?_, fun i w hw => ?_, fun i hi => ?_, fun i hi => ?_⟩ (BuW.fr h.2.2.2.1 f (fun j hj => no _ (by omega) (by omega)) rfl) (ReW.fr h.2.2.2.2.1 f (no 18 (by decide) (by decide)) rfl) (TaW.fr h.2.2.2.2.2.2.1 f (no 0 (by decide) (by decide)) (no 1 (by decide) (by decide)) rfl) (h.2.2.2.2.2.2.2.1.fr f.fr (no 19 (by decide) (by decide)) (no 20 (by decide) (by decide))) h.2.2.2.2.2.2.2.2.1.2.1 h.2.2.2.2.2.2.2.2.1.2.2
  · rw [hS, sI_wI, if_neg (fun z => absurd z.1 (by decide))]
    exact m1
  · show sI S2 200 (v 6) = nI ((List.range 999).countP (fun i => if i = j then false else pH P i))
    rw [hS, wI_at]
    have m3 : sI S 200 (v 6) = nI (((List.range 999).countP (fun i => if i = j then false else pH P i)) + 1) := by
      rw [hq]
      exact m3
    rw [m3, nI_pred]
  · show sI S2 198 (v 6) = if pY P then 1 else 0
    rw [hS, sI_wI, if_neg (fun z => absurd z.1 (by decide))]
    exact m4
  · obtain ⟨q1, q2, q3⟩ := m5 i w hw
    refine ⟨?_, ?_, ?_⟩
    · rw [(f.2.2.2.2.2.2.2 _ (no 7 (by decide) (by decide))).2.2]
      exact q1
    · rw [(f.2.2.2.2.2.2.2 _ (no 8 (by decide) (by decide))).2.1]
      exact q2
    · rw [(f.2.2.2.2.2.2.2 _ (no 9 (by decide) (by decide))).2.1]
      exact q3
  · refine ⟨?_, ?_⟩
    · rw [eA]
      show _ = if (if i = j then false else pH P i) = true then 1 else 0
      by_cases e : i = j
      · rw [if_pos e, if_pos e]
        rfl
      · rw [if_neg e, if_neg e]
        exact (m6 i hi).1
    · rw [(f.2.2.2.2.2.2.2 _ (no 11 (by decide) (by decide))).2.1]
      exact (m6 i hi).2
  · refine ⟨?_, (m7 i hi).2⟩
    show (if i = j then false else pH P i) = false
    by_cases e : i = j
    · rw [if_pos e]
    · rw [if_neg e]
      exact (m7 i hi).1
set_option maxHeartbeats 4000000 in
set_option maxRecDepth 100000 in
theorem c_drop {S : aw_S} {v ad ar : Nat → Nat} {PA : List (Nat × Nat)} {X : List Nat} {mb : Nat} {P : PS} (h : RC S v ad ar PA X mb P) {m : Int32} : aw_M yX10_drop cX10_drop 2 (some FieldType.int) 9 0 0 [.ref (v 4), .int m] S (mutQ X v PA mb S (drpF P m)) := by
  have hL := h.L
  cases hz : rootP P m with
  | none =>
    refine aw_enter (by decide +kernel) (Nat.le_of_ble_eq_true rfl) (fun g K EE => ?_)
    first | refine a_aload_n K dX10_drop_0 rfl ?_ | refine a_aload_nN K dX10_drop_0 rfl ?_
    refine a_getRs K fd_X10_46 (lw_i4 hL) (Or.inl ⟨_, rfl⟩) (lw_f646 hL) dX10_drop_1 ?_
    refine a_iload_n K dX10_drop_4 rfl ?_
    refine a_invV K (m_root h m) my_X3_heldRoot ml_X10_165 im_X3_heldRoot se_X3_heldRoot (ci := 3) (lw_i6 hL) (by decide) ⟨_, _, rfl⟩ rfl (by omega) (by omega) (by omega) rfl (Nat.le_of_ble_eq_true rfl) dX10_drop_5 ?_
    intro r9 S9 hp9
    obtain ⟨rfl, hS9⟩ := hp9
    obtain rfl := hS9.symm
    rw [hz]
    refine a_ifnonnullN K dX10_drop_8 ?_
    first | refine a_aload_n K dX10_drop_11 rfl ?_ | refine a_aload_nN K dX10_drop_11 rfl ?_
    refine a_iconst K dX10_drop_12 (v := 0) (by decide) ?_
    refine a_invV K (c_refused h 0 (by decide)) my_X10_refused ml_X10_128 im_X10_refused se_X10_refused (ci := 10) (lw_i4 hL) (by decide) ⟨_, _, rfl⟩ rfl (by omega) (by omega) (by omega) rfl (Nat.le_of_ble_eq_true rfl) dX10_drop_13 ?_
    intro r9 S9 hp9
    obtain ⟨rfl, h2, k2⟩ := hp9
    exact a_iret K EE rfl (by omega) (by omega) dX10_drop_16 (by unfold drpF; rw [hz]; exact ⟨ad, ar, rfl, h2, k2⟩)
  | some z =>
    obtain ⟨j, x, rfl, hjl, hx, -, hh⟩ := rootP_mem hz
    have hj9 : j < 999 := by have h1 := h.2.2.1.2.1; omega
    have hj31 : j < 2 ^ 31 := by omega
    have hA1 : sA S (v 10) j = 1 := by rw [(h.2.2.1.2.2.2.2.2.1 j hj9).1, hh]; rfl
    refine aw_enter (by decide +kernel) (Nat.le_of_ble_eq_true rfl) (fun g K EE => ?_)
    first | refine a_aload_n K dX10_drop_0 rfl ?_ | refine a_aload_nN K dX10_drop_0 rfl ?_
    refine a_getRs K fd_X10_46 (lw_i4 hL) (Or.inl ⟨_, rfl⟩) (lw_f646 hL) dX10_drop_1 ?_
    refine a_iload_n K dX10_drop_4 rfl ?_
    refine a_invV K (m_root h (nI j)) my_X3_heldRoot ml_X10_165 im_X3_heldRoot se_X3_heldRoot (ci := 3) (lw_i6 hL) (by decide) ⟨_, _, rfl⟩ rfl (by omega) (by omega) (by omega) rfl (Nat.le_of_ble_eq_true rfl) dX10_drop_5 ?_
    intro r9 S9 hp9
    obtain ⟨rfl, hS9⟩ := hp9
    obtain rfl := hS9.symm
    rw [hz]
    refine a_ifnonnull K dX10_drop_8 (tgt := 17) (by decide) ?_
    first | refine a_aload_n K dX10_drop_17 rfl ?_ | refine a_aload_nN K dX10_drop_17 rfl ?_
    refine a_getRs K fd_X10_46 (lw_i4 hL) (Or.inl ⟨_, rfl⟩) (lw_f646 hL) dX10_drop_18 ?_
    refine a_iload_n K dX10_drop_21 rfl ?_
    refine a_invV K (m_X3_release (lw_i6 hL) (lw_f195_6 hL) (lw_i10 hL) (lw_n10 hL) hj9 hA1) my_X3_release ml_X10_307 im_X3_release se_X3_release (ci := 3) (lw_i6 hL) (by decide) ⟨_, _, rfl⟩ rfl (by omega) (by omega) (by omega) rfl (Nat.le_of_ble_eq_true rfl) dX10_drop_22 ?_
    intro r9 S9 hp9
    obtain ⟨rfl, hS9⟩ := hp9
    obtain ⟨h2, k2⟩ := h.drp hj9 hh hS9
    have hL := h2.L
    first | refine a_aload_n K dX10_drop_25 rfl ?_ | refine a_aload_nN K dX10_drop_25 rfl ?_
    refine a_getRs K fd_X10_46 (lw_i4 hL) (Or.inl ⟨_, rfl⟩) (lw_f646 hL) dX10_drop_26 ?_
    refine a_invV K (m_X3_held (lw_i6 hL)) my_X3_held ml_X10_310 im_X3_held se_X3_held (ci := 3) (lw_i6 hL) (by decide) ⟨_, _, rfl⟩ rfl (by omega) (by omega) (by omega) rfl (Nat.le_of_ble_eq_true rfl) dX10_drop_29 ?_
    intro r9 S9 hp9
    obtain ⟨rfl, hS9⟩ := hp9
    obtain rfl := hS9.symm
    rw [h2.2.2.1.2.2.1]
    exact a_iret K EE rfl (by omega) (by omega) dX10_drop_32 (by unfold drpF; rw [hz, nI_clamp hj31]; exact ⟨ad, ar, rfl, h2, k2⟩)
