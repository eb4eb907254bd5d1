theorem setB_setB (P : PS) (j : Nat) (b c : Option BI) : setB (setB P j b) j c = setB P j c := by
  unfold setB
  refine congrArg (fun w => (_, _, _, _, _, w, _, _, _, _)) (funext fun i => ?_)
  show (if i = j then c else if i = j then b else pB P i) = if i = j then c else pB P i
  by_cases e : i = j
  · rw [if_pos e, if_pos e]
  · rw [if_neg e, if_neg e, if_neg e]
theorem RC.tag {S : aw_S} {v ad ar : Nat → Nat} {PA : List (Nat × Nat)} {X : List Nat} {mb : Nat} {P : PS} (h : RC S v ad ar PA X mb P) {j : Nat} (hj : j < 4) (hn : pB P j = none) {t m : Int32} : RC (wI (wI S 1 (v (14 + j)) t) 2 (v (14 + j)) m) v ad ar PA X mb P ∧ keepX X S (wI (wI S 1 (v (14 + j)) t) 2 (v (14 + j)) m) := by
  have hL := h.L
  have f : frS S (wI (wI S 1 (v (14 + j)) t) 2 (v (14 + j)) m) (Qk v [14 + j]) := ((frS_wI (S := S) (by decide)).mono (fun b e => ⟨14 + j, List.mem_singleton.mpr rfl, e⟩)).st (frS_wI (by decide)) (fun b e => ⟨14 + j, List.mem_singleton.mpr rfl, e⟩)
  have hk : ∀ k ∈ [14 + j], k < 37 := fun k hk => by
    have := List.mem_singleton.mp hk
    omega
  have no : ∀ i, i < 37 → i ≠ 14 + j → ¬ Qk v [14 + j] (v i) := fun i hi hne => Qk_no hL hk hi (fun z => hne (List.mem_singleton.mp z))
  have e : ∀ F b, F ≠ 1 → F ≠ 2 → sI (wI (wI S 1 (v (14 + j)) t) 2 (v (14 + j)) m) F b = sI S F b := fun F b h1 h2 => by
    rw [sI_wI, if_neg (fun z => h2 z.1), sI_wI, if_neg (fun z => h1 z.1)]
  refine RC.gen (P2 := P) h f (Qk37 hk) (no 13 (by decide) (by omega)) (no 3 (by decide) (by omega)) (e _ _ (by decide) (by decide)) (e _ _ (by decide) (by decide)) rfl rfl (GrW.fr h.2.1 f (no 5 (by decide) (by omega)) rfl rfl rfl) (MaW.fr h.2.2.1 f (fun i h1 hi => no i (by omega) (by omega)) rfl rfl rfl rfl) (fun i hi => ?_) (ReW.fr h.2.2.2.2.1 f (no 18 (by decide) (by omega)) rfl) (TaW.fr h.2.2.2.2.2.2.1 f (no 0 (by decide) (by omega)) (no 1 (by decide) (by omega)) rfl) (h.2.2.2.2.2.2.2.1.fr f.fr (no 19 (by decide) (by omega)) (no 20 (by decide) (by omega))) h.2.2.2.2.2.2.2.2.1.2.1 h.2.2.2.2.2.2.2.2.1.2.2
  by_cases q : i = j
  · subst q
    exact ⟨fun _ => (h.2.2.2.1 i hi).1 hn, fun b hb => absurd (hn.symm.trans hb) (by simp)⟩
  · obtain ⟨a, b⟩ := h.2.2.2.1 i hi
    refine ⟨a, fun c hc => ?_⟩
    obtain ⟨q1, q2, q3⟩ := b c hc
    have nn := (f.2.2.2.2.2.2.2 _ (no (14 + i) (by omega) (by omega))).1
    exact ⟨q1, (nn 1).trans q2, (nn 2).trans q3⟩
theorem RC.opn {S : aw_S} {v ad ar : Nat → Nat} {PA : List (Nat × Nat)} {X : List Nat} {mb : Nat} {P : PS} (h : RC S v ad ar PA X mb P) {j t : Nat} (hj : j < 4) {z : Tz} (tz : TrW S ad ar (pU P) z) {m : Int32} : RC (wI (wI (wR S 0 (v (14 + j)) (some (ad z.2.1))) 1 (v (14 + j)) (nI t)) 2 (v (14 + j)) m) v ad ar PA X mb (setB P j (some (z, t, m))) ∧ keepX X S (wI (wI (wR S 0 (v (14 + j)) (some (ad z.2.1))) 1 (v (14 + j)) (nI t)) 2 (v (14 + j)) m) := by
  obtain ⟨h1, k1⟩ := h.wr0 hj (x := none) (b := none) (Or.inl ⟨rfl, rfl⟩)
  obtain ⟨h2, k2⟩ := h1.tag hj (if_pos rfl) (t := nI t) (m := m)
  have f : frS (wR S 0 (v (14 + j)) none) (wI (wI (wR S 0 (v (14 + j)) none) 1 (v (14 + j)) (nI t)) 2 (v (14 + j)) m) (fun b => b = v (14 + j)) := (frS_wI (by decide)).st (frS_wI (by decide)) (fun b e => e)
  have r : RepW (wI (wI (wR S 0 (v (14 + j)) none) 1 (v (14 + j)) (nI t)) 2 (v (14 + j)) m) ad ar z.1 z.2 := RepW_fr f.fr z.1 (RepW_w0 _ tz.1) (fun x hx => ⟨(h.nod (tz.2 x hx) (show 14 + j < 37 by omega)).1, (h.nod (tz.2 x hx) (show 14 + j < 37 by omega)).2, rfl, rfl⟩)
  obtain ⟨h3, k3⟩ := h2.wr0 hj (x := some (ad z.2.1)) (b := some (z, t, m)) (Or.inr ⟨(z, t, m), rfl, rfl, ⟨r, tz.2⟩, by rw [sI_wI, if_neg (fun q => absurd q.1 (by decide))]; exact wI_at, wI_at⟩)
  have e : wR (wI (wI (wR S 0 (v (14 + j)) none) 1 (v (14 + j)) (nI t)) 2 (v (14 + j)) m) 0 (v (14 + j)) (some (ad z.2.1)) = wI (wI (wR S 0 (v (14 + j)) (some (ad z.2.1))) 1 (v (14 + j)) (nI t)) 2 (v (14 + j)) m := (show _ = wI (wI (wR (wR S 0 (v (14 + j)) none) 0 (v (14 + j)) (some (ad z.2.1))) 1 (v (14 + j)) (nI t)) 2 (v (14 + j)) m from rfl).trans (by rw [w0_w0])
  rw [e] at h3 k3
  rw [setB_setB] at h3
  exact ⟨h3, (k1.tr k2).tr k3⟩
def snpP (P : PS) (j : Nat) (b : BI) : PS := setB (incT (addM P b.1 b.2.2 (-1))) j (some (b.1, pTk P, nI (pM P).length))
def roomS (P : PS) : Prop := hcnt (pH P) < 16 ∧ (pM P).length < 999
def snpF (P : PS) (j : Nat) (b : BI) : Int32 × PS := if hcnt (pH P) < 16 ∧ (pM P).length < 999 then (nI (pM P).length, snpP P j b) else (-1, refP P 4)
def frzF (P : PS) (j : Nat) (b : BI) : Int32 × PS := if hcnt (pH P) < 16 ∧ (pM P).length < 999 then (nI (pM P).length, setB (snpP P j b) j none) else (-1, refP P 4)
theorem nI_m1n {n : Nat} (hn : n < 2147483648) : ¬ nI n = -1 := fun z => by
  have h1 := nI_toInt hn
  rw [z] at h1
  have h2 : (-1 : Int32).toInt = -1 := by decide
  omega
set_option maxHeartbeats 4000000 in
set_option maxRecDepth 100000 in
theorem c_snapped_y {S : aw_S} {v ad ar : Nat → Nat} {PA : List (Nat × Nat)} {X : List Nat} {mb : Nat} {P : PS} (h : RC S v ad ar PA X mb P) {j t : Nat} {z : Tz} {f : Int32} (hj : j < 4) (hb : pB P j = some (z, t, f)) (hr : hcnt (pH P) < 16 ∧ (pM P).length < 999) : aw_M yX10_snapped cX10_snapped 3 (some FieldType.int) 6 0 0 [.ref (v 4), .ref (v (14 + j))] S (fun r S2 => r = some (.int (nI (pM P).length)) ∧ RC S2 v ad ar PA X mb (snpP P j (z, t, f)) ∧ keepX X S S2) := by
  have hL := h.L
  obtain ⟨qr, qt, qf⟩ := (h.2.2.2.1 j hj).2 _ hb
  have ob := lw_b hL hj
  have tz := h.2.2.2.2.2.2.2.2.1.2.2 j _ hb
  refine aw_enter (by decide +kernel) (Nat.le_of_ble_eq_true rfl) (fun g K EE => ?_)
  first | refine a_aload_n K dX10_snapped_0 rfl ?_ | refine a_aload_nN K dX10_snapped_0 rfl ?_
  refine a_getRs K fd_X10_46 (lw_i4 hL) (Or.inl ⟨_, rfl⟩) (lw_f646 hL) dX10_snapped_1 ?_
  refine a_invV K (m_X3_hasRoom (lw_i6 hL) h.2.2.1.2.2.1 h.2.2.1.1 (show hcnt (pH P) < 1000000 by have h1 := List.countP_le_length (p := pH P) (l := List.range 999); rw [List.length_range] at h1; unfold hcnt; omega) (show (pM P).length < 1000000 by have h1 := h.2.2.1.2.1; omega)) my_X3_hasRoom ml_X10_124 im_X3_hasRoom se_X3_hasRoom (ci := 3) (lw_i6 hL) (by decide) ⟨_, _, rfl⟩ rfl (by omega) (by omega) (by omega) rfl (Nat.le_of_ble_eq_true rfl) dX10_snapped_4 ?_
  intro r9 S9 hp9
  obtain ⟨hS9, hb9⟩ := hp9
  obtain rfl := hS9.symm
  obtain rfl : r9 = some (.int 1) := hb9.elim (fun y => y.2) (fun y => absurd hr y.1)
  refine a_if_ne K dX10_snapped_7 (tgt := 12) (by decide) (fun c_7 => ?_) (fun c_7 => absurd c_7 (by decide))
  first | refine a_aload_n K dX10_snapped_12 rfl ?_ | refine a_aload_nN K dX10_snapped_12 rfl ?_
  refine a_getRs K fd_X10_46 (lw_i4 hL) (Or.inl ⟨_, rfl⟩) (lw_f646 hL) dX10_snapped_13 ?_
  first | refine a_aload_n K dX10_snapped_16 rfl ?_ | refine a_aload_nN K dX10_snapped_16 rfl ?_
  refine a_invV K (m_X0_root ob) my_X0_root ml_X10_345 im_X0_root se_X0_root (ci := 0) (by assumption) (by decide) ⟨_, _, rfl⟩ rfl (by omega) (by omega) (by omega) rfl (Nat.le_of_ble_eq_true rfl) dX10_snapped_17 ?_
  intro r9 S9 hp9
  obtain ⟨rfl, hS9⟩ := hp9
  obtain rfl := hS9.symm
  rw [qr]
  first | refine a_aload_n K dX10_snapped_20 rfl ?_ | refine a_aload_nN K dX10_snapped_20 rfl ?_
  refine a_invV K (m_X0_from ob) my_X0_from ml_X10_362 im_X0_from se_X0_from (ci := 0) (by assumption) (by decide) ⟨_, _, rfl⟩ rfl (by omega) (by omega) (by omega) rfl (Nat.le_of_ble_eq_true rfl) dX10_snapped_21 ?_
  intro r9 S9 hp9
  obtain ⟨rfl, hS9⟩ := hp9
  obtain rfl := hS9.symm
  rw [qf]
  refine a_iconst K dX10_snapped_24 (v := -1) (by decide) ?_
  refine a_invV K (c_keep h tz hr.2) my_X3_keep ml_X10_149 im_X3_keep se_X3_keep (ci := 3) (lw_i6 hL) (by decide) ⟨_, _, rfl⟩ rfl (by omega) (by omega) (by omega) rfl (Nat.le_of_ble_eq_true rfl) dX10_snapped_25 ?_
  intro r9 S9 hp9
  obtain ⟨rfl, h2, k2⟩ := hp9
  have hL := h2.L
  have tz2 := h2.2.2.2.2.2.2.2.2.1.2.2 j _ hb
  have ob := lw_b hL hj
  refine a_istore_n K dX10_snapped_28 (by decide) ?_
  first | refine a_aload_n K dX10_snapped_29 rfl ?_ | refine a_aload_nN K dX10_snapped_29 rfl ?_
  first | refine a_aload_n K dX10_snapped_30 rfl ?_ | refine a_aload_nN K dX10_snapped_30 rfl ?_
  refine a_invV K (m_X0_root (lw_b hL hj)) my_X0_root ml_X10_345 im_X0_root se_X0_root (ci := 0) (by assumption) (by decide) ⟨_, _, rfl⟩ rfl (by omega) (by omega) (by omega) rfl (Nat.le_of_ble_eq_true rfl) dX10_snapped_31 ?_
  intro r9 S9 hp9
  obtain ⟨rfl, hS9⟩ := hp9
  obtain rfl := hS9.symm
  rw [((h2.2.2.2.1 j hj).2 _ hb).1]
  first | refine a_aload_n K dX10_snapped_34 rfl ?_ | refine a_aload_nN K dX10_snapped_34 rfl ?_
  refine a_getRs K fd_X10_39 (lw_i4 hL) (Or.inl ⟨_, rfl⟩) (lw_f645 hL) dX10_snapped_35 ?_
  refine a_invV K (c_newToken h2) my_X1_newToken ml_X10_131 im_X1_newToken se_X1_newToken (ci := 1) (lw_i5 hL) (by decide) ⟨_, _, rfl⟩ rfl (by omega) (by omega) (by omega) rfl (Nat.le_of_ble_eq_true rfl) dX10_snapped_38 ?_
  intro r9 S9 hp9
  obtain ⟨rfl, h3, k3⟩ := hp9
  have hL := h3.L
  have tz3 := h3.2.2.2.2.2.2.2.2.1.2.2 j _ hb
  have ob := lw_b hL hj
  refine a_iload_n K dX10_snapped_41 rfl ?_
  refine a_invV K (m_X0_open (lw_b hL hj)) my_X0_open ml_X10_317 im_X0_open se_X0_open (ci := 0) (by assumption) (by decide) ⟨_, _, rfl⟩ rfl (by omega) (by omega) (by omega) rfl (Nat.le_of_ble_eq_true rfl) dX10_snapped_42 ?_
  intro r9 S9 hp9
  obtain ⟨rfl, hS9⟩ := hp9
  obtain ⟨h4, k4⟩ := h3.opn hj (z := z) (t := pTk P) (m := (nI (pM P).length)) tz3
  rw [show wI (wI (wR _ 0 (v (14 + j)) (some (ad z.2.1))) 1 (v (14 + j)) (nI (pTk P))) 2 (v (14 + j)) (nI (pM P).length) = S9 from hS9.symm] at h4 k4
  have hL := h4.L
  refine a_iload_n K dX10_snapped_45 rfl ?_
  exact a_iret K EE rfl (by omega) (by omega) dX10_snapped_46 ⟨rfl, h4, (k2.tr k3).tr k4⟩
set_option maxHeartbeats 4000000 in
set_option maxRecDepth 100000 in
theorem c_snapped_n {S : aw_S} {v ad ar : Nat → Nat} {PA : List (Nat × Nat)} {X : List Nat} {mb : Nat} {P : PS} (h : RC S v ad ar PA X mb P) {j t : Nat} {z : Tz} {f : Int32} (hj : j < 4) (hb : pB P j = some (z, t, f)) (hr : ¬ (hcnt (pH P) < 16 ∧ (pM P).length < 999)) : aw_M yX10_snapped cX10_snapped 3 (some FieldType.int) 6 0 0 [.ref (v 4), .ref (v (14 + j))] S (fun r S2 => r = some (.int (-1)) ∧ S2 = S) := by
  have hL := h.L
  obtain ⟨qr, qt, qf⟩ := (h.2.2.2.1 j hj).2 _ hb
  have ob := lw_b hL hj
  have tz := h.2.2.2.2.2.2.2.2.1.2.2 j _ hb
  refine aw_enter (by decide +kernel) (Nat.le_of_ble_eq_true rfl) (fun g K EE => ?_)
  first | refine a_aload_n K dX10_snapped_0 rfl ?_ | refine a_aload_nN K dX10_snapped_0 rfl ?_
  refine a_getRs K fd_X10_46 (lw_i4 hL) (Or.inl ⟨_, rfl⟩) (lw_f646 hL) dX10_snapped_1 ?_
  refine a_invV K (m_X3_hasRoom (lw_i6 hL) h.2.2.1.2.2.1 h.2.2.1.1 (show hcnt (pH P) < 1000000 by have h1 := List.countP_le_length (p := pH P) (l := List.range 999); rw [List.length_range] at h1; unfold hcnt; omega) (show (pM P).length < 1000000 by have h1 := h.2.2.1.2.1; omega)) my_X3_hasRoom ml_X10_124 im_X3_hasRoom se_X3_hasRoom (ci := 3) (lw_i6 hL) (by decide) ⟨_, _, rfl⟩ rfl (by omega) (by omega) (by omega) rfl (Nat.le_of_ble_eq_true rfl) dX10_snapped_4 ?_
  intro r9 S9 hp9
  obtain ⟨hS9, hb9⟩ := hp9
  obtain rfl := hS9.symm
  obtain rfl : r9 = some (.int 0) := hb9.elim (fun y => absurd y.1 hr) (fun y => y.2)
  refine a_if_ne K dX10_snapped_7 (tgt := 12) (by decide) (fun c_7 => absurd c_7 (by decide)) (fun c_7 => ?_)
  refine a_iconst K dX10_snapped_10 (v := -1) (by decide) ?_
  exact a_iret K EE rfl (by omega) (by omega) dX10_snapped_11 ⟨rfl, rfl⟩
set_option maxHeartbeats 4000000 in
set_option maxRecDepth 100000 in
theorem c_snap_ok {S : aw_S} {v ad ar : Nat → Nat} {PA : List (Nat × Nat)} {X : List Nat} {mb : Nat} {P : PS} (h : RC S v ad ar PA X mb P) {j t : Nat} {z : Tz} {f : Int32} (hj : j < 4) (hb : pB P j = some (z, t, f)) {i : Int32} (hbv : atR (sQ S (v 13)) 4 i = some (v (14 + j))) : aw_M yX10_snap cX10_snap 5 (some FieldType.int) 8 0 0 [.ref (v 4), .int i] S (mutQ X v PA mb S (snpF P j (z, t, f))) := by
  have hL := h.L
  obtain ⟨qr, qt, qf⟩ := (h.2.2.2.1 j hj).2 _ hb
  have ob := lw_b hL hj
  have tz := h.2.2.2.2.2.2.2.2.1.2.2 j _ hb
  by_cases hr : hcnt (pH P) < 16 ∧ (pM P).length < 999
  · refine aw_enter (by decide +kernel) (Nat.le_of_ble_eq_true rfl) (fun g K EE => ?_)
    first | refine a_aload_n K dX10_snap_0 rfl ?_ | refine a_aload_nN K dX10_snap_0 rfl ?_
    refine a_iload_n K dX10_snap_1 rfl ?_
    refine a_invV K (w_builderAt hL _) my_X10_builderAt ml_X10_313 im_X10_builderAt se_X10_builderAt (ci := 10) (lw_i4 hL) (by decide) ⟨_, _, rfl⟩ rfl (by omega) (by omega) (by omega) rfl (Nat.le_of_ble_eq_true rfl) dX10_snap_2 ?_
    intro r9 S9 hp9
    obtain ⟨hS9, rfl⟩ := hp9
    obtain rfl := hS9.symm
    rw [hbv]
    first | refine a_astore_n K dX10_snap_5 (by decide) ?_ | refine a_astore_nN K dX10_snap_5 (by decide) ?_
    first | refine a_aload_n K dX10_snap_6 rfl ?_ | refine a_aload_nN K dX10_snap_6 rfl ?_
    refine a_iconst K dX10_snap_7 (v := 1) (by decide) ?_
    refine a_invS K (m_X10_objection_ok ob qr) my_X10_objection ml_X10_320 st_X10_objection rfl (by omega) (by omega) (by omega) rfl (Nat.le_of_ble_eq_true rfl) dX10_snap_8 ?_
    intro r9 S9 hp9
    obtain ⟨hS9, rfl⟩ := hp9
    obtain rfl := hS9.symm
    refine a_istore_n K dX10_snap_11 (by decide) ?_
    first | refine a_aload_n K dX10_snap_12 rfl ?_ | refine a_aload_nN K dX10_snap_12 rfl ?_
    refine a_ifnull K dX10_snap_13 ?_
    refine a_iload_n K dX10_snap_16 rfl ?_
    refine a_iconst K dX10_snap_17 (v := -1) (by decide) ?_
    refine a_icmp_eq K dX10_snap_18 (tgt := 27) (by decide) (fun c_18 => ?_) (fun c_18 => absurd c_18 (by decide))
    first | refine a_aload_n K dX10_snap_27 rfl ?_ | refine a_aload_nN K dX10_snap_27 rfl ?_
    first | refine a_aload_n K dX10_snap_28 rfl ?_ | refine a_aload_nN K dX10_snap_28 rfl ?_
    refine a_invV K (c_snapped_y h hj hb hr) my_X10_snapped ml_X10_355 im_X10_snapped se_X10_snapped (ci := 10) (lw_i4 hL) (by decide) ⟨_, _, rfl⟩ rfl (by omega) (by omega) (by omega) rfl (Nat.le_of_ble_eq_true rfl) dX10_snap_29 ?_
    intro r9 S9 hp9
    obtain ⟨rfl, h2, k2⟩ := hp9
    have hL := h2.L
    have ob := lw_b hL hj
    refine a_istore K dX10_snap_32 (by decide) ?_
    refine a_iload K dX10_snap_34 rfl ?_
    refine a_iconst K dX10_snap_36 (v := -1) (by decide) ?_
    refine a_icmp_ne K dX10_snap_37 (tgt := 48) (by decide) (fun c_37 => ?_) (fun c_37 => absurd c_37 (nI_m1n (by omega)))
    refine a_iload K dX10_snap_48 rfl ?_
    exact a_iret K EE rfl (by omega) (by omega) dX10_snap_50 (by unfold snpF; rw [if_pos hr]; exact ⟨ad, ar, rfl, h2, k2⟩)
  · refine aw_enter (by decide +kernel) (Nat.le_of_ble_eq_true rfl) (fun g K EE => ?_)
    first | refine a_aload_n K dX10_snap_0 rfl ?_ | refine a_aload_nN K dX10_snap_0 rfl ?_
    refine a_iload_n K dX10_snap_1 rfl ?_
    refine a_invV K (w_builderAt hL _) my_X10_builderAt ml_X10_313 im_X10_builderAt se_X10_builderAt (ci := 10) (lw_i4 hL) (by decide) ⟨_, _, rfl⟩ rfl (by omega) (by omega) (by omega) rfl (Nat.le_of_ble_eq_true rfl) dX10_snap_2 ?_
    intro r9 S9 hp9
    obtain ⟨hS9, rfl⟩ := hp9
    obtain rfl := hS9.symm
    rw [hbv]
    first | refine a_astore_n K dX10_snap_5 (by decide) ?_ | refine a_astore_nN K dX10_snap_5 (by decide) ?_
    first | refine a_aload_n K dX10_snap_6 rfl ?_ | refine a_aload_nN K dX10_snap_6 rfl ?_
    refine a_iconst K dX10_snap_7 (v := 1) (by decide) ?_
    refine a_invS K (m_X10_objection_ok ob qr) my_X10_objection ml_X10_320 st_X10_objection rfl (by omega) (by omega) (by omega) rfl (Nat.le_of_ble_eq_true rfl) dX10_snap_8 ?_
    intro r9 S9 hp9
    obtain ⟨hS9, rfl⟩ := hp9
    obtain rfl := hS9.symm
    refine a_istore_n K dX10_snap_11 (by decide) ?_
    first | refine a_aload_n K dX10_snap_12 rfl ?_ | refine a_aload_nN K dX10_snap_12 rfl ?_
    refine a_ifnull K dX10_snap_13 ?_
    refine a_iload_n K dX10_snap_16 rfl ?_
    refine a_iconst K dX10_snap_17 (v := -1) (by decide) ?_
    refine a_icmp_eq K dX10_snap_18 (tgt := 27) (by decide) (fun c_18 => ?_) (fun c_18 => absurd c_18 (by decide))
    first | refine a_aload_n K dX10_snap_27 rfl ?_ | refine a_aload_nN K dX10_snap_27 rfl ?_
    first | refine a_aload_n K dX10_snap_28 rfl ?_ | refine a_aload_nN K dX10_snap_28 rfl ?_
    refine a_invV K (c_snapped_n h hj hb hr) my_X10_snapped ml_X10_355 im_X10_snapped se_X10_snapped (ci := 10) (lw_i4 hL) (by decide) ⟨_, _, rfl⟩ rfl (by omega) (by omega) (by omega) rfl (Nat.le_of_ble_eq_true rfl) dX10_snap_29 ?_
    intro r9 S9 hp9
    obtain ⟨rfl, hS9⟩ := hp9
    obtain rfl := hS9.symm
    refine a_istore K dX10_snap_32 (by decide) ?_
    refine a_iload K dX10_snap_34 rfl ?_
    refine a_iconst K dX10_snap_36 (v := -1) (by decide) ?_
    refine a_icmp_ne K dX10_snap_37 (tgt := 48) (by decide) (fun c_37 => absurd c_37 (fun z => z rfl)) (fun c_37 => ?_)
    first | refine a_aload_n K dX10_snap_40 rfl ?_ | refine a_aload_nN K dX10_snap_40 rfl ?_
    refine a_iconst K dX10_snap_41 (v := 4) (by decide) ?_
    refine a_invV K (c_refused h 4 (by decide)) my_X10_refused ml_X10_128 im_X10_refused se_X10_refused (ci := 10) (lw_i4 hL) (by decide) ⟨_, _, rfl⟩ rfl (by omega) (by omega) (by omega) rfl (Nat.le_of_ble_eq_true rfl) dX10_snap_42 ?_
    intro r9 S9 hp9
    obtain ⟨rfl, h2, k2⟩ := hp9
    refine a_goto K dX10_snap_45 (tgt := 50) (by decide) ?_
    exact a_iret K EE rfl (by omega) (by omega) dX10_snap_50 (by unfold snpF; rw [if_neg hr]; exact ⟨ad, ar, rfl, h2, k2⟩)
set_option maxHeartbeats 4000000 in
set_option maxRecDepth 100000 in
theorem c_snap {S : aw_S} {v ad ar : Nat → Nat} {PA : List (Nat × Nat)} {X : List Nat} {mb : Nat} {P : PS} (h : RC S v ad ar PA X mb P) {i : Int32} : aw_M yX10_snap cX10_snap 5 (some FieldType.int) 8 0 0 [.ref (v 4), .int i] S (mutQ X v PA mb S (bld P i True (snpF P))) := by
  exact bldM h (by decide) (fun e => m_X10_snap_null h.L e) (fun b e n => absurd trivial n) (fun b e q r x => m_X10_snap_stale h.L e q r) (fun j t z q hj e hb x => c_snap_ok h hj hb e)
set_option maxHeartbeats 4000000 in
set_option maxRecDepth 100000 in
theorem c_freeze_ok {S : aw_S} {v ad ar : Nat → Nat} {PA : List (Nat × Nat)} {X : List Nat} {mb : Nat} {P : PS} (h : RC S v ad ar PA X mb P) {j t : Nat} {z : Tz} {f : Int32} (hj : j < 4) (hb : pB P j = some (z, t, f)) {i : Int32} (hbv : atR (sQ S (v 13)) 4 i = some (v (14 + j))) : aw_M yX10_freeze cX10_freeze 5 (some FieldType.int) 8 0 0 [.ref (v 4), .int i] S (mutQ X v PA mb S (frzF P j (z, t, f))) := by
  have hL := h.L
  obtain ⟨qr, qt, qf⟩ := (h.2.2.2.1 j hj).2 _ hb
  have ob := lw_b hL hj
  have tz := h.2.2.2.2.2.2.2.2.1.2.2 j _ hb
  by_cases hr : hcnt (pH P) < 16 ∧ (pM P).length < 999
  · refine aw_enter (by decide +kernel) (Nat.le_of_ble_eq_true rfl) (fun g K EE => ?_)
    first | refine a_aload_n K dX10_freeze_0 rfl ?_ | refine a_aload_nN K dX10_freeze_0 rfl ?_
    refine a_iload_n K dX10_freeze_1 rfl ?_
    refine a_invV K (w_builderAt hL _) my_X10_builderAt ml_X10_313 im_X10_builderAt se_X10_builderAt (ci := 10) (lw_i4 hL) (by decide) ⟨_, _, rfl⟩ rfl (by omega) (by omega) (by omega) rfl (Nat.le_of_ble_eq_true rfl) dX10_freeze_2 ?_
    intro r9 S9 hp9
    obtain ⟨hS9, rfl⟩ := hp9
    obtain rfl := hS9.symm
    rw [hbv]
    first | refine a_astore_n K dX10_freeze_5 (by decide) ?_ | refine a_astore_nN K dX10_freeze_5 (by decide) ?_
    first | refine a_aload_n K dX10_freeze_6 rfl ?_ | refine a_aload_nN K dX10_freeze_6 rfl ?_
    refine a_iconst K dX10_freeze_7 (v := 1) (by decide) ?_
    refine a_invS K (m_X10_objection_ok ob qr) my_X10_objection ml_X10_320 st_X10_objection rfl (by omega) (by omega) (by omega) rfl (Nat.le_of_ble_eq_true rfl) dX10_freeze_8 ?_
    intro r9 S9 hp9
    obtain ⟨hS9, rfl⟩ := hp9
    obtain rfl := hS9.symm
    refine a_istore_n K dX10_freeze_11 (by decide) ?_
    first | refine a_aload_n K dX10_freeze_12 rfl ?_ | refine a_aload_nN K dX10_freeze_12 rfl ?_
    refine a_ifnull K dX10_freeze_13 ?_
    refine a_iload_n K dX10_freeze_16 rfl ?_
    refine a_iconst K dX10_freeze_17 (v := -1) (by decide) ?_
    refine a_icmp_eq K dX10_freeze_18 (tgt := 27) (by decide) (fun c_18 => ?_) (fun c_18 => absurd c_18 (by decide))
    first | refine a_aload_n K dX10_freeze_27 rfl ?_ | refine a_aload_nN K dX10_freeze_27 rfl ?_
    first | refine a_aload_n K dX10_freeze_28 rfl ?_ | refine a_aload_nN K dX10_freeze_28 rfl ?_
    refine a_invV K (c_snapped_y h hj hb hr) my_X10_snapped ml_X10_355 im_X10_snapped se_X10_snapped (ci := 10) (lw_i4 hL) (by decide) ⟨_, _, rfl⟩ rfl (by omega) (by omega) (by omega) rfl (Nat.le_of_ble_eq_true rfl) dX10_freeze_29 ?_
    intro r9 S9 hp9
    obtain ⟨rfl, h2, k2⟩ := hp9
    have hL := h2.L
    have ob := lw_b hL hj
    refine a_istore K dX10_freeze_32 (by decide) ?_
    refine a_iload K dX10_freeze_34 rfl ?_
    refine a_iconst K dX10_freeze_36 (v := -1) (by decide) ?_
    refine a_icmp_ne K dX10_freeze_37 (tgt := 46) (by decide) (fun c_37 => ?_) (fun c_37 => absurd c_37 (nI_m1n (by omega)))
    first | refine a_aload_n K dX10_freeze_46 rfl ?_ | refine a_aload_nN K dX10_freeze_46 rfl ?_
    refine a_invV K (m_X0_close ob) my_X0_close ml_X10_359 im_X0_close se_X0_close (ci := 0) (by assumption) (by decide) ⟨_, _, rfl⟩ rfl (by omega) (by omega) (by omega) rfl (Nat.le_of_ble_eq_true rfl) dX10_freeze_47 ?_
    intro r9 S9 hp9
    obtain ⟨rfl, hS9⟩ := hp9
    obtain ⟨h5, k5⟩ := h2.wr0 hj (x := none) (b := none) (Or.inl ⟨rfl, rfl⟩)
    rw [← hS9] at h5 k5
    refine a_iload K dX10_freeze_50 rfl ?_
    exact a_iret K EE rfl (by omega) (by omega) dX10_freeze_52 (by unfold frzF; rw [if_pos hr]; exact ⟨ad, ar, rfl, h5, k2.tr k5⟩)
  · refine aw_enter (by decide +kernel) (Nat.le_of_ble_eq_true rfl) (fun g K EE => ?_)
    first | refine a_aload_n K dX10_freeze_0 rfl ?_ | refine a_aload_nN K dX10_freeze_0 rfl ?_
    refine a_iload_n K dX10_freeze_1 rfl ?_
    refine a_invV K (w_builderAt hL _) my_X10_builderAt ml_X10_313 im_X10_builderAt se_X10_builderAt (ci := 10) (lw_i4 hL) (by decide) ⟨_, _, rfl⟩ rfl (by omega) (by omega) (by omega) rfl (Nat.le_of_ble_eq_true rfl) dX10_freeze_2 ?_
    intro r9 S9 hp9
    obtain ⟨hS9, rfl⟩ := hp9
    obtain rfl := hS9.symm
    rw [hbv]
    first | refine a_astore_n K dX10_freeze_5 (by decide) ?_ | refine a_astore_nN K dX10_freeze_5 (by decide) ?_
    first | refine a_aload_n K dX10_freeze_6 rfl ?_ | refine a_aload_nN K dX10_freeze_6 rfl ?_
    refine a_iconst K dX10_freeze_7 (v := 1) (by decide) ?_
    refine a_invS K (m_X10_objection_ok ob qr) my_X10_objection ml_X10_320 st_X10_objection rfl (by omega) (by omega) (by omega) rfl (Nat.le_of_ble_eq_true rfl) dX10_freeze_8 ?_
    intro r9 S9 hp9
    obtain ⟨hS9, rfl⟩ := hp9
    obtain rfl := hS9.symm
    refine a_istore_n K dX10_freeze_11 (by decide) ?_
    first | refine a_aload_n K dX10_freeze_12 rfl ?_ | refine a_aload_nN K dX10_freeze_12 rfl ?_
    refine a_ifnull K dX10_freeze_13 ?_
    refine a_iload_n K dX10_freeze_16 rfl ?_
    refine a_iconst K dX10_freeze_17 (v := -1) (by decide) ?_
    refine a_icmp_eq K dX10_freeze_18 (tgt := 27) (by decide) (fun c_18 => ?_) (fun c_18 => absurd c_18 (by decide))
    first | refine a_aload_n K dX10_freeze_27 rfl ?_ | refine a_aload_nN K dX10_freeze_27 rfl ?_
    first | refine a_aload_n K dX10_freeze_28 rfl ?_ | refine a_aload_nN K dX10_freeze_28 rfl ?_
    refine a_invV K (c_snapped_n h hj hb hr) my_X10_snapped ml_X10_355 im_X10_snapped se_X10_snapped (ci := 10) (lw_i4 hL) (by decide) ⟨_, _, rfl⟩ rfl (by omega) (by omega) (by omega) rfl (Nat.le_of_ble_eq_true rfl) dX10_freeze_29 ?_
    intro r9 S9 hp9
    obtain ⟨rfl, hS9⟩ := hp9
    obtain rfl := hS9.symm
    refine a_istore K dX10_freeze_32 (by decide) ?_
    refine a_iload K dX10_freeze_34 rfl ?_
    refine a_iconst K dX10_freeze_36 (v := -1) (by decide) ?_
    refine a_icmp_ne K dX10_freeze_37 (tgt := 46) (by decide) (fun c_37 => absurd c_37 (fun z => z rfl)) (fun c_37 => ?_)
    first | refine a_aload_n K dX10_freeze_40 rfl ?_ | refine a_aload_nN K dX10_freeze_40 rfl ?_
    refine a_iconst K dX10_freeze_41 (v := 4) (by decide) ?_
    refine a_invV K (c_refused h 4 (by decide)) my_X10_refused ml_X10_128 im_X10_refused se_X10_refused (ci := 10) (lw_i4 hL) (by decide) ⟨_, _, rfl⟩ rfl (by omega) (by omega) (by omega) rfl (Nat.le_of_ble_eq_true rfl) dX10_freeze_42 ?_
    intro r9 S9 hp9
    obtain ⟨rfl, h2, k2⟩ := hp9
    exact a_iret K EE rfl (by omega) (by omega) dX10_freeze_45 (by unfold frzF; rw [if_neg hr]; exact ⟨ad, ar, rfl, h2, k2⟩)
set_option maxHeartbeats 4000000 in
set_option maxRecDepth 100000 in
theorem c_freeze {S : aw_S} {v ad ar : Nat → Nat} {PA : List (Nat × Nat)} {X : List Nat} {mb : Nat} {P : PS} (h : RC S v ad ar PA X mb P) {i : Int32} : aw_M yX10_freeze cX10_freeze 5 (some FieldType.int) 8 0 0 [.ref (v 4), .int i] S (mutQ X v PA mb S (bld P i True (frzF P))) := by
  exact bldM h (by decide) (fun e => m_X10_freeze_null h.L e) (fun b e n => absurd trivial n) (fun b e q r x => m_X10_freeze_stale h.L e q r) (fun j t z q hj e hb x => c_freeze_ok h hj hb e)
