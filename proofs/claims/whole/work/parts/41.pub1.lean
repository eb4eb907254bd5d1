def aFind (P : PS) (m k : Int32) : Int32 := match rootP P m with
  | none => -1000000
  | some z => valIn (ent z.1 z.2) k
def aBelow (P : PS) (m k : Int32) : Int32 := match rootP P m with
  | none => -1
  | some z => nI (kpl (ent z.1 z.2) k)
def aTotal (P : PS) (m f t : Int32) : Int32 := match rootP P m with
  | none => -1000000
  | some z => smE f t (ent z.1 z.2) 0
def keyPr (E : List KV) : Nat → Int32
  | 0 => -1
  | p + 1 => keyAtL E p
def thr (E : List KV) (k : Int32) : Prop := kpl E k < E.length ∧ keyAtL E (kpl E k) = k
def nearE (E : List KV) (k w : Int32) : Int32 := if w = 0 then (if kpl E k < E.length ∧ keyAtL E (kpl E k) = k then keyAtL E (kpl E k) else keyPr E (kpl E k)) else if w = 1 then keyAtL E (kpl E k) else if w = 2 then keyPr E (kpl E k) else if w = 3 then (if kpl E k < E.length ∧ keyAtL E (kpl E k) = k then keyAtL E (kpl E k + 1) else keyAtL E (kpl E k)) else -1
def aNear (P : PS) (m k w : Int32) : Int32 := match rootP P m with
  | none => -1
  | some z => nearE (ent z.1 z.2) k w
def aDigest (P : PS) (m : Int32) : Int32 := match rootP P m with
  | none => -1
  | some z => nI (dgs (txt z.1 z.2) 0)
def mapAt (P : PS) (i : Int32) : Option MI := if 0 ≤ i.toInt ∧ i.toInt < (pM P).length then (pM P)[i.toNatClampNeg]? else none
def oneM (P : PS) (i : Int32) : Int32 := match mapAt P i with
  | some x => x.2.1
  | none => -1
def twoM (P : PS) (i : Int32) : Int32 := match mapAt P i with
  | some x => x.2.2
  | none => -1
def aAbout (P : PS) (m w : Int32) : Int32 := match rootP P m with
  | none => -1000000
  | some z => if w = 0 then nI (ent z.1 z.2).length else if w = 1 then nI (z.1 + 1) else if w = 2 then nI (sub z.1 z.2).length else if w = 3 then nI (lvC (sub z.1 z.2) 0) else if w = 4 then smE 0 999 (ent z.1 z.2) 0 else if w = 5 then oneM P m else if w = 6 then twoM P m else -1000000
set_option maxHeartbeats 4000000 in
set_option maxRecDepth 100000 in
theorem c_find {S : aw_S} {v ad ar : Nat → Nat} {PA : List (Nat × Nat)} {X : List Nat} {mb : Nat} {P : PS} (h : RC S v ad ar PA X mb P) (hP : PI P) {m k : Int32} : aw_M yX10_find cX10_find 3 (some FieldType.int) 9 0 0 [.ref (v 4), .int m, .int k] S (fun r S2 => r = some (.int (aFind P m k)) ∧ RC S2 v ad ar PA X mb P ∧ keepX X S S2) := by
  have hL := h.L
  cases hz : rootP P m with
  | none =>
    refine aw_enter (by decide +kernel) (Nat.le_of_ble_eq_true rfl) (fun g K EE => ?_)
    first | refine a_aload_n K dX10_find_0 rfl ?_ | refine a_aload_nN K dX10_find_0 rfl ?_
    refine a_getRs K fd_X10_46 (lw_i4 hL) (Or.inl ⟨_, rfl⟩) (lw_f646 hL) dX10_find_1 ?_
    refine a_iload_n K dX10_find_4 rfl ?_
    refine a_invV K (m_root h m) my_X3_heldRoot ml_X10_165 im_X3_heldRoot se_X3_heldRoot (ci := 3) (lw_i6 hL) (by decide) ⟨_, _, rfl⟩ rfl (by omega) (by omega) (by omega) rfl (Nat.le_of_ble_eq_true rfl) dX10_find_5 ?_
    intro r9 S9 hp9
    obtain ⟨rfl, hS9⟩ := hp9
    obtain rfl := hS9.symm
    rw [hz]
    refine a_iload_n K dX10_find_8 rfl ?_
    refine a_invS K (m_X10_valueIn_null) my_X10_valueIn ml_X10_169 st_X10_valueIn rfl (by omega) (by omega) (by omega) rfl (Nat.le_of_ble_eq_true rfl) dX10_find_9 ?_
    intro r9 S9 hp9
    obtain ⟨hS9, rfl⟩ := hp9
    obtain rfl := hS9.symm
    exact a_iret K EE rfl (by omega) (by omega) dX10_find_12 ⟨by unfold aFind; rw [hz], h, h.X⟩
  | some z =>
    have t := h.tt hP hz
    obtain ⟨h4, h61, -⟩ := t.2.h4 hP.1.1
    refine aw_enter (by decide +kernel) (Nat.le_of_ble_eq_true rfl) (fun g K EE => ?_)
    first | refine a_aload_n K dX10_find_0 rfl ?_ | refine a_aload_nN K dX10_find_0 rfl ?_
    refine a_getRs K fd_X10_46 (lw_i4 hL) (Or.inl ⟨_, rfl⟩) (lw_f646 hL) dX10_find_1 ?_
    refine a_iload_n K dX10_find_4 rfl ?_
    refine a_invV K (m_root h m) my_X3_heldRoot ml_X10_165 im_X3_heldRoot se_X3_heldRoot (ci := 3) (lw_i6 hL) (by decide) ⟨_, _, rfl⟩ rfl (by omega) (by omega) (by omega) rfl (Nat.le_of_ble_eq_true rfl) dX10_find_5 ?_
    intro r9 S9 hp9
    obtain ⟨rfl, hS9⟩ := hp9
    obtain rfl := hS9.symm
    rw [hz]
    refine a_iload_n K dX10_find_8 rfl ?_
    refine a_invS K (m_X10_valueIn (key := k) t.1.1 (t.2.1.ne hP.1.1) (by omega) rfl) my_X10_valueIn ml_X10_169 st_X10_valueIn rfl (by omega) (by omega) (by omega) rfl (Nat.le_of_ble_eq_true rfl) dX10_find_9 ?_
    intro r9 S9 hp9
    obtain ⟨rfl, hS9⟩ := hp9
    obtain rfl := hS9.symm
    exact a_iret K EE rfl (by omega) (by omega) dX10_find_12 ⟨by unfold aFind; rw [hz, t.2.1.val hP.1.1], h, h.X⟩
set_option maxHeartbeats 4000000 in
set_option maxRecDepth 100000 in
theorem c_below {S : aw_S} {v ad ar : Nat → Nat} {PA : List (Nat × Nat)} {X : List Nat} {mb : Nat} {P : PS} (h : RC S v ad ar PA X mb P) (hP : PI P) {m k : Int32} : aw_M yX10_below cX10_below 4 (some FieldType.int) 9 0 0 [.ref (v 4), .int m, .int k] S (fun r S2 => r = some (.int (aBelow P m k)) ∧ RC S2 v ad ar PA X mb P ∧ keepX X S S2) := by
  have hL := h.L
  cases hz : rootP P m with
  | none =>
    refine aw_enter (by decide +kernel) (Nat.le_of_ble_eq_true rfl) (fun g K EE => ?_)
    first | refine a_aload_n K dX10_below_0 rfl ?_ | refine a_aload_nN K dX10_below_0 rfl ?_
    refine a_getRs K fd_X10_46 (lw_i4 hL) (Or.inl ⟨_, rfl⟩) (lw_f646 hL) dX10_below_1 ?_
    refine a_iload_n K dX10_below_4 rfl ?_
    refine a_invV K (m_root h m) my_X3_heldRoot ml_X10_165 im_X3_heldRoot se_X3_heldRoot (ci := 3) (lw_i6 hL) (by decide) ⟨_, _, rfl⟩ rfl (by omega) (by omega) (by omega) rfl (Nat.le_of_ble_eq_true rfl) dX10_below_5 ?_
    intro r9 S9 hp9
    obtain ⟨rfl, hS9⟩ := hp9
    obtain rfl := hS9.symm
    rw [hz]
    first | refine a_astore_n K dX10_below_8 (by decide) ?_ | refine a_astore_nN K dX10_below_8 (by decide) ?_
    first | refine a_aload_n K dX10_below_9 rfl ?_ | refine a_aload_nN K dX10_below_9 rfl ?_
    refine a_ifnonnullN K dX10_below_10 ?_
    refine a_iconst K dX10_below_13 (v := -1) (by decide) ?_
    exact a_iret K EE rfl (by omega) (by omega) dX10_below_14 ⟨by unfold aBelow; rw [hz], h, h.X⟩
  | some z =>
    have t := h.tt hP hz
    obtain ⟨h4, h61, -⟩ := t.2.h4 hP.1.1
    refine aw_enter (by decide +kernel) (Nat.le_of_ble_eq_true rfl) (fun g K EE => ?_)
    first | refine a_aload_n K dX10_below_0 rfl ?_ | refine a_aload_nN K dX10_below_0 rfl ?_
    refine a_getRs K fd_X10_46 (lw_i4 hL) (Or.inl ⟨_, rfl⟩) (lw_f646 hL) dX10_below_1 ?_
    refine a_iload_n K dX10_below_4 rfl ?_
    refine a_invV K (m_root h m) my_X3_heldRoot ml_X10_165 im_X3_heldRoot se_X3_heldRoot (ci := 3) (lw_i6 hL) (by decide) ⟨_, _, rfl⟩ rfl (by omega) (by omega) (by omega) rfl (Nat.le_of_ble_eq_true rfl) dX10_below_5 ?_
    intro r9 S9 hp9
    obtain ⟨rfl, hS9⟩ := hp9
    obtain rfl := hS9.symm
    rw [hz]
    first | refine a_astore_n K dX10_below_8 (by decide) ?_ | refine a_astore_nN K dX10_below_8 (by decide) ?_
    first | refine a_aload_n K dX10_below_9 rfl ?_ | refine a_aload_nN K dX10_below_9 rfl ?_
    refine a_ifnonnull K dX10_below_10 (tgt := 15) (by decide) ?_
    first | refine a_aload_n K dX10_below_15 rfl ?_ | refine a_aload_nN K dX10_below_15 rfl ?_
    refine a_getRs K fd_X10_77 (lw_i4 hL) (Or.inl ⟨_, rfl⟩) (lw_f652 hL) dX10_below_16 ?_
    first | refine a_aload_n K dX10_below_19 rfl ?_ | refine a_aload_nN K dX10_below_19 rfl ?_
    refine a_invV K (m_fill25 h hP.1.1 t) my_X7_fill ml_X10_173 im_X7_fill se_X7_fill (ci := 7) (by first | exact lw_i25 hL | exact lw_i28 hL | exact lw_i31 hL) (by decide) ⟨_, _, rfl⟩ rfl (by omega) (by omega) (by omega) rfl (Nat.le_of_ble_eq_true rfl) dX10_below_20 ?_
    intro r9 S9 hp9
    obtain ⟨rfl, hR, h2, k2, f2⟩ := hp9
    have hL := h2.L
    first | refine a_aload_n K dX10_below_23 rfl ?_ | refine a_aload_nN K dX10_below_23 rfl ?_
    refine a_getRs K fd_X10_77 (lw_i4 hL) (Or.inl ⟨_, rfl⟩) (lw_f652 hL) dX10_below_24 ?_
    refine a_iload_n K dX10_below_27 rfl ?_
    refine a_invV K (m_R_placeOf (key := k) hR t.2.1.2.2.2.1) my_X7_placeOf ml_X10_199 im_X7_placeOf se_X7_placeOf (ci := 7) (by first | exact lw_i25 hL | exact lw_i28 hL | exact lw_i31 hL) (by decide) ⟨_, _, rfl⟩ rfl (by omega) (by omega) (by omega) rfl (Nat.le_of_ble_eq_true rfl) dX10_below_28 ?_
    intro r9 S9 hp9
    obtain ⟨rfl, hS9⟩ := hp9
    obtain rfl := hS9.symm
    exact a_iret K EE rfl (by omega) (by omega) dX10_below_31 ⟨by unfold aBelow; rw [hz], h2, k2⟩
set_option maxHeartbeats 4000000 in
set_option maxRecDepth 100000 in
theorem c_total {S : aw_S} {v ad ar : Nat → Nat} {PA : List (Nat × Nat)} {X : List Nat} {mb : Nat} {P : PS} (h : RC S v ad ar PA X mb P) (hP : PI P) {m f t0 : Int32} : aw_M yX10_total cX10_total 5 (some FieldType.int) 9 0 0 [.ref (v 4), .int m, .int f, .int t0] S (fun r S2 => r = some (.int (aTotal P m f t0)) ∧ RC S2 v ad ar PA X mb P ∧ keepX X S S2) := by
  have hL := h.L
  cases hz : rootP P m with
  | none =>
    refine aw_enter (by decide +kernel) (Nat.le_of_ble_eq_true rfl) (fun g K EE => ?_)
    first | refine a_aload_n K dX10_total_0 rfl ?_ | refine a_aload_nN K dX10_total_0 rfl ?_
    refine a_getRs K fd_X10_46 (lw_i4 hL) (Or.inl ⟨_, rfl⟩) (lw_f646 hL) dX10_total_1 ?_
    refine a_iload_n K dX10_total_4 rfl ?_
    refine a_invV K (m_root h m) my_X3_heldRoot ml_X10_165 im_X3_heldRoot se_X3_heldRoot (ci := 3) (lw_i6 hL) (by decide) ⟨_, _, rfl⟩ rfl (by omega) (by omega) (by omega) rfl (Nat.le_of_ble_eq_true rfl) dX10_total_5 ?_
    intro r9 S9 hp9
    obtain ⟨rfl, hS9⟩ := hp9
    obtain rfl := hS9.symm
    rw [hz]
    first | refine a_astore K dX10_total_8 (by decide) ?_ | refine a_astoreN K dX10_total_8 (by decide) ?_
    first | refine a_aload K dX10_total_10 rfl ?_ | refine a_aloadN K dX10_total_10 rfl ?_
    refine a_ifnonnullN K dX10_total_12 ?_
    refine a_ldc K kc_X10_180 dX10_total_15 ?_
    exact a_iret K EE rfl (by omega) (by omega) dX10_total_17 ⟨by unfold aTotal; rw [hz], h, h.X⟩
  | some z =>
    have t := h.tt hP hz
    obtain ⟨h4, h61, -⟩ := t.2.h4 hP.1.1
    refine aw_enter (by decide +kernel) (Nat.le_of_ble_eq_true rfl) (fun g K EE => ?_)
    first | refine a_aload_n K dX10_total_0 rfl ?_ | refine a_aload_nN K dX10_total_0 rfl ?_
    refine a_getRs K fd_X10_46 (lw_i4 hL) (Or.inl ⟨_, rfl⟩) (lw_f646 hL) dX10_total_1 ?_
    refine a_iload_n K dX10_total_4 rfl ?_
    refine a_invV K (m_root h m) my_X3_heldRoot ml_X10_165 im_X3_heldRoot se_X3_heldRoot (ci := 3) (lw_i6 hL) (by decide) ⟨_, _, rfl⟩ rfl (by omega) (by omega) (by omega) rfl (Nat.le_of_ble_eq_true rfl) dX10_total_5 ?_
    intro r9 S9 hp9
    obtain ⟨rfl, hS9⟩ := hp9
    obtain rfl := hS9.symm
    rw [hz]
    first | refine a_astore K dX10_total_8 (by decide) ?_ | refine a_astoreN K dX10_total_8 (by decide) ?_
    first | refine a_aload K dX10_total_10 rfl ?_ | refine a_aloadN K dX10_total_10 rfl ?_
    refine a_ifnonnull K dX10_total_12 (tgt := 18) (by decide) ?_
    first | refine a_aload_n K dX10_total_18 rfl ?_ | refine a_aload_nN K dX10_total_18 rfl ?_
    refine a_getRs K fd_X10_77 (lw_i4 hL) (Or.inl ⟨_, rfl⟩) (lw_f652 hL) dX10_total_19 ?_
    first | refine a_aload K dX10_total_22 rfl ?_ | refine a_aloadN K dX10_total_22 rfl ?_
    refine a_invV K (m_fill25 h hP.1.1 t) my_X7_fill ml_X10_173 im_X7_fill se_X7_fill (ci := 7) (by first | exact lw_i25 hL | exact lw_i28 hL | exact lw_i31 hL) (by decide) ⟨_, _, rfl⟩ rfl (by omega) (by omega) (by omega) rfl (Nat.le_of_ble_eq_true rfl) dX10_total_24 ?_
    intro r9 S9 hp9
    obtain ⟨rfl, hR, h2, k2, f2⟩ := hp9
    have hL := h2.L
    first | refine a_aload_n K dX10_total_27 rfl ?_ | refine a_aload_nN K dX10_total_27 rfl ?_
    refine a_getRs K fd_X10_77 (lw_i4 hL) (Or.inl ⟨_, rfl⟩) (lw_f652 hL) dX10_total_28 ?_
    refine a_iload_n K dX10_total_31 rfl ?_
    refine a_iload_n K dX10_total_32 rfl ?_
    refine a_invV K (m_R_sum (f := f) (t := t0) hR rfl) my_X7_sum ml_X10_189 im_X7_sum se_X7_sum (ci := 7) (by first | exact lw_i25 hL | exact lw_i28 hL | exact lw_i31 hL) (by decide) ⟨_, _, rfl⟩ rfl (by omega) (by omega) (by omega) rfl (Nat.le_of_ble_eq_true rfl) dX10_total_33 ?_
    intro r9 S9 hp9
    obtain ⟨rfl, hS9⟩ := hp9
    obtain rfl := hS9.symm
    exact a_iret K EE rfl (by omega) (by omega) dX10_total_36 ⟨by unfold aTotal; rw [hz], h2, k2⟩
theorem dgT_128 (n : Nat) : ∀ c ∈ dgT n, c < 128 := by
  intro c hc
  unfold dgT at hc
  rcases List.mem_append.mp hc with hc | hc
  · split at hc
    · rw [List.mem_singleton.mp hc]; omega
    · exact absurd hc (by simp)
  · rcases List.mem_append.mp hc with hc | hc
    · split at hc
      · rw [List.mem_singleton.mp hc]; omega
      · exact absurd hc (by simp)
    · rw [List.mem_singleton.mp hc]; omega
theorem nmT_128 (v : Int32) : ∀ c ∈ nmT v, c < 128 := by
  intro c hc
  unfold nmT at hc
  split at hc
  · rcases List.mem_cons.mp hc with rfl | hc
    · decide
    · exact dgT_128 _ c hc
  · exact dgT_128 _ c hc
theorem txB_128 : ∀ (b : Bool) (l : List KV), ∀ c ∈ txB b l, c < 128
  | _, [], c, hc => absurd hc (by simp [txB])
  | b, x :: r, c, hc => by
    have hc2 : c ∈ (if b then [] else [32]) ++ (txE x ++ txB false r) := hc
    rcases List.mem_append.mp hc2 with h | h
    · cases b
      · rw [List.mem_singleton.mp h]; decide
      · exact absurd h (by simp)
    · rcases List.mem_append.mp h with h | h
      · unfold txE at h
        rcases List.mem_append.mp h with h | h
        · exact nmT_128 _ c h
        · rcases List.mem_cons.mp h with rfl | h
          · decide
          · exact nmT_128 _ c h
      · exact txB_128 false r c h
theorem txt_128 : ∀ (h : Nat) (t : Tr h), ∀ c ∈ txt h t, c < 128
  | 0, t, c, hc => by
    have hc2 : c ∈ 91 :: (txB true (ets t) ++ [93]) := hc
    rcases List.mem_cons.mp hc2 with rfl | h
    · decide
    · rcases List.mem_append.mp h with h | h
      · exact txB_128 _ _ c h
      · rw [List.mem_singleton.mp h]; decide
  | h + 1, t, c, hc => by
    have hc2 : c ∈ 40 :: ((kds t).flatMap (txt h) ++ [41]) := hc
    rcases List.mem_cons.mp hc2 with rfl | h2
    · decide
    · rcases List.mem_append.mp h2 with h2 | h2
      · obtain ⟨d, -, hd⟩ := List.mem_flatMap.mp h2
        exact txt_128 h d c hd
      · rw [List.mem_singleton.mp h2]; decide
set_option maxHeartbeats 4000000 in
set_option maxRecDepth 100000 in
theorem c_digest {S : aw_S} {v ad ar : Nat → Nat} {PA : List (Nat × Nat)} {X : List Nat} {mb : Nat} {P : PS} (h : RC S v ad ar PA X mb P) (hP : PI P) {m : Int32} : aw_M yX10_digest cX10_digest 3 (some FieldType.int) 9 0 0 [.ref (v 4), .int m] S (fun r S2 => r = some (.int (aDigest P m)) ∧ RC S2 v ad ar PA X mb P ∧ keepX X S S2) := by
  have hL := h.L
  cases hz : rootP P m with
  | none =>
    refine aw_enter (by decide +kernel) (Nat.le_of_ble_eq_true rfl) (fun g K EE => ?_)
    first | refine a_aload_n K dX10_digest_0 rfl ?_ | refine a_aload_nN K dX10_digest_0 rfl ?_
    refine a_getRs K fd_X10_46 (lw_i4 hL) (Or.inl ⟨_, rfl⟩) (lw_f646 hL) dX10_digest_1 ?_
    refine a_iload_n K dX10_digest_4 rfl ?_
    refine a_invV K (m_root h m) my_X3_heldRoot ml_X10_165 im_X3_heldRoot se_X3_heldRoot (ci := 3) (lw_i6 hL) (by decide) ⟨_, _, rfl⟩ rfl (by omega) (by omega) (by omega) rfl (Nat.le_of_ble_eq_true rfl) dX10_digest_5 ?_
    intro r9 S9 hp9
    obtain ⟨rfl, hS9⟩ := hp9
    obtain rfl := hS9.symm
    rw [hz]
    first | refine a_astore_n K dX10_digest_8 (by decide) ?_ | refine a_astore_nN K dX10_digest_8 (by decide) ?_
    first | refine a_aload_n K dX10_digest_9 rfl ?_ | refine a_aload_nN K dX10_digest_9 rfl ?_
    refine a_ifnonnullN K dX10_digest_10 ?_
    refine a_iconst K dX10_digest_13 (v := -1) (by decide) ?_
    exact a_iret K EE rfl (by omega) (by omega) dX10_digest_14 ⟨by unfold aDigest; rw [hz], h, h.X⟩
  | some z =>
    have t := h.tt hP hz
    obtain ⟨h4, h61, -⟩ := t.2.h4 hP.1.1
    refine aw_enter (by decide +kernel) (Nat.le_of_ble_eq_true rfl) (fun g K EE => ?_)
    first | refine a_aload_n K dX10_digest_0 rfl ?_ | refine a_aload_nN K dX10_digest_0 rfl ?_
    refine a_getRs K fd_X10_46 (lw_i4 hL) (Or.inl ⟨_, rfl⟩) (lw_f646 hL) dX10_digest_1 ?_
    refine a_iload_n K dX10_digest_4 rfl ?_
    refine a_invV K (m_root h m) my_X3_heldRoot ml_X10_165 im_X3_heldRoot se_X3_heldRoot (ci := 3) (lw_i6 hL) (by decide) ⟨_, _, rfl⟩ rfl (by omega) (by omega) (by omega) rfl (Nat.le_of_ble_eq_true rfl) dX10_digest_5 ?_
    intro r9 S9 hp9
    obtain ⟨rfl, hS9⟩ := hp9
    obtain rfl := hS9.symm
    rw [hz]
    first | refine a_astore_n K dX10_digest_8 (by decide) ?_ | refine a_astore_nN K dX10_digest_8 (by decide) ?_
    first | refine a_aload_n K dX10_digest_9 rfl ?_ | refine a_aload_nN K dX10_digest_9 rfl ?_
    refine a_ifnonnull K dX10_digest_10 (tgt := 15) (by decide) ?_
    first | refine a_aload_n K dX10_digest_15 rfl ?_ | refine a_aload_nN K dX10_digest_15 rfl ?_
    refine a_getRs K fd_X10_68 (lw_i4 hL) (Or.inl ⟨_, rfl⟩) (lw_f650 hL) dX10_digest_16 ?_
    first | refine a_aload_n K dX10_digest_19 rfl ?_ | refine a_aload_nN K dX10_digest_19 rfl ?_
    refine a_invV K (m_write21 h hP.1.1 t) my_X8_write ml_X10_405 im_X8_write se_X8_write (ci := 8) (by first | exact lw_i19 hL | exact lw_i21 hL | exact lw_i23 hL) (by decide) ⟨_, _, rfl⟩ rfl (by omega) (by omega) (by omega) rfl (Nat.le_of_ble_eq_true rfl) dX10_digest_20 ?_
    intro r9 S9 hp9
    obtain ⟨rfl, hB, h2, k2, f2⟩ := hp9
    have hL := h2.L
    first | refine a_aload_n K dX10_digest_23 rfl ?_ | refine a_aload_nN K dX10_digest_23 rfl ?_
    refine a_getRs K fd_X10_68 (lw_i4 hL) (Or.inl ⟨_, rfl⟩) (lw_f650 hL) dX10_digest_24 ?_
    refine a_invV K (m_Sh_hashed hB (txt_128 _ _) rfl) my_X8_hashed ml_X10_418 im_X8_hashed se_X8_hashed (ci := 8) (by first | exact lw_i19 hL | exact lw_i21 hL | exact lw_i23 hL) (by decide) ⟨_, _, rfl⟩ rfl (by omega) (by omega) (by omega) rfl (Nat.le_of_ble_eq_true rfl) dX10_digest_27 ?_
    intro r9 S9 hp9
    obtain ⟨rfl, hS9⟩ := hp9
    obtain rfl := hS9.symm
    exact a_iret K EE rfl (by omega) (by omega) dX10_digest_30 ⟨by unfold aDigest; rw [hz], h2, k2⟩
theorem tsw3 {w : Int32} (h0 : ¬ w = 0) (h1 : ¬ w = 1) (h2 : ¬ w = 2) (h3 : ¬ w = 3) : w.toInt < 0 ∨ 3 < w.toInt := by
  rw [i32_eq] at h0 h1 h2 h3
  have e0 : (0 : Int32).toInt = 0 := by decide
  have e1 : (1 : Int32).toInt = 1 := by decide
  have e2 : (2 : Int32).toInt = 2 := by decide
  have e3 : (3 : Int32).toInt = 3 := by decide
  omega
set_option maxHeartbeats 4000000 in
set_option maxRecDepth 100000 in
theorem c_near {S : aw_S} {v ad ar : Nat → Nat} {PA : List (Nat × Nat)} {X : List Nat} {mb : Nat} {P : PS} (h : RC S v ad ar PA X mb P) (hP : PI P) {m k w : Int32} : aw_M yX10_near cX10_near 7 (some FieldType.int) 9 0 0 [.ref (v 4), .int m, .int k, .int w] S (fun r S2 => r = some (.int (aNear P m k w)) ∧ RC S2 v ad ar PA X mb P ∧ keepX X S S2) := by
  have hL := h.L
  cases hz : rootP P m with
  | none =>
    refine aw_enter (by decide +kernel) (Nat.le_of_ble_eq_true rfl) (fun g K EE => ?_)
    first | refine a_aload_n K dX10_near_0 rfl ?_ | refine a_aload_nN K dX10_near_0 rfl ?_
    refine a_getRs K fd_X10_46 (lw_i4 hL) (Or.inl ⟨_, rfl⟩) (lw_f646 hL) dX10_near_1 ?_
    refine a_iload_n K dX10_near_4 rfl ?_
    refine a_invV K (m_root h m) my_X3_heldRoot ml_X10_165 im_X3_heldRoot se_X3_heldRoot (ci := 3) (lw_i6 hL) (by decide) ⟨_, _, rfl⟩ rfl (by omega) (by omega) (by omega) rfl (Nat.le_of_ble_eq_true rfl) dX10_near_5 ?_
    intro r9 S9 hp9
    obtain ⟨rfl, hS9⟩ := hp9
    obtain rfl := hS9.symm
    rw [hz]
    first | refine a_astore K dX10_near_8 (by decide) ?_ | refine a_astoreN K dX10_near_8 (by decide) ?_
    first | refine a_aload K dX10_near_10 rfl ?_ | refine a_aloadN K dX10_near_10 rfl ?_
    refine a_ifnonnullN K dX10_near_12 ?_
    refine a_iconst K dX10_near_15 (v := -1) (by decide) ?_
    exact a_iret K EE rfl (by omega) (by omega) dX10_near_16 ⟨by unfold aNear; rw [hz], h, h.X⟩
  | some z =>
    have t := h.tt hP hz
    obtain ⟨h4, h61, -⟩ := t.2.h4 hP.1.1
    refine aw_enter (by decide +kernel) (Nat.le_of_ble_eq_true rfl) (fun g K EE => ?_)
    first | refine a_aload_n K dX10_near_0 rfl ?_ | refine a_aload_nN K dX10_near_0 rfl ?_
    refine a_getRs K fd_X10_46 (lw_i4 hL) (Or.inl ⟨_, rfl⟩) (lw_f646 hL) dX10_near_1 ?_
    refine a_iload_n K dX10_near_4 rfl ?_
    refine a_invV K (m_root h m) my_X3_heldRoot ml_X10_165 im_X3_heldRoot se_X3_heldRoot (ci := 3) (lw_i6 hL) (by decide) ⟨_, _, rfl⟩ rfl (by omega) (by omega) (by omega) rfl (Nat.le_of_ble_eq_true rfl) dX10_near_5 ?_
    intro r9 S9 hp9
    obtain ⟨rfl, hS9⟩ := hp9
    obtain rfl := hS9.symm
    rw [hz]
    first | refine a_astore K dX10_near_8 (by decide) ?_ | refine a_astoreN K dX10_near_8 (by decide) ?_
    first | refine a_aload K dX10_near_10 rfl ?_ | refine a_aloadN K dX10_near_10 rfl ?_
    refine a_ifnonnull K dX10_near_12 (tgt := 17) (by decide) ?_
    first | refine a_aload_n K dX10_near_17 rfl ?_ | refine a_aload_nN K dX10_near_17 rfl ?_
    refine a_getRs K fd_X10_77 (lw_i4 hL) (Or.inl ⟨_, rfl⟩) (lw_f652 hL) dX10_near_18 ?_
    first | refine a_aload K dX10_near_21 rfl ?_ | refine a_aloadN K dX10_near_21 rfl ?_
    refine a_invV K (m_fill25 h hP.1.1 t) my_X7_fill ml_X10_173 im_X7_fill se_X7_fill (ci := 7) (by first | exact lw_i25 hL | exact lw_i28 hL | exact lw_i31 hL) (by decide) ⟨_, _, rfl⟩ rfl (by omega) (by omega) (by omega) rfl (Nat.le_of_ble_eq_true rfl) dX10_near_23 ?_
    intro r9 S9 hp9
    obtain ⟨rfl, hR, h2, k2, f2⟩ := hp9
    have hL := h2.L
    first | refine a_aload_n K dX10_near_26 rfl ?_ | refine a_aload_nN K dX10_near_26 rfl ?_
    refine a_getRs K fd_X10_77 (lw_i4 hL) (Or.inl ⟨_, rfl⟩) (lw_f652 hL) dX10_near_27 ?_
    refine a_iload_n K dX10_near_30 rfl ?_
    refine a_invV K (m_R_placeOf (key := k) hR t.2.1.2.2.2.1) my_X7_placeOf ml_X10_199 im_X7_placeOf se_X7_placeOf (ci := 7) (by first | exact lw_i25 hL | exact lw_i28 hL | exact lw_i31 hL) (by decide) ⟨_, _, rfl⟩ rfl (by omega) (by omega) (by omega) rfl (Nat.le_of_ble_eq_true rfl) dX10_near_31 ?_
    intro r9 S9 hp9
    obtain ⟨rfl, hS9⟩ := hp9
    obtain rfl := hS9.symm
    have hk61 := kpl_le k (ent z.1 z.2)
    have h60 := t.2.2.2.1
    refine a_istore K dX10_near_34 (by decide) ?_
    first | refine a_aload_n K dX10_near_36 rfl ?_ | refine a_aload_nN K dX10_near_36 rfl ?_
    refine a_getRs K fd_X10_77 (lw_i4 hL) (Or.inl ⟨_, rfl⟩) (lw_f652 hL) dX10_near_37 ?_
    refine a_iload K dX10_near_40 rfl ?_
    refine a_iload_n K dX10_near_42 rfl ?_
    refine a_invV K (m_R_holdsAt (key := k) hR (show kpl (ent z.1 z.2) k < 2 ^ 31 by omega)) my_X7_holdsAt ml_X10_202 im_X7_holdsAt se_X7_holdsAt (ci := 7) (by first | exact lw_i25 hL | exact lw_i28 hL | exact lw_i31 hL) (by decide) ⟨_, _, rfl⟩ rfl (by omega) (by omega) (by omega) rfl (Nat.le_of_ble_eq_true rfl) dX10_near_43 ?_
    intro r9 S9 hp9
    obtain ⟨hS9, hb9⟩ := hp9
    obtain rfl := hS9.symm
    have hbv : ∃ bv : Int32, r9 = some (.int bv) ∧ ((bv = 1 ∧ (kpl (ent z.1 z.2) k < (ent z.1 z.2).length ∧ keyAtL (ent z.1 z.2) (kpl (ent z.1 z.2) k) = k)) ∨ (bv = 0 ∧ ¬ (kpl (ent z.1 z.2) k < (ent z.1 z.2).length ∧ keyAtL (ent z.1 z.2) (kpl (ent z.1 z.2) k) = k))) := hb9.elim (fun y => ⟨1, y.2, Or.inl ⟨rfl, y.1⟩⟩) (fun y => ⟨0, y.2, Or.inr ⟨rfl, y.1⟩⟩)
    obtain ⟨bv, rfl, hbv⟩ := hbv
    refine a_istore K dX10_near_46 (by decide) ?_
    rcases hbv with ⟨rfl, hth⟩ | ⟨rfl, hth⟩
    · by_cases w0 : w = 0
      · subst w0
        refine a_iload_n K dX10_near_48 rfl ?_
        refine a_tsIn K dX10_near_49 (off := 31) (tgt := 80) (by decide) (by decide) rfl (by decide) ?_
        first | refine a_aload_n K dX10_near_80 rfl ?_ | refine a_aload_nN K dX10_near_80 rfl ?_
        refine a_getRs K fd_X10_77 (lw_i4 hL) (Or.inl ⟨_, rfl⟩) (lw_f652 hL) dX10_near_81 ?_
        refine a_iload K dX10_near_84 rfl ?_
        refine a_if_eq K dX10_near_86 (tgt := 94) (by decide) (fun c_86 => absurd c_86 (by decide)) (fun c_86 => ?_)
        refine a_iload K dX10_near_89 rfl ?_
        refine a_goto K dX10_near_91 (tgt := 98) (by decide) ?_
        refine a_invV K (m_R_keyAt (j := kpl (ent z.1 z.2) k) hR (by omega)) my_X7_keyAt ml_X10_139 im_X7_keyAt se_X7_keyAt (ci := 7) (by first | exact lw_i25 hL | exact lw_i28 hL | exact lw_i31 hL) (by decide) ⟨_, _, rfl⟩ rfl (by omega) (by omega) (by omega) rfl (Nat.le_of_ble_eq_true rfl) dX10_near_98 ?_
        intro r9 S9 hp9
        obtain ⟨rfl, hS9⟩ := hp9
        obtain rfl := hS9.symm
        exact a_iret K EE rfl (by omega) (by omega) dX10_near_101 ⟨by unfold aNear; rw [hz]; show some (Value.int _) = some (Value.int (nearE (ent z.1 z.2) k _)); unfold nearE; rw [if_pos rfl, if_pos hth], h2, k2⟩
      · by_cases w1 : w = 1
        · subst w1
          refine a_iload_n K dX10_near_48 rfl ?_
          refine a_tsIn K dX10_near_49 (off := 53) (tgt := 102) (by decide) (by decide) rfl (by decide) ?_
          first | refine a_aload_n K dX10_near_102 rfl ?_ | refine a_aload_nN K dX10_near_102 rfl ?_
          refine a_getRs K fd_X10_77 (lw_i4 hL) (Or.inl ⟨_, rfl⟩) (lw_f652 hL) dX10_near_103 ?_
          refine a_iload K dX10_near_106 rfl ?_
          refine a_invV K (m_R_keyAt (j := kpl (ent z.1 z.2) k) hR (by omega)) my_X7_keyAt ml_X10_139 im_X7_keyAt se_X7_keyAt (ci := 7) (by first | exact lw_i25 hL | exact lw_i28 hL | exact lw_i31 hL) (by decide) ⟨_, _, rfl⟩ rfl (by omega) (by omega) (by omega) rfl (Nat.le_of_ble_eq_true rfl) dX10_near_108 ?_
          intro r9 S9 hp9
          obtain ⟨rfl, hS9⟩ := hp9
          obtain rfl := hS9.symm
          exact a_iret K EE rfl (by omega) (by omega) dX10_near_111 ⟨by unfold aNear; rw [hz]; show some (Value.int _) = some (Value.int (nearE (ent z.1 z.2) k _)); unfold nearE; rw [if_neg (by decide), if_pos rfl], h2, k2⟩
        · by_cases w2 : w = 2
          · subst w2
            cases hk0 : kpl (ent z.1 z.2) k with
            | zero =>
              refine a_iload_n K dX10_near_48 rfl ?_
              refine a_tsIn K dX10_near_49 (off := 63) (tgt := 112) (by decide) (by decide) rfl (by decide) ?_
              first | refine a_aload_n K dX10_near_112 rfl ?_ | refine a_aload_nN K dX10_near_112 rfl ?_
              refine a_getRs K fd_X10_77 (lw_i4 hL) (Or.inl ⟨_, rfl⟩) (lw_f652 hL) dX10_near_113 ?_
              refine a_iload K dX10_near_116 rfl ?_
              refine a_iconst K dX10_near_118 (v := 1) (by decide) ?_
              refine a_isub K dX10_near_119 ?_
              rw [show nI 0 - 1 = -1 from by decide]
              refine a_invV K (m_R_keyAt_m hR) my_X7_keyAt ml_X10_139 im_X7_keyAt se_X7_keyAt (ci := 7) (by first | exact lw_i25 hL | exact lw_i28 hL | exact lw_i31 hL) (by decide) ⟨_, _, rfl⟩ rfl (by omega) (by omega) (by omega) rfl (Nat.le_of_ble_eq_true rfl) dX10_near_120 ?_
              intro r9 S9 hp9
              obtain ⟨rfl, hS9⟩ := hp9
              obtain rfl := hS9.symm
              exact a_iret K EE rfl (by omega) (by omega) dX10_near_123 ⟨by unfold aNear; rw [hz]; show some (Value.int _) = some (Value.int (nearE (ent z.1 z.2) k _)); unfold nearE; rw [if_neg (by decide), if_neg (by decide), if_pos rfl, hk0]; rfl, h2, k2⟩
            | succ q =>
              refine a_iload_n K dX10_near_48 rfl ?_
              refine a_tsIn K dX10_near_49 (off := 63) (tgt := 112) (by decide) (by decide) rfl (by decide) ?_
              first | refine a_aload_n K dX10_near_112 rfl ?_ | refine a_aload_nN K dX10_near_112 rfl ?_
              refine a_getRs K fd_X10_77 (lw_i4 hL) (Or.inl ⟨_, rfl⟩) (lw_f652 hL) dX10_near_113 ?_
              refine a_iload K dX10_near_116 rfl ?_
              refine a_iconst K dX10_near_118 (v := 1) (by decide) ?_
              refine a_isub K dX10_near_119 ?_
              rw [nI_pred]
              refine a_invV K (m_R_keyAt (j := q) hR (by omega)) my_X7_keyAt ml_X10_139 im_X7_keyAt se_X7_keyAt (ci := 7) (by first | exact lw_i25 hL | exact lw_i28 hL | exact lw_i31 hL) (by decide) ⟨_, _, rfl⟩ rfl (by omega) (by omega) (by omega) rfl (Nat.le_of_ble_eq_true rfl) dX10_near_120 ?_
              intro r9 S9 hp9
              obtain ⟨rfl, hS9⟩ := hp9
              obtain rfl := hS9.symm
              exact a_iret K EE rfl (by omega) (by omega) dX10_near_123 ⟨by unfold aNear; rw [hz]; show some (Value.int _) = some (Value.int (nearE (ent z.1 z.2) k _)); unfold nearE; rw [if_neg (by decide), if_neg (by decide), if_pos rfl, hk0]; rfl, h2, k2⟩
          · by_cases w3 : w = 3
            · subst w3
              refine a_iload_n K dX10_near_48 rfl ?_
              refine a_tsIn K dX10_near_49 (off := 75) (tgt := 124) (by decide) (by decide) rfl (by decide) ?_
              first | refine a_aload_n K dX10_near_124 rfl ?_ | refine a_aload_nN K dX10_near_124 rfl ?_
              refine a_getRs K fd_X10_77 (lw_i4 hL) (Or.inl ⟨_, rfl⟩) (lw_f652 hL) dX10_near_125 ?_
              refine a_iload K dX10_near_128 rfl ?_
              refine a_if_eq K dX10_near_130 (tgt := 140) (by decide) (fun c_130 => absurd c_130 (by decide)) (fun c_130 => ?_)
              refine a_iload K dX10_near_133 rfl ?_
              refine a_iconst K dX10_near_135 (v := 1) (by decide) ?_
              refine a_iadd K dX10_near_136 ?_
              rw [nI_1]
              refine a_goto K dX10_near_137 (tgt := 142) (by decide) ?_
              refine a_invV K (m_R_keyAt (j := kpl (ent z.1 z.2) k + 1) hR (by omega)) my_X7_keyAt ml_X10_139 im_X7_keyAt se_X7_keyAt (ci := 7) (by first | exact lw_i25 hL | exact lw_i28 hL | exact lw_i31 hL) (by decide) ⟨_, _, rfl⟩ rfl (by omega) (by omega) (by omega) rfl (Nat.le_of_ble_eq_true rfl) dX10_near_142 ?_
              intro r9 S9 hp9
              obtain ⟨rfl, hS9⟩ := hp9
              obtain rfl := hS9.symm
              exact a_iret K EE rfl (by omega) (by omega) dX10_near_145 ⟨by unfold aNear; rw [hz]; show some (Value.int _) = some (Value.int (nearE (ent z.1 z.2) k _)); unfold nearE; rw [if_neg (by decide), if_neg (by decide), if_neg (by decide), if_pos rfl, if_pos hth], h2, k2⟩
            · have hw : w.toInt < 0 ∨ 3 < w.toInt := tsw3 w0 w1 w2 w3
              refine a_iload_n K dX10_near_48 rfl ?_
              refine a_tsOut K dX10_near_49 (tgt := 146) (hw) (by decide) ?_
              refine a_iconst K dX10_near_146 (v := -1) (by decide) ?_
              exact a_iret K EE rfl (by omega) (by omega) dX10_near_147 ⟨by unfold aNear; rw [hz]; show some (Value.int _) = some (Value.int (nearE (ent z.1 z.2) k _)); unfold nearE; rw [if_neg (fun y => by rw [y] at hw; revert hw; decide), if_neg (fun y => by rw [y] at hw; revert hw; decide), if_neg (fun y => by rw [y] at hw; revert hw; decide), if_neg (fun y => by rw [y] at hw; revert hw; decide)], h2, k2⟩
    · by_cases w0 : w = 0
      · subst w0
        cases hk0 : kpl (ent z.1 z.2) k with
        | zero =>
          refine a_iload_n K dX10_near_48 rfl ?_
          refine a_tsIn K dX10_near_49 (off := 31) (tgt := 80) (by decide) (by decide) rfl (by decide) ?_
          first | refine a_aload_n K dX10_near_80 rfl ?_ | refine a_aload_nN K dX10_near_80 rfl ?_
          refine a_getRs K fd_X10_77 (lw_i4 hL) (Or.inl ⟨_, rfl⟩) (lw_f652 hL) dX10_near_81 ?_
          refine a_iload K dX10_near_84 rfl ?_
          refine a_if_eq K dX10_near_86 (tgt := 94) (by decide) (fun c_86 => ?_) (fun c_86 => absurd c_86 (by decide))
          refine a_iload K dX10_near_94 rfl ?_
          refine a_iconst K dX10_near_96 (v := 1) (by decide) ?_
          refine a_isub K dX10_near_97 ?_
          rw [show nI 0 - 1 = -1 from by decide]
          refine a_invV K (m_R_keyAt_m hR) my_X7_keyAt ml_X10_139 im_X7_keyAt se_X7_keyAt (ci := 7) (by first | exact lw_i25 hL | exact lw_i28 hL | exact lw_i31 hL) (by decide) ⟨_, _, rfl⟩ rfl (by omega) (by omega) (by omega) rfl (Nat.le_of_ble_eq_true rfl) dX10_near_98 ?_
          intro r9 S9 hp9
          obtain ⟨rfl, hS9⟩ := hp9
          obtain rfl := hS9.symm
          exact a_iret K EE rfl (by omega) (by omega) dX10_near_101 ⟨by unfold aNear; rw [hz]; show some (Value.int _) = some (Value.int (nearE (ent z.1 z.2) k _)); unfold nearE; rw [if_pos rfl, if_neg hth, hk0]; rfl, h2, k2⟩
        | succ q =>
          refine a_iload_n K dX10_near_48 rfl ?_
          refine a_tsIn K dX10_near_49 (off := 31) (tgt := 80) (by decide) (by decide) rfl (by decide) ?_
          first | refine a_aload_n K dX10_near_80 rfl ?_ | refine a_aload_nN K dX10_near_80 rfl ?_
          refine a_getRs K fd_X10_77 (lw_i4 hL) (Or.inl ⟨_, rfl⟩) (lw_f652 hL) dX10_near_81 ?_
          refine a_iload K dX10_near_84 rfl ?_
          refine a_if_eq K dX10_near_86 (tgt := 94) (by decide) (fun c_86 => ?_) (fun c_86 => absurd c_86 (by decide))
          refine a_iload K dX10_near_94 rfl ?_
          refine a_iconst K dX10_near_96 (v := 1) (by decide) ?_
          refine a_isub K dX10_near_97 ?_
          rw [nI_pred]
          refine a_invV K (m_R_keyAt (j := q) hR (by omega)) my_X7_keyAt ml_X10_139 im_X7_keyAt se_X7_keyAt (ci := 7) (by first | exact lw_i25 hL | exact lw_i28 hL | exact lw_i31 hL) (by decide) ⟨_, _, rfl⟩ rfl (by omega) (by omega) (by omega) rfl (Nat.le_of_ble_eq_true rfl) dX10_near_98 ?_
          intro r9 S9 hp9
          obtain ⟨rfl, hS9⟩ := hp9
          obtain rfl := hS9.symm
          exact a_iret K EE rfl (by omega) (by omega) dX10_near_101 ⟨by unfold aNear; rw [hz]; show some (Value.int _) = some (Value.int (nearE (ent z.1 z.2) k _)); unfold nearE; rw [if_pos rfl, if_neg hth, hk0]; rfl, h2, k2⟩
      · by_cases w1 : w = 1
        · subst w1
          refine a_iload_n K dX10_near_48 rfl ?_
          refine a_tsIn K dX10_near_49 (off := 53) (tgt := 102) (by decide) (by decide) rfl (by decide) ?_
          first | refine a_aload_n K dX10_near_102 rfl ?_ | refine a_aload_nN K dX10_near_102 rfl ?_
          refine a_getRs K fd_X10_77 (lw_i4 hL) (Or.inl ⟨_, rfl⟩) (lw_f652 hL) dX10_near_103 ?_
          refine a_iload K dX10_near_106 rfl ?_
          refine a_invV K (m_R_keyAt (j := kpl (ent z.1 z.2) k) hR (by omega)) my_X7_keyAt ml_X10_139 im_X7_keyAt se_X7_keyAt (ci := 7) (by first | exact lw_i25 hL | exact lw_i28 hL | exact lw_i31 hL) (by decide) ⟨_, _, rfl⟩ rfl (by omega) (by omega) (by omega) rfl (Nat.le_of_ble_eq_true rfl) dX10_near_108 ?_
          intro r9 S9 hp9
          obtain ⟨rfl, hS9⟩ := hp9
          obtain rfl := hS9.symm
          exact a_iret K EE rfl (by omega) (by omega) dX10_near_111 ⟨by unfold aNear; rw [hz]; show some (Value.int _) = some (Value.int (nearE (ent z.1 z.2) k _)); unfold nearE; rw [if_neg (by decide), if_pos rfl], h2, k2⟩
        · by_cases w2 : w = 2
          · subst w2
            cases hk0 : kpl (ent z.1 z.2) k with
            | zero =>
              refine a_iload_n K dX10_near_48 rfl ?_
              refine a_tsIn K dX10_near_49 (off := 63) (tgt := 112) (by decide) (by decide) rfl (by decide) ?_
              first | refine a_aload_n K dX10_near_112 rfl ?_ | refine a_aload_nN K dX10_near_112 rfl ?_
              refine a_getRs K fd_X10_77 (lw_i4 hL) (Or.inl ⟨_, rfl⟩) (lw_f652 hL) dX10_near_113 ?_
              refine a_iload K dX10_near_116 rfl ?_
              refine a_iconst K dX10_near_118 (v := 1) (by decide) ?_
              refine a_isub K dX10_near_119 ?_
              rw [show nI 0 - 1 = -1 from by decide]
              refine a_invV K (m_R_keyAt_m hR) my_X7_keyAt ml_X10_139 im_X7_keyAt se_X7_keyAt (ci := 7) (by first | exact lw_i25 hL | exact lw_i28 hL | exact lw_i31 hL) (by decide) ⟨_, _, rfl⟩ rfl (by omega) (by omega) (by omega) rfl (Nat.le_of_ble_eq_true rfl) dX10_near_120 ?_
              intro r9 S9 hp9
              obtain ⟨rfl, hS9⟩ := hp9
              obtain rfl := hS9.symm
              exact a_iret K EE rfl (by omega) (by omega) dX10_near_123 ⟨by unfold aNear; rw [hz]; show some (Value.int _) = some (Value.int (nearE (ent z.1 z.2) k _)); unfold nearE; rw [if_neg (by decide), if_neg (by decide), if_pos rfl, hk0]; rfl, h2, k2⟩
            | succ q =>
              refine a_iload_n K dX10_near_48 rfl ?_
              refine a_tsIn K dX10_near_49 (off := 63) (tgt := 112) (by decide) (by decide) rfl (by decide) ?_
              first | refine a_aload_n K dX10_near_112 rfl ?_ | refine a_aload_nN K dX10_near_112 rfl ?_
              refine a_getRs K fd_X10_77 (lw_i4 hL) (Or.inl ⟨_, rfl⟩) (lw_f652 hL) dX10_near_113 ?_
              refine a_iload K dX10_near_116 rfl ?_
              refine a_iconst K dX10_near_118 (v := 1) (by decide) ?_
              refine a_isub K dX10_near_119 ?_
              rw [nI_pred]
              refine a_invV K (m_R_keyAt (j := q) hR (by omega)) my_X7_keyAt ml_X10_139 im_X7_keyAt se_X7_keyAt (ci := 7) (by first | exact lw_i25 hL | exact lw_i28 hL | exact lw_i31 hL) (by decide) ⟨_, _, rfl⟩ rfl (by omega) (by omega) (by omega) rfl (Nat.le_of_ble_eq_true rfl) dX10_near_120 ?_
              intro r9 S9 hp9
              obtain ⟨rfl, hS9⟩ := hp9
              obtain rfl := hS9.symm
              exact a_iret K EE rfl (by omega) (by omega) dX10_near_123 ⟨by unfold aNear; rw [hz]; show some (Value.int _) = some (Value.int (nearE (ent z.1 z.2) k _)); unfold nearE; rw [if_neg (by decide), if_neg (by decide), if_pos rfl, hk0]; rfl, h2, k2⟩
          · by_cases w3 : w = 3
            · subst w3
              refine a_iload_n K dX10_near_48 rfl ?_
              refine a_tsIn K dX10_near_49 (off := 75) (tgt := 124) (by decide) (by decide) rfl (by decide) ?_
              first | refine a_aload_n K dX10_near_124 rfl ?_ | refine a_aload_nN K dX10_near_124 rfl ?_
              refine a_getRs K fd_X10_77 (lw_i4 hL) (Or.inl ⟨_, rfl⟩) (lw_f652 hL) dX10_near_125 ?_
              refine a_iload K dX10_near_128 rfl ?_
              refine a_if_eq K dX10_near_130 (tgt := 140) (by decide) (fun c_130 => ?_) (fun c_130 => absurd c_130 (by decide))
              refine a_iload K dX10_near_140 rfl ?_
              refine a_invV K (m_R_keyAt (j := kpl (ent z.1 z.2) k) hR (by omega)) my_X7_keyAt ml_X10_139 im_X7_keyAt se_X7_keyAt (ci := 7) (by first | exact lw_i25 hL | exact lw_i28 hL | exact lw_i31 hL) (by decide) ⟨_, _, rfl⟩ rfl (by omega) (by omega) (by omega) rfl (Nat.le_of_ble_eq_true rfl) dX10_near_142 ?_
              intro r9 S9 hp9
              obtain ⟨rfl, hS9⟩ := hp9
              obtain rfl := hS9.symm
              exact a_iret K EE rfl (by omega) (by omega) dX10_near_145 ⟨by unfold aNear; rw [hz]; show some (Value.int _) = some (Value.int (nearE (ent z.1 z.2) k _)); unfold nearE; rw [if_neg (by decide), if_neg (by decide), if_neg (by decide), if_pos rfl, if_neg hth], h2, k2⟩
            · have hw : w.toInt < 0 ∨ 3 < w.toInt := tsw3 w0 w1 w2 w3
              refine a_iload_n K dX10_near_48 rfl ?_
              refine a_tsOut K dX10_near_49 (tgt := 146) (hw) (by decide) ?_
              refine a_iconst K dX10_near_146 (v := -1) (by decide) ?_
              exact a_iret K EE rfl (by omega) (by omega) dX10_near_147 ⟨by unfold aNear; rw [hz]; show some (Value.int _) = some (Value.int (nearE (ent z.1 z.2) k _)); unfold nearE; rw [if_neg (fun y => by rw [y] at hw; revert hw; decide), if_neg (fun y => by rw [y] at hw; revert hw; decide), if_neg (fun y => by rw [y] at hw; revert hw; decide), if_neg (fun y => by rw [y] at hw; revert hw; decide)], h2, k2⟩
