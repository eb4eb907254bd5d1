/-- the fault behind a number read -/
def fltN (r : Nat × Option Int32) : Int32 := match r.2 with
  | none => nI r.1
  | some _ => -1
set_option maxHeartbeats 4000000 in
set_option maxRecDepth 100000 in
theorem q_number {S : aw_S} {m : Nat → Nat} (hM0 : LM S m) {L : List Int32} (hT0 : TpM S m L) {p0 q : Nat} (hp0 : p0 < 2147482000) (hq : skB L p0 = q) (hq9 : q < 2147482000) (ha0 : sI S 707 (m 33) = nI p0) (hf0 : sI S 708 (m 33) = -1) : aw_M yX11_number cX11_number 3 (some FieldType.int) 2 0 0 [.ref (m 33)] S (fun r S2 => ∃ w, r = some (.int w) ∧ sI S2 707 (m 33) = nI (numD L false q).1 ∧ sI S2 708 (m 33) = fltN (numD L false q) ∧ (∀ x, (numD L false q).2 = some x → w = x) ∧ frM S S2 m [] [707, 708]) := by
  refine aw_enter (by decide +kernel) (Nat.le_of_ble_eq_true rfl) (fun g K EE => ?_)
  have fin : ∀ (c a p : Nat) (T : aw_S), (a, p) = dgR L 3 q 0 → ¬ p = q → p < 2147483000 → LM T m → TpM T m L → frM S T m [] [707, 708] → sI T 707 (m 33) = nI p → sI T 708 (m 33) = -1 → aw g 3 T 0 0 [(2, .int (nI c)), (1, .int (nI a)), (0, .ref (m 33))] [] 63 := by
    intro c a p T hR hpq hp hM hT f ha hf
    have hR1 : (dgR L 3 q 0).1 = a := by rw [← hR]
    have hR2 : (dgR L 3 q 0).2 = p := by rw [← hR]
    by_cases hd : isDg (chr L p)
    · first | refine a_aload_n K dX11_number_63 rfl ?_ | refine a_aload_nN K dX11_number_63 rfl ?_
      refine a_invV K (q_isDigit hM hT (by omega) ha) my_X11_isDigit ml_X11_143 im_X11_isDigit se_X11_isDigit (ci := 11) (by exact lm_o hM) (by decide) ⟨_, _, rfl⟩ rfl (by omega) (by omega) (by omega) rfl (Nat.le_of_ble_eq_true rfl) dX11_number_64 ?_
      intro r9 S9 hp9
      obtain ⟨hS9, hb9⟩ := hp9
      obtain rfl := hS9.symm
      obtain rfl : r9 = some (.int 1) := hb9.elim (fun z => z.2) (fun z => absurd hd z.1)
      refine a_if_eq K dX11_number_67 (tgt := 74) (by decide) (fun c_67 => absurd c_67 (fun z => absurd z (by decide))) (fun c_67 => ?_)
      first | refine a_aload_n K dX11_number_70 rfl ?_ | refine a_aload_nN K dX11_number_70 rfl ?_
      refine a_invV K (q_fails hM ha hf) my_X11_fails ml_X11_147 im_X11_fails se_X11_fails (ci := 11) (by exact lm_o hM) (by decide) ⟨_, _, rfl⟩ rfl (by omega) (by omega) (by omega) rfl (Nat.le_of_ble_eq_true rfl) dX11_number_71 ?_
      intro r9 S9 hp9
      obtain ⟨rfl, rfl⟩ := hp9
      refine a_iload_n K dX11_number_74 rfl ?_
      exact a_iret K EE rfl (by omega) (by omega) dX11_number_75 (by
        have hD : numD L false q = (p, none) := by unfold numD; rw [hR2, if_pos (Or.inr hd)]
        rw [hD]
        have f2 : frM T (wI T 708 (m 33) (nI p)) m [] [707, 708] := frM_wI (by decide) (by decide)
        exact ⟨_, rfl, by rw [sI_wI, if_neg (fun z => absurd z.1 (by decide))]; exact ha, wI_at, fun x hx => absurd hx (by simp), f.tr f2⟩)
    · first | refine a_aload_n K dX11_number_63 rfl ?_ | refine a_aload_nN K dX11_number_63 rfl ?_
      refine a_invV K (q_isDigit hM hT (by omega) ha) my_X11_isDigit ml_X11_143 im_X11_isDigit se_X11_isDigit (ci := 11) (by exact lm_o hM) (by decide) ⟨_, _, rfl⟩ rfl (by omega) (by omega) (by omega) rfl (Nat.le_of_ble_eq_true rfl) dX11_number_64 ?_
      intro r9 S9 hp9
      obtain ⟨hS9, hb9⟩ := hp9
      obtain rfl := hS9.symm
      obtain rfl : r9 = some (.int 0) := hb9.elim (fun z => absurd z.1 hd) (fun z => z.2)
      refine a_if_eq K dX11_number_67 (tgt := 74) (by decide) (fun c_67 => ?_) (fun c_67 => absurd c_67 (fun z => z rfl))
      refine a_iload_n K dX11_number_74 rfl ?_
      exact a_iret K EE rfl (by omega) (by omega) dX11_number_75 (by
        have hD : numD L false q = (p, some (nI a)) := by unfold numD; rw [hR2, hR1, if_neg (fun z => z.elim hpq hd)]; rfl
        rw [hD]
        exact ⟨_, rfl, ha, hf, fun x hx => Option.some.inj hx, f⟩)
  have loop : ∀ (k c a p : Nat) (x : Int32) (T : aw_S), x = nI c → c + k = 3 → a < 1000 → 10 ^ k * (a + 1) ≤ 1000 → p = q + c → p < 2147483000 → (k = 3 → isDg (chr L p)) → LM T m → TpM T m L → frM S T m [] [707, 708] → sI T 707 (m 33) = nI p → sI T 708 (m 33) = -1 → dgR L k p a = dgR L 3 q 0 → aw g 3 T 0 0 [(2, .int x), (1, .int (nI a)), (0, .ref (m 33))] [] 22 := by
    intro k
    induction k with
    | zero =>
      intro c a p x T hx hc ha9 ha8 hpc hp hk3 hM hT f ha hf hR
      subst hx
      refine a_iload_n K dX11_number_22 rfl ?_
      refine a_iconst K dX11_number_23 (v := 3) (by decide) ?_
      refine a_icmp_ge K dX11_number_24 (tgt := 63) (by decide) (fun c_24 => ?_) (fun c_24 => absurd c_24 (fun z => z (nI_le (a := 3) (b := c) (by omega) (by omega))))
      exact aw_locl rfl (fin c a p T hR (by omega) hp hM hT f ha hf)
    | succ k ih =>
      intro c a p x T hx hc ha9 ha8 hpc hp hk3 hM hT f ha hf hR
      subst hx
      have ha10 : 10 * (10 ^ k * (a + 1)) ≤ 1000 := by rw [Nat.pow_succ] at ha8; rw [← Nat.mul_assoc, Nat.mul_comm 10]; exact ha8
      have hp1 : 0 < 10 ^ k := Nat.pow_pos (by decide)
      have hm1 : a + 1 ≤ 10 ^ k * (a + 1) := Nat.le_mul_of_pos_left _ hp1
      by_cases hd : isDg (chr L p)
      · obtain ⟨d, hd9, ed, ev⟩ := isDg_v hd
        refine a_iload_n K dX11_number_22 rfl ?_
        refine a_iconst K dX11_number_23 (v := 3) (by decide) ?_
        refine a_icmp_ge K dX11_number_24 (tgt := 63) (by decide) (fun c_24 => absurd c_24 (nI_ge (a := c) (b := 3) (by omega) (by omega))) (fun c_24 => ?_)
        first | refine a_aload_n K dX11_number_27 rfl ?_ | refine a_aload_nN K dX11_number_27 rfl ?_
        refine a_invV K (q_isDigit hM hT (by omega) ha) my_X11_isDigit ml_X11_143 im_X11_isDigit se_X11_isDigit (ci := 11) (by exact lm_o hM) (by decide) ⟨_, _, rfl⟩ rfl (by omega) (by omega) (by omega) rfl (Nat.le_of_ble_eq_true rfl) dX11_number_28 ?_
        intro r9 S9 hp9
        obtain ⟨hS9, hb9⟩ := hp9
        obtain rfl := hS9.symm
        obtain rfl : r9 = some (.int 1) := hb9.elim (fun z => z.2) (fun z => absurd hd z.1)
        refine a_if_eq K dX11_number_31 (tgt := 63) (by decide) (fun c_31 => absurd c_31 (fun z => absurd z (by decide))) (fun c_31 => ?_)
        refine a_bipush K dX11_number_34 (v := 10) (by decide) ?_
        refine a_iload_n K dX11_number_36 rfl ?_
        refine a_imul K dX11_number_37 ?_
        first | refine a_aload_n K dX11_number_38 rfl ?_ | refine a_aload_nN K dX11_number_38 rfl ?_
        refine a_invV K (q_here hM hT (by omega) ha) my_X11_here ml_X11_133 im_X11_here se_X11_here (ci := 11) (by exact lm_o hM) (by decide) ⟨_, _, rfl⟩ rfl (by omega) (by omega) (by omega) rfl (Nat.le_of_ble_eq_true rfl) dX11_number_39 ?_
        intro r9 S9 hp9
        obtain ⟨rfl, hS9⟩ := hp9
        obtain rfl := hS9.symm
        rw [ed]
        refine a_iadd K dX11_number_42 ?_
        refine a_bipush K dX11_number_43 (v := 48) (by decide) ?_
        refine a_isub K dX11_number_45 ?_
        rw [show (10 : Int32) * nI a + nI (48 + d) - 48 = nI (10 * a + d) from by rw [show (10 : Int32) = nI 10 from rfl, show (48 : Int32) = nI 48 from rfl, pk_mul, nI_add, nI_sub (by omega), show 10 * a + (48 + d) - 48 = 10 * a + d by omega]]
        refine a_istore_n K dX11_number_46 (by decide) ?_
        first | refine a_aload_n K dX11_number_47 rfl ?_ | refine a_aload_nN K dX11_number_47 rfl ?_
        refine a_dup K dX11_number_48 rfl ?_
        refine a_getI K fd_X11_130 (by exact lm_o hM) (Or.inl rfl) dX11_number_49 ?_
        rw [ha]
        refine a_iconst K dX11_number_52 (v := 1) (by decide) ?_
        refine a_iadd K dX11_number_53 ?_
        rw [nI_1]
        refine a_putI K fd_X11_130 (by exact lm_o hM) rfl dX11_number_54 ?_
        refine a_iinc K dX11_number_57 (v := 1) rfl (by decide) (by decide) ?_
        refine a_goto K dX11_number_60 (tgt := 22) (by decide) ?_
        have f2 : frM T (wI T 707 (m 33) (nI (p + 1))) m [] [707, 708] := frM_wI (by decide) (by decide)
        exact aw_locl rfl (ih (c + 1) (10 * a + d) (p + 1) _ _ (nI_1 c) (by omega) (by omega) (by have h9 : 10 ^ k * (10 * a + d + 1) ≤ 10 ^ k * (10 * (a + 1)) := Nat.mul_le_mul_left _ (by omega); have h8 : 10 ^ k * (10 * (a + 1)) = 10 * (10 ^ k * (a + 1)) := Nat.mul_left_comm _ _ _; omega) (by omega) (by omega) (fun z => by omega) (f2.lay hM) (hT.fr hM f2 (by decide) (by decide) (by decide)) (f.tr f2) wI_at (by rw [sI_wI, if_neg (fun z => absurd z.1 (by decide))]; exact hf) (by rw [← hR, dgR, if_pos hd, ev]))
      · refine a_iload_n K dX11_number_22 rfl ?_
        refine a_iconst K dX11_number_23 (v := 3) (by decide) ?_
        refine a_icmp_ge K dX11_number_24 (tgt := 63) (by decide) (fun c_24 => absurd c_24 (nI_ge (a := c) (b := 3) (by omega) (by omega))) (fun c_24 => ?_)
        first | refine a_aload_n K dX11_number_27 rfl ?_ | refine a_aload_nN K dX11_number_27 rfl ?_
        refine a_invV K (q_isDigit hM hT (by omega) ha) my_X11_isDigit ml_X11_143 im_X11_isDigit se_X11_isDigit (ci := 11) (by exact lm_o hM) (by decide) ⟨_, _, rfl⟩ rfl (by omega) (by omega) (by omega) rfl (Nat.le_of_ble_eq_true rfl) dX11_number_28 ?_
        intro r9 S9 hp9
        obtain ⟨hS9, hb9⟩ := hp9
        obtain rfl := hS9.symm
        obtain rfl : r9 = some (.int 0) := hb9.elim (fun z => absurd z.1 hd) (fun z => z.2)
        refine a_if_eq K dX11_number_31 (tgt := 63) (by decide) (fun c_31 => ?_) (fun c_31 => absurd c_31 (fun z => z rfl))
        exact aw_locl rfl (fin c a p T (by rw [← hR, dgR, if_neg hd]) (fun z => hd (hk3 (by omega))) hp hM hT f ha hf)
  by_cases hd : isDg (chr L q)
  · first | refine a_aload_n K dX11_number_0 rfl ?_ | refine a_aload_nN K dX11_number_0 rfl ?_
    refine a_invV K (q_look hM0 hT0 (by omega) ha0) my_X11_look ml_X11_140 im_X11_look se_X11_look (ci := 11) (by exact lm_o hM0) (by decide) ⟨_, _, rfl⟩ rfl (by omega) (by omega) (by omega) rfl (Nat.le_of_ble_eq_true rfl) dX11_number_1 ?_
    intro r9 S1 hp9
    obtain ⟨rfl, ha, f1⟩ := hp9
    have hM := f1.lay hM0
    have hT := hT0.fr hM0 f1 (by decide) (by decide) (by decide)
    have hf : sI S1 708 (m 33) = -1 := (f1.2 708 (by decide)).trans hf0
    have f : frM S S1 m [] [707, 708] := f1.up (fun _ z => z) (by decide)
    rw [hq] at ha
    refine a_pop K dX11_number_4 rfl ?_
    first | refine a_aload_n K dX11_number_5 rfl ?_ | refine a_aload_nN K dX11_number_5 rfl ?_
    refine a_invV K (q_isDigit hM hT (by omega) ha) my_X11_isDigit ml_X11_143 im_X11_isDigit se_X11_isDigit (ci := 11) (by exact lm_o hM) (by decide) ⟨_, _, rfl⟩ rfl (by omega) (by omega) (by omega) rfl (Nat.le_of_ble_eq_true rfl) dX11_number_6 ?_
    intro r9 S9 hp9
    obtain ⟨hS9, hb9⟩ := hp9
    obtain rfl := hS9.symm
    obtain rfl : r9 = some (.int 1) := hb9.elim (fun z => z.2) (fun z => absurd hd z.1)
    refine a_if_ne K dX11_number_9 (tgt := 18) (by decide) (fun c_9 => ?_) (fun c_9 => absurd c_9 (by decide))
    refine a_iconst K dX11_number_18 (v := 0) (by decide) ?_
    refine a_istore_n K dX11_number_19 (by decide) ?_
    refine a_iconst K dX11_number_20 (v := 0) (by decide) ?_
    refine a_istore_n K dX11_number_21 (by decide) ?_
    exact aw_locl rfl (loop 3 0 0 q _ S1 nI_0.symm (by omega) (by omega) (by decide) (by omega) (by omega) (fun _ => hd) hM hT f ha hf rfl)
  · first | refine a_aload_n K dX11_number_0 rfl ?_ | refine a_aload_nN K dX11_number_0 rfl ?_
    refine a_invV K (q_look hM0 hT0 (by omega) ha0) my_X11_look ml_X11_140 im_X11_look se_X11_look (ci := 11) (by exact lm_o hM0) (by decide) ⟨_, _, rfl⟩ rfl (by omega) (by omega) (by omega) rfl (Nat.le_of_ble_eq_true rfl) dX11_number_1 ?_
    intro r9 S1 hp9
    obtain ⟨rfl, ha, f1⟩ := hp9
    have hM := f1.lay hM0
    have hT := hT0.fr hM0 f1 (by decide) (by decide) (by decide)
    have hf : sI S1 708 (m 33) = -1 := (f1.2 708 (by decide)).trans hf0
    have f : frM S S1 m [] [707, 708] := f1.up (fun _ z => z) (by decide)
    rw [hq] at ha
    refine a_pop K dX11_number_4 rfl ?_
    first | refine a_aload_n K dX11_number_5 rfl ?_ | refine a_aload_nN K dX11_number_5 rfl ?_
    refine a_invV K (q_isDigit hM hT (by omega) ha) my_X11_isDigit ml_X11_143 im_X11_isDigit se_X11_isDigit (ci := 11) (by exact lm_o hM) (by decide) ⟨_, _, rfl⟩ rfl (by omega) (by omega) (by omega) rfl (Nat.le_of_ble_eq_true rfl) dX11_number_6 ?_
    intro r9 S9 hp9
    obtain ⟨hS9, hb9⟩ := hp9
    obtain rfl := hS9.symm
    obtain rfl : r9 = some (.int 0) := hb9.elim (fun z => absurd z.1 hd) (fun z => z.2)
    refine a_if_ne K dX11_number_9 (tgt := 18) (by decide) (fun c_9 => absurd c_9 (fun z => z rfl)) (fun c_9 => ?_)
    first | refine a_aload_n K dX11_number_12 rfl ?_ | refine a_aload_nN K dX11_number_12 rfl ?_
    refine a_invV K (q_fails hM ha hf) my_X11_fails ml_X11_147 im_X11_fails se_X11_fails (ci := 11) (by exact lm_o hM) (by decide) ⟨_, _, rfl⟩ rfl (by omega) (by omega) (by omega) rfl (Nat.le_of_ble_eq_true rfl) dX11_number_13 ?_
    intro r9 S9 hp9
    obtain ⟨rfl, rfl⟩ := hp9
    refine a_iconst K dX11_number_16 (v := 0) (by decide) ?_
    exact a_iret K EE rfl (by omega) (by omega) dX11_number_17 (by
      have hD : numD L false q = (q, none) := by unfold numD; rw [show dgR L 3 q 0 = (0, q) from by rw [dgR, if_neg hd], if_pos (Or.inl rfl)]
      rw [hD]
      have f2 : frM S1 (wI S1 708 (m 33) (nI q)) m [] [707, 708] := frM_wI (by decide) (by decide)
      exact ⟨_, rfl, by rw [sI_wI, if_neg (fun z => absurd z.1 (by decide))]; exact ha, wI_at, fun x hx => absurd hx (by simp), f.tr f2⟩)
theorem numD_sg (L : List Int32) (q : Nat) : numD L true q = ((numD L false q).1, (numD L false q).2.map (fun x => -x)) := by
  unfold numD
  split
  · rfl
  · rfl
theorem fltN_sg (L : List Int32) (q : Nat) : fltN (numD L true q) = fltN (numD L false q) := by
  rw [numD_sg]
  unfold fltN
  cases (numD L false q).2 <;> rfl
theorem skB_dg {L : List Int32} {q : Nat} (h : isDg (chr L q)) : skB L q = q := skB_n (fun z => by
  rw [z] at h
  exact absurd h.1 (by decide))
set_option maxHeartbeats 4000000 in
set_option maxRecDepth 100000 in
theorem q_value {S : aw_S} {m : Nat → Nat} (hM0 : LM S m) {L : List Int32} (hT0 : TpM S m L) {p0 q : Nat} (hp0 : p0 < 2147481000) (hq : skB L p0 = q) (hq9 : q < 2147481000) (ha0 : sI S 707 (m 33) = nI p0) (hf0 : sI S 708 (m 33) = -1) : aw_M yX11_value cX11_value 3 (some FieldType.int) 3 0 0 [.ref (m 33)] S (fun r S2 => ∃ w, r = some (.int w) ∧ sI S2 707 (m 33) = nI (numR L true p0).1 ∧ sI S2 708 (m 33) = fltN (numR L true p0) ∧ (∀ x, (numR L true p0).2 = some x → w = x) ∧ frM S S2 m [] [707, 708]) := by
  refine aw_enter (by decide +kernel) (Nat.le_of_ble_eq_true rfl) (fun g K EE => ?_)
  have hnb : ¬ chr L q = 32 := by rw [← hq]; exact skB_nb L p0
  by_cases hm : chr L q = 45
  · by_cases hd : isDg (chr L (q + 1))
    · first | refine a_aload_n K dX11_value_0 rfl ?_ | refine a_aload_nN K dX11_value_0 rfl ?_
      refine a_invV K (q_look hM0 hT0 (by omega) ha0) my_X11_look ml_X11_140 im_X11_look se_X11_look (ci := 11) (by exact lm_o hM0) (by decide) ⟨_, _, rfl⟩ rfl (by omega) (by omega) (by omega) rfl (Nat.le_of_ble_eq_true rfl) dX11_value_1 ?_
      intro r9 S1 hp9
      obtain ⟨rfl, ha, f1⟩ := hp9
      have hM := f1.lay hM0
      have hT := hT0.fr hM0 f1 (by decide) (by decide) (by decide)
      have hf : sI S1 708 (m 33) = -1 := (f1.2 708 (by decide)).trans hf0
      have f : frM S S1 m [] [707, 708] := f1.up (fun _ z => z) (by decide)
      rw [hq] at ha
      rw [hq]
      refine a_bipush K dX11_value_4 (v := 45) (by decide) ?_
      refine a_icmp_ne K dX11_value_6 (tgt := 13) (by decide) (fun c_6 => absurd c_6 (fun z => z hm)) (fun c_6 => ?_)
      refine a_iconst K dX11_value_9 (v := 1) (by decide) ?_
      refine a_goto K dX11_value_10 (tgt := 14) (by decide) ?_
      refine a_istore_n K dX11_value_14 (by decide) ?_
      refine a_iload_n K dX11_value_15 rfl ?_
      refine a_if_eq K dX11_value_16 (tgt := 29) (by decide) (fun c_16 => absurd c_16 (fun z => absurd z (by decide))) (fun c_16 => ?_)
      first | refine a_aload_n K dX11_value_19 rfl ?_ | refine a_aload_nN K dX11_value_19 rfl ?_
      refine a_dup K dX11_value_20 rfl ?_
      refine a_getI K fd_X11_130 (by exact lm_o hM) (Or.inl rfl) dX11_value_21 ?_
      rw [ha]
      refine a_iconst K dX11_value_24 (v := 1) (by decide) ?_
      refine a_iadd K dX11_value_25 ?_
      rw [nI_1]
      refine a_putI K fd_X11_130 (by exact lm_o hM) rfl dX11_value_26 ?_
      have g1 : frM S1 (wI S1 707 (m 33) (nI (q + 1))) m [] [707, 708] := frM_wI (by decide) (by decide)
      have hM := g1.lay hM
      have hT := hT.fr (S2 := wI S1 707 (m 33) (nI (q + 1))) (f1.lay hM0) g1 (by decide) (by decide) (by decide)
      have ha : sI (wI S1 707 (m 33) (nI (q + 1))) 707 (m 33) = nI (q + 1) := wI_at
      have hf : sI (wI S1 707 (m 33) (nI (q + 1))) 708 (m 33) = -1 := by rw [sI_wI, if_neg (fun z => absurd z.1 (by decide))]; exact hf
      refine a_iload_n K dX11_value_29 rfl ?_
      refine a_if_eq K dX11_value_30 (tgt := 46) (by decide) (fun c_30 => absurd c_30 (fun z => absurd z (by decide))) (fun c_30 => ?_)
      first | refine a_aload_n K dX11_value_33 rfl ?_ | refine a_aload_nN K dX11_value_33 rfl ?_
      refine a_invV K (q_isDigit hM hT (by omega) ha) my_X11_isDigit ml_X11_143 im_X11_isDigit se_X11_isDigit (ci := 11) (by exact lm_o hM) (by decide) ⟨_, _, rfl⟩ rfl (by omega) (by omega) (by omega) rfl (Nat.le_of_ble_eq_true rfl) dX11_value_34 ?_
      intro r9 S9 hp9
      obtain ⟨hS9, hb9⟩ := hp9
      obtain rfl := hS9.symm
      obtain rfl : r9 = some (.int 1) := hb9.elim (fun z => z.2) (fun z => absurd hd z.1)
      refine a_if_ne K dX11_value_37 (tgt := 46) (by decide) (fun c_37 => ?_) (fun c_37 => absurd c_37 (by decide))
      first | refine a_aload_n K dX11_value_46 rfl ?_ | refine a_aload_nN K dX11_value_46 rfl ?_
      refine a_invV K (q_number hM hT (by omega) (skB_dg hd) (by omega) ha hf) my_X11_number ml_X11_150 im_X11_number se_X11_number (ci := 11) (by exact lm_o hM) (by decide) ⟨_, _, rfl⟩ rfl (by omega) (by omega) (by omega) rfl (Nat.le_of_ble_eq_true rfl) dX11_value_47 ?_
      intro r9 S2 hp9
      obtain ⟨w, rfl, a2, b2, c2, f2⟩ := hp9
      refine a_istore_n K dX11_value_50 (by decide) ?_
      refine a_iload_n K dX11_value_51 rfl ?_
      refine a_if_eq K dX11_value_52 (tgt := 60) (by decide) (fun c_52 => absurd c_52 (fun z => absurd z (by decide))) (fun c_52 => ?_)
      refine a_iload_n K dX11_value_55 rfl ?_
      refine a_ineg K dX11_value_56 ?_
      refine a_goto K dX11_value_57 (tgt := 61) (by decide) ?_
      exact a_iret K EE rfl (by omega) (by omega) dX11_value_61 (by
        have hR : numR L true p0 = numD L true (q + 1) := by unfold numR; rw [hq, show sgR L true q = true from by unfold sgR; rw [decide_eq_true hm]; rfl]; rfl
        rw [hR, fltN_sg, numD_sg]
        refine ⟨-w, rfl, a2, b2, fun x hx => ?_, (f.tr g1).tr f2⟩
        cases hy : (numD L false (q + 1)).2 with
        | none => rw [hy] at hx; exact absurd hx (by simp)
        | some y => rw [hy] at hx; rw [c2 y hy]; exact Option.some.inj hx)
    · first | refine a_aload_n K dX11_value_0 rfl ?_ | refine a_aload_nN K dX11_value_0 rfl ?_
      refine a_invV K (q_look hM0 hT0 (by omega) ha0) my_X11_look ml_X11_140 im_X11_look se_X11_look (ci := 11) (by exact lm_o hM0) (by decide) ⟨_, _, rfl⟩ rfl (by omega) (by omega) (by omega) rfl (Nat.le_of_ble_eq_true rfl) dX11_value_1 ?_
      intro r9 S1 hp9
      obtain ⟨rfl, ha, f1⟩ := hp9
      have hM := f1.lay hM0
      have hT := hT0.fr hM0 f1 (by decide) (by decide) (by decide)
      have hf : sI S1 708 (m 33) = -1 := (f1.2 708 (by decide)).trans hf0
      have f : frM S S1 m [] [707, 708] := f1.up (fun _ z => z) (by decide)
      rw [hq] at ha
      rw [hq]
      refine a_bipush K dX11_value_4 (v := 45) (by decide) ?_
      refine a_icmp_ne K dX11_value_6 (tgt := 13) (by decide) (fun c_6 => absurd c_6 (fun z => z hm)) (fun c_6 => ?_)
      refine a_iconst K dX11_value_9 (v := 1) (by decide) ?_
      refine a_goto K dX11_value_10 (tgt := 14) (by decide) ?_
      refine a_istore_n K dX11_value_14 (by decide) ?_
      refine a_iload_n K dX11_value_15 rfl ?_
      refine a_if_eq K dX11_value_16 (tgt := 29) (by decide) (fun c_16 => absurd c_16 (fun z => absurd z (by decide))) (fun c_16 => ?_)
      first | refine a_aload_n K dX11_value_19 rfl ?_ | refine a_aload_nN K dX11_value_19 rfl ?_
      refine a_dup K dX11_value_20 rfl ?_
      refine a_getI K fd_X11_130 (by exact lm_o hM) (Or.inl rfl) dX11_value_21 ?_
      rw [ha]
      refine a_iconst K dX11_value_24 (v := 1) (by decide) ?_
      refine a_iadd K dX11_value_25 ?_
      rw [nI_1]
      refine a_putI K fd_X11_130 (by exact lm_o hM) rfl dX11_value_26 ?_
      have g1 : frM S1 (wI S1 707 (m 33) (nI (q + 1))) m [] [707, 708] := frM_wI (by decide) (by decide)
      have hM := g1.lay hM
      have hT := hT.fr (S2 := wI S1 707 (m 33) (nI (q + 1))) (f1.lay hM0) g1 (by decide) (by decide) (by decide)
      have ha : sI (wI S1 707 (m 33) (nI (q + 1))) 707 (m 33) = nI (q + 1) := wI_at
      have hf : sI (wI S1 707 (m 33) (nI (q + 1))) 708 (m 33) = -1 := by rw [sI_wI, if_neg (fun z => absurd z.1 (by decide))]; exact hf
      refine a_iload_n K dX11_value_29 rfl ?_
      refine a_if_eq K dX11_value_30 (tgt := 46) (by decide) (fun c_30 => absurd c_30 (fun z => absurd z (by decide))) (fun c_30 => ?_)
      first | refine a_aload_n K dX11_value_33 rfl ?_ | refine a_aload_nN K dX11_value_33 rfl ?_
      refine a_invV K (q_isDigit hM hT (by omega) ha) my_X11_isDigit ml_X11_143 im_X11_isDigit se_X11_isDigit (ci := 11) (by exact lm_o hM) (by decide) ⟨_, _, rfl⟩ rfl (by omega) (by omega) (by omega) rfl (Nat.le_of_ble_eq_true rfl) dX11_value_34 ?_
      intro r9 S9 hp9
      obtain ⟨hS9, hb9⟩ := hp9
      obtain rfl := hS9.symm
      obtain rfl : r9 = some (.int 0) := hb9.elim (fun z => absurd z.1 hd) (fun z => z.2)
      refine a_if_ne K dX11_value_37 (tgt := 46) (by decide) (fun c_37 => absurd c_37 (fun z => z rfl)) (fun c_37 => ?_)
      first | refine a_aload_n K dX11_value_40 rfl ?_ | refine a_aload_nN K dX11_value_40 rfl ?_
      refine a_invV K (q_fails hM ha hf) my_X11_fails ml_X11_147 im_X11_fails se_X11_fails (ci := 11) (by exact lm_o hM) (by decide) ⟨_, _, rfl⟩ rfl (by omega) (by omega) (by omega) rfl (Nat.le_of_ble_eq_true rfl) dX11_value_41 ?_
      intro r9 S9 hp9
      obtain ⟨rfl, rfl⟩ := hp9
      refine a_iconst K dX11_value_44 (v := 0) (by decide) ?_
      exact a_iret K EE rfl (by omega) (by omega) dX11_value_45 (by
        have hR : numR L true p0 = numD L true (q + 1) := by unfold numR; rw [hq, show sgR L true q = true from by unfold sgR; rw [decide_eq_true hm]; rfl]; rfl
        have hD : numD L true (q + 1) = (q + 1, none) := by unfold numD; rw [show dgR L 3 (q + 1) 0 = (0, q + 1) from by rw [dgR, if_neg hd], if_pos (Or.inl rfl)]
        rw [hR, hD]
        have f2 : frM (wI S1 707 (m 33) (nI (q + 1))) (wI (wI S1 707 (m 33) (nI (q + 1))) 708 (m 33) (nI (q + 1))) m [] [707, 708] := frM_wI (by decide) (by decide)
        exact ⟨_, rfl, by rw [sI_wI, if_neg (fun z => absurd z.1 (by decide))]; exact ha, wI_at, fun x hx => absurd hx (by simp), (f.tr g1).tr f2⟩)
  · first | refine a_aload_n K dX11_value_0 rfl ?_ | refine a_aload_nN K dX11_value_0 rfl ?_
    refine a_invV K (q_look hM0 hT0 (by omega) ha0) my_X11_look ml_X11_140 im_X11_look se_X11_look (ci := 11) (by exact lm_o hM0) (by decide) ⟨_, _, rfl⟩ rfl (by omega) (by omega) (by omega) rfl (Nat.le_of_ble_eq_true rfl) dX11_value_1 ?_
    intro r9 S1 hp9
    obtain ⟨rfl, ha, f1⟩ := hp9
    have hM := f1.lay hM0
    have hT := hT0.fr hM0 f1 (by decide) (by decide) (by decide)
    have hf : sI S1 708 (m 33) = -1 := (f1.2 708 (by decide)).trans hf0
    have f : frM S S1 m [] [707, 708] := f1.up (fun _ z => z) (by decide)
    rw [hq] at ha
    rw [hq]
    refine a_bipush K dX11_value_4 (v := 45) (by decide) ?_
    refine a_icmp_ne K dX11_value_6 (tgt := 13) (by decide) (fun c_6 => ?_) (fun c_6 => absurd c_6 (hm))
    refine a_iconst K dX11_value_13 (v := 0) (by decide) ?_
    refine a_istore_n K dX11_value_14 (by decide) ?_
    refine a_iload_n K dX11_value_15 rfl ?_
    refine a_if_eq K dX11_value_16 (tgt := 29) (by decide) (fun c_16 => ?_) (fun c_16 => absurd c_16 (fun z => z rfl))
    refine a_iload_n K dX11_value_29 rfl ?_
    refine a_if_eq K dX11_value_30 (tgt := 46) (by decide) (fun c_30 => ?_) (fun c_30 => absurd c_30 (fun z => z rfl))
    first | refine a_aload_n K dX11_value_46 rfl ?_ | refine a_aload_nN K dX11_value_46 rfl ?_
    refine a_invV K (q_number hM hT (by omega) (skB_n hnb) (by omega) ha hf) my_X11_number ml_X11_150 im_X11_number se_X11_number (ci := 11) (by exact lm_o hM) (by decide) ⟨_, _, rfl⟩ rfl (by omega) (by omega) (by omega) rfl (Nat.le_of_ble_eq_true rfl) dX11_value_47 ?_
    intro r9 S2 hp9
    obtain ⟨w, rfl, a2, b2, c2, f2⟩ := hp9
    refine a_istore_n K dX11_value_50 (by decide) ?_
    refine a_iload_n K dX11_value_51 rfl ?_
    refine a_if_eq K dX11_value_52 (tgt := 60) (by decide) (fun c_52 => ?_) (fun c_52 => absurd c_52 (fun z => z rfl))
    refine a_iload_n K dX11_value_60 rfl ?_
    exact a_iret K EE rfl (by omega) (by omega) dX11_value_61 (by
      have hR : numR L true p0 = numD L false q := by unfold numR; rw [hq, show sgR L true q = false from by unfold sgR; rw [decide_eq_false hm]; rfl]; rfl
      rw [hR]
      exact ⟨w, rfl, a2, b2, c2, f.tr f2⟩)
