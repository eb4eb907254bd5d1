/-! the model: what stands on its tape -/
def TpM (S : aw_S) (m : Nat → Nat) (L : List Int32) : Prop := sI S 706 (m 33) = nI L.length ∧ L.length ≤ 240 ∧ ∀ i x, L[i]? = some x → sA S (m 0) i &&& 255 = x
theorem TpM.fr {S S2 : aw_S} {m : Nat → Nat} {L : List Int32} {ks Fs : List Nat} (h : TpM S m L) (hM : LM S m) (f : frM S S2 m ks Fs) (hk : ∀ k ∈ ks, k < 33) (n0 : 0 ∉ ks) (n6 : 706 ∉ Fs) : TpM S2 m L := ⟨(f.2 _ n6).trans h.1, h.2.1, fun i x hx => by rw [f.A hM hk (by decide) n0]; exact h.2.2 i x hx⟩
theorem isIn_ge {x z : Int64} : ¬ lg_cmp x z < 0 ↔ z ≤ x := by rw [← lg_cmp_ge, Int32.not_lt]
theorem isIn_le {x z : Int64} : ¬ 0 < lg_cmp x z ↔ x ≤ z := by rw [← lg_cmp_le, Int32.not_lt]
set_option maxHeartbeats 4000000 in
set_option maxRecDepth 100000 in
theorem q_isIn {S : aw_S} {x a b : Int64} : aw_M yX11_isIn cX11_isIn 6 (some FieldType.boolean) 0 0 0 [.long x, .long a, .long b] S (fun r S2 => S2 = S ∧ bR (a ≤ x ∧ x ≤ b) r) := by
  refine aw_enter (by decide +kernel) (Nat.le_of_ble_eq_true rfl) (fun g K EE => ?_)
  refine a_lload_n K dX11_isIn_0 rfl ?_
  refine a_lload_n K dX11_isIn_1 rfl ?_
  refine a_lcmp K dX11_isIn_2 ?_
  refine a_if_lt K dX11_isIn_3 (tgt := 17) (by decide) (fun c_3 => ?_) (fun c_3 => ?_)
  · refine a_iconst K dX11_isIn_17 (v := 0) (by decide) ?_
    exact a_iret K EE rfl (by omega) (by omega) dX11_isIn_18 (by first | exact ⟨rfl, Or.inl ⟨⟨isIn_ge.mp c_3, isIn_le.mp c_10⟩, rfl⟩⟩ | exact ⟨rfl, Or.inr ⟨fun z => isIn_le.mpr z.2 c_10, rfl⟩⟩ | exact ⟨rfl, Or.inr ⟨fun z => isIn_ge.mpr z.1 c_3, rfl⟩⟩)
  · refine a_lload_n K dX11_isIn_6 rfl ?_
    refine a_lload K dX11_isIn_7 rfl ?_
    refine a_lcmp K dX11_isIn_9 ?_
    refine a_if_gt K dX11_isIn_10 (tgt := 17) (by decide) (fun c_10 => ?_) (fun c_10 => ?_)
    · refine a_iconst K dX11_isIn_17 (v := 0) (by decide) ?_
      exact a_iret K EE rfl (by omega) (by omega) dX11_isIn_18 (by first | exact ⟨rfl, Or.inl ⟨⟨isIn_ge.mp c_3, isIn_le.mp c_10⟩, rfl⟩⟩ | exact ⟨rfl, Or.inr ⟨fun z => isIn_le.mpr z.2 c_10, rfl⟩⟩ | exact ⟨rfl, Or.inr ⟨fun z => isIn_ge.mpr z.1 c_3, rfl⟩⟩)
    · refine a_iconst K dX11_isIn_13 (v := 1) (by decide) ?_
      refine a_goto K dX11_isIn_14 (tgt := 18) (by decide) ?_
      exact a_iret K EE rfl (by omega) (by omega) dX11_isIn_18 (by first | exact ⟨rfl, Or.inl ⟨⟨isIn_ge.mp c_3, isIn_le.mp c_10⟩, rfl⟩⟩ | exact ⟨rfl, Or.inr ⟨fun z => isIn_le.mpr z.2 c_10, rfl⟩⟩ | exact ⟨rfl, Or.inr ⟨fun z => isIn_ge.mpr z.1 c_3, rfl⟩⟩)
set_option maxHeartbeats 4000000 in
set_option maxRecDepth 100000 in
theorem q_here {S : aw_S} {m : Nat → Nat} (hM : LM S m) {L : List Int32} (hT : TpM S m L) {p : Nat} (hp : p < 2147483000) (ha : sI S 707 (m 33) = nI p) : aw_M yX11_here cX11_here 1 (some FieldType.int) 0 0 0 [.ref (m 33)] S (fun r S2 => r = some (.int (chr L p)) ∧ S2 = S) := by
  have h240 := hT.2.1
  refine aw_enter (by decide +kernel) (Nat.le_of_ble_eq_true rfl) (fun g K EE => ?_)
  by_cases hl : p < L.length
  · first | refine a_aload_n K dX11_here_0 rfl ?_ | refine a_aload_nN K dX11_here_0 rfl ?_
    refine a_getI K fd_X11_130 (by exact lm_o hM) (Or.inl rfl) dX11_here_1 ?_
    rw [ha]
    first | refine a_aload_n K dX11_here_4 rfl ?_ | refine a_aload_nN K dX11_here_4 rfl ?_
    refine a_getI K fd_X11_119 (by exact lm_o hM) (Or.inl rfl) dX11_here_5 ?_
    rw [hT.1]
    refine a_icmp_ge K dX11_here_8 (tgt := 27) (by decide) (fun c_8 => absurd c_8 (nI_ge (a := p) (b := L.length) hl (by omega))) (fun c_8 => ?_)
    first | refine a_aload_n K dX11_here_11 rfl ?_ | refine a_aload_nN K dX11_here_11 rfl ?_
    refine a_getRs K fd_X11_9 (by exact lm_o hM) (Or.inr ⟨_, rfl⟩) (by exact lm_r705 hM) dX11_here_12 ?_
    first | refine a_aload_n K dX11_here_15 rfl ?_ | refine a_aload_nN K dX11_here_15 rfl ?_
    refine a_getI K fd_X11_130 (by exact lm_o hM) (Or.inl rfl) dX11_here_16 ?_
    rw [ha]
    refine a_bald K (by exact lm_kk hM (by decide) (by decide)) (by show vp_in _ (sN S (m 0)); exact lm_ix (z := 240) hM (by decide) (by decide) (show p < 240 by omega) (by decide)) dX11_here_19 ?_
    rw [nI_clamp (by omega)]
    refine a_sipush K dX11_here_20 (v := 255) (by decide) ?_
    refine a_iand K dX11_here_23 ?_
    rw [hT.2.2 p _ (List.getElem?_eq_getElem hl)]
    refine a_goto K dX11_here_24 (tgt := 28) (by decide) ?_
    exact a_iret K EE rfl (by omega) (by omega) dX11_here_28 ⟨by rw [chr_in hl], rfl⟩
  · first | refine a_aload_n K dX11_here_0 rfl ?_ | refine a_aload_nN K dX11_here_0 rfl ?_
    refine a_getI K fd_X11_130 (by exact lm_o hM) (Or.inl rfl) dX11_here_1 ?_
    rw [ha]
    first | refine a_aload_n K dX11_here_4 rfl ?_ | refine a_aload_nN K dX11_here_4 rfl ?_
    refine a_getI K fd_X11_119 (by exact lm_o hM) (Or.inl rfl) dX11_here_5 ?_
    rw [hT.1]
    refine a_icmp_ge K dX11_here_8 (tgt := 27) (by decide) (fun c_8 => ?_) (fun c_8 => absurd c_8 (fun z => z (nI_le (a := L.length) (b := p) (by omega) (by omega))))
    refine a_iconst K dX11_here_27 (v := -1) (by decide) ?_
    exact a_iret K EE rfl (by omega) (by omega) dX11_here_28 ⟨by rw [chr_out (by omega)], rfl⟩
theorem dg_y {x : Int32} (h1 : ¬ x < 48) (h2 : ¬ 57 < x) : isDg x := by
  rw [i32_lt] at h1 h2
  have e1 : (48 : Int32).toInt = 48 := by decide
  have e2 : (57 : Int32).toInt = 57 := by decide
  exact ⟨by omega, by omega⟩
theorem dg_n1 {x : Int32} (h : isDg x) (h1 : x < 48) : False := by
  rw [i32_lt] at h1
  have e1 : (48 : Int32).toInt = 48 := by decide
  have := h.1
  omega
theorem dg_n2 {x : Int32} (h : isDg x) (h1 : 57 < x) : False := by
  rw [i32_lt] at h1
  have e2 : (57 : Int32).toInt = 57 := by decide
  have := h.2
  omega
set_option maxHeartbeats 4000000 in
set_option maxRecDepth 100000 in
theorem q_isDigit {S : aw_S} {m : Nat → Nat} (hM : LM S m) {L : List Int32} (hT : TpM S m L) {p : Nat} (hp : p < 2147483000) (ha : sI S 707 (m 33) = nI p) : aw_M yX11_isDigit cX11_isDigit 1 (some FieldType.boolean) 1 0 0 [.ref (m 33)] S (fun r S2 => S2 = S ∧ bR (isDg (chr L p)) r) := by
  refine aw_enter (by decide +kernel) (Nat.le_of_ble_eq_true rfl) (fun g K EE => ?_)
  first | refine a_aload_n K dX11_isDigit_0 rfl ?_ | refine a_aload_nN K dX11_isDigit_0 rfl ?_
  refine a_invV K (q_here hM hT hp ha) my_X11_here ml_X11_133 im_X11_here se_X11_here (ci := 11) (by exact lm_o hM) (by decide) ⟨_, _, rfl⟩ rfl (by omega) (by omega) (by omega) rfl (Nat.le_of_ble_eq_true rfl) dX11_isDigit_1 ?_
  intro r9 S9 hp9
  obtain ⟨rfl, hS9⟩ := hp9
  obtain rfl := hS9.symm
  refine a_bipush K dX11_isDigit_4 (v := 48) (by decide) ?_
  refine a_icmp_lt K dX11_isDigit_6 (tgt := 22) (by decide) (fun c_6 => ?_) (fun c_6 => ?_)
  · refine a_iconst K dX11_isDigit_22 (v := 0) (by decide) ?_
    exact a_iret K EE rfl (by omega) (by omega) dX11_isDigit_23 (by first | exact ⟨rfl, Or.inl ⟨dg_y c_6 c_15, rfl⟩⟩ | exact ⟨rfl, Or.inr ⟨fun z => dg_n2 z c_15, rfl⟩⟩ | exact ⟨rfl, Or.inr ⟨fun z => dg_n1 z c_6, rfl⟩⟩)
  · first | refine a_aload_n K dX11_isDigit_9 rfl ?_ | refine a_aload_nN K dX11_isDigit_9 rfl ?_
    refine a_invV K (q_here hM hT hp ha) my_X11_here ml_X11_133 im_X11_here se_X11_here (ci := 11) (by exact lm_o hM) (by decide) ⟨_, _, rfl⟩ rfl (by omega) (by omega) (by omega) rfl (Nat.le_of_ble_eq_true rfl) dX11_isDigit_10 ?_
    intro r9 S9 hp9
    obtain ⟨rfl, hS9⟩ := hp9
    obtain rfl := hS9.symm
    refine a_bipush K dX11_isDigit_13 (v := 57) (by decide) ?_
    refine a_icmp_gt K dX11_isDigit_15 (tgt := 22) (by decide) (fun c_15 => ?_) (fun c_15 => ?_)
    · refine a_iconst K dX11_isDigit_22 (v := 0) (by decide) ?_
      exact a_iret K EE rfl (by omega) (by omega) dX11_isDigit_23 (by first | exact ⟨rfl, Or.inl ⟨dg_y c_6 c_15, rfl⟩⟩ | exact ⟨rfl, Or.inr ⟨fun z => dg_n2 z c_15, rfl⟩⟩ | exact ⟨rfl, Or.inr ⟨fun z => dg_n1 z c_6, rfl⟩⟩)
    · refine a_iconst K dX11_isDigit_18 (v := 1) (by decide) ?_
      refine a_goto K dX11_isDigit_19 (tgt := 23) (by decide) ?_
      exact a_iret K EE rfl (by omega) (by omega) dX11_isDigit_23 (by first | exact ⟨rfl, Or.inl ⟨dg_y c_6 c_15, rfl⟩⟩ | exact ⟨rfl, Or.inr ⟨fun z => dg_n2 z c_15, rfl⟩⟩ | exact ⟨rfl, Or.inr ⟨fun z => dg_n1 z c_6, rfl⟩⟩)
set_option maxHeartbeats 4000000 in
set_option maxRecDepth 100000 in
theorem q_fails {S : aw_S} {m : Nat → Nat} (hM : LM S m) {p : Nat} (ha : sI S 707 (m 33) = nI p) (hf : sI S 708 (m 33) = -1) : aw_M yX11_fails cX11_fails 1 (none : Option FieldType) 0 0 0 [.ref (m 33)] S (fun r S2 => r = none ∧ S2 = wI S 708 (m 33) (nI p)) := by
  refine aw_enter (by decide +kernel) (Nat.le_of_ble_eq_true rfl) (fun g K EE => ?_)
  first | refine a_aload_n K dX11_fails_0 rfl ?_ | refine a_aload_nN K dX11_fails_0 rfl ?_
  refine a_getI K fd_X11_137 (by exact lm_o hM) (Or.inl rfl) dX11_fails_1 ?_
  rw [hf]
  refine a_iconst K dX11_fails_4 (v := -1) (by decide) ?_
  refine a_icmp_ne K dX11_fails_5 (tgt := 16) (by decide) (fun c_5 => absurd c_5 (fun z => z rfl)) (fun c_5 => ?_)
  first | refine a_aload_n K dX11_fails_8 rfl ?_ | refine a_aload_nN K dX11_fails_8 rfl ?_
  first | refine a_aload_n K dX11_fails_9 rfl ?_ | refine a_aload_nN K dX11_fails_9 rfl ?_
  refine a_getI K fd_X11_130 (by exact lm_o hM) (Or.inl rfl) dX11_fails_10 ?_
  rw [ha]
  refine a_putI K fd_X11_137 (by exact lm_o hM) rfl dX11_fails_13 ?_
  exact a_vret K EE (by omega) (by omega) dX11_fails_16 ⟨rfl, rfl⟩
set_option maxHeartbeats 4000000 in
set_option maxRecDepth 100000 in
theorem q_look {S : aw_S} {m : Nat → Nat} (hM : LM S m) {L : List Int32} (hT : TpM S m L) {p : Nat} (hp : p < 2147483000) (ha : sI S 707 (m 33) = nI p) : aw_M yX11_look cX11_look 1 (some FieldType.int) 1 0 0 [.ref (m 33)] S (fun r S2 => r = some (.int (chr L (skB L p))) ∧ sI S2 707 (m 33) = nI (skB L p) ∧ frM S S2 m [] [707]) := by
  have h240 := hT.2.1
  obtain ⟨q0, hq0⟩ : ∃ q, skB L p = q := ⟨_, rfl⟩
  rw [hq0]
  refine aw_enter (by decide +kernel) (Nat.le_of_ble_eq_true rfl) (fun g K EE => ?_)
  have loop : ∀ (n p : Nat) (T : aw_S), L.length + 1 - p ≤ n → p < 2147483000 → LM T m → TpM T m L → frM S T m [] [707] → sI T 707 (m 33) = nI p → skB L p = q0 → aw g 1 T 0 0 [(0, .ref (m 33))] [] 0 := by
    intro n
    induction n with
    | zero =>
      intro p T hn hp hM hT f ha hq
      have cb : ¬ chr L p = 32 := by rw [chr_out (by omega)]; decide
      first | refine a_aload_n K dX11_look_0 rfl ?_ | refine a_aload_nN K dX11_look_0 rfl ?_
      refine a_invV K (q_here hM hT hp ha) my_X11_here ml_X11_133 im_X11_here se_X11_here (ci := 11) (by exact lm_o hM) (by decide) ⟨_, _, rfl⟩ rfl (by omega) (by omega) (by omega) rfl (Nat.le_of_ble_eq_true rfl) dX11_look_1 ?_
      intro r9 S9 hp9
      obtain ⟨rfl, hS9⟩ := hp9
      obtain rfl := hS9.symm
      refine a_bipush K dX11_look_4 (v := 32) (by decide) ?_
      refine a_icmp_ne K dX11_look_6 (tgt := 22) (by decide) (fun c_6 => ?_) (fun c_6 => absurd c_6 (cb))
      first | refine a_aload_n K dX11_look_22 rfl ?_ | refine a_aload_nN K dX11_look_22 rfl ?_
      refine a_invV K (q_here hM hT hp ha) my_X11_here ml_X11_133 im_X11_here se_X11_here (ci := 11) (by exact lm_o hM) (by decide) ⟨_, _, rfl⟩ rfl (by omega) (by omega) (by omega) rfl (Nat.le_of_ble_eq_true rfl) dX11_look_23 ?_
      intro r9 S9 hp9
      obtain ⟨rfl, hS9⟩ := hp9
      obtain rfl := hS9.symm
      exact a_iret K EE rfl (by omega) (by omega) dX11_look_26 ⟨by rw [← hq, skB_n cb], by rw [← hq, skB_n cb]; exact ha, f⟩
    | succ n ih =>
      intro p T hn hp hM hT f ha hq
      by_cases cb : chr L p = 32
      · have hin : p < L.length := Classical.byContradiction (fun z => by rw [chr_out (by omega)] at cb; exact absurd cb (by decide))
        first | refine a_aload_n K dX11_look_0 rfl ?_ | refine a_aload_nN K dX11_look_0 rfl ?_
        refine a_invV K (q_here hM hT hp ha) my_X11_here ml_X11_133 im_X11_here se_X11_here (ci := 11) (by exact lm_o hM) (by decide) ⟨_, _, rfl⟩ rfl (by omega) (by omega) (by omega) rfl (Nat.le_of_ble_eq_true rfl) dX11_look_1 ?_
        intro r9 S9 hp9
        obtain ⟨rfl, hS9⟩ := hp9
        obtain rfl := hS9.symm
        refine a_bipush K dX11_look_4 (v := 32) (by decide) ?_
        refine a_icmp_ne K dX11_look_6 (tgt := 22) (by decide) (fun c_6 => absurd c_6 (fun z => z cb)) (fun c_6 => ?_)
        first | refine a_aload_n K dX11_look_9 rfl ?_ | refine a_aload_nN K dX11_look_9 rfl ?_
        refine a_dup K dX11_look_10 rfl ?_
        refine a_getI K fd_X11_130 (by exact lm_o hM) (Or.inl rfl) dX11_look_11 ?_
        rw [ha]
        refine a_iconst K dX11_look_14 (v := 1) (by decide) ?_
        refine a_iadd K dX11_look_15 ?_
        rw [nI_1]
        refine a_putI K fd_X11_130 (by exact lm_o hM) rfl dX11_look_16 ?_
        refine a_goto K dX11_look_19 (tgt := 0) (by decide) ?_
        have f2 : frM T (wI T 707 (m 33) (nI (p + 1))) m [] [707] := frM_wI (by decide) (by decide)
        exact aw_locl rfl (ih (p + 1) _ (by omega) (by omega) (f2.lay hM) (hT.fr hM f2 (by decide) (by decide) (by decide)) (f.tr f2) wI_at (by rw [← hq, skB_y cb]))
      · first | refine a_aload_n K dX11_look_0 rfl ?_ | refine a_aload_nN K dX11_look_0 rfl ?_
        refine a_invV K (q_here hM hT hp ha) my_X11_here ml_X11_133 im_X11_here se_X11_here (ci := 11) (by exact lm_o hM) (by decide) ⟨_, _, rfl⟩ rfl (by omega) (by omega) (by omega) rfl (Nat.le_of_ble_eq_true rfl) dX11_look_1 ?_
        intro r9 S9 hp9
        obtain ⟨rfl, hS9⟩ := hp9
        obtain rfl := hS9.symm
        refine a_bipush K dX11_look_4 (v := 32) (by decide) ?_
        refine a_icmp_ne K dX11_look_6 (tgt := 22) (by decide) (fun c_6 => ?_) (fun c_6 => absurd c_6 (cb))
        first | refine a_aload_n K dX11_look_22 rfl ?_ | refine a_aload_nN K dX11_look_22 rfl ?_
        refine a_invV K (q_here hM hT hp ha) my_X11_here ml_X11_133 im_X11_here se_X11_here (ci := 11) (by exact lm_o hM) (by decide) ⟨_, _, rfl⟩ rfl (by omega) (by omega) (by omega) rfl (Nat.le_of_ble_eq_true rfl) dX11_look_23 ?_
        intro r9 S9 hp9
        obtain ⟨rfl, hS9⟩ := hp9
        obtain rfl := hS9.symm
        exact a_iret K EE rfl (by omega) (by omega) dX11_look_26 ⟨by rw [← hq, skB_n cb], by rw [← hq, skB_n cb]; exact ha, f⟩
  exact aw_locl rfl (loop (L.length + 1) p S (by omega) hp hM hT frM.rf ha hq0)
