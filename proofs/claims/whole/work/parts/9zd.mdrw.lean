/-! the model: draws: the field x is a long one, which frS doesn't let change -/
/-- a heap with other long fields -/
def uJ (S : aw_S) (J : Nat → Nat → Int64) : aw_S := (sL S, sK S, sI S, sR S, J, sN S, sA S, sQ S, sB S)
/-- as frS, long fields aside -/
def frD (S S2 : aw_S) (Q : Nat → Prop) : Prop := frS S (uJ S2 (sJ S)) Q
theorem frS.uj {A B : aw_S} {J J2 : Nat → Nat → Int64} {Q : Nat → Prop} (h : frS A (uJ B J) Q) : frS (uJ A J2) (uJ B J2) Q := ⟨h.1, h.2.1, h.2.2.1, h.2.2.2.1, rfl, h.2.2.2.2.2.1, h.2.2.2.2.2.2.1, h.2.2.2.2.2.2.2⟩
theorem frS.d {S S2 : aw_S} {Q : Nat → Prop} (h : frS S S2 Q) : frD S S2 Q := ⟨h.1, h.2.1, h.2.2.1, h.2.2.2.1, rfl, h.2.2.2.2.2.1, h.2.2.2.2.2.2.1, h.2.2.2.2.2.2.2⟩
theorem mQ_trD {S A B : aw_S} {m : Nat → Nat} (h : frD S A (mQ m)) (k : frD A B (mQ m)) : frD S B (mQ m) := mQ_tr h (frS.uj (J := sJ A) k)
theorem frD_wJ {S : aw_S} {F a : Nat} {x : Int64} {Q : Nat → Prop} : frD S (wJ S F a x) Q := ⟨rfl, rfl, rfl, rfl, rfl, rfl, fun _ _ _ => rfl, fun _ _ => ⟨fun _ => rfl, rfl, rfl⟩⟩
theorem RM_wJ {S : aw_S} {m ρ : Nat → Nat} {Z : List Nat × Nat} {mb : Nat} {P : PS} (h : RM S m ρ Z mb P) (F a : Nat) (x : Int64) : RM (wJ S F a x) m ρ Z mb P := by
  obtain ⟨h1, h2, h3, h4, h5, h6, ⟨a1, a2, a3, a4, a5⟩, h8⟩ := h
  exact ⟨h1, h2, h3, h4, h5, h6, ⟨a1, a2, a3, fun z hz => RepM_eq (S := S) (S2 := wJ S F a x) (ρ2 := ρ) rfl rfl rfl rfl rfl z.1 z.2 (a4 z hz), a5⟩, h8⟩
set_option maxHeartbeats 4000000 in
set_option maxRecDepth 100000 in
theorem q_draw4 {S : aw_S} {m ρ : Nat → Nat} {Z : List Nat × Nat} {mb : Nat} {P : PS} (h : RM S m ρ Z mb P) {x : Int64} (hx : sJ S 754 (m 33) = x) : aw_M yX11_draw cX11_draw 2 (some FieldType.int) 0 0 0 [.ref (m 33), .int 4] S (fun r S2 => r = some (.int (drw (sti x) 4)) ∧ RM S2 m ρ Z mb P ∧ frD S S2 (mQ m) ∧ sJ S2 754 (m 33) = sti x) := by
  have hM := h.1
  refine aw_enter (by decide +kernel) (Nat.le_of_ble_eq_true rfl) (fun g K EE => ?_)
  first | refine a_aload_n K dX11_draw_0 rfl ?_ | refine a_aload_nN K dX11_draw_0 rfl ?_
  first | refine a_aload_n K dX11_draw_1 rfl ?_ | refine a_aload_nN K dX11_draw_1 rfl ?_
  refine a_getJ K fd_X11_416 (by exact lm_o hM) rfl dX11_draw_2 ?_
  rw [hx]
  refine a_ldc2 K kc_X11_420 dX11_draw_5 ?_
  refine a_lmul K dX11_draw_8 ?_
  refine a_ldc2 K kc_X11_422 dX11_draw_9 ?_
  refine a_ladd K dX11_draw_12 ?_
  rw [show x * 6364136223846793005 + 1442695040888963407 = sti x from rfl]
  obtain ⟨y, hy⟩ : ∃ y, sti x = y := ⟨_, rfl⟩
  rw [hy]
  have h := RM_wJ h 754 (m 33) y
  have hM := h.1
  refine a_putJ K fd_X11_416 (by exact lm_o hM) rfl dX11_draw_13 ?_
  first | refine a_aload_n K dX11_draw_16 rfl ?_ | refine a_aload_nN K dX11_draw_16 rfl ?_
  refine a_getJ K fd_X11_416 (by exact lm_o hM) rfl dX11_draw_17 ?_
  rw [sJ_wJ, if_pos ⟨rfl, rfl⟩]
  refine a_bipush K dX11_draw_20 (v := 33) (by decide) ?_
  refine a_lushr K dX11_draw_22 ?_
  refine a_iload_n K dX11_draw_23 rfl ?_
  refine a_i2l K dX11_draw_24 ?_
  refine a_lrem K dX11_draw_25 (by decide) ?_
  refine a_l2i K dX11_draw_26 ?_
  exact a_iret K EE rfl (by omega) (by omega) dX11_draw_27 ⟨by rw [hy]; rfl, h, frD_wJ, by rw [hy, sJ_wJ, if_pos ⟨rfl, rfl⟩]⟩
set_option maxHeartbeats 4000000 in
set_option maxRecDepth 100000 in
theorem q_draw100 {S : aw_S} {m ρ : Nat → Nat} {Z : List Nat × Nat} {mb : Nat} {P : PS} (h : RM S m ρ Z mb P) {x : Int64} (hx : sJ S 754 (m 33) = x) : aw_M yX11_draw cX11_draw 2 (some FieldType.int) 0 0 0 [.ref (m 33), .int 100] S (fun r S2 => r = some (.int (drw (sti x) 100)) ∧ RM S2 m ρ Z mb P ∧ frD S S2 (mQ m) ∧ sJ S2 754 (m 33) = sti x) := by
  have hM := h.1
  refine aw_enter (by decide +kernel) (Nat.le_of_ble_eq_true rfl) (fun g K EE => ?_)
  first | refine a_aload_n K dX11_draw_0 rfl ?_ | refine a_aload_nN K dX11_draw_0 rfl ?_
  first | refine a_aload_n K dX11_draw_1 rfl ?_ | refine a_aload_nN K dX11_draw_1 rfl ?_
  refine a_getJ K fd_X11_416 (by exact lm_o hM) rfl dX11_draw_2 ?_
  rw [hx]
  refine a_ldc2 K kc_X11_420 dX11_draw_5 ?_
  refine a_lmul K dX11_draw_8 ?_
  refine a_ldc2 K kc_X11_422 dX11_draw_9 ?_
  refine a_ladd K dX11_draw_12 ?_
  rw [show x * 6364136223846793005 + 1442695040888963407 = sti x from rfl]
  obtain ⟨y, hy⟩ : ∃ y, sti x = y := ⟨_, rfl⟩
  rw [hy]
  have h := RM_wJ h 754 (m 33) y
  have hM := h.1
  refine a_putJ K fd_X11_416 (by exact lm_o hM) rfl dX11_draw_13 ?_
  first | refine a_aload_n K dX11_draw_16 rfl ?_ | refine a_aload_nN K dX11_draw_16 rfl ?_
  refine a_getJ K fd_X11_416 (by exact lm_o hM) rfl dX11_draw_17 ?_
  rw [sJ_wJ, if_pos ⟨rfl, rfl⟩]
  refine a_bipush K dX11_draw_20 (v := 33) (by decide) ?_
  refine a_lushr K dX11_draw_22 ?_
  refine a_iload_n K dX11_draw_23 rfl ?_
  refine a_i2l K dX11_draw_24 ?_
  refine a_lrem K dX11_draw_25 (by decide) ?_
  refine a_l2i K dX11_draw_26 ?_
  exact a_iret K EE rfl (by omega) (by omega) dX11_draw_27 ⟨by rw [hy]; rfl, h, frD_wJ, by rw [hy, sJ_wJ, if_pos ⟨rfl, rfl⟩]⟩
set_option maxHeartbeats 4000000 in
set_option maxRecDepth 100000 in
theorem q_draw19 {S : aw_S} {m ρ : Nat → Nat} {Z : List Nat × Nat} {mb : Nat} {P : PS} (h : RM S m ρ Z mb P) {x : Int64} (hx : sJ S 754 (m 33) = x) : aw_M yX11_draw cX11_draw 2 (some FieldType.int) 0 0 0 [.ref (m 33), .int 19] S (fun r S2 => r = some (.int (drw (sti x) 19)) ∧ RM S2 m ρ Z mb P ∧ frD S S2 (mQ m) ∧ sJ S2 754 (m 33) = sti x) := by
  have hM := h.1
  refine aw_enter (by decide +kernel) (Nat.le_of_ble_eq_true rfl) (fun g K EE => ?_)
  first | refine a_aload_n K dX11_draw_0 rfl ?_ | refine a_aload_nN K dX11_draw_0 rfl ?_
  first | refine a_aload_n K dX11_draw_1 rfl ?_ | refine a_aload_nN K dX11_draw_1 rfl ?_
  refine a_getJ K fd_X11_416 (by exact lm_o hM) rfl dX11_draw_2 ?_
  rw [hx]
  refine a_ldc2 K kc_X11_420 dX11_draw_5 ?_
  refine a_lmul K dX11_draw_8 ?_
  refine a_ldc2 K kc_X11_422 dX11_draw_9 ?_
  refine a_ladd K dX11_draw_12 ?_
  rw [show x * 6364136223846793005 + 1442695040888963407 = sti x from rfl]
  obtain ⟨y, hy⟩ : ∃ y, sti x = y := ⟨_, rfl⟩
  rw [hy]
  have h := RM_wJ h 754 (m 33) y
  have hM := h.1
  refine a_putJ K fd_X11_416 (by exact lm_o hM) rfl dX11_draw_13 ?_
  first | refine a_aload_n K dX11_draw_16 rfl ?_ | refine a_aload_nN K dX11_draw_16 rfl ?_
  refine a_getJ K fd_X11_416 (by exact lm_o hM) rfl dX11_draw_17 ?_
  rw [sJ_wJ, if_pos ⟨rfl, rfl⟩]
  refine a_bipush K dX11_draw_20 (v := 33) (by decide) ?_
  refine a_lushr K dX11_draw_22 ?_
  refine a_iload_n K dX11_draw_23 rfl ?_
  refine a_i2l K dX11_draw_24 ?_
  refine a_lrem K dX11_draw_25 (by decide) ?_
  refine a_l2i K dX11_draw_26 ?_
  exact a_iret K EE rfl (by omega) (by omega) dX11_draw_27 ⟨by rw [hy]; rfl, h, frD_wJ, by rw [hy, sJ_wJ, if_pos ⟨rfl, rfl⟩]⟩
set_option maxHeartbeats 4000000 in
set_option maxRecDepth 100000 in
theorem q_draws {S : aw_S} {m ρ : Nat → Nat} {Z : List Nat × Nat} {mb n9 : Nat} {P : PS} (h0 : RM S m ρ Z mb P) (hJ : PJ n9 P) (hmb : mb + 1 < 2147483000) {i n : Int32} {sd : Int64} : aw_M yX11_draws cX11_draws 11 (some FieldType.int) 10 0 0 [.ref (m 33), .int i, .int n, .long sd] S (fun r S2 => ∃ ρ2 Z2, r = some (.int (bld P i (1 ≤ n.toInt ∧ n.toInt ≤ 30) (drwF P n sd)).1) ∧ RM S2 m ρ2 Z2 (mb + 1) (bld P i (1 ≤ n.toInt ∧ n.toInt ≤ 30) (drwF P n sd)).2 ∧ frD S S2 (mQ m)) := by
  have hP := hJ.1
  have hw3 := hP.1.1
  have hM := h0.1
  have hl9 := hJ.ln
  have hw6 := hP.1.2
  have hpH := hJ.2.2.2.2.2.1.1
  have hc16 := hJ.2.2.2.2.2.1.2.1
  rcases stp_cs (P := P) (i := i) (ok := decide (1 ≤ n.toInt ∧ n.toInt ≤ 30)) with ⟨hA, hv⟩ | ⟨j, hA, hob, hv⟩ | ⟨j, hA, hob, hb, hv⟩ | ⟨j, b, hA, hob, hb, hv⟩
  · refine aw_enter (by decide +kernel) (Nat.le_of_ble_eq_true rfl) (fun g K EE => ?_)
    have hE : bld P i (1 ≤ n.toInt ∧ n.toInt ≤ 30) (drwF P n sd) = (-1, refP P 0) := bld_0 hA
    first | refine a_aload_n K dX11_draws_0 rfl ?_ | refine a_aload_nN K dX11_draws_0 rfl ?_
    refine a_iconst K dX11_draws_1 (v := 0) (by decide) ?_
    refine a_putI K fd_X11_116 (by exact lm_o hM) rfl dX11_draws_2 ?_
    have f0 : frM S (wI S 704 (m 33) 0) m [] [704] := frM_wI (by decide) (by decide)
    obtain ⟨T, hT⟩ : ∃ T, T = wI S 704 (m 33) 0 := ⟨_, rfl⟩
    rw [← hT] at f0 ⊢
    obtain ⟨h, q0⟩ := h0.scr hP f0 (by decide) (by decide)
    have hM := h.1
    first | refine a_aload_n K dX11_draws_5 rfl ?_ | refine a_aload_nN K dX11_draws_5 rfl ?_
    refine a_iload_n K dX11_draws_6 rfl ?_
    refine a_iload_n K dX11_draws_7 rfl ?_
    refine a_i2l K dX11_draws_8 ?_
    refine a_lconst K dX11_draws_9 (v := 1) (by decide) ?_
    refine a_ldc2 K kc_X11_424 dX11_draws_10 ?_
    refine a_invS K (q_inB (p := 1) (q := 30) (by decide) (by decide)) my_X11_isIn ml_X11_174 st_X11_isIn rfl (by omega) (by omega) (by omega) rfl (Nat.le_of_ble_eq_true rfl) dX11_draws_13 ?_
    intro r9 S9 hp9
    obtain ⟨rfl, hS9⟩ := hp9
    obtain rfl := hS9.symm
    refine a_invV K (q_stp (v := nI 0) h hv) my_X11_stops ml_X11_393 im_X11_stops se_X11_stops (ci := 11) (by exact lm_o hM) (by decide) ⟨_, _, rfl⟩ rfl (by omega) (by omega) (by omega) rfl (Nat.le_of_ble_eq_true rfl) dX11_draws_16 ?_
    intro r9 S9 hp9
    obtain ⟨rfl, hS9⟩ := hp9
    obtain rfl := hS9.symm
    refine a_istore K dX11_draws_19 (by decide) ?_
    refine a_iload K dX11_draws_21 rfl ?_
    refine a_iconst K dX11_draws_23 (v := -1) (by decide) ?_
    refine a_icmp_eq K dX11_draws_24 (tgt := 34) (by decide) (fun c_24 => absurd c_24 (by decide)) (fun c_24 => ?_)
    first | refine a_aload_n K dX11_draws_27 rfl ?_ | refine a_aload_nN K dX11_draws_27 rfl ?_
    refine a_iload K dX11_draws_28 rfl ?_
    refine a_invV K (q_refP h (k := 0) (by decide)) my_X11_refused ml_X11_292 im_X11_refused se_X11_refused (ci := 11) (by exact lm_o hM) (by decide) ⟨_, _, rfl⟩ rfl (by omega) (by omega) (by omega) rfl (Nat.le_of_ble_eq_true rfl) dX11_draws_30 ?_
    intro r9 S9 hp9
    obtain ⟨rfl, hR, qR⟩ := hp9
    exact a_iret K EE rfl (by omega) (by omega) dX11_draws_33 ⟨ρ, Z, by rw [hE], by rw [hE]; exact hR.up (Nat.le_succ mb) (by omega), (mQ_tr q0 qR).d⟩
  · refine aw_enter (by decide +kernel) (Nat.le_of_ble_eq_true rfl) (fun g K EE => ?_)
    have hE : bld P i (1 ≤ n.toInt ∧ n.toInt ≤ 30) (drwF P n sd) = (-1, refP P 1) := bld_1 hA (of_decide_eq_false hob)
    first | refine a_aload_n K dX11_draws_0 rfl ?_ | refine a_aload_nN K dX11_draws_0 rfl ?_
    refine a_iconst K dX11_draws_1 (v := 0) (by decide) ?_
    refine a_putI K fd_X11_116 (by exact lm_o hM) rfl dX11_draws_2 ?_
    have f0 : frM S (wI S 704 (m 33) 0) m [] [704] := frM_wI (by decide) (by decide)
    obtain ⟨T, hT⟩ : ∃ T, T = wI S 704 (m 33) 0 := ⟨_, rfl⟩
    rw [← hT] at f0 ⊢
    obtain ⟨h, q0⟩ := h0.scr hP f0 (by decide) (by decide)
    have hM := h.1
    first | refine a_aload_n K dX11_draws_5 rfl ?_ | refine a_aload_nN K dX11_draws_5 rfl ?_
    refine a_iload_n K dX11_draws_6 rfl ?_
    refine a_iload_n K dX11_draws_7 rfl ?_
    refine a_i2l K dX11_draws_8 ?_
    refine a_lconst K dX11_draws_9 (v := 1) (by decide) ?_
    refine a_ldc2 K kc_X11_424 dX11_draws_10 ?_
    refine a_invS K (q_inB (p := 1) (q := 30) (by decide) (by decide)) my_X11_isIn ml_X11_174 st_X11_isIn rfl (by omega) (by omega) (by omega) rfl (Nat.le_of_ble_eq_true rfl) dX11_draws_13 ?_
    intro r9 S9 hp9
    obtain ⟨rfl, hS9⟩ := hp9
    obtain rfl := hS9.symm
    refine a_invV K (q_stp (v := nI 1) h hv) my_X11_stops ml_X11_393 im_X11_stops se_X11_stops (ci := 11) (by exact lm_o hM) (by decide) ⟨_, _, rfl⟩ rfl (by omega) (by omega) (by omega) rfl (Nat.le_of_ble_eq_true rfl) dX11_draws_16 ?_
    intro r9 S9 hp9
    obtain ⟨rfl, hS9⟩ := hp9
    obtain rfl := hS9.symm
    refine a_istore K dX11_draws_19 (by decide) ?_
    refine a_iload K dX11_draws_21 rfl ?_
    refine a_iconst K dX11_draws_23 (v := -1) (by decide) ?_
    refine a_icmp_eq K dX11_draws_24 (tgt := 34) (by decide) (fun c_24 => absurd c_24 (by decide)) (fun c_24 => ?_)
    first | refine a_aload_n K dX11_draws_27 rfl ?_ | refine a_aload_nN K dX11_draws_27 rfl ?_
    refine a_iload K dX11_draws_28 rfl ?_
    refine a_invV K (q_refP h (k := 1) (by decide)) my_X11_refused ml_X11_292 im_X11_refused se_X11_refused (ci := 11) (by exact lm_o hM) (by decide) ⟨_, _, rfl⟩ rfl (by omega) (by omega) (by omega) rfl (Nat.le_of_ble_eq_true rfl) dX11_draws_30 ?_
    intro r9 S9 hp9
    obtain ⟨rfl, hR, qR⟩ := hp9
    exact a_iret K EE rfl (by omega) (by omega) dX11_draws_33 ⟨ρ, Z, by rw [hE], by rw [hE]; exact hR.up (Nat.le_succ mb) (by omega), (mQ_tr q0 qR).d⟩
  · refine aw_enter (by decide +kernel) (Nat.le_of_ble_eq_true rfl) (fun g K EE => ?_)
    have hE : bld P i (1 ≤ n.toInt ∧ n.toInt ≤ 30) (drwF P n sd) = (-1, refP P 2) := bld_2 hA (of_decide_eq_true hob) hb
    first | refine a_aload_n K dX11_draws_0 rfl ?_ | refine a_aload_nN K dX11_draws_0 rfl ?_
    refine a_iconst K dX11_draws_1 (v := 0) (by decide) ?_
    refine a_putI K fd_X11_116 (by exact lm_o hM) rfl dX11_draws_2 ?_
    have f0 : frM S (wI S 704 (m 33) 0) m [] [704] := frM_wI (by decide) (by decide)
    obtain ⟨T, hT⟩ : ∃ T, T = wI S 704 (m 33) 0 := ⟨_, rfl⟩
    rw [← hT] at f0 ⊢
    obtain ⟨h, q0⟩ := h0.scr hP f0 (by decide) (by decide)
    have hM := h.1
    first | refine a_aload_n K dX11_draws_5 rfl ?_ | refine a_aload_nN K dX11_draws_5 rfl ?_
    refine a_iload_n K dX11_draws_6 rfl ?_
    refine a_iload_n K dX11_draws_7 rfl ?_
    refine a_i2l K dX11_draws_8 ?_
    refine a_lconst K dX11_draws_9 (v := 1) (by decide) ?_
    refine a_ldc2 K kc_X11_424 dX11_draws_10 ?_
    refine a_invS K (q_inB (p := 1) (q := 30) (by decide) (by decide)) my_X11_isIn ml_X11_174 st_X11_isIn rfl (by omega) (by omega) (by omega) rfl (Nat.le_of_ble_eq_true rfl) dX11_draws_13 ?_
    intro r9 S9 hp9
    obtain ⟨rfl, hS9⟩ := hp9
    obtain rfl := hS9.symm
    refine a_invV K (q_stp (v := nI 2) h hv) my_X11_stops ml_X11_393 im_X11_stops se_X11_stops (ci := 11) (by exact lm_o hM) (by decide) ⟨_, _, rfl⟩ rfl (by omega) (by omega) (by omega) rfl (Nat.le_of_ble_eq_true rfl) dX11_draws_16 ?_
    intro r9 S9 hp9
    obtain ⟨rfl, hS9⟩ := hp9
    obtain rfl := hS9.symm
    refine a_istore K dX11_draws_19 (by decide) ?_
    refine a_iload K dX11_draws_21 rfl ?_
    refine a_iconst K dX11_draws_23 (v := -1) (by decide) ?_
    refine a_icmp_eq K dX11_draws_24 (tgt := 34) (by decide) (fun c_24 => absurd c_24 (by decide)) (fun c_24 => ?_)
    first | refine a_aload_n K dX11_draws_27 rfl ?_ | refine a_aload_nN K dX11_draws_27 rfl ?_
    refine a_iload K dX11_draws_28 rfl ?_
    refine a_invV K (q_refP h (k := 2) (by decide)) my_X11_refused ml_X11_292 im_X11_refused se_X11_refused (ci := 11) (by exact lm_o hM) (by decide) ⟨_, _, rfl⟩ rfl (by omega) (by omega) (by omega) rfl (Nat.le_of_ble_eq_true rfl) dX11_draws_30 ?_
    intro r9 S9 hp9
    obtain ⟨rfl, hR, qR⟩ := hp9
    exact a_iret K EE rfl (by omega) (by omega) dX11_draws_33 ⟨ρ, Z, by rw [hE], by rw [hE]; exact hR.up (Nat.le_succ mb) (by omega), (mQ_tr q0 qR).d⟩
  · obtain ⟨rfl, hj⟩ := bAt_some hA
    obtain ⟨z, t, f⟩ := b
    have hbl := bui_live hj hb
    have tz := hP.tz hbl
    have h4z := tz.h4 hw3
    have htk : t < pTk P := (hP.2.2.1 j _ hb).2.2.1
    have hx := of_decide_eq_true hob
    have hE : bld P (nI j) (1 ≤ n.toInt ∧ n.toInt ≤ 30) (drwF P n sd) = drwF P n sd j (z, t, f) := bld_9 hA hx hb
    rw [hE]
    obtain ⟨N, hN, rfl⟩ := nI_of (x := n) (by rw [i32_lt]; show ¬ n.toInt < 0; omega)
    unfold drwF
    rw [nI_clamp hN]
    have hxN := hx
    rw [nI_toInt hN] at hxN
    have hs0 : stc (6 * N) (pW P) (pTk P) t (z, pU P) (drwE (pW P) t N sd (z, pU P)) := drwE_stc hw3 htk N sd (z, pU P) tz
    have hs1 := hs0.le hw3 tz
    obtain ⟨F, hF⟩ : ∃ F, setT P j (drwE (pW P) t N sd (z, pU P)) t f = F := ⟨_, rfl⟩
    have hUF : (drwE (pW P) t N sd (z, pU P)).2 = pU F := congrArg pU hF
    have hMF : pMd F - pMd P = nI (pU F - pU P) := by
      rw [← hF]
      show pMd P + nI _ - pMd P = _
      rw [md_sub]
      rfl
    rw [hUF] at hs1
    have hs2 : pU F ≤ pU P + 61 + 6 * N := hs1
    show aw_M _ _ _ _ _ _ _ _ _ (fun r S2 => ∃ ρ2 Z2, r = some (.int (nI ((drwE (pW P) t N sd (z, pU P)).2 - pU P))) ∧ RM S2 m ρ2 Z2 (mb + 1) (setT P j (drwE (pW P) t N sd (z, pU P)) t f) ∧ frD S S2 (mQ m))
    rw [hUF, hF]
    obtain ⟨P0, hP0⟩ : ∃ P0, P0 = P := ⟨_, rfl⟩
    subst hP0
    refine aw_enter (by decide +kernel) (Nat.le_of_ble_eq_true rfl) (fun g K EE => ?_)
    have loop : ∀ (i jj : Nat) (x : Int32) (sd : Int64) (T : aw_S) (ρ : Nat → Nat) (Z : List Nat × Nat) (P : PS) (z : Tz), x = nI jj → jj + i = N → sJ T 754 (m 33) = sd → RM T m ρ Z (mb + 1) P → PI P → pB P j = some (z, t, f) → frD S T (mQ m) → setT P j (drwE (pW P) t i sd (z, pU P)) t f = F → 100 + (pU F - pU P) ≤ rmM Z → aw g 11 T 0 0 [(7, .int x), (6, .int (pMd P0)), (2, .int (nI N)), (1, .int (nI j)), (0, .ref (m 33))] [] 52 := by
      intro i
      induction i with
      | zero =>
        intro jj x sd T ρ Z P z hxx hi hsd h hP hb hfr hF hrm
        subst hxx
        have hM := h.1
        have hw3 := hP.1.1
        have hw6 := hP.1.2
        have hbl := bui_live hj hb
        have tz := hP.tz hbl
        have h4z := tz.h4 hw3
        have htk := (hP.2.2.1 j _ hb).2.2.1
        have htk9 := hP.2.2.2
        refine a_iload K dX11_draws_52 rfl ?_
        refine a_iload_n K dX11_draws_54 rfl ?_
        refine a_icmp_ge K dX11_draws_55 (tgt := 170) (by decide) (fun c_55 => ?_) (fun c_55 => absurd c_55 (fun q => q (nI_le (by omega) (by omega))))
        first | refine a_aload_n K dX11_draws_170 rfl ?_ | refine a_aload_nN K dX11_draws_170 rfl ?_
        refine a_getI K fd_X11_190 (by exact lm_o hM) (Or.inl rfl) dX11_draws_171 ?_
        rw [h.N.2.2.2.2]
        refine a_iload K dX11_draws_174 rfl ?_
        refine a_isub K dX11_draws_176 ?_
        exact a_iret K EE rfl (by omega) (by omega) dX11_draws_177 (by have e9 : P = F := (setT_self hb).symm.trans ((congrArg (fun q => setT P j q t f) (drwE_zero _ _ _ _).symm).trans hF); subst e9; exact ⟨ρ, Z, by rw [hMF], h, hfr⟩)
      | succ i ih =>
        intro jj x sd T ρ Z P z hxx hi hsd h hP hb hfr hF hrm
        subst hxx
        have hM := h.1
        have hw3 := hP.1.1
        have hw6 := hP.1.2
        have hbl := bui_live hj hb
        have tz := hP.tz hbl
        have h4z := tz.h4 hw3
        have htk := (hP.2.2.1 j _ hb).2.2.1
        have htk9 := hP.2.2.2
        obtain ⟨R, hR9⟩ : ∃ R, drwS (pW P) t sd (z, pU P) = R := ⟨_, rfl⟩
        have st2 := drwS_stc (sd := sd) (s := (z, pU P)) hw3 tz htk
        rw [hR9] at st2
        have st3 := drwE_stc hw3 htk i (sti3 sd) R st2.1
        rw [drwE_succ, hR9] at hF
        have hfu : (drwE (pW P) t i (sti3 sd) R).2 = pU F := congrArg pU hF
        have hu1 := st2.2.1
        have hu2 := st3.2.1
        rw [hfu] at hu2
        have hu1 : pU P ≤ R.2 := hu1
        refine a_iload K dX11_draws_52 rfl ?_
        refine a_iload_n K dX11_draws_54 rfl ?_
        refine a_icmp_ge K dX11_draws_55 (tgt := 170) (by decide) (fun c_55 => absurd c_55 (nI_ge (by omega) (by omega))) (fun c_55 => ?_)
        first | refine a_aload_n K dX11_draws_58 rfl ?_ | refine a_aload_nN K dX11_draws_58 rfl ?_
        refine a_iconst K dX11_draws_59 (v := 4) (by decide) ?_
        refine a_invV K (q_draw4 h hsd) my_X11_draw ml_X11_426 im_X11_draw se_X11_draw (ci := 11) (by exact lm_o hM) (by decide) ⟨_, _, rfl⟩ rfl (by omega) (by omega) (by omega) rfl (Nat.le_of_ble_eq_true rfl) dX11_draws_60 ?_
        intro r9 S1 hp9
        obtain ⟨rfl, h1, f1, j1⟩ := hp9
        have hM := h1.1
        refine a_istore K dX11_draws_63 (by decide) ?_
        first | refine a_aload_n K dX11_draws_65 rfl ?_ | refine a_aload_nN K dX11_draws_65 rfl ?_
        refine a_bipush K dX11_draws_66 (v := 100) (by decide) ?_
        refine a_invV K (q_draw100 h1 j1) my_X11_draw ml_X11_426 im_X11_draw se_X11_draw (ci := 11) (by exact lm_o hM) (by decide) ⟨_, _, rfl⟩ rfl (by omega) (by omega) (by omega) rfl (Nat.le_of_ble_eq_true rfl) dX11_draws_68 ?_
        intro r9 S2 hp9
        obtain ⟨rfl, h2, f2, j2⟩ := hp9
        have hM := h2.1
        refine a_istore K dX11_draws_71 (by decide) ?_
        first | refine a_aload_n K dX11_draws_73 rfl ?_ | refine a_aload_nN K dX11_draws_73 rfl ?_
        refine a_bipush K dX11_draws_74 (v := 19) (by decide) ?_
        refine a_invV K (q_draw19 h2 j2) my_X11_draw ml_X11_426 im_X11_draw se_X11_draw (ci := 11) (by exact lm_o hM) (by decide) ⟨_, _, rfl⟩ rfl (by omega) (by omega) (by omega) rfl (Nat.le_of_ble_eq_true rfl) dX11_draws_76 ?_
        intro r9 S3 hp9
        obtain ⟨rfl, h3, f3, j3⟩ := hp9
        have hM := h3.1
        refine a_bipush K dX11_draws_79 (v := 9) (by decide) ?_
        refine a_isub K dX11_draws_81 ?_
        refine a_istore K dX11_draws_82 (by decide) ?_
        refine a_iload K dX11_draws_84 rfl ?_
        refine a_iconst K dX11_draws_86 (v := 3) (by decide) ?_
        refine a_icmp_ne K dX11_draws_87 (tgt := 117) (by decide) (fun c_87 => ?_) (fun c_87 => ?_)
        · have w3 : ¬ drw (sti sd) 4 = 3 := c_87
          first | refine a_aload_n K dX11_draws_117 rfl ?_ | refine a_aload_nN K dX11_draws_117 rfl ?_
          refine a_iload_n K dX11_draws_118 rfl ?_
          refine a_iload K dX11_draws_119 rfl ?_
          refine a_invV K (q_canPut h3 hP hb hj (k := (drw (sti (sti sd)) 100))) my_X11_canPut ml_X11_397 im_X11_canPut se_X11_canPut (ci := 11) (by exact lm_o hM) (by decide) ⟨_, _, rfl⟩ rfl (by omega) (by omega) (by omega) rfl (Nat.le_of_ble_eq_true rfl) dX11_draws_121 ?_
          intro r9 S4 hp9
          obtain ⟨hcp, h4, q4⟩ := hp9
          have hM := h4.1
          rcases hcp with ⟨b_121, rfl⟩ | ⟨b_121, rfl⟩
          · refine a_if_eq K dX11_draws_124 (tgt := 145) (by decide) (fun z => absurd z (by decide)) (fun _ => ?_)
            refine a_iload K dX11_draws_127 rfl ?_
            refine a_iconst K dX11_draws_129 (v := 2) (by decide) ?_
            refine a_icmp_ne K dX11_draws_130 (tgt := 145) (by decide) (fun c_130 => ?_) (fun c_130 => ?_)
            · have w2 : ¬ drw (sti sd) 4 = 2 := c_130
              first | refine a_aload_n K dX11_draws_145 rfl ?_ | refine a_aload_nN K dX11_draws_145 rfl ?_
              refine a_iload_n K dX11_draws_146 rfl ?_
              refine a_iload K dX11_draws_147 rfl ?_
              refine a_invV K ((q_canPut h4 hP hb hj (k := (drw (sti (sti sd)) 100))).post (fun r S2 hp => (⟨bR_y b_121 hp.1, hp.2⟩ : r = some (.int 1) ∧ RM S2 m ρ Z (mb + 1) P ∧ frS S4 S2 (mQ m)))) my_X11_canPut ml_X11_397 im_X11_canPut se_X11_canPut (ci := 11) (by exact lm_o hM) (by decide) ⟨_, _, rfl⟩ rfl (by omega) (by omega) (by omega) rfl (Nat.le_of_ble_eq_true rfl) dX11_draws_149 ?_
              intro r9 S5 hp9
              obtain ⟨rfl, h5, q5⟩ := hp9
              have hM := h5.1
              refine a_if_eq K dX11_draws_152 (tgt := 164) (by decide) (fun c_152 => absurd c_152 (by decide)) (fun c_152 => ?_)
              have w1 : ¬ 1 < drw (sti sd) 4 := by
                obtain ⟨q, hq, e⟩ := drw_n (sti sd) (k := 4) (by decide) (by decide)
                rw [show drw (sti sd) 4 = nI q from e] at w2 w3 ⊢
                have h9 : ∀ q, q < 4 → ¬ nI q = 2 → ¬ nI q = 3 → ¬ 1 < nI q := by decide +kernel
                exact h9 q hq w2 w3
              have hstep : putT (pW P) t (pU P) (drw (sti (sti sd)) 100) (drw (sti (sti (sti sd))) 19 - 9) z = R := by
                rw [← hR9]
                unfold drwS
                rw [if_neg w1]
                exact (if_pos b_121.symm).symm
              first | refine a_aload_n K dX11_draws_155 rfl ?_ | refine a_aload_nN K dX11_draws_155 rfl ?_
              refine a_iload_n K dX11_draws_156 rfl ?_
              refine a_iload K dX11_draws_157 rfl ?_
              refine a_iload K dX11_draws_159 rfl ?_
              refine a_invV K (q_bPutsR h5 hP hb hj (by omega)) my_X11_builderPuts ml_X11_384 im_X11_builderPuts se_X11_builderPuts (ci := 11) (by exact lm_o hM) (by decide) ⟨_, _, rfl⟩ rfl (by omega) (by omega) (by omega) rfl (Nat.le_of_ble_eq_true rfl) dX11_draws_161 ?_
              intro r9 S6 hp9
              obtain ⟨ρ3, Z3, rfl, hF9, q6, o3, r3⟩ := hp9
              rw [show putT (pW P) t (pU P) (drw (sti (sti sd)) 100) (drw (sti (sti (sti sd))) 19 - 9) z = R from hstep] at hF9 r3
              refine a_iinc K dX11_draws_164 (v := 1) rfl (by decide) (by decide) ?_
              refine a_goto K dX11_draws_167 (tgt := 52) (by decide) ?_
              exact aw_locl rfl (ih (jj + 1) _ (sti3 sd) S6 ρ3 Z3 (setT P j R t f) R.1 (nI_1 jj) (by omega) (by rw [q6.2.2.2.2.1, q5.2.2.2.2.1, q4.2.2.2.2.1]; exact j3) hF9 (hP.bset hb st2.1 st2.2.1 st2.2.2.2) setT_B (mQ_trD hfr (mQ_trD f1 (mQ_trD f2 (mQ_trD f3 (mQ_tr q4 (mQ_tr q5 q6)).d)))) ((setT_setT (P := P) st2.2.1 st3.2.1).trans hF) (by show 100 + (pU F - R.2) ≤ _; omega))
            · have w2 : drw (sti sd) 4 = 2 := by first | exact c_130 | exact Classical.not_not.mp c_130
              have hstep : putT (pW P) t (pU P) (drw (sti (sti sd)) 100) (addV (ent z.1 z.2) (drw (sti (sti sd)) 100) (drw (sti (sti (sti sd))) 19 - 9)) z = R := by
                rw [← hR9]
                unfold drwS
                rw [if_pos (by rw [w2]; decide), if_pos w2]
                exact (if_pos b_121.symm).symm
              first | refine a_aload_n K dX11_draws_133 rfl ?_ | refine a_aload_nN K dX11_draws_133 rfl ?_
              refine a_iload_n K dX11_draws_134 rfl ?_
              refine a_iload K dX11_draws_135 rfl ?_
              refine a_iload K dX11_draws_137 rfl ?_
              refine a_invV K (q_bAddsR h4 hP hb hj (by omega)) my_X11_builderAdds ml_X11_387 im_X11_builderAdds se_X11_builderAdds (ci := 11) (by exact lm_o hM) (by decide) ⟨_, _, rfl⟩ rfl (by omega) (by omega) (by omega) rfl (Nat.le_of_ble_eq_true rfl) dX11_draws_139 ?_
              intro r9 S5 hp9
              obtain ⟨ρ3, Z3, rfl, hF9, q5, o3, r3⟩ := hp9
              rw [show putT (pW P) t (pU P) (drw (sti (sti sd)) 100) (addV (ent z.1 z.2) (drw (sti (sti sd)) 100) (drw (sti (sti (sti sd))) 19 - 9)) z = R from hstep] at hF9 r3
              refine a_goto K dX11_draws_142 (tgt := 164) (by decide) ?_
              refine a_iinc K dX11_draws_164 (v := 1) rfl (by decide) (by decide) ?_
              refine a_goto K dX11_draws_167 (tgt := 52) (by decide) ?_
              exact aw_locl rfl (ih (jj + 1) _ (sti3 sd) S5 ρ3 Z3 (setT P j R t f) R.1 (nI_1 jj) (by omega) (by rw [q5.2.2.2.2.1, q4.2.2.2.2.1]; exact j3) hF9 (hP.bset hb st2.1 st2.2.1 st2.2.2.2) setT_B (mQ_trD hfr (mQ_trD f1 (mQ_trD f2 (mQ_trD f3 (mQ_tr q4 q5).d)))) ((setT_setT (P := P) st2.2.1 st3.2.1).trans hF) (by show 100 + (pU F - R.2) ≤ _; omega))
          · refine a_if_eq K dX11_draws_124 (tgt := 145) (by decide) (fun _ => ?_) (fun z => absurd z (by decide))
            first | refine a_aload_n K dX11_draws_145 rfl ?_ | refine a_aload_nN K dX11_draws_145 rfl ?_
            refine a_iload_n K dX11_draws_146 rfl ?_
            refine a_iload K dX11_draws_147 rfl ?_
            refine a_invV K ((q_canPut h4 hP hb hj (k := (drw (sti (sti sd)) 100))).post (fun r S2 hp => (⟨bR_n b_121 hp.1, hp.2⟩ : r = some (.int 0) ∧ RM S2 m ρ Z (mb + 1) P ∧ frS S4 S2 (mQ m)))) my_X11_canPut ml_X11_397 im_X11_canPut se_X11_canPut (ci := 11) (by exact lm_o hM) (by decide) ⟨_, _, rfl⟩ rfl (by omega) (by omega) (by omega) rfl (Nat.le_of_ble_eq_true rfl) dX11_draws_149 ?_
            intro r9 S5 hp9
            obtain ⟨rfl, h5, q5⟩ := hp9
            have hM := h5.1
            refine a_if_eq K dX11_draws_152 (tgt := 164) (by decide) (fun c_152 => ?_) (fun c_152 => absurd c_152 (fun z => z rfl))
            refine a_iinc K dX11_draws_164 (v := 1) rfl (by decide) (by decide) ?_
            refine a_goto K dX11_draws_167 (tgt := 52) (by decide) ?_
            have hstep : (z, pU P) = R := by
              have hno : ¬ (¬ valIn (ent z.1 z.2) (drw (sti (sti sd)) 100) = -1000000 ∨ (ent z.1 z.2).length < 60) := fun q => b_121 q.symm
              rw [← hR9]
              unfold drwS
              by_cases w1 : 1 < drw (sti sd) 4
              · have w2 : drw (sti sd) 4 = 2 := by
                  obtain ⟨q, hq, e⟩ := drw_n (sti sd) (k := 4) (by decide) (by decide)
                  rw [show drw (sti sd) 4 = nI q from e] at w1 w3 ⊢
                  have h9 : ∀ q, q < 4 → 1 < nI q → ¬ nI q = 3 → nI q = 2 := by decide +kernel
                  exact h9 q hq w1 w3
                rw [if_pos w1, if_pos w2]
                exact (if_neg hno).symm
              · rw [if_neg w1]
                exact (if_neg hno).symm
            have hF9 : RM S5 m ρ Z (mb + 1) (setT P j R t f) := by
              rw [← hstep, setT_self hb]
              exact h5
            have r3 : R.2 = pU P := congrArg Prod.snd hstep.symm
            exact aw_locl rfl (ih (jj + 1) _ (sti3 sd) S5 ρ Z (setT P j R t f) R.1 (nI_1 jj) (by omega) (by rw [q5.2.2.2.2.1, q4.2.2.2.2.1]; exact j3) hF9 (hP.bset hb st2.1 st2.2.1 st2.2.2.2) setT_B (mQ_trD hfr (mQ_trD f1 (mQ_trD f2 (mQ_trD f3 (mQ_tr q4 q5).d)))) ((setT_setT (P := P) st2.2.1 st3.2.1).trans hF) (by show 100 + (pU F - R.2) ≤ _; omega))
        · have w3 : drw (sti sd) 4 = 3 := by first | exact c_87 | exact Classical.not_not.mp c_87
          have hstep : takT (pW P) t (pU P) (drw (sti (sti sd)) 100) z = R := by
            rw [← hR9]
            unfold drwS
            rw [if_pos (by rw [w3]; decide), if_neg (by rw [w3]; decide)]
            exact (cut1 hw3 tz).symm
          first | refine a_aload_n K dX11_draws_90 rfl ?_ | refine a_aload_nN K dX11_draws_90 rfl ?_
          refine a_getRs K fd_X11_76 (by exact lm_o hM) (Or.inr ⟨_, rfl⟩) (by exact lm_r739 hM) dX11_draws_91 ?_
          refine a_iload_n K dX11_draws_94 rfl ?_
          first | refine a_aload_n K dX11_draws_95 rfl ?_ | refine a_aload_nN K dX11_draws_95 rfl ?_
          first | refine a_aload_n K dX11_draws_96 rfl ?_ | refine a_aload_nN K dX11_draws_96 rfl ?_
          refine a_getRs K fd_X11_76 (by exact lm_o hM) (Or.inr ⟨_, rfl⟩) (by exact lm_r739 hM) dX11_draws_97 ?_
          refine a_iload_n K dX11_draws_100 rfl ?_
          refine a_iald K (by exact lm_kk hM (by decide) (by decide)) (by show vp_in _ (sN S3 (m 20)); exact lm_ix (z := 4) hM (by decide) (by decide) (show j < 4 by omega) (by decide)) dX11_draws_101 ?_
          rw [nI_clamp (by omega)]
          rw [(h3.bro hj hb).1]
          refine a_iload K dX11_draws_102 rfl ?_
          first | refine a_aload_n K dX11_draws_104 rfl ?_ | refine a_aload_nN K dX11_draws_104 rfl ?_
          refine a_getRs K fd_X11_79 (by exact lm_o hM) (Or.inr ⟨_, rfl⟩) (by exact lm_r740 hM) dX11_draws_105 ?_
          refine a_iload_n K dX11_draws_108 rfl ?_
          refine a_iald K (by exact lm_kk hM (by decide) (by decide)) (by show vp_in _ (sN S3 (m 21)); exact lm_ix (z := 4) hM (by decide) (by decide) (show j < 4 by omega) (by decide)) dX11_draws_109 ?_
          rw [nI_clamp (by omega)]
          rw [(h3.bro hj hb).2.1]
          refine a_invV K ((TS.rf (tk := t) h3.N.1 h3.N.2.1 (h3.rep hbl)).take (key := (drw (sti (sti sd)) 100)) h3.1 h3.N.2.2.1 (live_in hbl) (tok.tk9 hP tz).1 (by have h5 : t < pTk P := htk; omega) h3.wid hw3 hw6 tz.1 tz.2.2.2.1 (by have h8 : z.1 ≤ 4 := h4z.1; show 2 * z.1 + 5 ≤ _; omega) (by have h8 : z.1 ≤ 4 := h4z.1; show z.1 ≤ 9; omega)) my_X11_takes ml_X11_339 im_X11_takes se_X11_takes (ci := 11) (by exact lm_o hM) (by decide) ⟨_, _, rfl⟩ rfl (by omega) (by omega) (by omega) rfl (Nat.le_of_ble_eq_true rfl) dX11_draws_110 ?_
          intro r9 W2 hp9
          obtain ⟨ρ3, Z3, rfl, ts3⟩ := hp9
          have hF9r := RM_bset h3 hP hb hj ts3
          have r3 := ts3.1.F.2.2.1
          have hM := ts3.1.lay h3.1
          refine a_iast K (by exact lm_kk hM (by decide) (by decide)) (by show vp_in _ (sN W2 (m 20)); exact lm_ix (z := 4) hM (by decide) (by decide) (show j < 4 by omega) (by decide)) dX11_draws_113 ?_
          rw [nI_clamp (by omega)]
          obtain ⟨hF9, qF⟩ := hF9r
          rw [show (((takT (pW P) t (pU P) (drw (sti (sti sd)) 100) z).1, (takT (pW P) t (pU P) (drw (sti (sti sd)) 100) z).2) : Tz × Nat) = R from hstep] at hF9
          rw [show (takT (pW P) t (pU P) (drw (sti (sti sd)) 100) z).2 = R.2 from congrArg Prod.snd hstep] at r3
          refine a_goto K dX11_draws_114 (tgt := 164) (by decide) ?_
          refine a_iinc K dX11_draws_164 (v := 1) rfl (by decide) (by decide) ?_
          refine a_goto K dX11_draws_167 (tgt := 52) (by decide) ?_
          exact aw_locl rfl (ih (jj + 1) _ (sti3 sd) (wA W2 (m 20) j (nI (ρ3 (takT (pW P) t (pU P) (drw (sti (sti sd)) 100) z).1.2.1))) ρ3 Z3 (setT P j R t f) R.1 (nI_1 jj) (by omega) (by rw [qF.2.2.2.2.1]; exact j3) hF9 (hP.bset hb st2.1 st2.2.1 st2.2.2.2) setT_B (mQ_trD hfr (mQ_trD f1 (mQ_trD f2 (mQ_trD f3 qF.d)))) ((setT_setT (P := P) st2.2.1 st3.2.1).trans hF) (by show 100 + (pU F - R.2) ≤ _; omega))
    first | refine a_aload_n K dX11_draws_0 rfl ?_ | refine a_aload_nN K dX11_draws_0 rfl ?_
    refine a_iconst K dX11_draws_1 (v := 0) (by decide) ?_
    refine a_putI K fd_X11_116 (by exact lm_o hM) rfl dX11_draws_2 ?_
    have f0 : frM S (wI S 704 (m 33) 0) m [] [704] := frM_wI (by decide) (by decide)
    obtain ⟨T, hT⟩ : ∃ T, T = wI S 704 (m 33) 0 := ⟨_, rfl⟩
    rw [← hT] at f0 ⊢
    obtain ⟨h, q0⟩ := h0.scr hP f0 (by decide) (by decide)
    have hM := h.1
    first | refine a_aload_n K dX11_draws_5 rfl ?_ | refine a_aload_nN K dX11_draws_5 rfl ?_
    refine a_iload_n K dX11_draws_6 rfl ?_
    refine a_iload_n K dX11_draws_7 rfl ?_
    refine a_i2l K dX11_draws_8 ?_
    refine a_lconst K dX11_draws_9 (v := 1) (by decide) ?_
    refine a_ldc2 K kc_X11_424 dX11_draws_10 ?_
    refine a_invS K (q_inB (p := 1) (q := 30) (by decide) (by decide)) my_X11_isIn ml_X11_174 st_X11_isIn rfl (by omega) (by omega) (by omega) rfl (Nat.le_of_ble_eq_true rfl) dX11_draws_13 ?_
    intro r9 S9 hp9
    obtain ⟨rfl, hS9⟩ := hp9
    obtain rfl := hS9.symm
    refine a_invV K (q_stp (v := -1) h hv) my_X11_stops ml_X11_393 im_X11_stops se_X11_stops (ci := 11) (by exact lm_o hM) (by decide) ⟨_, _, rfl⟩ rfl (by omega) (by omega) (by omega) rfl (Nat.le_of_ble_eq_true rfl) dX11_draws_16 ?_
    intro r9 S9 hp9
    obtain ⟨rfl, hS9⟩ := hp9
    obtain rfl := hS9.symm
    refine a_istore K dX11_draws_19 (by decide) ?_
    refine a_iload K dX11_draws_21 rfl ?_
    refine a_iconst K dX11_draws_23 (v := -1) (by decide) ?_
    refine a_icmp_eq K dX11_draws_24 (tgt := 34) (by decide) (fun c_24 => ?_) (fun c_24 => absurd c_24 (fun z => z rfl))
    first | refine a_aload_n K dX11_draws_34 rfl ?_ | refine a_aload_nN K dX11_draws_34 rfl ?_
    refine a_invV K (q_swF h hJ hmb) my_X11_sweeps ml_X11_278 im_X11_sweeps se_X11_sweeps (ci := 11) (by exact lm_o hM) (by decide) ⟨_, _, rfl⟩ rfl (by omega) (by omega) (by omega) rfl (Nat.le_of_ble_eq_true rfl) dX11_draws_35 ?_
    intro r9 S1 hp9
    obtain ⟨rfl, Z1, h1, hrm1, f1⟩ := hp9
    have q1 : frS T S1 (mQ m) := f1.mq (by decide)
    have hM := h1.1
    first | refine a_aload_n K dX11_draws_38 rfl ?_ | refine a_aload_nN K dX11_draws_38 rfl ?_
    refine a_lload_n K dX11_draws_39 rfl ?_
    refine a_putJ K fd_X11_416 (by exact lm_o hM) rfl dX11_draws_40 ?_
    have h1 := RM_wJ h1 754 (m 33) sd
    have hM := h1.1
    first | refine a_aload_n K dX11_draws_43 rfl ?_ | refine a_aload_nN K dX11_draws_43 rfl ?_
    refine a_getI K fd_X11_190 (by exact lm_o hM) (Or.inl rfl) dX11_draws_44 ?_
    rw [h1.N.2.2.2.2]
    refine a_istore K dX11_draws_47 (by decide) ?_
    refine a_iconst K dX11_draws_49 (v := 0) (by decide) ?_
    refine a_istore K dX11_draws_50 (by decide) ?_
    exact aw_locl rfl (loop N 0 _ sd _ ρ Z1 P0 z nI_0.symm (by omega) (by rw [sJ_wJ, if_pos ⟨rfl, rfl⟩]) h1 hP hb (mQ_trD (mQ_tr q0 q1).d frD_wJ) hF (by omega))
