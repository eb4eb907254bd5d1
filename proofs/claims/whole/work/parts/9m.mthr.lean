/-! the model: three -/
theorem q_swF {S : aw_S} {m ρ : Nat → Nat} {Z : List Nat × Nat} {mb n9 : Nat} {P : PS} (h : RM S m ρ Z mb P) (hJ : PJ n9 P) (hmb : mb + 1 < 2147483000) : aw_M yX11_sweeps cX11_sweeps 3 (none : Option FieldType) 7 0 0 [.ref (m 33)] S (fun r S2 => r = none ∧ ∃ Z2, RM S2 m ρ Z2 (mb + 1) P ∧ 5000 < rmM Z2 ∧ frM S S2 m [7, 8] [721, 726]) := by
  obtain ⟨h1, h2, h3, h4, h5, h6, h7, h8⟩ := h
  refine (q_sweeps h1 h7 h8 hmb (fun i x hx => (h3 i x hx).1) (fun j b hj hb => (h4 j b hj hb).1) h5.2.1 h5.2.2.1 h2.2.2.2.2.1 h2.2.2.2.2.2.2.1 h2.2.2.2.2.2.2.2.1 hJ.szs hJ.2.2.2.2.2.1.2.1 hJ.2.2.2.2.2.1.2.2.1 hJ.ln).post (fun r S2 hp => ?_)
  obtain ⟨hr, Z2, hN, hK, hrm, f⟩ := hp
  exact ⟨hr, Z2, ⟨f.lay h1, h2.fr h1 f (by decide) (by decide) (by decide), h3.fr h1 f (by decide) (by decide) (by decide) (by decide), h4.fr h1 f (by decide) (by decide) (by decide) (by decide), h5.fr h1 f (by decide) (by decide) (by decide) (by decide) (by decide), h6.fr h1 f (by decide) (by decide) (by decide), hN, hK⟩, hrm, f⟩
theorem as_v {B E O : List KV} {r : Int32} (q : Nat) : v3U E B O r q = vThr B E O (asW (vThr B E O) q r) q := by
  have e0 : vThr B E O 0 q = valIn B (nI q) := rfl
  have e1 : vThr B E O 1 q = valIn E (nI q) := rfl
  have e2 : vThr B E O 2 q = valIn O (nI q) := rfl
  show v3V E B O r (nI q) = _
  by_cases h : askP E B O (nI q)
  · have hn : ¬ (vThr B E O 2 q = vThr B E O 0 q ∨ vThr B E O 2 q = vThr B E O 1 q) := fun z => z.elim h.1 h.2
    by_cases h2 : valIn E (nI q) = valIn B (nI q)
    · have hv : v3V E B O r (nI q) = valIn O (nI q) := by
        unfold v3V
        rw [if_pos h, if_pos (Or.inr (fun z => z.2 h2))]
      have ha : asW (vThr B E O) q r = 2 := by
        unfold asW
        rw [if_neg hn, if_pos (show vThr B E O 1 q = vThr B E O 0 q from h2)]
      rw [hv, ha]
      exact e2.symm
    · have hc : ¬ ¬ cflP E B O (nI q) := fun z => z ⟨h, h2⟩
      have hn1 : ¬ vThr B E O 1 q = vThr B E O 0 q := h2
      by_cases r0 : r = 0
      · have hv : v3V E B O r (nI q) = valIn E (nI q) := by
          unfold v3V
          rw [if_pos h, if_neg (fun z => z.elim (fun y => by rw [r0] at y; revert y; decide) hc), if_pos r0]
        have ha : asW (vThr B E O) q r = 1 := by
          unfold asW
          rw [if_neg hn, if_neg hn1, if_pos r0]
        rw [hv, ha]
        exact e1.symm
      · by_cases r1 : r = 1
        · have hv : v3V E B O r (nI q) = valIn O (nI q) := by
            unfold v3V
            rw [if_pos h, if_pos (Or.inl r1)]
          have ha : asW (vThr B E O) q r = 2 := by
            unfold asW
            rw [if_neg hn, if_neg hn1, if_neg r0, if_pos r1]
          rw [hv, ha]
          exact e2.symm
        · have hv : v3V E B O r (nI q) = valIn B (nI q) := by
            unfold v3V
            rw [if_pos h, if_neg (fun z => z.elim r1 hc), if_neg r0]
          have ha : asW (vThr B E O) q r = 0 := by
            unfold asW
            rw [if_neg hn, if_neg hn1, if_neg r0, if_neg r1]
          rw [hv, ha]
          exact e0.symm
  · have hv : v3V E B O r (nI q) = valIn E (nI q) := by
      unfold v3V
      rw [if_neg h]
    have ha : asW (vThr B E O) q r = 1 := by
      unfold asW
      refine if_pos ?_
      by_cases c : valIn O (nI q) = valIn B (nI q)
      · exact Or.inl c
      · exact Or.inr (Classical.byContradiction (fun d => h ⟨c, d⟩))
    rw [hv, ha]
    exact e1.symm
theorem asW_le (V : Nat → Nat → Int32) (q : Nat) (r : Int32) : asW V q r < 3 := by
  unfold asW
  split
  · decide
  · split
    · decide
    · split
      · decide
      · split
        · decide
        · decide
theorem th3_go {w t tk : Nat} {E B O : List KV} {r : Int32} {s0 s : Tz × Nat} {n q : Nat} (hw : 3 ≤ w) (ht : t < tk) (hE : ∀ x ∈ E, okE x) (hB : ∀ x ∈ B, okE x) (hO : ∀ x ∈ O, okE x) (hn : q + (n + 1) = 1000) (hj : ∃ j, stn (60 + j) (7 * j) w tk t s0 s ∧ j + cntU (hsU O) (n + 1) 0 ≤ 60) (ha : agr E q s.1) : ∃ j, stn (60 + j) (7 * j) w tk t s0 (st3 w t (v3U E B O r) q s) ∧ j + cntU (hsU O) n 0 ≤ 60 := by
  obtain ⟨j, h1, h2⟩ := hj
  have h3 := st3_stn (r := r) hw ht hE hB hO (show q < 1000 by omega) h1.1 ha (by omega)
  have eq9 : 999 - n = q := by omega
  by_cases c : hsU O q = true
  · rw [if_pos c, if_pos c] at h3
    rw [cntU_y (by rw [eq9]; exact c), cntU_add] at h2
    exact ⟨j + 1, (h1.tr h3).up (by omega) (by omega), by omega⟩
  · rw [if_neg c, if_neg c] at h3
    rw [cntU_n (by rw [eq9]; simpa using c)] at h2
    exact ⟨j, (h1.tr h3).up (by omega) (by omega), h2⟩
theorem th3_n {w t : Nat} {V : Nat → Int32} {n q : Nat} {s : Tz × Nat} (hn : q + (n + 1) = 1000) : th3 w t V (n + 1) s = th3 w t V n (st3 w t V q s) := by rw [th3_s, show 999 - n = q by omega]
set_option maxHeartbeats 4000000 in
set_option maxRecDepth 100000 in
theorem q_newTkF {S : aw_S} {m ρ : Nat → Nat} {Z : List Nat × Nat} {mb n9 : Nat} {P : PS} (h0 : RM S m ρ Z mb P) (hJ : PJ n9 P) (hmb : mb + 1 < 2147483000) : aw_M yX11_newToken cX11_newToken 1 (some FieldType.int) 8 0 0 [.ref (m 33)] S (fun r S2 => r = some (.int (nI (pTk P + 1))) ∧ ∃ Z2, RM S2 m ρ Z2 (mb + 1) (incT P) ∧ 5000 < rmM Z2 ∧ frM S S2 m [7, 8] [721, 725, 726]) := by
  have hM := h0.1
  refine aw_enter (by decide +kernel) (Nat.le_of_ble_eq_true rfl) (fun g K EE => ?_)
  first | refine a_aload_n K dX11_newToken_0 rfl ?_ | refine a_aload_nN K dX11_newToken_0 rfl ?_
  refine a_invV K (q_swF h0 hJ hmb) my_X11_sweeps ml_X11_278 im_X11_sweeps se_X11_sweeps (ci := 11) (by exact lm_o hM) (by decide) ⟨_, _, rfl⟩ rfl (by omega) (by omega) (by omega) rfl (Nat.le_of_ble_eq_true rfl) dX11_newToken_1 ?_
  intro r9 T hp9
  obtain ⟨rfl, Z2, h, hrm, q9⟩ := hp9
  have hM := h.1
  first | refine a_aload_n K dX11_newToken_4 rfl ?_ | refine a_aload_nN K dX11_newToken_4 rfl ?_
  refine a_dup K dX11_newToken_5 rfl ?_
  refine a_getI K fd_X11_281 (by exact lm_o hM) (Or.inl rfl) dX11_newToken_6 ?_
  rw [show sI T 725 (m 33) = nI (pTk P) from h.2.1.2.2.2.1]
  refine a_iconst K dX11_newToken_9 (v := 1) (by decide) ?_
  refine a_iadd K dX11_newToken_10 ?_
  rw [nI_1]
  refine a_putI K fd_X11_281 (by exact lm_o hM) rfl dX11_newToken_11 ?_
  first | refine a_aload_n K dX11_newToken_14 rfl ?_ | refine a_aload_nN K dX11_newToken_14 rfl ?_
  refine a_getI K fd_X11_281 (by exact lm_o hM) (Or.inl rfl) dX11_newToken_15 ?_
  rw [wI_at]
  exact a_iret K EE rfl (by omega) (by omega) dX11_newToken_18 ⟨rfl, Z2, (RM_incT h).1, hrm, (q9.up (by decide) (by decide)).tr (frM_wI (by decide) (by decide))⟩
set_option maxHeartbeats 4000000 in
set_option maxRecDepth 100000 in
theorem q_three {S : aw_S} {m ρ : Nat → Nat} {Z : List Nat × Nat} {mb n9 : Nat} {P : PS} (h0 : RM S m ρ Z mb P) (hJ : PJ n9 P) (hmb : mb + 1 < 2147483000) {b i k ru : Int32} : aw_M yX11_three cX11_three 10 (some FieldType.int) 10 0 0 [.ref (m 33), .int b, .int i, .int k, .int ru] S (fun r S2 => ∃ ρ2 Z2, r = some (.int (thrF P b i k ru).1) ∧ RM S2 m ρ2 Z2 (mb + 1) (thrF P b i k ru).2 ∧ frS S S2 (mQ m)) := by
  have hP := hJ.1
  have hw3 := hP.1.1
  have hM := h0.1
  have hl9 := hJ.ln
  have hw6 := hP.1.2
  have hpH := hJ.2.2.2.2.2.1.1
  have hc16 := hJ.2.2.2.2.2.1.2.1
  refine aw_enter (by decide +kernel) (Nat.le_of_ble_eq_true rfl) (fun g K EE => ?_)
  cases hx : rootP P b with
  | none =>
    first | refine a_aload_n K dX11_three_0 rfl ?_ | refine a_aload_nN K dX11_three_0 rfl ?_
    refine a_iconst K dX11_three_1 (v := 0) (by decide) ?_
    refine a_putI K fd_X11_116 (by exact lm_o hM) rfl dX11_three_2 ?_
    have f0 : frM S (wI S 704 (m 33) 0) m [] [704] := frM_wI (by decide) (by decide)
    obtain ⟨T, hT⟩ : ∃ T, T = wI S 704 (m 33) 0 := ⟨_, rfl⟩
    rw [← hT] at f0 ⊢
    obtain ⟨h, q0⟩ := h0.scr hP f0 (by decide) (by decide)
    have hM := h.1
    first | refine a_aload_n K dX11_three_5 rfl ?_ | refine a_aload_nN K dX11_three_5 rfl ?_
    refine a_iload_n K dX11_three_6 rfl ?_
    refine a_invV K (q_mapN h hl9 hx) my_X11_isMap ml_X11_309 im_X11_isMap se_X11_isMap (ci := 11) (by exact lm_o hM) (by decide) ⟨_, _, rfl⟩ rfl (by omega) (by omega) (by omega) rfl (Nat.le_of_ble_eq_true rfl) dX11_three_7 ?_
    intro r9 S9 hp9
    obtain ⟨rfl, hS9⟩ := hp9
    obtain rfl := hS9.symm
    refine a_if_eq K dX11_three_10 (tgt := 29) (by decide) (fun c_10 => ?_) (fun c_10 => absurd c_10 (fun z => z rfl))
    first | refine a_aload_n K dX11_three_29 rfl ?_ | refine a_aload_nN K dX11_three_29 rfl ?_
    refine a_iconst K dX11_three_30 (v := 0) (by decide) ?_
    rw [show (0 : Int32) = nI 0 from rfl]
    refine a_invV K (q_refP h (k := 0) (by decide)) my_X11_refused ml_X11_292 im_X11_refused se_X11_refused (ci := 11) (by exact lm_o hM) (by decide) ⟨_, _, rfl⟩ rfl (by omega) (by omega) (by omega) rfl (Nat.le_of_ble_eq_true rfl) dX11_three_31 ?_
    intro r9 S9 hp9
    obtain ⟨rfl, hR, qR⟩ := hp9
    exact a_iret K EE rfl (by omega) (by omega) dX11_three_34 ⟨ρ, Z, by unfold thrF; rw [hx], by unfold thrF; rw [hx]; exact hR.up (Nat.le_succ mb) (by omega), mQ_tr q0 qR⟩
  | some xx =>
    cases hz : rootP P i with
    | none =>
      first | refine a_aload_n K dX11_three_0 rfl ?_ | refine a_aload_nN K dX11_three_0 rfl ?_
      refine a_iconst K dX11_three_1 (v := 0) (by decide) ?_
      refine a_putI K fd_X11_116 (by exact lm_o hM) rfl dX11_three_2 ?_
      have f0 : frM S (wI S 704 (m 33) 0) m [] [704] := frM_wI (by decide) (by decide)
      obtain ⟨T, hT⟩ : ∃ T, T = wI S 704 (m 33) 0 := ⟨_, rfl⟩
      rw [← hT] at f0 ⊢
      obtain ⟨h, q0⟩ := h0.scr hP f0 (by decide) (by decide)
      have hM := h.1
      first | refine a_aload_n K dX11_three_5 rfl ?_ | refine a_aload_nN K dX11_three_5 rfl ?_
      refine a_iload_n K dX11_three_6 rfl ?_
      refine a_invV K (q_mapY h hl9 hx) my_X11_isMap ml_X11_309 im_X11_isMap se_X11_isMap (ci := 11) (by exact lm_o hM) (by decide) ⟨_, _, rfl⟩ rfl (by omega) (by omega) (by omega) rfl (Nat.le_of_ble_eq_true rfl) dX11_three_7 ?_
      intro r9 S9 hp9
      obtain ⟨rfl, hS9⟩ := hp9
      obtain rfl := hS9.symm
      refine a_if_eq K dX11_three_10 (tgt := 29) (by decide) (fun c_10 => absurd c_10 (by decide)) (fun c_10 => ?_)
      first | refine a_aload_n K dX11_three_13 rfl ?_ | refine a_aload_nN K dX11_three_13 rfl ?_
      refine a_iload_n K dX11_three_14 rfl ?_
      refine a_invV K (q_mapN h hl9 hz) my_X11_isMap ml_X11_309 im_X11_isMap se_X11_isMap (ci := 11) (by exact lm_o hM) (by decide) ⟨_, _, rfl⟩ rfl (by omega) (by omega) (by omega) rfl (Nat.le_of_ble_eq_true rfl) dX11_three_15 ?_
      intro r9 S9 hp9
      obtain ⟨rfl, hS9⟩ := hp9
      obtain rfl := hS9.symm
      refine a_if_eq K dX11_three_18 (tgt := 29) (by decide) (fun c_18 => ?_) (fun c_18 => absurd c_18 (fun z => z rfl))
      first | refine a_aload_n K dX11_three_29 rfl ?_ | refine a_aload_nN K dX11_three_29 rfl ?_
      refine a_iconst K dX11_three_30 (v := 0) (by decide) ?_
      rw [show (0 : Int32) = nI 0 from rfl]
      refine a_invV K (q_refP h (k := 0) (by decide)) my_X11_refused ml_X11_292 im_X11_refused se_X11_refused (ci := 11) (by exact lm_o hM) (by decide) ⟨_, _, rfl⟩ rfl (by omega) (by omega) (by omega) rfl (Nat.le_of_ble_eq_true rfl) dX11_three_31 ?_
      intro r9 S9 hp9
      obtain ⟨rfl, hR, qR⟩ := hp9
      exact a_iret K EE rfl (by omega) (by omega) dX11_three_34 ⟨ρ, Z, by unfold thrF; rw [hx, hz], by unfold thrF; rw [hx, hz]; exact hR.up (Nat.le_succ mb) (by omega), mQ_tr q0 qR⟩
    | some z =>
      cases hy : rootP P k with
      | none =>
        first | refine a_aload_n K dX11_three_0 rfl ?_ | refine a_aload_nN K dX11_three_0 rfl ?_
        refine a_iconst K dX11_three_1 (v := 0) (by decide) ?_
        refine a_putI K fd_X11_116 (by exact lm_o hM) rfl dX11_three_2 ?_
        have f0 : frM S (wI S 704 (m 33) 0) m [] [704] := frM_wI (by decide) (by decide)
        obtain ⟨T, hT⟩ : ∃ T, T = wI S 704 (m 33) 0 := ⟨_, rfl⟩
        rw [← hT] at f0 ⊢
        obtain ⟨h, q0⟩ := h0.scr hP f0 (by decide) (by decide)
        have hM := h.1
        first | refine a_aload_n K dX11_three_5 rfl ?_ | refine a_aload_nN K dX11_three_5 rfl ?_
        refine a_iload_n K dX11_three_6 rfl ?_
        refine a_invV K (q_mapY h hl9 hx) my_X11_isMap ml_X11_309 im_X11_isMap se_X11_isMap (ci := 11) (by exact lm_o hM) (by decide) ⟨_, _, rfl⟩ rfl (by omega) (by omega) (by omega) rfl (Nat.le_of_ble_eq_true rfl) dX11_three_7 ?_
        intro r9 S9 hp9
        obtain ⟨rfl, hS9⟩ := hp9
        obtain rfl := hS9.symm
        refine a_if_eq K dX11_three_10 (tgt := 29) (by decide) (fun c_10 => absurd c_10 (by decide)) (fun c_10 => ?_)
        first | refine a_aload_n K dX11_three_13 rfl ?_ | refine a_aload_nN K dX11_three_13 rfl ?_
        refine a_iload_n K dX11_three_14 rfl ?_
        refine a_invV K (q_mapY h hl9 hz) my_X11_isMap ml_X11_309 im_X11_isMap se_X11_isMap (ci := 11) (by exact lm_o hM) (by decide) ⟨_, _, rfl⟩ rfl (by omega) (by omega) (by omega) rfl (Nat.le_of_ble_eq_true rfl) dX11_three_15 ?_
        intro r9 S9 hp9
        obtain ⟨rfl, hS9⟩ := hp9
        obtain rfl := hS9.symm
        refine a_if_eq K dX11_three_18 (tgt := 29) (by decide) (fun c_18 => absurd c_18 (by decide)) (fun c_18 => ?_)
        first | refine a_aload_n K dX11_three_21 rfl ?_ | refine a_aload_nN K dX11_three_21 rfl ?_
        refine a_iload_n K dX11_three_22 rfl ?_
        refine a_invV K (q_mapN h hl9 hy) my_X11_isMap ml_X11_309 im_X11_isMap se_X11_isMap (ci := 11) (by exact lm_o hM) (by decide) ⟨_, _, rfl⟩ rfl (by omega) (by omega) (by omega) rfl (Nat.le_of_ble_eq_true rfl) dX11_three_23 ?_
        intro r9 S9 hp9
        obtain ⟨rfl, hS9⟩ := hp9
        obtain rfl := hS9.symm
        refine a_if_ne K dX11_three_26 (tgt := 35) (by decide) (fun c_26 => absurd c_26 (fun z => z rfl)) (fun c_26 => ?_)
        first | refine a_aload_n K dX11_three_29 rfl ?_ | refine a_aload_nN K dX11_three_29 rfl ?_
        refine a_iconst K dX11_three_30 (v := 0) (by decide) ?_
        rw [show (0 : Int32) = nI 0 from rfl]
        refine a_invV K (q_refP h (k := 0) (by decide)) my_X11_refused ml_X11_292 im_X11_refused se_X11_refused (ci := 11) (by exact lm_o hM) (by decide) ⟨_, _, rfl⟩ rfl (by omega) (by omega) (by omega) rfl (Nat.le_of_ble_eq_true rfl) dX11_three_31 ?_
        intro r9 S9 hp9
        obtain ⟨rfl, hR, qR⟩ := hp9
        exact a_iret K EE rfl (by omega) (by omega) dX11_three_34 ⟨ρ, Z, by unfold thrF; rw [hx, hz, hy], by unfold thrF; rw [hx, hz, hy]; exact hR.up (Nat.le_succ mb) (by omega), mQ_tr q0 qR⟩
      | some y =>
        obtain ⟨jb, hijb, hjb, -⟩ := h0.root hx
        subst hijb
        obtain ⟨jm, hijm, hjm, -⟩ := h0.root hz
        subst hijm
        have tz := hP.tz (rootP_live hz)
        have h4z := tz.h4 hw3
        have e60z := tz.2.2.1
        obtain ⟨jo, hijo, hjo, -⟩ := h0.root hy
        subst hijo
        have tx := hP.tz (rootP_live hx)
        have ty := hP.tz (rootP_live hy)
        by_cases hrr : 0 ≤ ru.toInt ∧ ru.toInt ≤ 2
        · first | refine a_aload_n K dX11_three_0 rfl ?_ | refine a_aload_nN K dX11_three_0 rfl ?_
          refine a_iconst K dX11_three_1 (v := 0) (by decide) ?_
          refine a_putI K fd_X11_116 (by exact lm_o hM) rfl dX11_three_2 ?_
          have f0 : frM S (wI S 704 (m 33) 0) m [] [704] := frM_wI (by decide) (by decide)
          obtain ⟨T, hT⟩ : ∃ T, T = wI S 704 (m 33) 0 := ⟨_, rfl⟩
          rw [← hT] at f0 ⊢
          obtain ⟨h, q0⟩ := h0.scr hP f0 (by decide) (by decide)
          have hM := h.1
          first | refine a_aload_n K dX11_three_5 rfl ?_ | refine a_aload_nN K dX11_three_5 rfl ?_
          refine a_iload_n K dX11_three_6 rfl ?_
          refine a_invV K (q_mapY h hl9 hx) my_X11_isMap ml_X11_309 im_X11_isMap se_X11_isMap (ci := 11) (by exact lm_o hM) (by decide) ⟨_, _, rfl⟩ rfl (by omega) (by omega) (by omega) rfl (Nat.le_of_ble_eq_true rfl) dX11_three_7 ?_
          intro r9 S9 hp9
          obtain ⟨rfl, hS9⟩ := hp9
          obtain rfl := hS9.symm
          refine a_if_eq K dX11_three_10 (tgt := 29) (by decide) (fun c_10 => absurd c_10 (by decide)) (fun c_10 => ?_)
          first | refine a_aload_n K dX11_three_13 rfl ?_ | refine a_aload_nN K dX11_three_13 rfl ?_
          refine a_iload_n K dX11_three_14 rfl ?_
          refine a_invV K (q_mapY h hl9 hz) my_X11_isMap ml_X11_309 im_X11_isMap se_X11_isMap (ci := 11) (by exact lm_o hM) (by decide) ⟨_, _, rfl⟩ rfl (by omega) (by omega) (by omega) rfl (Nat.le_of_ble_eq_true rfl) dX11_three_15 ?_
          intro r9 S9 hp9
          obtain ⟨rfl, hS9⟩ := hp9
          obtain rfl := hS9.symm
          refine a_if_eq K dX11_three_18 (tgt := 29) (by decide) (fun c_18 => absurd c_18 (by decide)) (fun c_18 => ?_)
          first | refine a_aload_n K dX11_three_21 rfl ?_ | refine a_aload_nN K dX11_three_21 rfl ?_
          refine a_iload_n K dX11_three_22 rfl ?_
          refine a_invV K (q_mapY h hl9 hy) my_X11_isMap ml_X11_309 im_X11_isMap se_X11_isMap (ci := 11) (by exact lm_o hM) (by decide) ⟨_, _, rfl⟩ rfl (by omega) (by omega) (by omega) rfl (Nat.le_of_ble_eq_true rfl) dX11_three_23 ?_
          intro r9 S9 hp9
          obtain ⟨rfl, hS9⟩ := hp9
          obtain rfl := hS9.symm
          refine a_if_ne K dX11_three_26 (tgt := 35) (by decide) (fun c_26 => ?_) (fun c_26 => absurd c_26 (by decide))
          refine a_iload K dX11_three_35 rfl ?_
          refine a_i2l K dX11_three_37 ?_
          refine a_lconst K dX11_three_38 (v := 0) (by decide) ?_
          refine a_ldc2 K kc_X11_369 dX11_three_39 ?_
          refine a_invS K (q_inY (p := 0) (q := 2) (by decide) (by decide) hrr) my_X11_isIn ml_X11_174 st_X11_isIn rfl (by omega) (by omega) (by omega) rfl (Nat.le_of_ble_eq_true rfl) dX11_three_42 ?_
          intro r9 S9 hp9
          obtain ⟨rfl, hS9⟩ := hp9
          obtain rfl := hS9.symm
          refine a_if_ne K dX11_three_45 (tgt := 54) (by decide) (fun c_45 => ?_) (fun c_45 => absurd c_45 (by decide))
          first | refine a_aload_n K dX11_three_54 rfl ?_ | refine a_aload_nN K dX11_three_54 rfl ?_
          refine a_iload_n K dX11_three_55 rfl ?_
          refine a_iload_n K dX11_three_56 rfl ?_
          refine a_iload_n K dX11_three_57 rfl ?_
          refine a_invV K (q_laysThree hM (LyT_of h hP hx) (LyT_of h hP hz) (LyT_of h hP hy) (by omega) (by omega) (by omega) (h.root2 hx (by omega)) (h.root2 hz (by omega)) (h.root2 hy (by omega))) my_X11_laysThree ml_X11_371 im_X11_laysThree se_X11_laysThree (ci := 11) (by exact lm_o hM) (by decide) ⟨_, _, rfl⟩ rfl (by omega) (by omega) (by omega) rfl (Nat.le_of_ble_eq_true rfl) dX11_three_58 ?_
          intro r9 S9 hp9
          obtain ⟨rfl, hTh, f9⟩ := hp9
          obtain ⟨h9, q9⟩ := h.scr hP f9 (by decide) (by decide)
          have hM := h9.1
          refine a_iconst K dX11_three_61 (v := 0) (by decide) ?_
          refine a_istore K dX11_three_62 (by decide) ?_
          refine a_iconst K dX11_three_64 (v := 0) (by decide) ?_
          refine a_istore K dX11_three_65 (by decide) ?_
          obtain ⟨R1, hR1e⟩ : ∃ R1, cntU (vsU (v3U (ent z.1 z.2) (ent xx.1 xx.2) (ent y.1 y.2) ru)) 1000 0 = R1 := ⟨_, rfl⟩
          have hc9 : R1 ≤ 1000 := by rw [← hR1e]; exact cntU_le _ 1000 0
          have loop1 : ∀ (n q a : Nat) (x c : Int32), x = nI q → c = nI a → q + n = 1000 → cntU (vsU (v3U (ent z.1 z.2) (ent xx.1 xx.2) (ent y.1 y.2) ru)) n a = R1 → aw g 10 S9 0 0 [(6, .int x), (5, .int c), (4, .int ru), (3, .int (nI jo)), (2, .int (nI jm)), (1, .int (nI jb)), (0, .ref (m 33))] [] 67 := by
            intro n
            induction n with
            | zero =>
              intro q a x c hx9 hc hn hR
              subst hx9
              subst hc
              refine a_iload K dX11_three_67 rfl ?_
              refine a_sipush K dX11_three_69 (v := 999) (by decide) ?_
              refine a_icmp_gt K dX11_three_72 (tgt := 112) (by decide) (fun c_72 => ?_) (fun c_72 => absurd c_72 (fun e9 => e9 (by rw [show q = 1000 by omega]; decide)))
              have hR1 : a = R1 := hR
              rw [hR1]
              by_cases hsz : R1 ≤ 60
              · by_cases hr : hcnt (pH P) < 16 ∧ (pM P).length < 999
                · have hE : thrF P (nI jb) (nI jm) (nI jo) ru = (nI (pM P).length, addM (setU (incT P) (th3 (pW P) (pTk P) (v3U (ent z.1 z.2) (ent xx.1 xx.2) (ent y.1 y.2) ru) 1000 (z, pU P)).2) (th3 (pW P) (pTk P) (v3U (ent z.1 z.2) (ent xx.1 xx.2) (ent y.1 y.2) ru) 1000 (z, pU P)).1 (nI jm) (nI jo)) := by
                    unfold thrF
                    rw [hx, hz, hy]
                    exact (if_pos hrr).trans ((if_pos (by rw [hR1e]; exact hsz)).trans (if_pos hr))
                  refine a_iload K dX11_three_112 rfl ?_
                  refine a_bipush K dX11_three_114 (v := 60) (by decide) ?_
                  refine a_icmp_le K dX11_three_116 (tgt := 125) (by decide) (fun c_116 => ?_) (fun c_116 => absurd c_116 (fun z => z (nI_le (b := 60) hsz (by decide))))
                  first | refine a_aload_n K dX11_three_125 rfl ?_ | refine a_aload_nN K dX11_three_125 rfl ?_
                  refine a_invV K ((h9.room hl9 hc16).1 hr) my_X11_hasRoom ml_X11_289 im_X11_hasRoom se_X11_hasRoom (ci := 11) (by exact lm_o hM) (by decide) ⟨_, _, rfl⟩ rfl (by omega) (by omega) (by omega) rfl (Nat.le_of_ble_eq_true rfl) dX11_three_126 ?_
                  intro r9 S9 hp9
                  obtain ⟨rfl, hS9⟩ := hp9
                  obtain rfl := hS9.symm
                  refine a_if_ne K dX11_three_129 (tgt := 138) (by decide) (fun c_129 => ?_) (fun c_129 => absurd c_129 (by decide))
                  first | refine a_aload_n K dX11_three_138 rfl ?_ | refine a_aload_nN K dX11_three_138 rfl ?_
                  refine a_invV K (q_newTkF h9 hJ hmb) my_X11_newToken ml_X11_295 im_X11_newToken se_X11_newToken (ci := 11) (by exact lm_o hM) (by decide) ⟨_, _, rfl⟩ rfl (by omega) (by omega) (by omega) rfl (Nat.le_of_ble_eq_true rfl) dX11_three_139 ?_
                  intro r9 S1 hp9
                  obtain ⟨rfl, Z1, h1, hrm1, f1⟩ := hp9
                  have q1 : frS S9 S1 (mQ m) := f1.mq (by decide)
                  have hTh1 := hTh.fr hM f1 (by decide) (by decide) (by decide)
                  have hM := h1.1
                  refine a_istore K dX11_three_142 (by decide) ?_
                  first | refine a_aload_n K dX11_three_144 rfl ?_ | refine a_aload_nN K dX11_three_144 rfl ?_
                  refine a_getRs K fd_X11_67 (by exact lm_o hM) (Or.inr ⟨_, rfl⟩) (by exact lm_r736 hM) dX11_three_145 ?_
                  refine a_iload_n K dX11_three_148 rfl ?_
                  refine a_iald K (by exact lm_kk hM (by decide) (by decide)) (by show vp_in _ (sN S1 (m 17)); exact lm_ix (z := 999) hM (by decide) (by decide) (show jm < 999 by omega) (by decide)) dX11_three_149 ?_
                  rw [nI_clamp (by omega)]
                  rw [h1.root2 hz (by omega)]
                  refine a_istore K dX11_three_150 (by decide) ?_
                  refine a_iconst K dX11_three_152 (v := 0) (by decide) ?_
                  refine a_istore K dX11_three_153 (by decide) ?_
                  have hQ0 : ∀ x ∈ ndl z.1 z.2, LvN (incT P) x.1 := live_in (P := incT P) (rootP_live hz)
                  obtain ⟨R, hRR⟩ : ∃ R, (th3 (pW P) (pTk P) (v3U (ent z.1 z.2) (ent xx.1 xx.2) (ent y.1 y.2) ru) 1000 (z, pU P)) = R := ⟨_, rfl⟩
                  have loop2 : ∀ (n q : Nat) (x : Int32) (s : Tz × Nat) (W : aw_S) (ρ2 : Nat → Nat) (Z2 : List Nat × Nat), x = nI q → q + n = 1000 → TS S1 W m ρ ρ2 (pU P) s.2 Z1 Z2 (pTk P) (ndl z.1 z.2) s.1 → (∃ j, stn (60 + j) (7 * j) (pW P) (pTk P + 1) (pTk P) (z, pU P) s ∧ j + cntU (hsU (ent y.1 y.2)) n 0 ≤ 60) → agr (ent z.1 z.2) q s.1 → th3 (pW P) (pTk P) (v3U (ent z.1 z.2) (ent xx.1 xx.2) (ent y.1 y.2) ru) n s = R → aw g 10 W 0 0 [(8, .int x), (7, .int (nI (ρ2 s.1.2.1))), (6, .int (nI (pTk P + 1))), (4, .int ru), (3, .int (nI jo)), (2, .int (nI jm)), (0, .ref (m 33))] [] 155 := by
                    intro n
                    induction n with
                    | zero =>
                      intro q x s W ρ2 Z2 hx9 hn ts hj ha hR
                      subst hx9
                      have hM := ts.1.lay h1.1
                      have hTh := hTh1.fr h1.1 ts.1.2.2.2.2.2.2.2.2.2.1 (by decide) (by decide) (by decide)
                      have hgF := ts.1.F
                      obtain rfl : s = R := hR
                      obtain ⟨h5, q5, r5, a5⟩ := ts.fin (P := incT P) h1 (show IdP (incT P) from hP.ids) (tok.tk9 hP tz).2 hQ0
                      refine a_iload K dX11_three_155 rfl ?_
                      refine a_sipush K dX11_three_157 (v := 999) (by decide) ?_
                      refine a_icmp_gt K dX11_three_160 (tgt := 240) (by decide) (fun c_160 => ?_) (fun c_160 => absurd c_160 (fun e9 => e9 (by rw [show q = 1000 by omega]; decide)))
                      first | refine a_aload_n K dX11_three_240 rfl ?_ | refine a_aload_nN K dX11_three_240 rfl ?_
                      refine a_iload K dX11_three_241 rfl ?_
                      refine a_iload_n K dX11_three_243 rfl ?_
                      refine a_iload_n K dX11_three_244 rfl ?_
                      refine a_invV K (q_newMapR h5 hpH hr.2 r5 a5) my_X11_newMap ml_X11_302 im_X11_newMap se_X11_newMap (ci := 11) (by exact lm_o hM) (by decide) ⟨_, _, rfl⟩ rfl (by omega) (by omega) (by omega) rfl (Nat.le_of_ble_eq_true rfl) dX11_three_245 ?_
                      intro r9 S6 hp9
                      obtain ⟨rfl, h6, q6⟩ := hp9
                      exact a_iret K EE rfl (by omega) (by omega) dX11_three_248 ⟨ρ2, Z2, by rw [hE, hRR]; rfl, by rw [hE, hRR]; exact h6, mQ_tr q0 (mQ_tr q9 (mQ_tr q1 (mQ_tr q5 q6)))⟩
                    | succ n ih =>
                      intro q x s W ρ2 Z2 hx9 hn ts hj ha hR
                      subst hx9
                      have hM := ts.1.lay h1.1
                      have hTh := hTh1.fr h1.1 ts.1.2.2.2.2.2.2.2.2.2.1 (by decide) (by decide) (by decide)
                      have hgF := ts.1.F
                      have hgo := th3_go (r := ru) hw3 (Nat.lt_succ_self (pTk P)) tz.2.1 tx.2.1 ty.2.1 hn hj ha
                      have hag := st3_agr (w := pW P) (t := pTk P) (V := (v3U (ent z.1 z.2) (ent xx.1 xx.2) (ent y.1 y.2) ru)) hw3 (hj.elim (fun j h => h.1.1.1)) (show q < 1000 by omega) ha
                      rw [th3_n hn] at hR
                      have hav := as_v (B := (ent xx.1 xx.2)) (E := (ent z.1 z.2)) (O := (ent y.1 y.2)) (r := ru) q
                      have ha3 := asW_le (vThr (ent xx.1 xx.2) (ent z.1 z.2) (ent y.1 y.2)) q ru
                      by_cases ca : asW (vThr (ent xx.1 xx.2) (ent z.1 z.2) (ent y.1 y.2)) q ru = 1
                      · have hs : st3 (pW P) (pTk P) (v3U (ent z.1 z.2) (ent xx.1 xx.2) (ent y.1 y.2) ru) q s = s := st3_same hw3 (hj.elim (fun j h => h.1.1.1)) (by rw [ha q (Nat.le_refl _) (by omega), hav, ca]; rfl)
                        rw [hs] at hgo hag hR
                        refine a_iload K dX11_three_155 rfl ?_
                        refine a_sipush K dX11_three_157 (v := 999) (by decide) ?_
                        refine a_icmp_gt K dX11_three_160 (tgt := 240) (by decide) (fun c_160 => absurd c_160 ((Int32.not_lt.mpr (show nI q ≤ 999 from nI_le (b := 999) (by omega) (by decide))))) (fun c_160 => ?_)
                        first | refine a_aload_n K dX11_three_163 rfl ?_ | refine a_aload_nN K dX11_three_163 rfl ?_
                        refine a_iload K dX11_three_164 rfl ?_
                        refine a_iload K dX11_three_166 rfl ?_
                        refine a_invV K (q_asWhich hM hTh (q := q) (by omega)) my_X11_asWhich ml_X11_374 im_X11_asWhich se_X11_asWhich (ci := 11) (by exact lm_o hM) (by decide) ⟨_, _, rfl⟩ rfl (by omega) (by omega) (by omega) rfl (Nat.le_of_ble_eq_true rfl) dX11_three_168 ?_
                        intro r8 S8 hp8
                        obtain ⟨rfl, hS8⟩ := hp8
                        obtain rfl := hS8.symm
                        rw [ca]
                        refine a_istore K dX11_three_171 (by decide) ?_
                        refine a_iload K dX11_three_173 rfl ?_
                        refine a_iconst K dX11_three_175 (v := 1) (by decide) ?_
                        refine a_icmp_ne K dX11_three_176 (tgt := 182) (by decide) (fun c_176 => absurd c_176 (fun z => z rfl)) (fun c_176 => ?_)
                        refine a_goto K dX11_three_179 (tgt := 234) (by decide) ?_
                        refine a_iinc K dX11_three_234 (v := 1) rfl (by decide) (by decide) ?_
                        refine a_goto K dX11_three_237 (tgt := 155) (by decide) ?_
                        exact aw_locl rfl (ih (q + 1) _ _ W ρ2 Z2 (nI_1 q) (by omega) ts hgo hag hR)
                      obtain ⟨jj, hst, hjj⟩ := hj
                      have hle := hst.le hw3 (tz.mono (Nat.le_refl _) (Nat.le_succ _))
                      have h5 := hst.1.h5 hw3 (by omega)
                      have hle : s.2 ≤ pU P + 61 + 7 * jj := hle
                      by_cases hv : (vThr (ent xx.1 xx.2) (ent z.1 z.2) (ent y.1 y.2)) (asW (vThr (ent xx.1 xx.2) (ent z.1 z.2) (ent y.1 y.2)) q ru) q = -1000000
                      · have hs : st3 (pW P) (pTk P) (v3U (ent z.1 z.2) (ent xx.1 xx.2) (ent y.1 y.2) ru) q s = takT (pW P) (pTk P) s.2 (nI q) s.1 := if_pos (hav.trans hv)
                        rw [hs] at hgo hag hR
                        refine a_iload K dX11_three_155 rfl ?_
                        refine a_sipush K dX11_three_157 (v := 999) (by decide) ?_
                        refine a_icmp_gt K dX11_three_160 (tgt := 240) (by decide) (fun c_160 => absurd c_160 ((Int32.not_lt.mpr (show nI q ≤ 999 from nI_le (b := 999) (by omega) (by decide))))) (fun c_160 => ?_)
                        first | refine a_aload_n K dX11_three_163 rfl ?_ | refine a_aload_nN K dX11_three_163 rfl ?_
                        refine a_iload K dX11_three_164 rfl ?_
                        refine a_iload K dX11_three_166 rfl ?_
                        refine a_invV K (q_asWhich hM hTh (q := q) (by omega)) my_X11_asWhich ml_X11_374 im_X11_asWhich se_X11_asWhich (ci := 11) (by exact lm_o hM) (by decide) ⟨_, _, rfl⟩ rfl (by omega) (by omega) (by omega) rfl (Nat.le_of_ble_eq_true rfl) dX11_three_168 ?_
                        intro r8 S8 hp8
                        obtain ⟨rfl, hS8⟩ := hp8
                        obtain rfl := hS8.symm
                        refine a_istore K dX11_three_171 (by decide) ?_
                        refine a_iload K dX11_three_173 rfl ?_
                        refine a_iconst K dX11_three_175 (v := 1) (by decide) ?_
                        refine a_icmp_ne K dX11_three_176 (tgt := 182) (by decide) (fun c_176 => ?_) (fun c_176 => absurd c_176 (fun e9 => ca (nI_inj (b := 1) (by omega) (by decide) e9)))
                        first | refine a_aload_n K dX11_three_182 rfl ?_ | refine a_aload_nN K dX11_three_182 rfl ?_
                        refine a_getRs K fd_X11_95 (by exact lm_o hM) (Or.inr ⟨_, rfl⟩) (by exact lm_r749 hM) dX11_three_183 ?_
                        refine a_iload K dX11_three_186 rfl ?_
                        refine a_iald K (by exact lm_kk hM (by decide) (by decide)) (by show vp_in _ (sN W (m 26)); exact lm_ix (z := 1000) hM (by decide) (by decide) (show q < 1000 by omega) (by decide)) dX11_three_188 ?_
                        rw [nI_clamp (by omega)]
                        rw [hTh.1 q (by omega)]
                        refine a_iload K dX11_three_189 rfl ?_
                        refine a_invS K (q_thN (V := (vThr (ent xx.1 xx.2) (ent z.1 z.2) (ent y.1 y.2))) (q := q) (w := asW (vThr (ent xx.1 xx.2) (ent z.1 z.2) (ent y.1 y.2)) q ru) ha3 hv) my_X11_has ml_X11_271 st_X11_has rfl (by omega) (by omega) (by omega) rfl (Nat.le_of_ble_eq_true rfl) dX11_three_191 ?_
                        intro r8 S8 hp8
                        obtain ⟨rfl, hS8⟩ := hp8
                        obtain rfl := hS8.symm
                        refine a_if_eq K dX11_three_194 (tgt := 222) (by decide) (fun c_194 => ?_) (fun c_194 => absurd c_194 (fun z => z rfl))
                        first | refine a_aload_n K dX11_three_222 rfl ?_ | refine a_aload_nN K dX11_three_222 rfl ?_
                        refine a_iload K dX11_three_223 rfl ?_
                        refine a_iload K dX11_three_225 rfl ?_
                        refine a_iload K dX11_three_227 rfl ?_
                        refine a_invV K (ts.take (key := nI q) h1.1 h1.N.2.2.1 hQ0 (tok.tk9 hP tz).1 (by have := hP.2.2.2; omega) h1.wid hw3 hw6 hst.1.1 hst.1.2.2.2.1 (by omega) (by omega)) my_X11_takes ml_X11_339 im_X11_takes se_X11_takes (ci := 11) (by exact lm_o hM) (by decide) ⟨_, _, rfl⟩ rfl (by omega) (by omega) (by omega) rfl (Nat.le_of_ble_eq_true rfl) dX11_three_229 ?_
                        intro r9 W2 hp9
                        obtain ⟨ρ3, Z3, rfl, ts3⟩ := hp9
                        refine a_istore K dX11_three_232 (by decide) ?_
                        refine a_iinc K dX11_three_234 (v := 1) rfl (by decide) (by decide) ?_
                        refine a_goto K dX11_three_237 (tgt := 155) (by decide) ?_
                        exact aw_locl rfl (ih (q + 1) _ _ W2 ρ3 Z3 (nI_1 q) (by omega) ts3 hgo hag hR)
                      · have hs : st3 (pW P) (pTk P) (v3U (ent z.1 z.2) (ent xx.1 xx.2) (ent y.1 y.2) ru) q s = putT (pW P) (pTk P) s.2 (nI q) ((v3U (ent z.1 z.2) (ent xx.1 xx.2) (ent y.1 y.2) ru) q) s.1 := if_neg (fun e => hv (hav.symm.trans e))
                        rw [hs] at hgo hag hR
                        refine a_iload K dX11_three_155 rfl ?_
                        refine a_sipush K dX11_three_157 (v := 999) (by decide) ?_
                        refine a_icmp_gt K dX11_three_160 (tgt := 240) (by decide) (fun c_160 => absurd c_160 ((Int32.not_lt.mpr (show nI q ≤ 999 from nI_le (b := 999) (by omega) (by decide))))) (fun c_160 => ?_)
                        first | refine a_aload_n K dX11_three_163 rfl ?_ | refine a_aload_nN K dX11_three_163 rfl ?_
                        refine a_iload K dX11_three_164 rfl ?_
                        refine a_iload K dX11_three_166 rfl ?_
                        refine a_invV K (q_asWhich hM hTh (q := q) (by omega)) my_X11_asWhich ml_X11_374 im_X11_asWhich se_X11_asWhich (ci := 11) (by exact lm_o hM) (by decide) ⟨_, _, rfl⟩ rfl (by omega) (by omega) (by omega) rfl (Nat.le_of_ble_eq_true rfl) dX11_three_168 ?_
                        intro r8 S8 hp8
                        obtain ⟨rfl, hS8⟩ := hp8
                        obtain rfl := hS8.symm
                        refine a_istore K dX11_three_171 (by decide) ?_
                        refine a_iload K dX11_three_173 rfl ?_
                        refine a_iconst K dX11_three_175 (v := 1) (by decide) ?_
                        refine a_icmp_ne K dX11_three_176 (tgt := 182) (by decide) (fun c_176 => ?_) (fun c_176 => absurd c_176 (fun e9 => ca (nI_inj (b := 1) (by omega) (by decide) e9)))
                        first | refine a_aload_n K dX11_three_182 rfl ?_ | refine a_aload_nN K dX11_three_182 rfl ?_
                        refine a_getRs K fd_X11_95 (by exact lm_o hM) (Or.inr ⟨_, rfl⟩) (by exact lm_r749 hM) dX11_three_183 ?_
                        refine a_iload K dX11_three_186 rfl ?_
                        refine a_iald K (by exact lm_kk hM (by decide) (by decide)) (by show vp_in _ (sN W (m 26)); exact lm_ix (z := 1000) hM (by decide) (by decide) (show q < 1000 by omega) (by decide)) dX11_three_188 ?_
                        rw [nI_clamp (by omega)]
                        rw [hTh.1 q (by omega)]
                        refine a_iload K dX11_three_189 rfl ?_
                        refine a_invS K (q_thY (V := (vThr (ent xx.1 xx.2) (ent z.1 z.2) (ent y.1 y.2))) (q := q) (w := asW (vThr (ent xx.1 xx.2) (ent z.1 z.2) (ent y.1 y.2)) q ru) ha3 hv) my_X11_has ml_X11_271 st_X11_has rfl (by omega) (by omega) (by omega) rfl (Nat.le_of_ble_eq_true rfl) dX11_three_191 ?_
                        intro r8 S8 hp8
                        obtain ⟨rfl, hS8⟩ := hp8
                        obtain rfl := hS8.symm
                        refine a_if_eq K dX11_three_194 (tgt := 222) (by decide) (fun c_194 => absurd c_194 (by decide)) (fun c_194 => ?_)
                        first | refine a_aload_n K dX11_three_197 rfl ?_ | refine a_aload_nN K dX11_three_197 rfl ?_
                        refine a_iload K dX11_three_198 rfl ?_
                        refine a_iload K dX11_three_200 rfl ?_
                        first | refine a_aload_n K dX11_three_202 rfl ?_ | refine a_aload_nN K dX11_three_202 rfl ?_
                        refine a_getRs K fd_X11_98 (by exact lm_o hM) (Or.inr ⟨_, rfl⟩) (by exact lm_r750 hM) dX11_three_203 ?_
                        refine a_iconst K dX11_three_206 (v := 3) (by decide) ?_
                        refine a_iload K dX11_three_207 rfl ?_
                        refine a_imul K dX11_three_209 ?_
                        rw [nI_3]
                        refine a_iload K dX11_three_210 rfl ?_
                        refine a_iadd K dX11_three_212 ?_
                        rw [nI_add]
                        refine a_iald K (by exact lm_kk hM (by decide) (by decide)) (by show vp_in _ (sN W (m 27)); exact lm_ix (z := 3000) hM (by decide) (by decide) (show 3 * q + asW (vThr (ent xx.1 xx.2) (ent z.1 z.2) (ent y.1 y.2)) q ru < 3000 by omega) (by decide)) dX11_three_213 ?_
                        rw [nI_clamp (by omega)]
                        rw [hTh.2 _ ha3 q (by omega) hv, ← hav]
                        refine a_iload K dX11_three_214 rfl ?_
                        refine a_invV K (ts.put (key := nI q) (v := (v3U (ent z.1 z.2) (ent xx.1 xx.2) (ent y.1 y.2) ru) q) h1.1 h1.N.2.2.1 hQ0 (tok.tk9 hP tz).1 (by have := hP.2.2.2; omega) h1.wid hw3 hw6 hst.1.1 hst.1.2.2.2.1 (by omega) (by omega)) my_X11_puts ml_X11_298 im_X11_puts se_X11_puts (ci := 11) (by exact lm_o hM) (by decide) ⟨_, _, rfl⟩ rfl (by omega) (by omega) (by omega) rfl (Nat.le_of_ble_eq_true rfl) dX11_three_216 ?_
                        intro r9 W2 hp9
                        obtain ⟨ρ3, Z3, rfl, ts3⟩ := hp9
                        refine a_goto K dX11_three_219 (tgt := 232) (by decide) ?_
                        refine a_istore K dX11_three_232 (by decide) ?_
                        refine a_iinc K dX11_three_234 (v := 1) rfl (by decide) (by decide) ?_
                        refine a_goto K dX11_three_237 (tgt := 155) (by decide) ?_
                        exact aw_locl rfl (ih (q + 1) _ _ W2 ρ3 Z3 (nI_1 q) (by omega) ts3 hgo hag hR)
                  exact aw_locl rfl (loop2 1000 0 _ (z, pU P) S1 ρ Z1 nI_0.symm (Nat.zero_add _) (TS.rf h1.N.1 h1.N.2.1 (h1.rep (rootP_live hz))) ⟨0, stn.rf ((tz.mono (Nat.le_refl _) (Nat.le_succ _)).n (Nat.le_refl _)), by rw [Nat.zero_add, cnt_len ty.hs ty.2.1]; exact ty.2.2.1⟩ (fun k _ _ => rfl) hRR)
                · have hE : thrF P (nI jb) (nI jm) (nI jo) ru = (-1, refP P 4) := by
                    unfold thrF
                    rw [hx, hz, hy]
                    exact (if_pos hrr).trans ((if_pos (by rw [hR1e]; exact hsz)).trans (if_neg hr))
                  refine a_iload K dX11_three_112 rfl ?_
                  refine a_bipush K dX11_three_114 (v := 60) (by decide) ?_
                  refine a_icmp_le K dX11_three_116 (tgt := 125) (by decide) (fun c_116 => ?_) (fun c_116 => absurd c_116 (fun z => z (nI_le (b := 60) hsz (by decide))))
                  first | refine a_aload_n K dX11_three_125 rfl ?_ | refine a_aload_nN K dX11_three_125 rfl ?_
                  refine a_invV K ((h9.room hl9 hc16).2 hr) my_X11_hasRoom ml_X11_289 im_X11_hasRoom se_X11_hasRoom (ci := 11) (by exact lm_o hM) (by decide) ⟨_, _, rfl⟩ rfl (by omega) (by omega) (by omega) rfl (Nat.le_of_ble_eq_true rfl) dX11_three_126 ?_
                  intro r9 S9 hp9
                  obtain ⟨rfl, hS9⟩ := hp9
                  obtain rfl := hS9.symm
                  refine a_if_ne K dX11_three_129 (tgt := 138) (by decide) (fun c_129 => absurd c_129 (fun z => z rfl)) (fun c_129 => ?_)
                  first | refine a_aload_n K dX11_three_132 rfl ?_ | refine a_aload_nN K dX11_three_132 rfl ?_
                  refine a_iconst K dX11_three_133 (v := 4) (by decide) ?_
                  rw [show (4 : Int32) = nI 4 from rfl]
                  refine a_invV K (q_refP h9 (k := 4) (by decide)) my_X11_refused ml_X11_292 im_X11_refused se_X11_refused (ci := 11) (by exact lm_o hM) (by decide) ⟨_, _, rfl⟩ rfl (by omega) (by omega) (by omega) rfl (Nat.le_of_ble_eq_true rfl) dX11_three_134 ?_
                  intro r9 S9 hp9
                  obtain ⟨rfl, hR, qR⟩ := hp9
                  exact a_iret K EE rfl (by omega) (by omega) dX11_three_137 ⟨ρ, Z, by rw [hE], by rw [hE]; exact hR.up (Nat.le_succ mb) (by omega), mQ_tr q0 (mQ_tr q9 qR)⟩
              · have hE : thrF P (nI jb) (nI jm) (nI jo) ru = (-1, refP P 3) := by
                  unfold thrF
                  rw [hx, hz, hy]
                  exact (if_pos hrr).trans (if_neg (by rw [hR1e]; exact hsz))
                refine a_iload K dX11_three_112 rfl ?_
                refine a_bipush K dX11_three_114 (v := 60) (by decide) ?_
                refine a_icmp_le K dX11_three_116 (tgt := 125) (by decide) (fun c_116 => absurd c_116 (fun z => hsz ((nI_leI (b := 60) (by omega) (by decide)).mp z))) (fun c_116 => ?_)
                first | refine a_aload_n K dX11_three_119 rfl ?_ | refine a_aload_nN K dX11_three_119 rfl ?_
                refine a_iconst K dX11_three_120 (v := 3) (by decide) ?_
                rw [show (3 : Int32) = nI 3 from rfl]
                refine a_invV K (q_refP h9 (k := 3) (by decide)) my_X11_refused ml_X11_292 im_X11_refused se_X11_refused (ci := 11) (by exact lm_o hM) (by decide) ⟨_, _, rfl⟩ rfl (by omega) (by omega) (by omega) rfl (Nat.le_of_ble_eq_true rfl) dX11_three_121 ?_
                intro r9 S9 hp9
                obtain ⟨rfl, hR, qR⟩ := hp9
                exact a_iret K EE rfl (by omega) (by omega) dX11_three_124 ⟨ρ, Z, by rw [hE], by rw [hE]; exact hR.up (Nat.le_succ mb) (by omega), mQ_tr q0 (mQ_tr q9 qR)⟩
            | succ n ih =>
              intro q a x c hx9 hc hn hR
              subst hx9
              subst hc
              have hav := as_v (B := (ent xx.1 xx.2)) (E := (ent z.1 z.2)) (O := (ent y.1 y.2)) (r := ru) q
              have ha3 := asW_le (vThr (ent xx.1 xx.2) (ent z.1 z.2) (ent y.1 y.2)) q ru
              by_cases hv : (vThr (ent xx.1 xx.2) (ent z.1 z.2) (ent y.1 y.2)) (asW (vThr (ent xx.1 xx.2) (ent z.1 z.2) (ent y.1 y.2)) q ru) q = -1000000
              · refine a_iload K dX11_three_67 rfl ?_
                refine a_sipush K dX11_three_69 (v := 999) (by decide) ?_
                refine a_icmp_gt K dX11_three_72 (tgt := 112) (by decide) (fun c_72 => absurd c_72 ((Int32.not_lt.mpr (show nI q ≤ 999 from nI_le (b := 999) (by omega) (by decide))))) (fun c_72 => ?_)
                refine a_iload K dX11_three_75 rfl ?_
                first | refine a_aload_n K dX11_three_77 rfl ?_ | refine a_aload_nN K dX11_three_77 rfl ?_
                refine a_getRs K fd_X11_95 (by exact lm_o hM) (Or.inr ⟨_, rfl⟩) (by exact lm_r749 hM) dX11_three_78 ?_
                refine a_iload K dX11_three_81 rfl ?_
                refine a_iald K (by exact lm_kk hM (by decide) (by decide)) (by show vp_in _ (sN S9 (m 26)); exact lm_ix (z := 1000) hM (by decide) (by decide) (show q < 1000 by omega) (by decide)) dX11_three_83 ?_
                rw [nI_clamp (by omega)]
                rw [hTh.1 q (by omega)]
                first | refine a_aload_n K dX11_three_84 rfl ?_ | refine a_aload_nN K dX11_three_84 rfl ?_
                refine a_iload K dX11_three_85 rfl ?_
                refine a_iload K dX11_three_87 rfl ?_
                refine a_invV K (q_asWhich hM hTh (q := q) (by omega)) my_X11_asWhich ml_X11_374 im_X11_asWhich se_X11_asWhich (ci := 11) (by exact lm_o hM) (by decide) ⟨_, _, rfl⟩ rfl (by omega) (by omega) (by omega) rfl (Nat.le_of_ble_eq_true rfl) dX11_three_89 ?_
                intro r8 S8 hp8
                obtain ⟨rfl, hS8⟩ := hp8
                obtain rfl := hS8.symm
                refine a_invS K (q_thN (V := (vThr (ent xx.1 xx.2) (ent z.1 z.2) (ent y.1 y.2))) (q := q) (w := asW (vThr (ent xx.1 xx.2) (ent z.1 z.2) (ent y.1 y.2)) q ru) ha3 hv) my_X11_has ml_X11_271 st_X11_has rfl (by omega) (by omega) (by omega) rfl (Nat.le_of_ble_eq_true rfl) dX11_three_92 ?_
                intro r8 S8 hp8
                obtain ⟨rfl, hS8⟩ := hp8
                obtain rfl := hS8.symm
                refine a_if_eq K dX11_three_95 (tgt := 102) (by decide) (fun c_95 => ?_) (fun c_95 => absurd c_95 (fun z => z rfl))
                refine a_iconst K dX11_three_102 (v := 0) (by decide) ?_
                refine a_iadd K dX11_three_103 ?_
                refine a_istore K dX11_three_104 (by decide) ?_
                refine a_iinc K dX11_three_106 (v := 1) rfl (by decide) (by decide) ?_
                refine a_goto K dX11_three_109 (tgt := 67) (by decide) ?_
                exact aw_locl rfl (ih (q + 1) a _ _ (nI_1 q) (Int32.add_zero _) (by omega) (by rw [cntU_n (show vsU (v3U (ent z.1 z.2) (ent xx.1 xx.2) (ent y.1 y.2) ru) (999 - n) = false by rw [show 999 - n = q by omega]; exact decide_eq_false (fun e => e (hav.trans hv)))] at hR; exact hR))
              · refine a_iload K dX11_three_67 rfl ?_
                refine a_sipush K dX11_three_69 (v := 999) (by decide) ?_
                refine a_icmp_gt K dX11_three_72 (tgt := 112) (by decide) (fun c_72 => absurd c_72 ((Int32.not_lt.mpr (show nI q ≤ 999 from nI_le (b := 999) (by omega) (by decide))))) (fun c_72 => ?_)
                refine a_iload K dX11_three_75 rfl ?_
                first | refine a_aload_n K dX11_three_77 rfl ?_ | refine a_aload_nN K dX11_three_77 rfl ?_
                refine a_getRs K fd_X11_95 (by exact lm_o hM) (Or.inr ⟨_, rfl⟩) (by exact lm_r749 hM) dX11_three_78 ?_
                refine a_iload K dX11_three_81 rfl ?_
                refine a_iald K (by exact lm_kk hM (by decide) (by decide)) (by show vp_in _ (sN S9 (m 26)); exact lm_ix (z := 1000) hM (by decide) (by decide) (show q < 1000 by omega) (by decide)) dX11_three_83 ?_
                rw [nI_clamp (by omega)]
                rw [hTh.1 q (by omega)]
                first | refine a_aload_n K dX11_three_84 rfl ?_ | refine a_aload_nN K dX11_three_84 rfl ?_
                refine a_iload K dX11_three_85 rfl ?_
                refine a_iload K dX11_three_87 rfl ?_
                refine a_invV K (q_asWhich hM hTh (q := q) (by omega)) my_X11_asWhich ml_X11_374 im_X11_asWhich se_X11_asWhich (ci := 11) (by exact lm_o hM) (by decide) ⟨_, _, rfl⟩ rfl (by omega) (by omega) (by omega) rfl (Nat.le_of_ble_eq_true rfl) dX11_three_89 ?_
                intro r8 S8 hp8
                obtain ⟨rfl, hS8⟩ := hp8
                obtain rfl := hS8.symm
                refine a_invS K (q_thY (V := (vThr (ent xx.1 xx.2) (ent z.1 z.2) (ent y.1 y.2))) (q := q) (w := asW (vThr (ent xx.1 xx.2) (ent z.1 z.2) (ent y.1 y.2)) q ru) ha3 hv) my_X11_has ml_X11_271 st_X11_has rfl (by omega) (by omega) (by omega) rfl (Nat.le_of_ble_eq_true rfl) dX11_three_92 ?_
                intro r8 S8 hp8
                obtain ⟨rfl, hS8⟩ := hp8
                obtain rfl := hS8.symm
                refine a_if_eq K dX11_three_95 (tgt := 102) (by decide) (fun c_95 => absurd c_95 (by decide)) (fun c_95 => ?_)
                refine a_iconst K dX11_three_98 (v := 1) (by decide) ?_
                refine a_goto K dX11_three_99 (tgt := 103) (by decide) ?_
                refine a_iadd K dX11_three_103 ?_
                refine a_istore K dX11_three_104 (by decide) ?_
                refine a_iinc K dX11_three_106 (v := 1) rfl (by decide) (by decide) ?_
                refine a_goto K dX11_three_109 (tgt := 67) (by decide) ?_
                exact aw_locl rfl (ih (q + 1) (a + 1) _ _ (nI_1 q) (nI_1 a) (by omega) (by rw [cntU_y (show vsU (v3U (ent z.1 z.2) (ent xx.1 xx.2) (ent y.1 y.2) ru) (999 - n) = true by rw [show 999 - n = q by omega]; exact decide_eq_true (fun e => hv (hav.symm.trans e)))] at hR; exact hR))
          exact aw_locl rfl (loop1 1000 0 0 _ _ nI_0.symm nI_0.symm (Nat.zero_add _) hR1e)
        · have hE : thrF P (nI jb) (nI jm) (nI jo) ru = (-1, refP P 1) := by
            unfold thrF
            rw [hx, hz, hy]
            exact if_neg hrr
          first | refine a_aload_n K dX11_three_0 rfl ?_ | refine a_aload_nN K dX11_three_0 rfl ?_
          refine a_iconst K dX11_three_1 (v := 0) (by decide) ?_
          refine a_putI K fd_X11_116 (by exact lm_o hM) rfl dX11_three_2 ?_
          have f0 : frM S (wI S 704 (m 33) 0) m [] [704] := frM_wI (by decide) (by decide)
          obtain ⟨T, hT⟩ : ∃ T, T = wI S 704 (m 33) 0 := ⟨_, rfl⟩
          rw [← hT] at f0 ⊢
          obtain ⟨h, q0⟩ := h0.scr hP f0 (by decide) (by decide)
          have hM := h.1
          first | refine a_aload_n K dX11_three_5 rfl ?_ | refine a_aload_nN K dX11_three_5 rfl ?_
          refine a_iload_n K dX11_three_6 rfl ?_
          refine a_invV K (q_mapY h hl9 hx) my_X11_isMap ml_X11_309 im_X11_isMap se_X11_isMap (ci := 11) (by exact lm_o hM) (by decide) ⟨_, _, rfl⟩ rfl (by omega) (by omega) (by omega) rfl (Nat.le_of_ble_eq_true rfl) dX11_three_7 ?_
          intro r9 S9 hp9
          obtain ⟨rfl, hS9⟩ := hp9
          obtain rfl := hS9.symm
          refine a_if_eq K dX11_three_10 (tgt := 29) (by decide) (fun c_10 => absurd c_10 (by decide)) (fun c_10 => ?_)
          first | refine a_aload_n K dX11_three_13 rfl ?_ | refine a_aload_nN K dX11_three_13 rfl ?_
          refine a_iload_n K dX11_three_14 rfl ?_
          refine a_invV K (q_mapY h hl9 hz) my_X11_isMap ml_X11_309 im_X11_isMap se_X11_isMap (ci := 11) (by exact lm_o hM) (by decide) ⟨_, _, rfl⟩ rfl (by omega) (by omega) (by omega) rfl (Nat.le_of_ble_eq_true rfl) dX11_three_15 ?_
          intro r9 S9 hp9
          obtain ⟨rfl, hS9⟩ := hp9
          obtain rfl := hS9.symm
          refine a_if_eq K dX11_three_18 (tgt := 29) (by decide) (fun c_18 => absurd c_18 (by decide)) (fun c_18 => ?_)
          first | refine a_aload_n K dX11_three_21 rfl ?_ | refine a_aload_nN K dX11_three_21 rfl ?_
          refine a_iload_n K dX11_three_22 rfl ?_
          refine a_invV K (q_mapY h hl9 hy) my_X11_isMap ml_X11_309 im_X11_isMap se_X11_isMap (ci := 11) (by exact lm_o hM) (by decide) ⟨_, _, rfl⟩ rfl (by omega) (by omega) (by omega) rfl (Nat.le_of_ble_eq_true rfl) dX11_three_23 ?_
          intro r9 S9 hp9
          obtain ⟨rfl, hS9⟩ := hp9
          obtain rfl := hS9.symm
          refine a_if_ne K dX11_three_26 (tgt := 35) (by decide) (fun c_26 => ?_) (fun c_26 => absurd c_26 (by decide))
          refine a_iload K dX11_three_35 rfl ?_
          refine a_i2l K dX11_three_37 ?_
          refine a_lconst K dX11_three_38 (v := 0) (by decide) ?_
          refine a_ldc2 K kc_X11_369 dX11_three_39 ?_
          refine a_invS K (q_inN (p := 0) (q := 2) (by decide) (by decide) hrr) my_X11_isIn ml_X11_174 st_X11_isIn rfl (by omega) (by omega) (by omega) rfl (Nat.le_of_ble_eq_true rfl) dX11_three_42 ?_
          intro r9 S9 hp9
          obtain ⟨rfl, hS9⟩ := hp9
          obtain rfl := hS9.symm
          refine a_if_ne K dX11_three_45 (tgt := 54) (by decide) (fun c_45 => absurd c_45 (fun z => z rfl)) (fun c_45 => ?_)
          first | refine a_aload_n K dX11_three_48 rfl ?_ | refine a_aload_nN K dX11_three_48 rfl ?_
          refine a_iconst K dX11_three_49 (v := 1) (by decide) ?_
          rw [show (1 : Int32) = nI 1 from rfl]
          refine a_invV K (q_refP h (k := 1) (by decide)) my_X11_refused ml_X11_292 im_X11_refused se_X11_refused (ci := 11) (by exact lm_o hM) (by decide) ⟨_, _, rfl⟩ rfl (by omega) (by omega) (by omega) rfl (Nat.le_of_ble_eq_true rfl) dX11_three_50 ?_
          intro r9 S9 hp9
          obtain ⟨rfl, hR, qR⟩ := hp9
          exact a_iret K EE rfl (by omega) (by omega) dX11_three_53 ⟨ρ, Z, by rw [hE], by rw [hE]; exact hR.up (Nat.le_succ mb) (by omega), mQ_tr q0 qR⟩
