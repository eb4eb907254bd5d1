theorem nI_3 (n : Nat) : 3 * nI n = nI (3 * n) := (Int32.ofNat_mul 3 n).symm
/-- the letters of all words in a row -/
theorem st7_0 : ∀ w, w < 6 → stB 7 (3 * w) = stB w 0 := by decide
theorem st7 : ∀ w, w < 6 → ∀ k, k < st_len.getD w 0 → stB 7 (3 * w + k) = stB w k := by decide
theorem st7_l : ∀ w, w < 6 → 3 * w + st_len.getD w 0 ≤ 19 := by decide
theorem st7_n : ∀ w, w < 6 → st_len.getD w 0 = if w = 5 then 4 else 3 := by decide
theorem wrdB_y : ∀ w, w < 6 → wrdB (stB w 0) = w := by decide
theorem wrdB_n {x : Int32} (h : ∀ w, w < 6 → ¬ x = stB w 0) : wrdB x = 6 := by
  unfold wrdB
  rw [if_neg (show ¬ x = 112 from h 0 (by decide)), if_neg (show ¬ x = 100 from h 1 (by decide)), if_neg (show ¬ x = 97 from h 2 (by decide)), if_neg (show ¬ x = 99 from h 3 (by decide)), if_neg (show ¬ x = 105 from h 4 (by decide)), if_neg (show ¬ x = 115 from h 5 (by decide))]
/-- the fault behind a word read -/
def fltW (r : Nat × Option Nat) : Int32 := match r.2 with
  | none => nI r.1
  | some _ => -1
set_option maxHeartbeats 4000000 in
set_option maxRecDepth 100000 in
theorem q_word {S : aw_S} {m : Nat → Nat} (hM0 : LM S m) {L : List Int32} (hT0 : TpM S m L) {p0 q : Nat} (hp0 : p0 < 2147481000) (hq : skB L p0 = q) (hq9 : q < 2147481000) (ha0 : sI S 707 (m 33) = nI p0) (hf0 : sI S 708 (m 33) = -1) : aw_M yX11_word cX11_word 4 (some FieldType.int) 4 0 0 [.ref (m 33)] S (fun r S2 => ∃ w9, r = some (.int w9) ∧ sI S2 707 (m 33) = nI (wrdR L p0).1 ∧ sI S2 708 (m 33) = fltW (wrdR L p0) ∧ (∀ w, (wrdR L p0).2 = some w → w9 = nI w) ∧ frM S S2 m [] [707, 708]) := by
  refine aw_enter (by decide +kernel) (Nat.le_of_ble_eq_true rfl) (fun g K EE => ?_)
  obtain ⟨ad, av, Z⟩ := x_str K
  have words : ∀ (S1 : aw_S), LM S1 m → TpM S1 m L → sI S1 707 (m 33) = nI q → sI S1 708 (m 33) = -1 → frM S S1 m [] [707, 708] → ∀ (n w : Nat) (x : Int32), x = nI w → w + n = 6 → (∀ v, v < w → ¬ chr L q = stB v 0) → aw g 4 S1 0 0 [(2, .int x), (1, .int (chr L q)), (0, .ref (m 33))] [] 7 := by
    intro S1 hM hT ha hf f n
    induction n with
    | zero =>
      intro w x hx hn hno
      subst hx
      refine a_iload_n K dX11_word_7 rfl ?_
      refine a_bipush K dX11_word_8 (v := 6) (by decide) ?_
      refine a_icmp_ge K dX11_word_10 (tgt := 91) (by decide) (fun c_10 => ?_) (fun c_10 => absurd c_10 (fun z => z (nI_le (a := 6) (b := w) (by omega) (by omega))))
      first | refine a_aload_n K dX11_word_91 rfl ?_ | refine a_aload_nN K dX11_word_91 rfl ?_
      refine a_invV K (q_fails hM ha hf) my_X11_fails ml_X11_147 im_X11_fails se_X11_fails (ci := 11) (by exact lm_o hM) (by decide) ⟨_, _, rfl⟩ rfl (by omega) (by omega) (by omega) rfl (Nat.le_of_ble_eq_true rfl) dX11_word_92 ?_
      intro r9 S9 hp9
      obtain ⟨rfl, rfl⟩ := hp9
      refine a_iconst K dX11_word_95 (v := -1) (by decide) ?_
      exact a_iret K EE rfl (by omega) (by omega) dX11_word_96 (by
        have hb : wrdB (chr L q) = 6 := wrdB_n (fun v hv => hno v (by omega))
        have hw : wrdR L p0 = (q, none) := by unfold wrdR wrdM; rw [hq, hb]; rfl
        rw [hw]
        have g2 : frM S1 (wI S1 708 (m 33) (nI q)) m [] [707, 708] := frM_wI (by decide) (by decide)
        exact ⟨_, rfl, by rw [sI_wI, if_neg (fun z => absurd z.1 (by decide))]; exact ha, wI_at, fun v hv => absurd hv (by simp), f.tr g2⟩)
    | succ n ih =>
      intro w x hx hn hno
      subst hx
      have hw6 : w < 6 := by omega
      have hl19 := st7_l w hw6
      by_cases cw : chr L q = stB w 0
      · have hwB : wrdB (chr L q) = w := by rw [cw]; exact wrdB_y w hw6
        have hlw := st7_n w hw6
        have let9 : ∀ (n j p : Nat) (x : Int32) (T : aw_S), x = nI j → j + n = st_len.getD w 0 → p + n < 2147482000 → LM T m → TpM T m L → frM S T m [] [707, 708] → sI T 707 (m 33) = nI p → sI T 708 (m 33) = -1 → matR L w n j p = wrdM L p0 → aw g 4 T 0 0 [(3, .int x), (2, .int (nI w)), (1, .int (chr L q)), (0, .ref (m 33))] [] 30 := by
          intro n
          induction n with
          | zero =>
            intro j p x T hx hn hp hM hT f ha hf hR
            subst hx
            by_cases h5 : w = 5
            · refine a_iload_n K dX11_word_30 rfl ?_
              refine a_iload_n K dX11_word_31 rfl ?_
              refine a_iconst K dX11_word_32 (v := 5) (by decide) ?_
              refine a_icmp_ne K dX11_word_33 (tgt := 40) (by decide) (fun c_33 => absurd c_33 (fun z => z (by rw [h5]; rfl))) (fun c_33 => ?_)
              refine a_iconst K dX11_word_36 (v := 4) (by decide) ?_
              refine a_goto K dX11_word_37 (tgt := 41) (by decide) ?_
              refine a_icmp_ge K dX11_word_41 (tgt := 83) (by decide) (fun c_41 => ?_) (fun c_41 => absurd c_41 (fun z => z (by rw [show (4 : Int32) = nI (st_len.getD w 0) from by rw [hlw]; rw [if_pos h5]; rfl]; exact nI_le (by omega) (by omega))))
              refine a_iload_n K dX11_word_83 rfl ?_
              exact a_iret K EE rfl (by omega) (by omega) dX11_word_84 (by
                have hm : wrdM L p0 = (p, true) := hR.symm
                have hw : wrdR L p0 = (p, some w) := by unfold wrdR; rw [hm, hq, hwB, if_pos ⟨rfl, hw6⟩]
                rw [hw]
                exact ⟨_, rfl, ha, hf, fun v hv => congrArg nI (Option.some.inj hv), f⟩)
            · refine a_iload_n K dX11_word_30 rfl ?_
              refine a_iload_n K dX11_word_31 rfl ?_
              refine a_iconst K dX11_word_32 (v := 5) (by decide) ?_
              refine a_icmp_ne K dX11_word_33 (tgt := 40) (by decide) (fun c_33 => ?_) (fun c_33 => absurd c_33 (fun z => h5 (nI_inj (by omega) (by decide) z)))
              refine a_iconst K dX11_word_40 (v := 3) (by decide) ?_
              refine a_icmp_ge K dX11_word_41 (tgt := 83) (by decide) (fun c_41 => ?_) (fun c_41 => absurd c_41 (fun z => z (by rw [show (3 : Int32) = nI (st_len.getD w 0) from by rw [hlw]; rw [if_neg h5]; rfl]; exact nI_le (by omega) (by omega))))
              refine a_iload_n K dX11_word_83 rfl ?_
              exact a_iret K EE rfl (by omega) (by omega) dX11_word_84 (by
                have hm : wrdM L p0 = (p, true) := hR.symm
                have hw : wrdR L p0 = (p, some w) := by unfold wrdR; rw [hm, hq, hwB, if_pos ⟨rfl, hw6⟩]
                rw [hw]
                exact ⟨_, rfl, ha, hf, fun v hv => congrArg nI (Option.some.inj hv), f⟩)
          | succ n ih =>
            intro j p x T hx hn hp hM hT f ha hf hR
            subst hx
            by_cases cb : chr L p = stB w j
            · by_cases h5 : w = 5
              · refine a_iload_n K dX11_word_30 rfl ?_
                refine a_iload_n K dX11_word_31 rfl ?_
                refine a_iconst K dX11_word_32 (v := 5) (by decide) ?_
                refine a_icmp_ne K dX11_word_33 (tgt := 40) (by decide) (fun c_33 => absurd c_33 (fun z => z (by rw [h5]; rfl))) (fun c_33 => ?_)
                refine a_iconst K dX11_word_36 (v := 4) (by decide) ?_
                refine a_goto K dX11_word_37 (tgt := 41) (by decide) ?_
                refine a_icmp_ge K dX11_word_41 (tgt := 83) (by decide) (fun c_41 => absurd c_41 (by rw [show (4 : Int32) = nI (st_len.getD w 0) from by rw [hlw]; rw [if_pos h5]; rfl]; exact nI_ge (by omega) (by omega))) (fun c_41 => ?_)
                first | refine a_aload_n K dX11_word_44 rfl ?_ | refine a_aload_nN K dX11_word_44 rfl ?_
                refine a_invV K (q_here hM hT (by omega) ha) my_X11_here ml_X11_133 im_X11_here se_X11_here (ci := 11) (by exact lm_o hM) (by decide) ⟨_, _, rfl⟩ rfl (by omega) (by omega) (by omega) rfl (Nat.le_of_ble_eq_true rfl) dX11_word_45 ?_
                intro r9 S9 hp9
                obtain ⟨rfl, hS9⟩ := hp9
                obtain rfl := hS9.symm
                refine x_ldcS K (Z 7 (by decide)) (tx := st_tx 7) (fun _ _ _ h => h.1) dX11_word_48 ?_
                refine a_iconst K dX11_word_50 (v := 3) (by decide) ?_
                refine a_iload_n K dX11_word_51 rfl ?_
                refine a_imul K dX11_word_52 ?_
                rw [nI_3]
                refine a_iload_n K dX11_word_53 rfl ?_
                refine a_iadd K dX11_word_54 ?_
                rw [nI_add]
                refine x_invV K (Z 7 (by decide)) (strZ_ok _ _ _) (m_J0_charAt_5068e (i := 7) (j := 3 * w + j) (by decide) (show 3 * w + j < 19 by omega)) my_J0_charAt_5068e ml_X11_161 im_J0_charAt_5068e se_J0_charAt_5068e (fun _ _ _ h => h.2.1) rfl (by omega) (by omega) (by omega) rfl (Nat.le_of_ble_eq_true rfl) dX11_word_55 ?_
                intro r9 S9 hp9
                obtain ⟨rfl, hS9⟩ := hp9
                obtain rfl := hS9.symm
                rw [st7 w hw6 j (by omega)]
                refine a_icmp_eq K dX11_word_58 (tgt := 67) (by decide) (fun c_58 => ?_) (fun c_58 => absurd c_58 (fun z => z cb))
                first | refine a_aload_n K dX11_word_67 rfl ?_ | refine a_aload_nN K dX11_word_67 rfl ?_
                refine a_dup K dX11_word_68 rfl ?_
                refine a_getI K fd_X11_130 (by exact lm_o hM) (Or.inl rfl) dX11_word_69 ?_
                rw [ha]
                refine a_iconst K dX11_word_72 (v := 1) (by decide) ?_
                refine a_iadd K dX11_word_73 ?_
                rw [nI_1]
                refine a_putI K fd_X11_130 (by exact lm_o hM) rfl dX11_word_74 ?_
                refine a_iinc K dX11_word_77 (v := 1) rfl (by decide) (by decide) ?_
                refine a_goto K dX11_word_80 (tgt := 30) (by decide) ?_
                have g2 : frM T (wI T 707 (m 33) (nI (p + 1))) m [] [707, 708] := frM_wI (by decide) (by decide)
                exact aw_locl rfl (ih (j + 1) (p + 1) _ _ (nI_1 j) (by omega) (by omega) (g2.lay hM) (hT.fr hM g2 (by decide) (by decide) (by decide)) (f.tr g2) wI_at (by rw [sI_wI, if_neg (fun z => absurd z.1 (by decide))]; exact hf) (by rw [← hR, matR, if_pos cb]))
              · refine a_iload_n K dX11_word_30 rfl ?_
                refine a_iload_n K dX11_word_31 rfl ?_
                refine a_iconst K dX11_word_32 (v := 5) (by decide) ?_
                refine a_icmp_ne K dX11_word_33 (tgt := 40) (by decide) (fun c_33 => ?_) (fun c_33 => absurd c_33 (fun z => h5 (nI_inj (by omega) (by decide) z)))
                refine a_iconst K dX11_word_40 (v := 3) (by decide) ?_
                refine a_icmp_ge K dX11_word_41 (tgt := 83) (by decide) (fun c_41 => absurd c_41 (by rw [show (3 : Int32) = nI (st_len.getD w 0) from by rw [hlw]; rw [if_neg h5]; rfl]; exact nI_ge (by omega) (by omega))) (fun c_41 => ?_)
                first | refine a_aload_n K dX11_word_44 rfl ?_ | refine a_aload_nN K dX11_word_44 rfl ?_
                refine a_invV K (q_here hM hT (by omega) ha) my_X11_here ml_X11_133 im_X11_here se_X11_here (ci := 11) (by exact lm_o hM) (by decide) ⟨_, _, rfl⟩ rfl (by omega) (by omega) (by omega) rfl (Nat.le_of_ble_eq_true rfl) dX11_word_45 ?_
                intro r9 S9 hp9
                obtain ⟨rfl, hS9⟩ := hp9
                obtain rfl := hS9.symm
                refine x_ldcS K (Z 7 (by decide)) (tx := st_tx 7) (fun _ _ _ h => h.1) dX11_word_48 ?_
                refine a_iconst K dX11_word_50 (v := 3) (by decide) ?_
                refine a_iload_n K dX11_word_51 rfl ?_
                refine a_imul K dX11_word_52 ?_
                rw [nI_3]
                refine a_iload_n K dX11_word_53 rfl ?_
                refine a_iadd K dX11_word_54 ?_
                rw [nI_add]
                refine x_invV K (Z 7 (by decide)) (strZ_ok _ _ _) (m_J0_charAt_5068e (i := 7) (j := 3 * w + j) (by decide) (show 3 * w + j < 19 by omega)) my_J0_charAt_5068e ml_X11_161 im_J0_charAt_5068e se_J0_charAt_5068e (fun _ _ _ h => h.2.1) rfl (by omega) (by omega) (by omega) rfl (Nat.le_of_ble_eq_true rfl) dX11_word_55 ?_
                intro r9 S9 hp9
                obtain ⟨rfl, hS9⟩ := hp9
                obtain rfl := hS9.symm
                rw [st7 w hw6 j (by omega)]
                refine a_icmp_eq K dX11_word_58 (tgt := 67) (by decide) (fun c_58 => ?_) (fun c_58 => absurd c_58 (fun z => z cb))
                first | refine a_aload_n K dX11_word_67 rfl ?_ | refine a_aload_nN K dX11_word_67 rfl ?_
                refine a_dup K dX11_word_68 rfl ?_
                refine a_getI K fd_X11_130 (by exact lm_o hM) (Or.inl rfl) dX11_word_69 ?_
                rw [ha]
                refine a_iconst K dX11_word_72 (v := 1) (by decide) ?_
                refine a_iadd K dX11_word_73 ?_
                rw [nI_1]
                refine a_putI K fd_X11_130 (by exact lm_o hM) rfl dX11_word_74 ?_
                refine a_iinc K dX11_word_77 (v := 1) rfl (by decide) (by decide) ?_
                refine a_goto K dX11_word_80 (tgt := 30) (by decide) ?_
                have g2 : frM T (wI T 707 (m 33) (nI (p + 1))) m [] [707, 708] := frM_wI (by decide) (by decide)
                exact aw_locl rfl (ih (j + 1) (p + 1) _ _ (nI_1 j) (by omega) (by omega) (g2.lay hM) (hT.fr hM g2 (by decide) (by decide) (by decide)) (f.tr g2) wI_at (by rw [sI_wI, if_neg (fun z => absurd z.1 (by decide))]; exact hf) (by rw [← hR, matR, if_pos cb]))
            · by_cases h5 : w = 5
              · refine a_iload_n K dX11_word_30 rfl ?_
                refine a_iload_n K dX11_word_31 rfl ?_
                refine a_iconst K dX11_word_32 (v := 5) (by decide) ?_
                refine a_icmp_ne K dX11_word_33 (tgt := 40) (by decide) (fun c_33 => absurd c_33 (fun z => z (by rw [h5]; rfl))) (fun c_33 => ?_)
                refine a_iconst K dX11_word_36 (v := 4) (by decide) ?_
                refine a_goto K dX11_word_37 (tgt := 41) (by decide) ?_
                refine a_icmp_ge K dX11_word_41 (tgt := 83) (by decide) (fun c_41 => absurd c_41 (by rw [show (4 : Int32) = nI (st_len.getD w 0) from by rw [hlw]; rw [if_pos h5]; rfl]; exact nI_ge (by omega) (by omega))) (fun c_41 => ?_)
                first | refine a_aload_n K dX11_word_44 rfl ?_ | refine a_aload_nN K dX11_word_44 rfl ?_
                refine a_invV K (q_here hM hT (by omega) ha) my_X11_here ml_X11_133 im_X11_here se_X11_here (ci := 11) (by exact lm_o hM) (by decide) ⟨_, _, rfl⟩ rfl (by omega) (by omega) (by omega) rfl (Nat.le_of_ble_eq_true rfl) dX11_word_45 ?_
                intro r9 S9 hp9
                obtain ⟨rfl, hS9⟩ := hp9
                obtain rfl := hS9.symm
                refine x_ldcS K (Z 7 (by decide)) (tx := st_tx 7) (fun _ _ _ h => h.1) dX11_word_48 ?_
                refine a_iconst K dX11_word_50 (v := 3) (by decide) ?_
                refine a_iload_n K dX11_word_51 rfl ?_
                refine a_imul K dX11_word_52 ?_
                rw [nI_3]
                refine a_iload_n K dX11_word_53 rfl ?_
                refine a_iadd K dX11_word_54 ?_
                rw [nI_add]
                refine x_invV K (Z 7 (by decide)) (strZ_ok _ _ _) (m_J0_charAt_5068e (i := 7) (j := 3 * w + j) (by decide) (show 3 * w + j < 19 by omega)) my_J0_charAt_5068e ml_X11_161 im_J0_charAt_5068e se_J0_charAt_5068e (fun _ _ _ h => h.2.1) rfl (by omega) (by omega) (by omega) rfl (Nat.le_of_ble_eq_true rfl) dX11_word_55 ?_
                intro r9 S9 hp9
                obtain ⟨rfl, hS9⟩ := hp9
                obtain rfl := hS9.symm
                rw [st7 w hw6 j (by omega)]
                refine a_icmp_eq K dX11_word_58 (tgt := 67) (by decide) (fun c_58 => absurd c_58 (cb)) (fun c_58 => ?_)
                first | refine a_aload_n K dX11_word_61 rfl ?_ | refine a_aload_nN K dX11_word_61 rfl ?_
                refine a_invV K (q_fails hM ha hf) my_X11_fails ml_X11_147 im_X11_fails se_X11_fails (ci := 11) (by exact lm_o hM) (by decide) ⟨_, _, rfl⟩ rfl (by omega) (by omega) (by omega) rfl (Nat.le_of_ble_eq_true rfl) dX11_word_62 ?_
                intro r9 S9 hp9
                obtain ⟨rfl, rfl⟩ := hp9
                refine a_iconst K dX11_word_65 (v := -1) (by decide) ?_
                exact a_iret K EE rfl (by omega) (by omega) dX11_word_66 (by
                  have hm : wrdM L p0 = (p, false) := by rw [← hR, matR, if_neg cb]
                  have hw : wrdR L p0 = (p, none) := by unfold wrdR; rw [hm, if_neg (fun z => absurd z.1 (by simp))]
                  rw [hw]
                  have g2 : frM T (wI T 708 (m 33) (nI p)) m [] [707, 708] := frM_wI (by decide) (by decide)
                  exact ⟨_, rfl, by rw [sI_wI, if_neg (fun z => absurd z.1 (by decide))]; exact ha, wI_at, fun v hv => absurd hv (by simp), f.tr g2⟩)
              · refine a_iload_n K dX11_word_30 rfl ?_
                refine a_iload_n K dX11_word_31 rfl ?_
                refine a_iconst K dX11_word_32 (v := 5) (by decide) ?_
                refine a_icmp_ne K dX11_word_33 (tgt := 40) (by decide) (fun c_33 => ?_) (fun c_33 => absurd c_33 (fun z => h5 (nI_inj (by omega) (by decide) z)))
                refine a_iconst K dX11_word_40 (v := 3) (by decide) ?_
                refine a_icmp_ge K dX11_word_41 (tgt := 83) (by decide) (fun c_41 => absurd c_41 (by rw [show (3 : Int32) = nI (st_len.getD w 0) from by rw [hlw]; rw [if_neg h5]; rfl]; exact nI_ge (by omega) (by omega))) (fun c_41 => ?_)
                first | refine a_aload_n K dX11_word_44 rfl ?_ | refine a_aload_nN K dX11_word_44 rfl ?_
                refine a_invV K (q_here hM hT (by omega) ha) my_X11_here ml_X11_133 im_X11_here se_X11_here (ci := 11) (by exact lm_o hM) (by decide) ⟨_, _, rfl⟩ rfl (by omega) (by omega) (by omega) rfl (Nat.le_of_ble_eq_true rfl) dX11_word_45 ?_
                intro r9 S9 hp9
                obtain ⟨rfl, hS9⟩ := hp9
                obtain rfl := hS9.symm
                refine x_ldcS K (Z 7 (by decide)) (tx := st_tx 7) (fun _ _ _ h => h.1) dX11_word_48 ?_
                refine a_iconst K dX11_word_50 (v := 3) (by decide) ?_
                refine a_iload_n K dX11_word_51 rfl ?_
                refine a_imul K dX11_word_52 ?_
                rw [nI_3]
                refine a_iload_n K dX11_word_53 rfl ?_
                refine a_iadd K dX11_word_54 ?_
                rw [nI_add]
                refine x_invV K (Z 7 (by decide)) (strZ_ok _ _ _) (m_J0_charAt_5068e (i := 7) (j := 3 * w + j) (by decide) (show 3 * w + j < 19 by omega)) my_J0_charAt_5068e ml_X11_161 im_J0_charAt_5068e se_J0_charAt_5068e (fun _ _ _ h => h.2.1) rfl (by omega) (by omega) (by omega) rfl (Nat.le_of_ble_eq_true rfl) dX11_word_55 ?_
                intro r9 S9 hp9
                obtain ⟨rfl, hS9⟩ := hp9
                obtain rfl := hS9.symm
                rw [st7 w hw6 j (by omega)]
                refine a_icmp_eq K dX11_word_58 (tgt := 67) (by decide) (fun c_58 => absurd c_58 (cb)) (fun c_58 => ?_)
                first | refine a_aload_n K dX11_word_61 rfl ?_ | refine a_aload_nN K dX11_word_61 rfl ?_
                refine a_invV K (q_fails hM ha hf) my_X11_fails ml_X11_147 im_X11_fails se_X11_fails (ci := 11) (by exact lm_o hM) (by decide) ⟨_, _, rfl⟩ rfl (by omega) (by omega) (by omega) rfl (Nat.le_of_ble_eq_true rfl) dX11_word_62 ?_
                intro r9 S9 hp9
                obtain ⟨rfl, rfl⟩ := hp9
                refine a_iconst K dX11_word_65 (v := -1) (by decide) ?_
                exact a_iret K EE rfl (by omega) (by omega) dX11_word_66 (by
                  have hm : wrdM L p0 = (p, false) := by rw [← hR, matR, if_neg cb]
                  have hw : wrdR L p0 = (p, none) := by unfold wrdR; rw [hm, if_neg (fun z => absurd z.1 (by simp))]
                  rw [hw]
                  have g2 : frM T (wI T 708 (m 33) (nI p)) m [] [707, 708] := frM_wI (by decide) (by decide)
                  exact ⟨_, rfl, by rw [sI_wI, if_neg (fun z => absurd z.1 (by decide))]; exact ha, wI_at, fun v hv => absurd hv (by simp), f.tr g2⟩)
        refine a_iload_n K dX11_word_7 rfl ?_
        refine a_bipush K dX11_word_8 (v := 6) (by decide) ?_
        refine a_icmp_ge K dX11_word_10 (tgt := 91) (by decide) (fun c_10 => absurd c_10 (nI_ge (a := w) (b := 6) (by omega) (by omega))) (fun c_10 => ?_)
        refine x_ldcS K (Z 7 (by decide)) (tx := st_tx 7) (fun _ _ _ h => h.1) dX11_word_13 ?_
        refine a_iconst K dX11_word_15 (v := 3) (by decide) ?_
        refine a_iload_n K dX11_word_16 rfl ?_
        refine a_imul K dX11_word_17 ?_
        rw [nI_3]
        refine x_invV K (Z 7 (by decide)) (strZ_ok _ _ _) (m_J0_charAt_5068e (i := 7) (j := 3 * w) (by decide) (show 3 * w < 19 by omega)) my_J0_charAt_5068e ml_X11_161 im_J0_charAt_5068e se_J0_charAt_5068e (fun _ _ _ h => h.2.1) rfl (by omega) (by omega) (by omega) rfl (Nat.le_of_ble_eq_true rfl) dX11_word_18 ?_
        intro r9 S9 hp9
        obtain ⟨rfl, hS9⟩ := hp9
        obtain rfl := hS9.symm
        rw [st7_0 w hw6]
        refine a_iload_n K dX11_word_21 rfl ?_
        refine a_icmp_eq K dX11_word_22 (tgt := 28) (by decide) (fun c_22 => ?_) (fun c_22 => absurd c_22 (fun z => z cw.symm))
        refine a_iconst K dX11_word_28 (v := 0) (by decide) ?_
        refine a_istore_n K dX11_word_29 (by decide) ?_
        exact aw_locl rfl (let9 (st_len.getD w 0) 0 q _ S1 nI_0.symm (by omega) (by omega) hM hT f ha hf (by unfold wrdM; rw [hq, hwB]))
      · refine a_iload_n K dX11_word_7 rfl ?_
        refine a_bipush K dX11_word_8 (v := 6) (by decide) ?_
        refine a_icmp_ge K dX11_word_10 (tgt := 91) (by decide) (fun c_10 => absurd c_10 (nI_ge (a := w) (b := 6) (by omega) (by omega))) (fun c_10 => ?_)
        refine x_ldcS K (Z 7 (by decide)) (tx := st_tx 7) (fun _ _ _ h => h.1) dX11_word_13 ?_
        refine a_iconst K dX11_word_15 (v := 3) (by decide) ?_
        refine a_iload_n K dX11_word_16 rfl ?_
        refine a_imul K dX11_word_17 ?_
        rw [nI_3]
        refine x_invV K (Z 7 (by decide)) (strZ_ok _ _ _) (m_J0_charAt_5068e (i := 7) (j := 3 * w) (by decide) (show 3 * w < 19 by omega)) my_J0_charAt_5068e ml_X11_161 im_J0_charAt_5068e se_J0_charAt_5068e (fun _ _ _ h => h.2.1) rfl (by omega) (by omega) (by omega) rfl (Nat.le_of_ble_eq_true rfl) dX11_word_18 ?_
        intro r9 S9 hp9
        obtain ⟨rfl, hS9⟩ := hp9
        obtain rfl := hS9.symm
        rw [st7_0 w hw6]
        refine a_iload_n K dX11_word_21 rfl ?_
        refine a_icmp_eq K dX11_word_22 (tgt := 28) (by decide) (fun c_22 => absurd c_22 (fun z => cw z.symm)) (fun c_22 => ?_)
        refine a_goto K dX11_word_25 (tgt := 85) (by decide) ?_
        refine a_iinc K dX11_word_85 (v := 1) rfl (by decide) (by decide) ?_
        refine a_goto K dX11_word_88 (tgt := 7) (by decide) ?_
        exact aw_locl rfl (ih (w + 1) _ (nI_1 w) (by omega) (fun v hv => by
          by_cases e : v = w
          · rw [e]; exact cw
          · exact hno v (by omega)))
  first | refine a_aload_n K dX11_word_0 rfl ?_ | refine a_aload_nN K dX11_word_0 rfl ?_
  refine a_invV K (q_look hM0 hT0 (by omega) ha0) my_X11_look ml_X11_140 im_X11_look se_X11_look (ci := 11) (by exact lm_o hM0) (by decide) ⟨_, _, rfl⟩ rfl (by omega) (by omega) (by omega) rfl (Nat.le_of_ble_eq_true rfl) dX11_word_1 ?_
  intro r9 S1 hp9
  obtain ⟨rfl, ha, g1⟩ := hp9
  rw [hq] at ha
  rw [hq]
  refine a_istore_n K dX11_word_4 (by decide) ?_
  refine a_iconst K dX11_word_5 (v := 0) (by decide) ?_
  refine a_istore_n K dX11_word_6 (by decide) ?_
  have hM := g1.lay hM0
  have hT := hT0.fr hM0 g1 (by decide) (by decide) (by decide)
  have hf : sI S1 708 (m 33) = -1 := (g1.2 708 (by decide)).trans hf0
  have f : frM S S1 m [] [707, 708] := g1.up (fun _ z => z) (by decide)
  exact aw_locl rfl (words S1 hM hT ha hf f 6 0 _ nI_0.symm rfl (fun v hv => absurd hv (Nat.not_lt_zero v)))
