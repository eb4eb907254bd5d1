theorem tswn2 {w : Int32} (h0 : ¬ w = 0) (h1 : ¬ w = 1) : w.toInt < 0 ∨ 1 < w.toInt := by
  rw [i32_eq] at h0 h1
  have e0 : (0 : Int32).toInt = 0 := by decide
  have e1 : (1 : Int32).toInt = 1 := by decide
  omega
theorem tswn3 {w : Int32} (h0 : ¬ w = 0) (h1 : ¬ w = 1) (h2 : ¬ w = 2) : w.toInt < 0 ∨ 2 < w.toInt := by
  rw [i32_eq] at h0 h1 h2
  have e0 : (0 : Int32).toInt = 0 := by decide
  have e1 : (1 : Int32).toInt = 1 := by decide
  have e2 : (2 : Int32).toInt = 2 := by decide
  omega
theorem tswn4 {w : Int32} (h0 : ¬ w = 0) (h1 : ¬ w = 1) (h2 : ¬ w = 2) (h3 : ¬ w = 3) : w.toInt < 0 ∨ 3 < w.toInt := by
  rw [i32_eq] at h0 h1 h2 h3
  have e0 : (0 : Int32).toInt = 0 := by decide
  have e1 : (1 : Int32).toInt = 1 := by decide
  have e2 : (2 : Int32).toInt = 2 := by decide
  have e3 : (3 : Int32).toInt = 3 := by decide
  omega
theorem tswn6 {w : Int32} (h0 : ¬ w = 0) (h1 : ¬ w = 1) (h2 : ¬ w = 2) (h3 : ¬ w = 3) (h4 : ¬ w = 4) (h5 : ¬ w = 5) : w.toInt < 0 ∨ 5 < w.toInt := by
  rw [i32_eq] at h0 h1 h2 h3 h4 h5
  have e0 : (0 : Int32).toInt = 0 := by decide
  have e1 : (1 : Int32).toInt = 1 := by decide
  have e2 : (2 : Int32).toInt = 2 := by decide
  have e3 : (3 : Int32).toInt = 3 := by decide
  have e4 : (4 : Int32).toInt = 4 := by decide
  have e5 : (5 : Int32).toInt = 5 := by decide
  omega
theorem tswn7 {w : Int32} (h0 : ¬ w = 0) (h1 : ¬ w = 1) (h2 : ¬ w = 2) (h3 : ¬ w = 3) (h4 : ¬ w = 4) (h5 : ¬ w = 5) (h6 : ¬ w = 6) : w.toInt < 0 ∨ 6 < w.toInt := by
  rw [i32_eq] at h0 h1 h2 h3 h4 h5 h6
  have e0 : (0 : Int32).toInt = 0 := by decide
  have e1 : (1 : Int32).toInt = 1 := by decide
  have e2 : (2 : Int32).toInt = 2 := by decide
  have e3 : (3 : Int32).toInt = 3 := by decide
  have e4 : (4 : Int32).toInt = 4 := by decide
  have e5 : (5 : Int32).toInt = 5 := by decide
  have e6 : (6 : Int32).toInt = 6 := by decide
  omega
theorem tswn8 {w : Int32} (h0 : ¬ w = 0) (h1 : ¬ w = 1) (h2 : ¬ w = 2) (h3 : ¬ w = 3) (h4 : ¬ w = 4) (h5 : ¬ w = 5) (h6 : ¬ w = 6) (h7 : ¬ w = 7) : w.toInt < 0 ∨ 7 < w.toInt := by
  rw [i32_eq] at h0 h1 h2 h3 h4 h5 h6 h7
  have e0 : (0 : Int32).toInt = 0 := by decide
  have e1 : (1 : Int32).toInt = 1 := by decide
  have e2 : (2 : Int32).toInt = 2 := by decide
  have e3 : (3 : Int32).toInt = 3 := by decide
  have e4 : (4 : Int32).toInt = 4 := by decide
  have e5 : (5 : Int32).toInt = 5 := by decide
  have e6 : (6 : Int32).toInt = 6 := by decide
  have e7 : (7 : Int32).toInt = 7 := by decide
  omega
theorem vqls {S : aw_S} {v : Nat → Nat} (hL : LW S v) {j : Nat} (hj : j < 34) : ¬ Qls (v 34) (v 35) (v 36) (v j) := fun z => by
  rcases z with z | z | z
  · have := lw_inj hL j 34 (by omega) (by decide) z; omega
  · have := lw_inj hL j 35 (by omega) (by decide) z; omega
  · have := lw_inj hL j 36 (by omega) (by decide) z; omega
theorem sub_last {lo hi : Nat} (hl : 1 ≤ lo) : ∀ (h : Nat) {t : Tr h}, okT lo hi h t → ∃ c : Tr 0, (sub h t).getLast? = some ⟨0, c⟩
  | 0, t, _ => ⟨t, rfl⟩
  | h + 1, t, o => by
    have hne := okT_ne o
    obtain ⟨A, c, e⟩ : ∃ A c, kds t = A ++ [c] := ⟨(kds t).dropLast, (kds t).getLast hne, (List.dropLast_concat_getLast hne).symm⟩
    obtain ⟨d, hd⟩ := sub_last hl h (okT_fan hl (okT_k o c (by rw [e]; exact List.mem_append_right _ List.mem_cons_self)))
    refine ⟨d, ?_⟩
    show (_ :: (kds t).flatMap (sub h)).getLast? = _
    rw [e, List.flatMap_append, List.flatMap_cons, List.flatMap_nil, List.append_nil, ← List.cons_append, List.getLast?_append, hd]
    rfl
theorem sub_lastZ {w : Nat} {z : Tz} (hw : 3 ≤ w) (r : rok w z) : ∃ y : Tz, (sub z.1 z.2)[(sub z.1 z.2).length - 1]? = some y ∧ y.1 = 0 := by
  obtain ⟨c, hc⟩ := sub_last (show 1 ≤ lea w by unfold lea; omega) z.1 r.ok
  rw [List.getLast?_eq_getElem?] at hc
  exact ⟨_, hc, rfl⟩
theorem RC_mapAt {S : aw_S} {v ad ar : Nat → Nat} {PA : List (Nat × Nat)} {X : List Nat} {mb : Nat} {P : PS} (h : RC S v ad ar PA X mb P) (i : Int32) : at0 (sA S (v 8)) (pM P).length (-1) i = oneM P i ∧ at0 (sA S (v 9)) (pM P).length (-1) i = twoM P i := by
  obtain ⟨m1, m2, m3, m4, m5, m6, m7⟩ := h.2.2.1
  unfold at0 oneM twoM mapAt
  by_cases hi : 0 ≤ i.toInt ∧ i.toInt < (pM P).length
  · rw [if_pos hi, if_pos hi, if_pos hi]
    have hj : i.toNatClampNeg < (pM P).length := by
      have h1 : (i.toNatClampNeg : Int) = i.toInt := by
        obtain ⟨k, hk, e2⟩ := nI_of (x := i) (by rw [i32_lt]; show ¬ i.toInt < 0; omega)
        rw [e2, nI_clamp hk, nI_toInt hk]
      omega
    have hx := List.getElem?_eq_getElem hj
    rw [hx]
    exact ⟨(m5 _ _ hx).2.1, (m5 _ _ hx).2.2⟩
  · rw [if_neg hi, if_neg hi, if_neg hi]
    exact ⟨rfl, rfl⟩
set_option maxHeartbeats 4000000 in
set_option maxRecDepth 100000 in
theorem c_about {S : aw_S} {v ad ar : Nat → Nat} {PA : List (Nat × Nat)} {X : List Nat} {mb : Nat} {P : PS} (h : RC S v ad ar PA X mb P) (hP : PI P) {m w : Int32} : aw_M yX10_about cX10_about 4 (some FieldType.int) 9 0 0 [.ref (v 4), .int m, .int w] S (fun r S2 => r = some (.int (aAbout P m w)) ∧ RC S2 v ad ar PA X mb P ∧ keepX X S S2) := by
  have hL := h.L
  cases hz : rootP P m with
  | none =>
    refine aw_enter (by decide +kernel) (Nat.le_of_ble_eq_true rfl) (fun g K EE => ?_)
    first | refine a_aload_n K dX10_about_0 rfl ?_ | refine a_aload_nN K dX10_about_0 rfl ?_
    refine a_getRs K fd_X10_46 (lw_i4 hL) (Or.inl ⟨_, rfl⟩) (lw_f646 hL) dX10_about_1 ?_
    refine a_iload_n K dX10_about_4 rfl ?_
    refine a_invV K (m_root h m) my_X3_heldRoot ml_X10_165 im_X3_heldRoot se_X3_heldRoot (ci := 3) (lw_i6 hL) (by decide) ⟨_, _, rfl⟩ rfl (by omega) (by omega) (by omega) rfl (Nat.le_of_ble_eq_true rfl) dX10_about_5 ?_
    intro r9 S9 hp9
    obtain ⟨rfl, hS9⟩ := hp9
    obtain rfl := hS9.symm
    rw [hz]
    first | refine a_astore_n K dX10_about_8 (by decide) ?_ | refine a_astore_nN K dX10_about_8 (by decide) ?_
    first | refine a_aload_n K dX10_about_9 rfl ?_ | refine a_aload_nN K dX10_about_9 rfl ?_
    refine a_ifnonnullN K dX10_about_10 ?_
    refine a_ldc K kc_X10_180 dX10_about_13 ?_
    exact a_iret K EE rfl (by omega) (by omega) dX10_about_15 ⟨by unfold aAbout; rw [hz], h, h.X⟩
  | some z =>
    have t := h.tt hP hz
    obtain ⟨h4, h61, -⟩ := t.2.h4 hP.1.1
    refine aw_enter (by decide +kernel) (Nat.le_of_ble_eq_true rfl) (fun g K EE => ?_)
    first | refine a_aload_n K dX10_about_0 rfl ?_ | refine a_aload_nN K dX10_about_0 rfl ?_
    refine a_getRs K fd_X10_46 (lw_i4 hL) (Or.inl ⟨_, rfl⟩) (lw_f646 hL) dX10_about_1 ?_
    refine a_iload_n K dX10_about_4 rfl ?_
    refine a_invV K (m_root h m) my_X3_heldRoot ml_X10_165 im_X3_heldRoot se_X3_heldRoot (ci := 3) (lw_i6 hL) (by decide) ⟨_, _, rfl⟩ rfl (by omega) (by omega) (by omega) rfl (Nat.le_of_ble_eq_true rfl) dX10_about_5 ?_
    intro r9 S9 hp9
    obtain ⟨rfl, hS9⟩ := hp9
    obtain rfl := hS9.symm
    rw [hz]
    first | refine a_astore_n K dX10_about_8 (by decide) ?_ | refine a_astore_nN K dX10_about_8 (by decide) ?_
    first | refine a_aload_n K dX10_about_9 rfl ?_ | refine a_aload_nN K dX10_about_9 rfl ?_
    refine a_ifnonnull K dX10_about_10 (tgt := 16) (by decide) ?_
    first | refine a_aload_n K dX10_about_16 rfl ?_ | refine a_aload_nN K dX10_about_16 rfl ?_
    refine a_getRs K fd_X10_77 (lw_i4 hL) (Or.inl ⟨_, rfl⟩) (lw_f652 hL) dX10_about_17 ?_
    first | refine a_aload_n K dX10_about_20 rfl ?_ | refine a_aload_nN K dX10_about_20 rfl ?_
    refine a_invV K (m_fill25 h hP.1.1 t) my_X7_fill ml_X10_173 im_X7_fill se_X7_fill (ci := 7) (by first | exact lw_i25 hL | exact lw_i28 hL | exact lw_i31 hL) (by decide) ⟨_, _, rfl⟩ rfl (by omega) (by omega) (by omega) rfl (Nat.le_of_ble_eq_true rfl) dX10_about_21 ?_
    intro r9 S9 hp9
    obtain ⟨rfl, hR, h2, k2, f2⟩ := hp9
    have hL := h2.L
    have t2 := TT_.fr h f2 (scr_Ro25 v) t
    first | refine a_aload_n K dX10_about_24 rfl ?_ | refine a_aload_nN K dX10_about_24 rfl ?_
    refine a_getRs K fd_X10_90 (lw_i4 hL) (Or.inl ⟨_, rfl⟩) (lw_f655 hL) dX10_about_25 ?_
    first | refine a_aload_n K dX10_about_28 rfl ?_ | refine a_aload_nN K dX10_about_28 rfl ?_
    refine a_invV K (m_fillL h2 hP.1.1 t2) my_X2_fill ml_X10_181 im_X2_fill se_X2_fill (ci := 2) (lw_i34 hL) (by decide) ⟨_, _, rfl⟩ rfl (by omega) (by omega) (by omega) rfl (Nat.le_of_ble_eq_true rfl) dX10_about_29 ?_
    intro r9 S9 hp9
    obtain ⟨rfl, hLs, h3, k3, f3⟩ := hp9
    have hL := h3.L
    have t3 := TT_.fr h2 f3 (scr_Ls v) t2
    have hR2 := hR.fr f3.fr (vqls hL (by decide)) (vqls hL (by decide)) (vqls hL (by decide))
    have kk := k2.tr k3
    have hO := LsO_sub z.1 t3.1.1
    obtain ⟨yl, hyl, hy0⟩ := sub_lastZ hP.1.1 t.2.1
    by_cases w0 : w = 0
    · subst w0
      refine a_iload_n K dX10_about_32 rfl ?_
      refine a_tsIn K dX10_about_33 (off := 43) (tgt := 76) (by decide) (by decide) rfl (by decide) ?_
      first | refine a_aload_n K dX10_about_76 rfl ?_ | refine a_aload_nN K dX10_about_76 rfl ?_
      refine a_getRs K fd_X10_77 (lw_i4 hL) (Or.inl ⟨_, rfl⟩) (lw_f652 hL) dX10_about_77 ?_
      refine a_invV K (m_X7_size hR2.1) my_X7_size ml_X10_138 im_X7_size se_X7_size (ci := 7) (by first | exact lw_i25 hL | exact lw_i28 hL | exact lw_i31 hL) (by decide) ⟨_, _, rfl⟩ rfl (by omega) (by omega) (by omega) rfl (Nat.le_of_ble_eq_true rfl) dX10_about_80 ?_
      intro r9 S9 hp9
      obtain ⟨rfl, hS9⟩ := hp9
      obtain rfl := hS9.symm
      rw [hR2.2.2.2.2.2.2.2.2.1]
      exact a_iret K EE rfl (by omega) (by omega) dX10_about_83 ⟨by unfold aAbout; rw [hz]; show some (Value.int _) = some (Value.int (ite _ _ _)); rw [if_pos rfl], h3, kk⟩
    · by_cases w1 : w = 1
      · subst w1
        refine a_iload_n K dX10_about_32 rfl ?_
        refine a_tsIn K dX10_about_33 (off := 51) (tgt := 84) (by decide) (by decide) rfl (by decide) ?_
        first | refine a_aload_n K dX10_about_84 rfl ?_ | refine a_aload_nN K dX10_about_84 rfl ?_
        refine a_getRs K fd_X10_90 (lw_i4 hL) (Or.inl ⟨_, rfl⟩) (lw_f655 hL) dX10_about_85 ?_
        refine a_invV K (m_Ls_levels hLs hyl hy0) my_X2_levels ml_X10_182 im_X2_levels se_X2_levels (ci := 2) (lw_i34 hL) (by decide) ⟨_, _, rfl⟩ rfl (by omega) (by omega) (by omega) rfl (Nat.le_of_ble_eq_true rfl) dX10_about_88 ?_
        intro r9 S9 hp9
        obtain ⟨rfl, hS9⟩ := hp9
        obtain rfl := hS9.symm
        exact a_iret K EE rfl (by omega) (by omega) dX10_about_91 ⟨by unfold aAbout; rw [hz]; show some (Value.int _) = some (Value.int (ite _ _ _)); rw [if_neg (by decide), if_pos rfl], h3, kk⟩
      · by_cases w2 : w = 2
        · subst w2
          refine a_iload_n K dX10_about_32 rfl ?_
          refine a_tsIn K dX10_about_33 (off := 59) (tgt := 92) (by decide) (by decide) rfl (by decide) ?_
          first | refine a_aload_n K dX10_about_92 rfl ?_ | refine a_aload_nN K dX10_about_92 rfl ?_
          refine a_getRs K fd_X10_90 (lw_i4 hL) (Or.inl ⟨_, rfl⟩) (lw_f655 hL) dX10_about_93 ?_
          refine a_invV K (m_X2_size hLs.1) my_X2_size ml_X10_185 im_X2_size se_X2_size (ci := 2) (lw_i34 hL) (by decide) ⟨_, _, rfl⟩ rfl (by omega) (by omega) (by omega) rfl (Nat.le_of_ble_eq_true rfl) dX10_about_96 ?_
          intro r9 S9 hp9
          obtain ⟨rfl, hS9⟩ := hp9
          obtain rfl := hS9.symm
          rw [hLs.2.2.2.2.2.2.2.1]
          exact a_iret K EE rfl (by omega) (by omega) dX10_about_99 ⟨by unfold aAbout; rw [hz]; show some (Value.int _) = some (Value.int (ite _ _ _)); rw [if_neg (by decide), if_neg (by decide), if_pos rfl], h3, kk⟩
        · by_cases w3 : w = 3
          · subst w3
            refine a_iload_n K dX10_about_32 rfl ?_
            refine a_tsIn K dX10_about_33 (off := 67) (tgt := 100) (by decide) (by decide) rfl (by decide) ?_
            first | refine a_aload_n K dX10_about_100 rfl ?_ | refine a_aload_nN K dX10_about_100 rfl ?_
            refine a_getRs K fd_X10_90 (lw_i4 hL) (Or.inl ⟨_, rfl⟩) (lw_f655 hL) dX10_about_101 ?_
            refine a_invV K (m_Ls_leaves hLs hO rfl) my_X2_leaves ml_X10_186 im_X2_leaves se_X2_leaves (ci := 2) (lw_i34 hL) (by decide) ⟨_, _, rfl⟩ rfl (by omega) (by omega) (by omega) rfl (Nat.le_of_ble_eq_true rfl) dX10_about_104 ?_
            intro r9 S9 hp9
            obtain ⟨rfl, hS9⟩ := hp9
            obtain rfl := hS9.symm
            exact a_iret K EE rfl (by omega) (by omega) dX10_about_107 ⟨by unfold aAbout; rw [hz]; show some (Value.int _) = some (Value.int (ite _ _ _)); rw [if_neg (by decide), if_neg (by decide), if_neg (by decide), if_pos rfl], h3, kk⟩
          · by_cases w4 : w = 4
            · subst w4
              refine a_iload_n K dX10_about_32 rfl ?_
              refine a_tsIn K dX10_about_33 (off := 75) (tgt := 108) (by decide) (by decide) rfl (by decide) ?_
              first | refine a_aload_n K dX10_about_108 rfl ?_ | refine a_aload_nN K dX10_about_108 rfl ?_
              refine a_getRs K fd_X10_77 (lw_i4 hL) (Or.inl ⟨_, rfl⟩) (lw_f652 hL) dX10_about_109 ?_
              refine a_iconst K dX10_about_112 (v := 0) (by decide) ?_
              refine a_sipush K dX10_about_113 (v := 999) (by decide) ?_
              refine a_invV K (m_R_sum (f := 0) (t := 999) hR2 rfl) my_X7_sum ml_X10_189 im_X7_sum se_X7_sum (ci := 7) (by first | exact lw_i25 hL | exact lw_i28 hL | exact lw_i31 hL) (by decide) ⟨_, _, rfl⟩ rfl (by omega) (by omega) (by omega) rfl (Nat.le_of_ble_eq_true rfl) dX10_about_116 ?_
              intro r9 S9 hp9
              obtain ⟨rfl, hS9⟩ := hp9
              obtain rfl := hS9.symm
              exact a_iret K EE rfl (by omega) (by omega) dX10_about_119 ⟨by unfold aAbout; rw [hz]; show some (Value.int _) = some (Value.int (ite _ _ _)); rw [if_neg (by decide), if_neg (by decide), if_neg (by decide), if_neg (by decide), if_pos rfl], h3, kk⟩
            · by_cases w5 : w = 5
              · subst w5
                refine a_iload_n K dX10_about_32 rfl ?_
                refine a_tsIn K dX10_about_33 (off := 87) (tgt := 120) (by decide) (by decide) rfl (by decide) ?_
                first | refine a_aload_n K dX10_about_120 rfl ?_ | refine a_aload_nN K dX10_about_120 rfl ?_
                refine a_getRs K fd_X10_46 (lw_i4 hL) (Or.inl ⟨_, rfl⟩) (lw_f646 hL) dX10_about_121 ?_
                refine a_iload_n K dX10_about_124 rfl ?_
                refine a_invV K (m_X3_oneOf (i := m) (lw_i6 hL) (lw_f193_6 hL) (lw_i8 hL) (lw_n8 hL) h3.lg.1 h3.lg.2) my_X3_oneOf ml_X10_193 im_X3_oneOf se_X3_oneOf (ci := 3) (lw_i6 hL) (by decide) ⟨_, _, rfl⟩ rfl (by omega) (by omega) (by omega) rfl (Nat.le_of_ble_eq_true rfl) dX10_about_125 ?_
                intro r9 S9 hp9
                obtain ⟨hS9, rfl⟩ := hp9
                obtain rfl := hS9.symm
                exact a_iret K EE rfl (by omega) (by omega) dX10_about_128 ⟨by unfold aAbout; rw [hz]; show some (Value.int _) = some (Value.int (ite _ _ _)); rw [if_neg (by decide), if_neg (by decide), if_neg (by decide), if_neg (by decide), if_neg (by decide), if_pos rfl, (RC_mapAt h3 m).1], h3, kk⟩
              · by_cases w6 : w = 6
                · subst w6
                  refine a_iload_n K dX10_about_32 rfl ?_
                  refine a_tsIn K dX10_about_33 (off := 96) (tgt := 129) (by decide) (by decide) rfl (by decide) ?_
                  first | refine a_aload_n K dX10_about_129 rfl ?_ | refine a_aload_nN K dX10_about_129 rfl ?_
                  refine a_getRs K fd_X10_46 (lw_i4 hL) (Or.inl ⟨_, rfl⟩) (lw_f646 hL) dX10_about_130 ?_
                  refine a_iload_n K dX10_about_133 rfl ?_
                  refine a_invV K (m_X3_twoOf (i := m) (lw_i6 hL) (lw_f194_6 hL) (lw_i9 hL) (lw_n9 hL) h3.lg.1 h3.lg.2) my_X3_twoOf ml_X10_196 im_X3_twoOf se_X3_twoOf (ci := 3) (lw_i6 hL) (by decide) ⟨_, _, rfl⟩ rfl (by omega) (by omega) (by omega) rfl (Nat.le_of_ble_eq_true rfl) dX10_about_134 ?_
                  intro r9 S9 hp9
                  obtain ⟨hS9, rfl⟩ := hp9
                  obtain rfl := hS9.symm
                  exact a_iret K EE rfl (by omega) (by omega) dX10_about_137 ⟨by unfold aAbout; rw [hz]; show some (Value.int _) = some (Value.int (ite _ _ _)); rw [if_neg (by decide), if_neg (by decide), if_neg (by decide), if_neg (by decide), if_neg (by decide), if_neg (by decide), if_pos rfl, (RC_mapAt h3 m).2], h3, kk⟩
                · have hw : w.toInt < 0 ∨ 6 < w.toInt := tswn7 w0 w1 w2 w3 w4 w5 w6
                  refine a_iload_n K dX10_about_32 rfl ?_
                  refine a_tsOut K dX10_about_33 (tgt := 138) (hw) (by decide) ?_
                  refine a_ldc K kc_X10_180 dX10_about_138 ?_
                  exact a_iret K EE rfl (by omega) (by omega) dX10_about_140 ⟨by unfold aAbout; rw [hz]; show some (Value.int _) = some (Value.int (ite _ _ _)); rw [if_neg (fun y => by rw [y] at hw; revert hw; decide), if_neg (fun y => by rw [y] at hw; revert hw; decide), if_neg (fun y => by rw [y] at hw; revert hw; decide), if_neg (fun y => by rw [y] at hw; revert hw; decide), if_neg (fun y => by rw [y] at hw; revert hw; decide), if_neg (fun y => by rw [y] at hw; revert hw; decide), if_neg (fun y => by rw [y] at hw; revert hw; decide)], h3, kk⟩
