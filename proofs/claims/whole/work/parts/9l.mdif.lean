/-! the model: what differs, told -/
theorem q_thY {S : aw_S} {V : Nat → Nat → Int32} {q w : Nat} (hw : w < 3) (y : ¬ V w q = -1000000) : aw_M yX11_has cX11_has 2 (some FieldType.boolean) 0 0 0 [.int (bt3 (V 0 q) (V 1 q) (V 2 q)), .int (nI w)] S (fun r S2 => r = some (.int 1) ∧ S2 = S) := q_has.post (fun r S2 hp => ⟨bR_y ((hb3 w hw).mpr y) hp.2, hp.1⟩)
theorem q_thN {S : aw_S} {V : Nat → Nat → Int32} {q w : Nat} (hw : w < 3) (y : V w q = -1000000) : aw_M yX11_has cX11_has 2 (some FieldType.boolean) 0 0 0 [.int (bt3 (V 0 q) (V 1 q) (V 2 q)), .int (nI w)] S (fun r S2 => r = some (.int 0) ∧ S2 = S) := q_has.post (fun r S2 hp => ⟨bR_n (fun z => (hb3 w hw).mp z y) hp.2, hp.1⟩)
theorem difA_n {E F : List KV} {i w : Int32} {f : Nat} (h : fndU (unl E F) i 1000 0 = (none, f)) : difA E F i w = if i = -1 then nI f else -1000000 := by
  unfold difA
  rw [h]
theorem difA_s {E F : List KV} {i w : Int32} {k f : Nat} (h : fndU (unl E F) i 1000 0 = (some k, f)) : difA E F i w = difP E F k w := by
  unfold difA
  rw [h]
theorem fndU_neg {U : Nat → Bool} {i : Int32} : ∀ (n f : Nat), (∀ a, a < f + n → ¬ nI a = i) → (fndU U i n f).1 = none
  | 0, f, _ => rfl
  | n + 1, f, h => by
    rw [fndU]
    split
    · rw [if_neg (h f (by omega))]
      exact fndU_neg n (f + 1) (fun a ha => h a (by omega))
    · exact fndU_neg n f (fun a ha => h a (by omega))
theorem difA_lo {E F : List KV} {i w : Int32} (h : i < -1) : difA E F i w = -1000000 := by
  have h1 : i.toInt < -1 := i32_lt.mp h
  have h2 := fndU_neg (U := unl E F) (i := i) 1000 0 (fun a ha e => by
    have h3 := t_nI (n := a) (by omega)
    rw [e] at h3
    omega)
  generalize e : fndU (unl E F) i 1000 0 = p at h2
  obtain ⟨a, b⟩ := p
  obtain rfl : a = none := h2
  rw [difA_n e]
  exact if_neg (fun z => by rw [z] at h; revert h; decide)
theorem difA_w {E F : List KV} {i w : Int32} (hi : ¬ i = -1) (hw : ¬ (0 ≤ w.toInt ∧ w.toInt ≤ 2)) : difA E F i w = -1000000 := by
  generalize e : fndU (unl E F) i 1000 0 = p
  obtain ⟨a, b⟩ := p
  cases a with
  | none => rw [difA_n e, if_neg hi]
  | some k =>
    rw [difA_s e]
    unfold difP
    rw [if_neg (fun z => hw (by rw [z]; decide)), if_neg (fun z => hw (by rw [z]; decide)), if_neg (fun z => hw (by rw [z]; decide))]
theorem i32_w {w : Int32} (h : 0 ≤ w.toInt ∧ w.toInt ≤ 2) : w = 0 ∨ w = 1 ∨ w = 2 := by
  have e0 : (0 : Int32).toInt = 0 := by decide
  have e1 : (1 : Int32).toInt = 1 := by decide
  have e2 : (2 : Int32).toInt = 2 := by decide
  rcases Nat.lt_or_ge w.toInt.toNat 1 with c | c
  · exact Or.inl (Int32.toInt_inj.mp (by omega))
  · rcases Nat.lt_or_ge w.toInt.toNat 2 with d | d
    · exact Or.inr (Or.inl (Int32.toInt_inj.mp (by omega)))
    · exact Or.inr (Or.inr (Int32.toInt_inj.mp (by omega)))
set_option maxHeartbeats 4000000 in
set_option maxRecDepth 100000 in
theorem q_difference {S : aw_S} {m ρ : Nat → Nat} {Z : List Nat × Nat} {mb n9 : Nat} {P : PS} (h0 : RM S m ρ Z mb P) (hJ : PJ n9 P) {a b i w : Int32} : aw_M yX11_difference cX11_difference 7 (some FieldType.int) 9 0 0 [.ref (m 33), .int a, .int b, .int i, .int w] S (fun r S2 => r = some (.int (aDiff P a b i w)) ∧ RM S2 m ρ Z mb P ∧ frS S S2 (mQ m)) := by
  have hP := hJ.1
  have hw3 := hP.1.1
  have hM := h0.1
  have hl9 := hJ.ln
  refine aw_enter (by decide +kernel) (Nat.le_of_ble_eq_true rfl) (fun g K EE => ?_)
  cases hz : rootP P a with
  | none =>
    first | refine a_aload_n K dX11_difference_0 rfl ?_ | refine a_aload_nN K dX11_difference_0 rfl ?_
    refine a_iconst K dX11_difference_1 (v := 0) (by decide) ?_
    refine a_putI K fd_X11_116 (by exact lm_o hM) rfl dX11_difference_2 ?_
    have f0 : frM S (wI S 704 (m 33) 0) m [] [704] := frM_wI (by decide) (by decide)
    obtain ⟨T, hT⟩ : ∃ T, T = wI S 704 (m 33) 0 := ⟨_, rfl⟩
    rw [← hT] at f0 ⊢
    obtain ⟨h, q0⟩ := h0.scr hP f0 (by decide) (by decide)
    have hM := h.1
    first | refine a_aload_n K dX11_difference_5 rfl ?_ | refine a_aload_nN K dX11_difference_5 rfl ?_
    refine a_iload_n K dX11_difference_6 rfl ?_
    refine a_invV K (q_mapN h hl9 hz) my_X11_isMap ml_X11_309 im_X11_isMap se_X11_isMap (ci := 11) (by exact lm_o hM) (by decide) ⟨_, _, rfl⟩ rfl (by omega) (by omega) (by omega) rfl (Nat.le_of_ble_eq_true rfl) dX11_difference_7 ?_
    intro r9 S9 hp9
    obtain ⟨rfl, hS9⟩ := hp9
    obtain rfl := hS9.symm
    refine a_if_eq K dX11_difference_10 (tgt := 43) (by decide) (fun c_10 => ?_) (fun c_10 => absurd c_10 (fun z => z rfl))
    refine a_ldc K kc_X11_170 dX11_difference_43 ?_
    exact a_iret K EE rfl (by omega) (by omega) dX11_difference_45 ⟨by unfold aDiff; rw [hz], h, q0⟩
  | some z =>
    cases hy : rootP P b with
    | none =>
      first | refine a_aload_n K dX11_difference_0 rfl ?_ | refine a_aload_nN K dX11_difference_0 rfl ?_
      refine a_iconst K dX11_difference_1 (v := 0) (by decide) ?_
      refine a_putI K fd_X11_116 (by exact lm_o hM) rfl dX11_difference_2 ?_
      have f0 : frM S (wI S 704 (m 33) 0) m [] [704] := frM_wI (by decide) (by decide)
      obtain ⟨T, hT⟩ : ∃ T, T = wI S 704 (m 33) 0 := ⟨_, rfl⟩
      rw [← hT] at f0 ⊢
      obtain ⟨h, q0⟩ := h0.scr hP f0 (by decide) (by decide)
      have hM := h.1
      first | refine a_aload_n K dX11_difference_5 rfl ?_ | refine a_aload_nN K dX11_difference_5 rfl ?_
      refine a_iload_n K dX11_difference_6 rfl ?_
      refine a_invV K (q_mapY h hl9 hz) my_X11_isMap ml_X11_309 im_X11_isMap se_X11_isMap (ci := 11) (by exact lm_o hM) (by decide) ⟨_, _, rfl⟩ rfl (by omega) (by omega) (by omega) rfl (Nat.le_of_ble_eq_true rfl) dX11_difference_7 ?_
      intro r9 S9 hp9
      obtain ⟨rfl, hS9⟩ := hp9
      obtain rfl := hS9.symm
      refine a_if_eq K dX11_difference_10 (tgt := 43) (by decide) (fun c_10 => absurd c_10 (by decide)) (fun c_10 => ?_)
      first | refine a_aload_n K dX11_difference_13 rfl ?_ | refine a_aload_nN K dX11_difference_13 rfl ?_
      refine a_iload_n K dX11_difference_14 rfl ?_
      refine a_invV K (q_mapN h hl9 hy) my_X11_isMap ml_X11_309 im_X11_isMap se_X11_isMap (ci := 11) (by exact lm_o hM) (by decide) ⟨_, _, rfl⟩ rfl (by omega) (by omega) (by omega) rfl (Nat.le_of_ble_eq_true rfl) dX11_difference_15 ?_
      intro r9 S9 hp9
      obtain ⟨rfl, hS9⟩ := hp9
      obtain rfl := hS9.symm
      refine a_if_eq K dX11_difference_18 (tgt := 43) (by decide) (fun c_18 => ?_) (fun c_18 => absurd c_18 (fun z => z rfl))
      refine a_ldc K kc_X11_170 dX11_difference_43 ?_
      exact a_iret K EE rfl (by omega) (by omega) dX11_difference_45 ⟨by unfold aDiff; rw [hz, hy], h, q0⟩
    | some y =>
      obtain ⟨jm, hijm, hjm, -⟩ := h0.root hz
      subst hijm
      obtain ⟨jo, hijo, hjo, -⟩ := h0.root hy
      subst hijo
      first | refine a_aload_n K dX11_difference_0 rfl ?_ | refine a_aload_nN K dX11_difference_0 rfl ?_
      refine a_iconst K dX11_difference_1 (v := 0) (by decide) ?_
      refine a_putI K fd_X11_116 (by exact lm_o hM) rfl dX11_difference_2 ?_
      have f0 : frM S (wI S 704 (m 33) 0) m [] [704] := frM_wI (by decide) (by decide)
      obtain ⟨T, hT⟩ : ∃ T, T = wI S 704 (m 33) 0 := ⟨_, rfl⟩
      rw [← hT] at f0 ⊢
      obtain ⟨h, q0⟩ := h0.scr hP f0 (by decide) (by decide)
      have hM := h.1
      first | refine a_aload_n K dX11_difference_5 rfl ?_ | refine a_aload_nN K dX11_difference_5 rfl ?_
      refine a_iload_n K dX11_difference_6 rfl ?_
      refine a_invV K (q_mapY h hl9 hz) my_X11_isMap ml_X11_309 im_X11_isMap se_X11_isMap (ci := 11) (by exact lm_o hM) (by decide) ⟨_, _, rfl⟩ rfl (by omega) (by omega) (by omega) rfl (Nat.le_of_ble_eq_true rfl) dX11_difference_7 ?_
      intro r9 S9 hp9
      obtain ⟨rfl, hS9⟩ := hp9
      obtain rfl := hS9.symm
      refine a_if_eq K dX11_difference_10 (tgt := 43) (by decide) (fun c_10 => absurd c_10 (by decide)) (fun c_10 => ?_)
      first | refine a_aload_n K dX11_difference_13 rfl ?_ | refine a_aload_nN K dX11_difference_13 rfl ?_
      refine a_iload_n K dX11_difference_14 rfl ?_
      refine a_invV K (q_mapY h hl9 hy) my_X11_isMap ml_X11_309 im_X11_isMap se_X11_isMap (ci := 11) (by exact lm_o hM) (by decide) ⟨_, _, rfl⟩ rfl (by omega) (by omega) (by omega) rfl (Nat.le_of_ble_eq_true rfl) dX11_difference_15 ?_
      intro r9 S9 hp9
      obtain ⟨rfl, hS9⟩ := hp9
      obtain rfl := hS9.symm
      refine a_if_eq K dX11_difference_18 (tgt := 43) (by decide) (fun c_18 => absurd c_18 (by decide)) (fun c_18 => ?_)
      have tail : (i = -1 ∨ (0 ≤ w.toInt ∧ w.toInt ≤ 2)) → aw g 7 T 0 0 [(4, .int w), (3, .int i), (2, .int (nI jo)), (1, .int (nI jm)), (0, .ref (m 33))] [] 46 := by
        intro hw
        first | refine a_aload_n K dX11_difference_46 rfl ?_ | refine a_aload_nN K dX11_difference_46 rfl ?_
        first | refine a_aload_n K dX11_difference_47 rfl ?_ | refine a_aload_nN K dX11_difference_47 rfl ?_
        refine a_getRs K fd_X11_67 (by exact lm_o hM) (Or.inr ⟨_, rfl⟩) (by exact lm_r736 hM) dX11_difference_48 ?_
        refine a_iload_n K dX11_difference_51 rfl ?_
        refine a_iald K (by exact lm_kk hM (by decide) (by decide)) (by show vp_in _ (sN T (m 17)); exact lm_ix (z := 999) hM (by decide) (by decide) (show jm < 999 by omega) (by decide)) dX11_difference_52 ?_
        rw [nI_clamp (by omega)]
        rw [h.root2 hz (by omega)]
        first | refine a_aload_n K dX11_difference_53 rfl ?_ | refine a_aload_nN K dX11_difference_53 rfl ?_
        refine a_getRs K fd_X11_67 (by exact lm_o hM) (Or.inr ⟨_, rfl⟩) (by exact lm_r736 hM) dX11_difference_54 ?_
        refine a_iload_n K dX11_difference_57 rfl ?_
        refine a_iald K (by exact lm_kk hM (by decide) (by decide)) (by show vp_in _ (sN T (m 17)); exact lm_ix (z := 999) hM (by decide) (by decide) (show jo < 999 by omega) (by decide)) dX11_difference_58 ?_
        rw [nI_clamp (by omega)]
        rw [h.root2 hy (by omega)]
        refine a_invV K (q_laysTwo hM (LyT_of h hP hz) (LyT_of h hP hy)) my_X11_laysTwo ml_X11_356 im_X11_laysTwo se_X11_laysTwo (ci := 11) (by exact lm_o hM) (by decide) ⟨_, _, rfl⟩ rfl (by omega) (by omega) (by omega) rfl (Nat.le_of_ble_eq_true rfl) dX11_difference_59 ?_
        intro r9 S9 hp9
        obtain ⟨rfl, hTh, f9⟩ := hp9
        obtain ⟨h9, q9⟩ := h.scr hP f9 (by decide) (by decide)
        have hM := h9.1
        refine a_iconst K dX11_difference_62 (v := 0) (by decide) ?_
        refine a_istore K dX11_difference_63 (by decide) ?_
        refine a_iconst K dX11_difference_65 (v := 0) (by decide) ?_
        refine a_istore K dX11_difference_66 (by decide) ?_
        obtain ⟨R, hRR⟩ : ∃ R, fndU (unl (ent z.1 z.2) (ent y.1 y.2)) i 1000 0 = R := ⟨_, rfl⟩
        have loop : ∀ (n q a : Nat) (x c : Int32), x = nI q → c = nI a → q + n = 1000 → a ≤ q → fndU (unl (ent z.1 z.2) (ent y.1 y.2)) i n a = R → aw g 7 S9 0 0 [(6, .int x), (5, .int c), (4, .int w), (3, .int i), (0, .ref (m 33))] [] 68 := by
          intro n
          induction n with
          | zero =>
            intro q a x c hx9 hc hn ha hR
            subst hx9
            subst hc
            by_cases e1 : i = -1
            · refine a_iload K dX11_difference_68 rfl ?_
              refine a_sipush K dX11_difference_70 (v := 999) (by decide) ?_
              refine a_icmp_gt K dX11_difference_73 (tgt := 152) (by decide) (fun c_73 => ?_) (fun c_73 => absurd c_73 (fun e9 => e9 (by rw [show q = 1000 by omega]; decide)))
              refine a_iload_n K dX11_difference_152 rfl ?_
              refine a_iconst K dX11_difference_153 (v := -1) (by decide) ?_
              refine a_icmp_ne K dX11_difference_154 (tgt := 162) (by decide) (fun c_154 => absurd c_154 (fun z => z e1)) (fun c_154 => ?_)
              refine a_iload K dX11_difference_157 rfl ?_
              refine a_goto K dX11_difference_159 (tgt := 164) (by decide) ?_
              exact a_iret K EE rfl (by omega) (by omega) dX11_difference_164 ⟨by unfold aDiff; rw [hz, hy]; exact congrArg (fun v => some (Value.int v)) ((difA_n (hRR.trans hR.symm)).trans (if_pos e1)).symm, h9, mQ_tr q0 q9⟩
            · refine a_iload K dX11_difference_68 rfl ?_
              refine a_sipush K dX11_difference_70 (v := 999) (by decide) ?_
              refine a_icmp_gt K dX11_difference_73 (tgt := 152) (by decide) (fun c_73 => ?_) (fun c_73 => absurd c_73 (fun e9 => e9 (by rw [show q = 1000 by omega]; decide)))
              refine a_iload_n K dX11_difference_152 rfl ?_
              refine a_iconst K dX11_difference_153 (v := -1) (by decide) ?_
              refine a_icmp_ne K dX11_difference_154 (tgt := 162) (by decide) (fun c_154 => ?_) (fun c_154 => absurd c_154 (e1))
              refine a_ldc K kc_X11_170 dX11_difference_162 ?_
              exact a_iret K EE rfl (by omega) (by omega) dX11_difference_164 ⟨by unfold aDiff; rw [hz, hy]; exact congrArg (fun v => some (Value.int v)) ((difA_n (hRR.trans hR.symm)).trans (if_neg e1)).symm, h9, mQ_tr q0 q9⟩
          | succ n ih =>
            intro q a x c hx9 hc hn ha hR
            subst hx9
            subst hc
            by_cases u : valIn (ent z.1 z.2) (nI q) = valIn (ent y.1 y.2) (nI q)
            · refine a_iload K dX11_difference_68 rfl ?_
              refine a_sipush K dX11_difference_70 (v := 999) (by decide) ?_
              refine a_icmp_gt K dX11_difference_73 (tgt := 152) (by decide) (fun c_73 => absurd c_73 ((Int32.not_lt.mpr (show nI q ≤ 999 from nI_le (b := 999) (by omega) (by decide))))) (fun c_73 => ?_)
              first | refine a_aload_n K dX11_difference_76 rfl ?_ | refine a_aload_nN K dX11_difference_76 rfl ?_
              refine a_iload K dX11_difference_77 rfl ?_
              refine a_iconst K dX11_difference_79 (v := 0) (by decide) ?_
              refine a_iconst K dX11_difference_80 (v := 1) (by decide) ?_
              refine a_invV K (q_unlN hM hTh (q := q) (by omega) (a := 0) (b := 1) (by decide) (by decide) u) my_X11_isUnlike ml_X11_362 im_X11_isUnlike se_X11_isUnlike (ci := 11) (by exact lm_o hM) (by decide) ⟨_, _, rfl⟩ rfl (by omega) (by omega) (by omega) rfl (Nat.le_of_ble_eq_true rfl) dX11_difference_81 ?_
              intro r8 S8 hp8
              obtain ⟨rfl, hS8⟩ := hp8
              obtain rfl := hS8.symm
              refine a_if_ne K dX11_difference_84 (tgt := 90) (by decide) (fun c_84 => absurd c_84 (fun z => z rfl)) (fun c_84 => ?_)
              refine a_goto K dX11_difference_87 (tgt := 146) (by decide) ?_
              refine a_iinc K dX11_difference_146 (v := 1) rfl (by decide) (by decide) ?_
              refine a_goto K dX11_difference_149 (tgt := 68) (by decide) ?_
              exact aw_locl rfl (ih (q + 1) a _ _ (nI_1 q) rfl (by omega) (by omega) (by rw [fndU_n (by rw [show 999 - n = q by omega]; exact dif_eq u)] at hR; exact hR))
            by_cases hit : nI a = i
            · have hwr : w = 0 ∨ w = 1 ∨ w = 2 := i32_w (hw.elim (fun z => absurd (hit.trans z) (by have h3 := t_nI (n := a) (by omega); intro e; rw [e] at h3; revert h3; rw [show (-1 : Int32).toInt = -1 from by decide]; omega)) id)
              have hD : ∀ W, difA (ent z.1 z.2) (ent y.1 y.2) i W = difP (ent z.1 z.2) (ent y.1 y.2) q W := fun W => difA_s (hRR.trans (hR.symm.trans (by rw [fndU_hit (by rw [show 999 - n = q by omega]; exact dif_ne u) hit, show 999 - n = q by omega])))
              rcases hwr with rfl | rfl | rfl
              · refine a_iload K dX11_difference_68 rfl ?_
                refine a_sipush K dX11_difference_70 (v := 999) (by decide) ?_
                refine a_icmp_gt K dX11_difference_73 (tgt := 152) (by decide) (fun c_73 => absurd c_73 ((Int32.not_lt.mpr (show nI q ≤ 999 from nI_le (b := 999) (by omega) (by decide))))) (fun c_73 => ?_)
                first | refine a_aload_n K dX11_difference_76 rfl ?_ | refine a_aload_nN K dX11_difference_76 rfl ?_
                refine a_iload K dX11_difference_77 rfl ?_
                refine a_iconst K dX11_difference_79 (v := 0) (by decide) ?_
                refine a_iconst K dX11_difference_80 (v := 1) (by decide) ?_
                refine a_invV K (q_unlY hM hTh (q := q) (by omega) (a := 0) (b := 1) (by decide) (by decide) u) my_X11_isUnlike ml_X11_362 im_X11_isUnlike se_X11_isUnlike (ci := 11) (by exact lm_o hM) (by decide) ⟨_, _, rfl⟩ rfl (by omega) (by omega) (by omega) rfl (Nat.le_of_ble_eq_true rfl) dX11_difference_81 ?_
                intro r8 S8 hp8
                obtain ⟨rfl, hS8⟩ := hp8
                obtain rfl := hS8.symm
                refine a_if_ne K dX11_difference_84 (tgt := 90) (by decide) (fun c_84 => ?_) (fun c_84 => absurd c_84 (by decide))
                refine a_iload K dX11_difference_90 rfl ?_
                refine a_iload_n K dX11_difference_92 rfl ?_
                refine a_icmp_ne K dX11_difference_93 (tgt := 143) (by decide) (fun c_93 => absurd c_93 (fun z => z hit)) (fun c_93 => ?_)
                refine a_iload K dX11_difference_96 rfl ?_
                refine a_if_ne K dX11_difference_98 (tgt := 106) (by decide) (fun c_98 => absurd c_98 (fun z => z rfl)) (fun c_98 => ?_)
                refine a_iload K dX11_difference_101 rfl ?_
                refine a_goto K dX11_difference_103 (tgt := 142) (by decide) ?_
                exact a_iret K EE rfl (by omega) (by omega) dX11_difference_142 ⟨by unfold aDiff; rw [hz, hy]; exact congrArg (fun v => some (Value.int v)) ((show difA (ent z.1 z.2) (ent y.1 y.2) i 0 = nI q from hD 0)).symm, h9, mQ_tr q0 q9⟩
              · have hX : nI (3 * q) + 1 - 1 = nI (3 * q + 0) := by rw [show (1 : Int32) = nI 1 from rfl, nI_add, nI_sub (by omega)]; rfl
                by_cases hv : vTwo (ent z.1 z.2) (ent y.1 y.2) 0 q = -1000000
                · refine a_iload K dX11_difference_68 rfl ?_
                  refine a_sipush K dX11_difference_70 (v := 999) (by decide) ?_
                  refine a_icmp_gt K dX11_difference_73 (tgt := 152) (by decide) (fun c_73 => absurd c_73 ((Int32.not_lt.mpr (show nI q ≤ 999 from nI_le (b := 999) (by omega) (by decide))))) (fun c_73 => ?_)
                  first | refine a_aload_n K dX11_difference_76 rfl ?_ | refine a_aload_nN K dX11_difference_76 rfl ?_
                  refine a_iload K dX11_difference_77 rfl ?_
                  refine a_iconst K dX11_difference_79 (v := 0) (by decide) ?_
                  refine a_iconst K dX11_difference_80 (v := 1) (by decide) ?_
                  refine a_invV K (q_unlY hM hTh (q := q) (by omega) (a := 0) (b := 1) (by decide) (by decide) u) my_X11_isUnlike ml_X11_362 im_X11_isUnlike se_X11_isUnlike (ci := 11) (by exact lm_o hM) (by decide) ⟨_, _, rfl⟩ rfl (by omega) (by omega) (by omega) rfl (Nat.le_of_ble_eq_true rfl) dX11_difference_81 ?_
                  intro r8 S8 hp8
                  obtain ⟨rfl, hS8⟩ := hp8
                  obtain rfl := hS8.symm
                  refine a_if_ne K dX11_difference_84 (tgt := 90) (by decide) (fun c_84 => ?_) (fun c_84 => absurd c_84 (by decide))
                  refine a_iload K dX11_difference_90 rfl ?_
                  refine a_iload_n K dX11_difference_92 rfl ?_
                  refine a_icmp_ne K dX11_difference_93 (tgt := 143) (by decide) (fun c_93 => absurd c_93 (fun z => z hit)) (fun c_93 => ?_)
                  refine a_iload K dX11_difference_96 rfl ?_
                  refine a_if_ne K dX11_difference_98 (tgt := 106) (by decide) (fun c_98 => ?_) (fun c_98 => absurd c_98 (by decide))
                  first | refine a_aload_n K dX11_difference_106 rfl ?_ | refine a_aload_nN K dX11_difference_106 rfl ?_
                  refine a_getRs K fd_X11_95 (by exact lm_o hM) (Or.inr ⟨_, rfl⟩) (by exact lm_r749 hM) dX11_difference_107 ?_
                  refine a_iload K dX11_difference_110 rfl ?_
                  refine a_iald K (by exact lm_kk hM (by decide) (by decide)) (by show vp_in _ (sN S9 (m 26)); exact lm_ix (z := 1000) hM (by decide) (by decide) (show q < 1000 by omega) (by decide)) dX11_difference_112 ?_
                  rw [nI_clamp (by omega)]
                  rw [hTh.1 q (by omega)]
                  refine a_iload K dX11_difference_113 rfl ?_
                  refine a_iconst K dX11_difference_115 (v := 1) (by decide) ?_
                  refine a_isub K dX11_difference_116 ?_
                  rw [show (1 : Int32) - 1 = nI 0 from rfl]
                  refine a_invS K (q_thN (V := vTwo (ent z.1 z.2) (ent y.1 y.2)) (q := q) (w := 0) (by decide) hv) my_X11_has ml_X11_271 st_X11_has rfl (by omega) (by omega) (by omega) rfl (Nat.le_of_ble_eq_true rfl) dX11_difference_117 ?_
                  intro r8 S8 hp8
                  obtain ⟨rfl, hS8⟩ := hp8
                  obtain rfl := hS8.symm
                  refine a_if_eq K dX11_difference_120 (tgt := 140) (by decide) (fun c_120 => ?_) (fun c_120 => absurd c_120 (fun z => z rfl))
                  refine a_ldc K kc_X11_170 dX11_difference_140 ?_
                  exact a_iret K EE rfl (by omega) (by omega) dX11_difference_142 ⟨by unfold aDiff; rw [hz, hy]; exact congrArg (fun v => some (Value.int v)) ((show difA (ent z.1 z.2) (ent y.1 y.2) i 1 = vTwo (ent z.1 z.2) (ent y.1 y.2) 0 q from hD 1).trans hv).symm, h9, mQ_tr q0 q9⟩
                · refine a_iload K dX11_difference_68 rfl ?_
                  refine a_sipush K dX11_difference_70 (v := 999) (by decide) ?_
                  refine a_icmp_gt K dX11_difference_73 (tgt := 152) (by decide) (fun c_73 => absurd c_73 ((Int32.not_lt.mpr (show nI q ≤ 999 from nI_le (b := 999) (by omega) (by decide))))) (fun c_73 => ?_)
                  first | refine a_aload_n K dX11_difference_76 rfl ?_ | refine a_aload_nN K dX11_difference_76 rfl ?_
                  refine a_iload K dX11_difference_77 rfl ?_
                  refine a_iconst K dX11_difference_79 (v := 0) (by decide) ?_
                  refine a_iconst K dX11_difference_80 (v := 1) (by decide) ?_
                  refine a_invV K (q_unlY hM hTh (q := q) (by omega) (a := 0) (b := 1) (by decide) (by decide) u) my_X11_isUnlike ml_X11_362 im_X11_isUnlike se_X11_isUnlike (ci := 11) (by exact lm_o hM) (by decide) ⟨_, _, rfl⟩ rfl (by omega) (by omega) (by omega) rfl (Nat.le_of_ble_eq_true rfl) dX11_difference_81 ?_
                  intro r8 S8 hp8
                  obtain ⟨rfl, hS8⟩ := hp8
                  obtain rfl := hS8.symm
                  refine a_if_ne K dX11_difference_84 (tgt := 90) (by decide) (fun c_84 => ?_) (fun c_84 => absurd c_84 (by decide))
                  refine a_iload K dX11_difference_90 rfl ?_
                  refine a_iload_n K dX11_difference_92 rfl ?_
                  refine a_icmp_ne K dX11_difference_93 (tgt := 143) (by decide) (fun c_93 => absurd c_93 (fun z => z hit)) (fun c_93 => ?_)
                  refine a_iload K dX11_difference_96 rfl ?_
                  refine a_if_ne K dX11_difference_98 (tgt := 106) (by decide) (fun c_98 => ?_) (fun c_98 => absurd c_98 (by decide))
                  first | refine a_aload_n K dX11_difference_106 rfl ?_ | refine a_aload_nN K dX11_difference_106 rfl ?_
                  refine a_getRs K fd_X11_95 (by exact lm_o hM) (Or.inr ⟨_, rfl⟩) (by exact lm_r749 hM) dX11_difference_107 ?_
                  refine a_iload K dX11_difference_110 rfl ?_
                  refine a_iald K (by exact lm_kk hM (by decide) (by decide)) (by show vp_in _ (sN S9 (m 26)); exact lm_ix (z := 1000) hM (by decide) (by decide) (show q < 1000 by omega) (by decide)) dX11_difference_112 ?_
                  rw [nI_clamp (by omega)]
                  rw [hTh.1 q (by omega)]
                  refine a_iload K dX11_difference_113 rfl ?_
                  refine a_iconst K dX11_difference_115 (v := 1) (by decide) ?_
                  refine a_isub K dX11_difference_116 ?_
                  rw [show (1 : Int32) - 1 = nI 0 from rfl]
                  refine a_invS K (q_thY (V := vTwo (ent z.1 z.2) (ent y.1 y.2)) (q := q) (w := 0) (by decide) hv) my_X11_has ml_X11_271 st_X11_has rfl (by omega) (by omega) (by omega) rfl (Nat.le_of_ble_eq_true rfl) dX11_difference_117 ?_
                  intro r8 S8 hp8
                  obtain ⟨rfl, hS8⟩ := hp8
                  obtain rfl := hS8.symm
                  refine a_if_eq K dX11_difference_120 (tgt := 140) (by decide) (fun c_120 => absurd c_120 (by decide)) (fun c_120 => ?_)
                  first | refine a_aload_n K dX11_difference_123 rfl ?_ | refine a_aload_nN K dX11_difference_123 rfl ?_
                  refine a_getRs K fd_X11_98 (by exact lm_o hM) (Or.inr ⟨_, rfl⟩) (by exact lm_r750 hM) dX11_difference_124 ?_
                  refine a_iconst K dX11_difference_127 (v := 3) (by decide) ?_
                  refine a_iload K dX11_difference_128 rfl ?_
                  refine a_imul K dX11_difference_130 ?_
                  rw [nI_3]
                  refine a_iload K dX11_difference_131 rfl ?_
                  refine a_iadd K dX11_difference_133 ?_
                  refine a_iconst K dX11_difference_134 (v := 1) (by decide) ?_
                  refine a_isub K dX11_difference_135 ?_
                  rw [show nI (3 * q) + 1 - 1 = nI (3 * q + 0) from hX]
                  refine a_iald K (by exact lm_kk hM (by decide) (by decide)) (by show vp_in _ (sN S9 (m 27)); exact lm_ix (z := 3000) hM (by decide) (by decide) (show 3 * q + 0 < 3000 by omega) (by decide)) dX11_difference_136 ?_
                  rw [nI_clamp (by omega)]
                  rw [hTh.2 0 (by decide) q (by omega) hv]
                  refine a_goto K dX11_difference_137 (tgt := 142) (by decide) ?_
                  exact a_iret K EE rfl (by omega) (by omega) dX11_difference_142 ⟨by unfold aDiff; rw [hz, hy]; exact congrArg (fun v => some (Value.int v)) ((show difA (ent z.1 z.2) (ent y.1 y.2) i 1 = vTwo (ent z.1 z.2) (ent y.1 y.2) 0 q from hD 1)).symm, h9, mQ_tr q0 q9⟩
              · have hX : nI (3 * q) + 2 - 1 = nI (3 * q + 1) := by rw [show (2 : Int32) = nI 2 from rfl, nI_add, show (1 : Int32) = nI 1 from rfl, nI_sub (by omega)]; rfl
                by_cases hv : vTwo (ent z.1 z.2) (ent y.1 y.2) 1 q = -1000000
                · refine a_iload K dX11_difference_68 rfl ?_
                  refine a_sipush K dX11_difference_70 (v := 999) (by decide) ?_
                  refine a_icmp_gt K dX11_difference_73 (tgt := 152) (by decide) (fun c_73 => absurd c_73 ((Int32.not_lt.mpr (show nI q ≤ 999 from nI_le (b := 999) (by omega) (by decide))))) (fun c_73 => ?_)
                  first | refine a_aload_n K dX11_difference_76 rfl ?_ | refine a_aload_nN K dX11_difference_76 rfl ?_
                  refine a_iload K dX11_difference_77 rfl ?_
                  refine a_iconst K dX11_difference_79 (v := 0) (by decide) ?_
                  refine a_iconst K dX11_difference_80 (v := 1) (by decide) ?_
                  refine a_invV K (q_unlY hM hTh (q := q) (by omega) (a := 0) (b := 1) (by decide) (by decide) u) my_X11_isUnlike ml_X11_362 im_X11_isUnlike se_X11_isUnlike (ci := 11) (by exact lm_o hM) (by decide) ⟨_, _, rfl⟩ rfl (by omega) (by omega) (by omega) rfl (Nat.le_of_ble_eq_true rfl) dX11_difference_81 ?_
                  intro r8 S8 hp8
                  obtain ⟨rfl, hS8⟩ := hp8
                  obtain rfl := hS8.symm
                  refine a_if_ne K dX11_difference_84 (tgt := 90) (by decide) (fun c_84 => ?_) (fun c_84 => absurd c_84 (by decide))
                  refine a_iload K dX11_difference_90 rfl ?_
                  refine a_iload_n K dX11_difference_92 rfl ?_
                  refine a_icmp_ne K dX11_difference_93 (tgt := 143) (by decide) (fun c_93 => absurd c_93 (fun z => z hit)) (fun c_93 => ?_)
                  refine a_iload K dX11_difference_96 rfl ?_
                  refine a_if_ne K dX11_difference_98 (tgt := 106) (by decide) (fun c_98 => ?_) (fun c_98 => absurd c_98 (by decide))
                  first | refine a_aload_n K dX11_difference_106 rfl ?_ | refine a_aload_nN K dX11_difference_106 rfl ?_
                  refine a_getRs K fd_X11_95 (by exact lm_o hM) (Or.inr ⟨_, rfl⟩) (by exact lm_r749 hM) dX11_difference_107 ?_
                  refine a_iload K dX11_difference_110 rfl ?_
                  refine a_iald K (by exact lm_kk hM (by decide) (by decide)) (by show vp_in _ (sN S9 (m 26)); exact lm_ix (z := 1000) hM (by decide) (by decide) (show q < 1000 by omega) (by decide)) dX11_difference_112 ?_
                  rw [nI_clamp (by omega)]
                  rw [hTh.1 q (by omega)]
                  refine a_iload K dX11_difference_113 rfl ?_
                  refine a_iconst K dX11_difference_115 (v := 1) (by decide) ?_
                  refine a_isub K dX11_difference_116 ?_
                  rw [show (2 : Int32) - 1 = nI 1 from rfl]
                  refine a_invS K (q_thN (V := vTwo (ent z.1 z.2) (ent y.1 y.2)) (q := q) (w := 1) (by decide) hv) my_X11_has ml_X11_271 st_X11_has rfl (by omega) (by omega) (by omega) rfl (Nat.le_of_ble_eq_true rfl) dX11_difference_117 ?_
                  intro r8 S8 hp8
                  obtain ⟨rfl, hS8⟩ := hp8
                  obtain rfl := hS8.symm
                  refine a_if_eq K dX11_difference_120 (tgt := 140) (by decide) (fun c_120 => ?_) (fun c_120 => absurd c_120 (fun z => z rfl))
                  refine a_ldc K kc_X11_170 dX11_difference_140 ?_
                  exact a_iret K EE rfl (by omega) (by omega) dX11_difference_142 ⟨by unfold aDiff; rw [hz, hy]; exact congrArg (fun v => some (Value.int v)) ((show difA (ent z.1 z.2) (ent y.1 y.2) i 2 = vTwo (ent z.1 z.2) (ent y.1 y.2) 1 q from hD 2).trans hv).symm, h9, mQ_tr q0 q9⟩
                · refine a_iload K dX11_difference_68 rfl ?_
                  refine a_sipush K dX11_difference_70 (v := 999) (by decide) ?_
                  refine a_icmp_gt K dX11_difference_73 (tgt := 152) (by decide) (fun c_73 => absurd c_73 ((Int32.not_lt.mpr (show nI q ≤ 999 from nI_le (b := 999) (by omega) (by decide))))) (fun c_73 => ?_)
                  first | refine a_aload_n K dX11_difference_76 rfl ?_ | refine a_aload_nN K dX11_difference_76 rfl ?_
                  refine a_iload K dX11_difference_77 rfl ?_
                  refine a_iconst K dX11_difference_79 (v := 0) (by decide) ?_
                  refine a_iconst K dX11_difference_80 (v := 1) (by decide) ?_
                  refine a_invV K (q_unlY hM hTh (q := q) (by omega) (a := 0) (b := 1) (by decide) (by decide) u) my_X11_isUnlike ml_X11_362 im_X11_isUnlike se_X11_isUnlike (ci := 11) (by exact lm_o hM) (by decide) ⟨_, _, rfl⟩ rfl (by omega) (by omega) (by omega) rfl (Nat.le_of_ble_eq_true rfl) dX11_difference_81 ?_
                  intro r8 S8 hp8
                  obtain ⟨rfl, hS8⟩ := hp8
                  obtain rfl := hS8.symm
                  refine a_if_ne K dX11_difference_84 (tgt := 90) (by decide) (fun c_84 => ?_) (fun c_84 => absurd c_84 (by decide))
                  refine a_iload K dX11_difference_90 rfl ?_
                  refine a_iload_n K dX11_difference_92 rfl ?_
                  refine a_icmp_ne K dX11_difference_93 (tgt := 143) (by decide) (fun c_93 => absurd c_93 (fun z => z hit)) (fun c_93 => ?_)
                  refine a_iload K dX11_difference_96 rfl ?_
                  refine a_if_ne K dX11_difference_98 (tgt := 106) (by decide) (fun c_98 => ?_) (fun c_98 => absurd c_98 (by decide))
                  first | refine a_aload_n K dX11_difference_106 rfl ?_ | refine a_aload_nN K dX11_difference_106 rfl ?_
                  refine a_getRs K fd_X11_95 (by exact lm_o hM) (Or.inr ⟨_, rfl⟩) (by exact lm_r749 hM) dX11_difference_107 ?_
                  refine a_iload K dX11_difference_110 rfl ?_
                  refine a_iald K (by exact lm_kk hM (by decide) (by decide)) (by show vp_in _ (sN S9 (m 26)); exact lm_ix (z := 1000) hM (by decide) (by decide) (show q < 1000 by omega) (by decide)) dX11_difference_112 ?_
                  rw [nI_clamp (by omega)]
                  rw [hTh.1 q (by omega)]
                  refine a_iload K dX11_difference_113 rfl ?_
                  refine a_iconst K dX11_difference_115 (v := 1) (by decide) ?_
                  refine a_isub K dX11_difference_116 ?_
                  rw [show (2 : Int32) - 1 = nI 1 from rfl]
                  refine a_invS K (q_thY (V := vTwo (ent z.1 z.2) (ent y.1 y.2)) (q := q) (w := 1) (by decide) hv) my_X11_has ml_X11_271 st_X11_has rfl (by omega) (by omega) (by omega) rfl (Nat.le_of_ble_eq_true rfl) dX11_difference_117 ?_
                  intro r8 S8 hp8
                  obtain ⟨rfl, hS8⟩ := hp8
                  obtain rfl := hS8.symm
                  refine a_if_eq K dX11_difference_120 (tgt := 140) (by decide) (fun c_120 => absurd c_120 (by decide)) (fun c_120 => ?_)
                  first | refine a_aload_n K dX11_difference_123 rfl ?_ | refine a_aload_nN K dX11_difference_123 rfl ?_
                  refine a_getRs K fd_X11_98 (by exact lm_o hM) (Or.inr ⟨_, rfl⟩) (by exact lm_r750 hM) dX11_difference_124 ?_
                  refine a_iconst K dX11_difference_127 (v := 3) (by decide) ?_
                  refine a_iload K dX11_difference_128 rfl ?_
                  refine a_imul K dX11_difference_130 ?_
                  rw [nI_3]
                  refine a_iload K dX11_difference_131 rfl ?_
                  refine a_iadd K dX11_difference_133 ?_
                  refine a_iconst K dX11_difference_134 (v := 1) (by decide) ?_
                  refine a_isub K dX11_difference_135 ?_
                  rw [show nI (3 * q) + 2 - 1 = nI (3 * q + 1) from hX]
                  refine a_iald K (by exact lm_kk hM (by decide) (by decide)) (by show vp_in _ (sN S9 (m 27)); exact lm_ix (z := 3000) hM (by decide) (by decide) (show 3 * q + 1 < 3000 by omega) (by decide)) dX11_difference_136 ?_
                  rw [nI_clamp (by omega)]
                  rw [hTh.2 1 (by decide) q (by omega) hv]
                  refine a_goto K dX11_difference_137 (tgt := 142) (by decide) ?_
                  exact a_iret K EE rfl (by omega) (by omega) dX11_difference_142 ⟨by unfold aDiff; rw [hz, hy]; exact congrArg (fun v => some (Value.int v)) ((show difA (ent z.1 z.2) (ent y.1 y.2) i 2 = vTwo (ent z.1 z.2) (ent y.1 y.2) 1 q from hD 2)).symm, h9, mQ_tr q0 q9⟩
            · refine a_iload K dX11_difference_68 rfl ?_
              refine a_sipush K dX11_difference_70 (v := 999) (by decide) ?_
              refine a_icmp_gt K dX11_difference_73 (tgt := 152) (by decide) (fun c_73 => absurd c_73 ((Int32.not_lt.mpr (show nI q ≤ 999 from nI_le (b := 999) (by omega) (by decide))))) (fun c_73 => ?_)
              first | refine a_aload_n K dX11_difference_76 rfl ?_ | refine a_aload_nN K dX11_difference_76 rfl ?_
              refine a_iload K dX11_difference_77 rfl ?_
              refine a_iconst K dX11_difference_79 (v := 0) (by decide) ?_
              refine a_iconst K dX11_difference_80 (v := 1) (by decide) ?_
              refine a_invV K (q_unlY hM hTh (q := q) (by omega) (a := 0) (b := 1) (by decide) (by decide) u) my_X11_isUnlike ml_X11_362 im_X11_isUnlike se_X11_isUnlike (ci := 11) (by exact lm_o hM) (by decide) ⟨_, _, rfl⟩ rfl (by omega) (by omega) (by omega) rfl (Nat.le_of_ble_eq_true rfl) dX11_difference_81 ?_
              intro r8 S8 hp8
              obtain ⟨rfl, hS8⟩ := hp8
              obtain rfl := hS8.symm
              refine a_if_ne K dX11_difference_84 (tgt := 90) (by decide) (fun c_84 => ?_) (fun c_84 => absurd c_84 (by decide))
              refine a_iload K dX11_difference_90 rfl ?_
              refine a_iload_n K dX11_difference_92 rfl ?_
              refine a_icmp_ne K dX11_difference_93 (tgt := 143) (by decide) (fun c_93 => ?_) (fun c_93 => absurd c_93 (hit))
              refine a_iinc K dX11_difference_143 (v := 1) rfl (by decide) (by decide) ?_
              refine a_iinc K dX11_difference_146 (v := 1) rfl (by decide) (by decide) ?_
              refine a_goto K dX11_difference_149 (tgt := 68) (by decide) ?_
              exact aw_locl rfl (ih (q + 1) (a + 1) _ _ (nI_1 q) (nI_1 a) (by omega) (by omega) (by rw [fndU_y (by rw [show 999 - n = q by omega]; exact dif_ne u) hit] at hR; exact hR))
        exact aw_locl rfl (loop 1000 0 0 _ _ nI_0.symm nI_0.symm (Nat.zero_add _) (Nat.le_refl _) hRR)
      by_cases c1 : i < -1
      · refine a_iload_n K dX11_difference_21 rfl ?_
        refine a_iconst K dX11_difference_22 (v := -1) (by decide) ?_
        refine a_icmp_lt K dX11_difference_23 (tgt := 43) (by decide) (fun c_23 => ?_) (fun c_23 => absurd c_23 (fun z => z c1))
        refine a_ldc K kc_X11_170 dX11_difference_43 ?_
        exact a_iret K EE rfl (by omega) (by omega) dX11_difference_45 ⟨by unfold aDiff; rw [hz, hy]; exact congrArg (fun v => some (Value.int v)) (difA_lo c1).symm, h, q0⟩
      by_cases c2 : i < 0
      · have e1 : i = -1 := by
          have h1 : ¬ i.toInt < -1 := fun z => c1 (i32_lt.mpr z)
          have h2 : i.toInt < 0 := i32_lt.mp c2
          exact Int32.toInt_inj.mp (by rw [show (-1 : Int32).toInt = -1 from by decide]; omega)
        refine a_iload_n K dX11_difference_21 rfl ?_
        refine a_iconst K dX11_difference_22 (v := -1) (by decide) ?_
        refine a_icmp_lt K dX11_difference_23 (tgt := 43) (by decide) (fun c_23 => absurd c_23 (c1)) (fun c_23 => ?_)
        refine a_iload_n K dX11_difference_26 rfl ?_
        refine a_if_lt K dX11_difference_27 (tgt := 46) (by decide) (fun c_27 => ?_) (fun c_27 => absurd c_27 (fun z => z c2))
        exact aw_locl rfl (tail (Or.inl e1))
      by_cases c3 : 0 ≤ w.toInt ∧ w.toInt ≤ 2
      · refine a_iload_n K dX11_difference_21 rfl ?_
        refine a_iconst K dX11_difference_22 (v := -1) (by decide) ?_
        refine a_icmp_lt K dX11_difference_23 (tgt := 43) (by decide) (fun c_23 => absurd c_23 (c1)) (fun c_23 => ?_)
        refine a_iload_n K dX11_difference_26 rfl ?_
        refine a_if_lt K dX11_difference_27 (tgt := 46) (by decide) (fun c_27 => absurd c_27 (c2)) (fun c_27 => ?_)
        refine a_iload K dX11_difference_30 rfl ?_
        refine a_i2l K dX11_difference_32 ?_
        refine a_lconst K dX11_difference_33 (v := 0) (by decide) ?_
        refine a_ldc2 K kc_X11_369 dX11_difference_34 ?_
        refine a_invS K (q_inY (p := 0) (q := 2) (by decide) (by decide) c3) my_X11_isIn ml_X11_174 st_X11_isIn rfl (by omega) (by omega) (by omega) rfl (Nat.le_of_ble_eq_true rfl) dX11_difference_37 ?_
        intro r9 S9 hp9
        obtain ⟨rfl, hS9⟩ := hp9
        obtain rfl := hS9.symm
        refine a_if_ne K dX11_difference_40 (tgt := 46) (by decide) (fun c_40 => ?_) (fun c_40 => absurd c_40 (by decide))
        exact aw_locl rfl (tail (Or.inr c3))
      · refine a_iload_n K dX11_difference_21 rfl ?_
        refine a_iconst K dX11_difference_22 (v := -1) (by decide) ?_
        refine a_icmp_lt K dX11_difference_23 (tgt := 43) (by decide) (fun c_23 => absurd c_23 (c1)) (fun c_23 => ?_)
        refine a_iload_n K dX11_difference_26 rfl ?_
        refine a_if_lt K dX11_difference_27 (tgt := 46) (by decide) (fun c_27 => absurd c_27 (c2)) (fun c_27 => ?_)
        refine a_iload K dX11_difference_30 rfl ?_
        refine a_i2l K dX11_difference_32 ?_
        refine a_lconst K dX11_difference_33 (v := 0) (by decide) ?_
        refine a_ldc2 K kc_X11_369 dX11_difference_34 ?_
        refine a_invS K (q_inN (p := 0) (q := 2) (by decide) (by decide) c3) my_X11_isIn ml_X11_174 st_X11_isIn rfl (by omega) (by omega) (by omega) rfl (Nat.le_of_ble_eq_true rfl) dX11_difference_37 ?_
        intro r9 S9 hp9
        obtain ⟨rfl, hS9⟩ := hp9
        obtain rfl := hS9.symm
        refine a_if_ne K dX11_difference_40 (tgt := 46) (by decide) (fun c_40 => absurd c_40 (fun z => z rfl)) (fun c_40 => ?_)
        refine a_ldc K kc_X11_170 dX11_difference_43 ?_
        exact a_iret K EE rfl (by omega) (by omega) dX11_difference_45 ⟨by unfold aDiff; rw [hz, hy]; exact congrArg (fun v => some (Value.int v)) (difA_w (fun z => c2 (by rw [z]; decide)) c3).symm, h, q0⟩
