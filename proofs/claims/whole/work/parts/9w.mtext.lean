/-! the model: a tree written -/
theorem txB_pre : ∀ (a c : List KV) (b : Bool), ∃ s, txB b (a ++ c) = txB b a ++ s
  | [], c, b => ⟨txB b c, rfl⟩
  | x :: a, c, b => by
    obtain ⟨s, e⟩ := txB_pre a c false
    refine ⟨s, ?_⟩
    rw [List.cons_append, txB, txB, e]
    simp only [List.append_assoc]
theorem txB_take {l : List KV} {i : Nat} : (txB true (l.take i)).length ≤ (txB true l).length := by
  obtain ⟨s, e⟩ := txB_pre (l.take i) (l.drop i) true
  rw [List.take_append_drop] at e
  rw [e, List.length_append]
  omega
theorem fl_take {h : Nat} {l : List (Tr h)} {i : Nat} : ((l.take i).flatMap (txt h)).length ≤ (l.flatMap (txt h)).length := by
  have e := congrArg (fun q : List (Tr h) => (q.flatMap (txt h)).length) (List.take_append_drop i l)
  have e : ((l.take i ++ l.drop i).flatMap (txt h)).length = (l.flatMap (txt h)).length := e
  rw [List.flatMap_append, List.length_append] at e
  omega
set_option maxHeartbeats 4000000 in
set_option maxRecDepth 100000 in
theorem m_writesNode {m ρ : Nat → Nat} : ∀ (h : Nat) (t : Tr h) (S : aw_S) (L : List Nat), LM S m → RepM S m ρ h t → TxM S m L → (∀ x ∈ ent h t, okE x) → L.length + (txt h t).length ≤ 1390 → aw_M yX11_writesNode cX11_writesNode 3 (none : Option FieldType) (h + 2) 0 0 [.ref (m 33), .int (nI (ρ t.1))] S (fun r S2 => r = none ∧ TxM S2 m (L ++ txt h t) ∧ frM S S2 m [30] [757]) := by
  intro h
  induction h with
  | zero =>
    intro t S L hM0 rp hT0 hok0 hl
    have hr := rp.own.1
    have h7 : (ets t).length ≤ 7 := rp.2.2.2.2.1
    have oE : ∀ x ∈ ets t, okE x := hok0
    have hl : L.length + (91 :: (txB true (ets t) ++ [93])).length ≤ 1390 := hl
    simp only [List.length_append, List.length_cons, List.length_nil] at hl
    have hRR : L ++ txt 0 t = L ++ 91 :: (txB true (ets t) ++ [93]) := rfl
    have hM := hM0
    refine aw_enter (by decide +kernel) (Nat.le_of_ble_eq_true rfl) (fun g K EE => ?_)
    have loop : ∀ (n i : Nat) (x : Int32) (T : aw_S), x = nI i → i + n = (ets t).length → LM T m → TxM T m (L ++ 91 :: txB true ((ets t).take i)) → frM S T m [30] [757] → aw g 3 T 0 0 [(2, .int x), (1, .int (nI (ρ t.1))), (0, .ref (m 33))] [] 23 := by
      intro n
      induction n with
      | zero =>
        intro i x T hx hn hM hT f
        subst hx
        have rT := f.rep hM0 (by decide) (by decide) (by decide) (by decide) (by decide) (by decide) rp
        have hE : L ++ 91 :: txB true ((ets t).take i) = L ++ 91 :: txB true (ets t) := by rw [show i = (ets t).length by omega, List.take_length]
        rw [hE] at hT
        refine a_iload_n K dX11_writesNode_23 rfl ?_
        first | refine a_aload_n K dX11_writesNode_24 rfl ?_ | refine a_aload_nN K dX11_writesNode_24 rfl ?_
        refine a_getRs K fd_X11_26 (by exact lm_o hM) (Or.inr ⟨_, rfl⟩) (by exact lm_r715 hM) dX11_writesNode_25 ?_
        refine a_iload_n K dX11_writesNode_28 rfl ?_
        refine a_iald K (by exact lm_kk hM (by decide) (by decide)) (by show vp_in _ (sN T (m 5)); exact lm_ix (z := 12000) hM (by decide) (by decide) (show ρ t.1 < 12000 by omega) (by decide)) dX11_writesNode_29 ?_
        rw [nI_clamp (by omega)]
        rw [show sA T (m 5) (ρ t.1) = nI (ets t).length from rT.2.2.1]
        refine a_icmp_ge K dX11_writesNode_30 (tgt := 107) (by decide) (fun c_30 => ?_) (fun c_30 => absurd c_30 (fun z => z (nI_le (a := (ets t).length) (b := i) (by omega) (by omega))))
        first | refine a_aload_n K dX11_writesNode_107 rfl ?_ | refine a_aload_nN K dX11_writesNode_107 rfl ?_
        first | refine a_aload_n K dX11_writesNode_108 rfl ?_ | refine a_aload_nN K dX11_writesNode_108 rfl ?_
        refine a_getRs K fd_X11_23 (by exact lm_o hM) (Or.inr ⟨_, rfl⟩) (by exact lm_r714 hM) dX11_writesNode_109 ?_
        refine a_iload_n K dX11_writesNode_112 rfl ?_
        refine a_iald K (by exact lm_kk hM (by decide) (by decide)) (by show vp_in _ (sN T (m 4)); exact lm_ix (z := 12000) hM (by decide) (by decide) (show ρ t.1 < 12000 by omega) (by decide)) dX11_writesNode_113 ?_
        rw [nI_clamp (by omega)]
        rw [show sA T (m 4) (ρ t.1) = 1 from rT.2.1]
        refine a_iconst K dX11_writesNode_114 (v := 1) (by decide) ?_
        refine a_icmp_ne K dX11_writesNode_115 (tgt := 123) (by decide) (fun c_115 => absurd c_115 (fun z => z rfl)) (fun c_115 => ?_)
        refine a_bipush K dX11_writesNode_118 (v := 93) (by decide) ?_
        refine a_goto K dX11_writesNode_120 (tgt := 125) (by decide) ?_
        rw [show (93 : Int32) = nI 93 from by decide]
        refine a_invV K (q_writes hM hT (b := 93) (by first | omega | (simp only [List.length_append, List.length_cons, List.length_nil]; omega)) (by omega)) my_X11_writes ml_X11_438 im_X11_writes se_X11_writes (ci := 11) (by exact lm_o hM) (by decide) ⟨_, _, rfl⟩ rfl (by omega) (by omega) (by omega) rfl (Nat.le_of_ble_eq_true rfl) dX11_writesNode_125 ?_
        intro r9 W9 hp9
        obtain ⟨rfl, hT_W9, f_W9⟩ := hp9
        have hM := f_W9.lay hM
        exact a_vret K EE (by omega) (by omega) dX11_writesNode_128 ⟨rfl, by rw [hRR]; simpa using hT_W9, f.tr f_W9⟩
      | succ n ih =>
        intro i x T hx0 hn hM hT f
        subst hx0
        have rT := f.rep hM0 (by decide) (by decide) (by decide) (by decide) (by decide) (by decide) rp
        have hi : i < (ets t).length := by omega
        have hx := List.getElem?_eq_getElem hi
        generalize (ets t)[i] = x9 at hx
        have hok : okE x9 := oE x9 (List.mem_of_getElem? hx)
        have hMT := hM
        have hlk : (List.take i (ets t)).length = i := by rw [List.length_take]; omega
        by_cases hi0 : i = 0
        · have hsn : L ++ 91 :: txB true ((ets t).take (i + 1)) = L ++ 91 :: (txB true ((ets t).take i) ++ ([] ++ (nmT x9.1 ++ 58 :: nmT x9.2))) := by
            rw [take_i hx, txB_snoc, if_pos ⟨by omega, rfl⟩]
            rfl
          have hln := congrArg List.length hsn
          have htk := txB_take (l := ets t) (i := i + 1)
          simp only [List.length_append, List.length_cons, List.length_nil] at hln
          refine a_iload_n K dX11_writesNode_23 rfl ?_
          first | refine a_aload_n K dX11_writesNode_24 rfl ?_ | refine a_aload_nN K dX11_writesNode_24 rfl ?_
          refine a_getRs K fd_X11_26 (by exact lm_o hM) (Or.inr ⟨_, rfl⟩) (by exact lm_r715 hM) dX11_writesNode_25 ?_
          refine a_iload_n K dX11_writesNode_28 rfl ?_
          refine a_iald K (by exact lm_kk hM (by decide) (by decide)) (by show vp_in _ (sN T (m 5)); exact lm_ix (z := 12000) hM (by decide) (by decide) (show ρ t.1 < 12000 by omega) (by decide)) dX11_writesNode_29 ?_
          rw [nI_clamp (by omega)]
          rw [show sA T (m 5) (ρ t.1) = nI (ets t).length from rT.2.2.1]
          refine a_icmp_ge K dX11_writesNode_30 (tgt := 107) (by decide) (fun c_30 => absurd c_30 (nI_ge (a := i) (b := (ets t).length) (by omega) (by omega))) (fun c_30 => ?_)
          first | refine a_aload_n K dX11_writesNode_33 rfl ?_ | refine a_aload_nN K dX11_writesNode_33 rfl ?_
          refine a_getRs K fd_X11_23 (by exact lm_o hM) (Or.inr ⟨_, rfl⟩) (by exact lm_r714 hM) dX11_writesNode_34 ?_
          refine a_iload_n K dX11_writesNode_37 rfl ?_
          refine a_iald K (by exact lm_kk hM (by decide) (by decide)) (by show vp_in _ (sN T (m 4)); exact lm_ix (z := 12000) hM (by decide) (by decide) (show ρ t.1 < 12000 by omega) (by decide)) dX11_writesNode_38 ?_
          rw [nI_clamp (by omega)]
          rw [show sA T (m 4) (ρ t.1) = 1 from rT.2.1]
          refine a_if_ne K dX11_writesNode_39 (tgt := 55) (by decide) (fun c_39 => ?_) (fun c_39 => absurd c_39 (by decide))
          refine a_iload_n K dX11_writesNode_55 rfl ?_
          refine a_if_le K dX11_writesNode_56 (tgt := 65) (by decide) (fun c_56 => ?_) (fun c_56 => absurd c_56 (fun q => q (by rw [hi0]; decide)))
          first | refine a_aload_n K dX11_writesNode_65 rfl ?_ | refine a_aload_nN K dX11_writesNode_65 rfl ?_
          first | refine a_aload_n K dX11_writesNode_66 rfl ?_ | refine a_aload_nN K dX11_writesNode_66 rfl ?_
          refine a_getRs K fd_X11_39 (by exact lm_o hM) (Or.inr ⟨_, rfl⟩) (by exact lm_r719 hM) dX11_writesNode_67 ?_
          refine a_bipush K dX11_writesNode_70 (v := 7) (by decide) ?_
          refine a_iload_n K dX11_writesNode_72 rfl ?_
          refine a_imul K dX11_writesNode_73 ?_
          rw [nI_7]
          refine a_iload_n K dX11_writesNode_74 rfl ?_
          refine a_iadd K dX11_writesNode_75 ?_
          rw [nI_add]
          refine a_iald K (by exact lm_kk hM (by decide) (by decide)) (by show vp_in _ (sN T (m 9)); exact lm_ix (z := 84000) hM (by decide) (by decide) (show 7 * ρ t.1 + i < 84000 by omega) (by decide)) dX11_writesNode_76 ?_
          rw [nI_clamp (by omega)]
          rw [show sA T (m 9) (7 * ρ t.1 + i) = x9.1 from (rT.ent hx).1]
          refine a_invV K (q_writesNumber hM hT (by first | omega | (simp only [List.length_append, List.length_cons, List.length_nil]; omega)) hok.k.1) my_X11_writesNumber ml_X11_447 im_X11_writesNumber se_X11_writesNumber (ci := 11) (by exact lm_o hM) (by decide) ⟨_, _, rfl⟩ rfl (by omega) (by omega) (by omega) rfl (Nat.le_of_ble_eq_true rfl) dX11_writesNode_77 ?_
          intro r9 W1 hp9
          obtain ⟨rfl, hT_W1, f_W1⟩ := hp9
          have hM := f_W1.lay hM
          first | refine a_aload_n K dX11_writesNode_80 rfl ?_ | refine a_aload_nN K dX11_writesNode_80 rfl ?_
          refine a_bipush K dX11_writesNode_81 (v := 58) (by decide) ?_
          rw [show (58 : Int32) = nI 58 from by decide]
          refine a_invV K (q_writes hM hT_W1 (b := 58) (by first | omega | (simp only [List.length_append, List.length_cons, List.length_nil]; omega)) (by omega)) my_X11_writes ml_X11_438 im_X11_writes se_X11_writes (ci := 11) (by exact lm_o hM) (by decide) ⟨_, _, rfl⟩ rfl (by omega) (by omega) (by omega) rfl (Nat.le_of_ble_eq_true rfl) dX11_writesNode_83 ?_
          intro r9 W2 hp9
          obtain ⟨rfl, hT_W2, f_W2⟩ := hp9
          have hM := f_W2.lay hM
          first | refine a_aload_n K dX11_writesNode_86 rfl ?_ | refine a_aload_nN K dX11_writesNode_86 rfl ?_
          first | refine a_aload_n K dX11_writesNode_87 rfl ?_ | refine a_aload_nN K dX11_writesNode_87 rfl ?_
          refine a_getRs K fd_X11_42 (by exact lm_o hM) (Or.inr ⟨_, rfl⟩) (by exact lm_r720 hM) dX11_writesNode_88 ?_
          refine a_bipush K dX11_writesNode_91 (v := 7) (by decide) ?_
          refine a_iload_n K dX11_writesNode_93 rfl ?_
          refine a_imul K dX11_writesNode_94 ?_
          rw [nI_7]
          refine a_iload_n K dX11_writesNode_95 rfl ?_
          refine a_iadd K dX11_writesNode_96 ?_
          rw [nI_add]
          refine a_iald K (by exact lm_kk hM (by decide) (by decide)) (by show vp_in _ (sN W2 (m 10)); exact lm_ix (z := 84000) hM (by decide) (by decide) (show 7 * ρ t.1 + i < 84000 by omega) (by decide)) dX11_writesNode_97 ?_
          rw [nI_clamp (by omega)]
          rw [show sA W2 (m 10) (7 * ρ t.1 + i) = x9.2 from ((f_W2.rep (f_W1.lay hMT) (by decide) (by decide) (by decide) (by decide) (by decide) (by decide) (f_W1.rep hMT (by decide) (by decide) (by decide) (by decide) (by decide) (by decide) rT)).ent hx).2.1]
          refine a_invV K (q_writesNumber hM hT_W2 (by first | omega | (simp only [List.length_append, List.length_cons, List.length_nil]; omega)) hok.2) my_X11_writesNumber ml_X11_447 im_X11_writesNumber se_X11_writesNumber (ci := 11) (by exact lm_o hM) (by decide) ⟨_, _, rfl⟩ rfl (by omega) (by omega) (by omega) rfl (Nat.le_of_ble_eq_true rfl) dX11_writesNode_98 ?_
          intro r9 W3 hp9
          obtain ⟨rfl, hT_W3, f_W3⟩ := hp9
          have hM := f_W3.lay hM
          refine a_iinc K dX11_writesNode_101 (v := 1) rfl (by decide) (by decide) ?_
          refine a_goto K dX11_writesNode_104 (tgt := 23) (by decide) ?_
          exact aw_locl rfl (ih (i + 1) _ W3 (nI_1 i) (by omega) hM (by rw [hsn]; simpa using hT_W3) (((f.tr f_W1).tr f_W2).tr f_W3))
        · have hsn : L ++ 91 :: txB true ((ets t).take (i + 1)) = L ++ 91 :: (txB true ((ets t).take i) ++ ([32] ++ (nmT x9.1 ++ 58 :: nmT x9.2))) := by
            rw [take_i hx, txB_snoc, if_neg (fun q => hi0 (by omega))]
            rfl
          have hln := congrArg List.length hsn
          have htk := txB_take (l := ets t) (i := i + 1)
          simp only [List.length_append, List.length_cons, List.length_nil] at hln
          refine a_iload_n K dX11_writesNode_23 rfl ?_
          first | refine a_aload_n K dX11_writesNode_24 rfl ?_ | refine a_aload_nN K dX11_writesNode_24 rfl ?_
          refine a_getRs K fd_X11_26 (by exact lm_o hM) (Or.inr ⟨_, rfl⟩) (by exact lm_r715 hM) dX11_writesNode_25 ?_
          refine a_iload_n K dX11_writesNode_28 rfl ?_
          refine a_iald K (by exact lm_kk hM (by decide) (by decide)) (by show vp_in _ (sN T (m 5)); exact lm_ix (z := 12000) hM (by decide) (by decide) (show ρ t.1 < 12000 by omega) (by decide)) dX11_writesNode_29 ?_
          rw [nI_clamp (by omega)]
          rw [show sA T (m 5) (ρ t.1) = nI (ets t).length from rT.2.2.1]
          refine a_icmp_ge K dX11_writesNode_30 (tgt := 107) (by decide) (fun c_30 => absurd c_30 (nI_ge (a := i) (b := (ets t).length) (by omega) (by omega))) (fun c_30 => ?_)
          first | refine a_aload_n K dX11_writesNode_33 rfl ?_ | refine a_aload_nN K dX11_writesNode_33 rfl ?_
          refine a_getRs K fd_X11_23 (by exact lm_o hM) (Or.inr ⟨_, rfl⟩) (by exact lm_r714 hM) dX11_writesNode_34 ?_
          refine a_iload_n K dX11_writesNode_37 rfl ?_
          refine a_iald K (by exact lm_kk hM (by decide) (by decide)) (by show vp_in _ (sN T (m 4)); exact lm_ix (z := 12000) hM (by decide) (by decide) (show ρ t.1 < 12000 by omega) (by decide)) dX11_writesNode_38 ?_
          rw [nI_clamp (by omega)]
          rw [show sA T (m 4) (ρ t.1) = 1 from rT.2.1]
          refine a_if_ne K dX11_writesNode_39 (tgt := 55) (by decide) (fun c_39 => ?_) (fun c_39 => absurd c_39 (by decide))
          refine a_iload_n K dX11_writesNode_55 rfl ?_
          refine a_if_le K dX11_writesNode_56 (tgt := 65) (by decide) (fun c_56 => absurd c_56 (fun q => absurd q (Int32.not_le.mpr (nI_lt (a := 0) (b := i) (by omega) (by omega))))) (fun c_56 => ?_)
          first | refine a_aload_n K dX11_writesNode_59 rfl ?_ | refine a_aload_nN K dX11_writesNode_59 rfl ?_
          refine a_bipush K dX11_writesNode_60 (v := 32) (by decide) ?_
          rw [show (32 : Int32) = nI 32 from by decide]
          refine a_invV K (q_writes hM hT (b := 32) (by first | omega | (simp only [List.length_append, List.length_cons, List.length_nil]; omega)) (by omega)) my_X11_writes ml_X11_438 im_X11_writes se_X11_writes (ci := 11) (by exact lm_o hM) (by decide) ⟨_, _, rfl⟩ rfl (by omega) (by omega) (by omega) rfl (Nat.le_of_ble_eq_true rfl) dX11_writesNode_62 ?_
          intro r9 W0 hp9
          obtain ⟨rfl, hT_W0, f_W0⟩ := hp9
          have hM := f_W0.lay hM
          first | refine a_aload_n K dX11_writesNode_65 rfl ?_ | refine a_aload_nN K dX11_writesNode_65 rfl ?_
          first | refine a_aload_n K dX11_writesNode_66 rfl ?_ | refine a_aload_nN K dX11_writesNode_66 rfl ?_
          refine a_getRs K fd_X11_39 (by exact lm_o hM) (Or.inr ⟨_, rfl⟩) (by exact lm_r719 hM) dX11_writesNode_67 ?_
          refine a_bipush K dX11_writesNode_70 (v := 7) (by decide) ?_
          refine a_iload_n K dX11_writesNode_72 rfl ?_
          refine a_imul K dX11_writesNode_73 ?_
          rw [nI_7]
          refine a_iload_n K dX11_writesNode_74 rfl ?_
          refine a_iadd K dX11_writesNode_75 ?_
          rw [nI_add]
          refine a_iald K (by exact lm_kk hM (by decide) (by decide)) (by show vp_in _ (sN W0 (m 9)); exact lm_ix (z := 84000) hM (by decide) (by decide) (show 7 * ρ t.1 + i < 84000 by omega) (by decide)) dX11_writesNode_76 ?_
          rw [nI_clamp (by omega)]
          rw [show sA W0 (m 9) (7 * ρ t.1 + i) = x9.1 from ((f_W0.rep hMT (by decide) (by decide) (by decide) (by decide) (by decide) (by decide) rT).ent hx).1]
          refine a_invV K (q_writesNumber hM hT_W0 (by first | omega | (simp only [List.length_append, List.length_cons, List.length_nil]; omega)) hok.k.1) my_X11_writesNumber ml_X11_447 im_X11_writesNumber se_X11_writesNumber (ci := 11) (by exact lm_o hM) (by decide) ⟨_, _, rfl⟩ rfl (by omega) (by omega) (by omega) rfl (Nat.le_of_ble_eq_true rfl) dX11_writesNode_77 ?_
          intro r9 W1 hp9
          obtain ⟨rfl, hT_W1, f_W1⟩ := hp9
          have hM := f_W1.lay hM
          first | refine a_aload_n K dX11_writesNode_80 rfl ?_ | refine a_aload_nN K dX11_writesNode_80 rfl ?_
          refine a_bipush K dX11_writesNode_81 (v := 58) (by decide) ?_
          rw [show (58 : Int32) = nI 58 from by decide]
          refine a_invV K (q_writes hM hT_W1 (b := 58) (by first | omega | (simp only [List.length_append, List.length_cons, List.length_nil]; omega)) (by omega)) my_X11_writes ml_X11_438 im_X11_writes se_X11_writes (ci := 11) (by exact lm_o hM) (by decide) ⟨_, _, rfl⟩ rfl (by omega) (by omega) (by omega) rfl (Nat.le_of_ble_eq_true rfl) dX11_writesNode_83 ?_
          intro r9 W2 hp9
          obtain ⟨rfl, hT_W2, f_W2⟩ := hp9
          have hM := f_W2.lay hM
          first | refine a_aload_n K dX11_writesNode_86 rfl ?_ | refine a_aload_nN K dX11_writesNode_86 rfl ?_
          first | refine a_aload_n K dX11_writesNode_87 rfl ?_ | refine a_aload_nN K dX11_writesNode_87 rfl ?_
          refine a_getRs K fd_X11_42 (by exact lm_o hM) (Or.inr ⟨_, rfl⟩) (by exact lm_r720 hM) dX11_writesNode_88 ?_
          refine a_bipush K dX11_writesNode_91 (v := 7) (by decide) ?_
          refine a_iload_n K dX11_writesNode_93 rfl ?_
          refine a_imul K dX11_writesNode_94 ?_
          rw [nI_7]
          refine a_iload_n K dX11_writesNode_95 rfl ?_
          refine a_iadd K dX11_writesNode_96 ?_
          rw [nI_add]
          refine a_iald K (by exact lm_kk hM (by decide) (by decide)) (by show vp_in _ (sN W2 (m 10)); exact lm_ix (z := 84000) hM (by decide) (by decide) (show 7 * ρ t.1 + i < 84000 by omega) (by decide)) dX11_writesNode_97 ?_
          rw [nI_clamp (by omega)]
          rw [show sA W2 (m 10) (7 * ρ t.1 + i) = x9.2 from ((f_W2.rep (f_W1.lay (f_W0.lay hMT)) (by decide) (by decide) (by decide) (by decide) (by decide) (by decide) (f_W1.rep (f_W0.lay hMT) (by decide) (by decide) (by decide) (by decide) (by decide) (by decide) (f_W0.rep hMT (by decide) (by decide) (by decide) (by decide) (by decide) (by decide) rT))).ent hx).2.1]
          refine a_invV K (q_writesNumber hM hT_W2 (by first | omega | (simp only [List.length_append, List.length_cons, List.length_nil]; omega)) hok.2) my_X11_writesNumber ml_X11_447 im_X11_writesNumber se_X11_writesNumber (ci := 11) (by exact lm_o hM) (by decide) ⟨_, _, rfl⟩ rfl (by omega) (by omega) (by omega) rfl (Nat.le_of_ble_eq_true rfl) dX11_writesNode_98 ?_
          intro r9 W3 hp9
          obtain ⟨rfl, hT_W3, f_W3⟩ := hp9
          have hM := f_W3.lay hM
          refine a_iinc K dX11_writesNode_101 (v := 1) rfl (by decide) (by decide) ?_
          refine a_goto K dX11_writesNode_104 (tgt := 23) (by decide) ?_
          exact aw_locl rfl (ih (i + 1) _ W3 (nI_1 i) (by omega) hM (by rw [hsn]; simpa using hT_W3) ((((f.tr f_W0).tr f_W1).tr f_W2).tr f_W3))
    first | refine a_aload_n K dX11_writesNode_0 rfl ?_ | refine a_aload_nN K dX11_writesNode_0 rfl ?_
    first | refine a_aload_n K dX11_writesNode_1 rfl ?_ | refine a_aload_nN K dX11_writesNode_1 rfl ?_
    refine a_getRs K fd_X11_23 (by exact lm_o hM) (Or.inr ⟨_, rfl⟩) (by exact lm_r714 hM) dX11_writesNode_2 ?_
    refine a_iload_n K dX11_writesNode_5 rfl ?_
    refine a_iald K (by exact lm_kk hM (by decide) (by decide)) (by show vp_in _ (sN S (m 4)); exact lm_ix (z := 12000) hM (by decide) (by decide) (show ρ t.1 < 12000 by omega) (by decide)) dX11_writesNode_6 ?_
    rw [nI_clamp (by omega)]
    rw [show sA S (m 4) (ρ t.1) = 1 from rp.2.1]
    refine a_iconst K dX11_writesNode_7 (v := 1) (by decide) ?_
    refine a_icmp_ne K dX11_writesNode_8 (tgt := 16) (by decide) (fun c_8 => absurd c_8 (fun z => z rfl)) (fun c_8 => ?_)
    refine a_bipush K dX11_writesNode_11 (v := 91) (by decide) ?_
    refine a_goto K dX11_writesNode_13 (tgt := 18) (by decide) ?_
    rw [show (91 : Int32) = nI 91 from by decide]
    refine a_invV K (q_writes hM hT0 (b := 91) (by first | omega | (simp only [List.length_append, List.length_cons, List.length_nil]; omega)) (by omega)) my_X11_writes ml_X11_438 im_X11_writes se_X11_writes (ci := 11) (by exact lm_o hM) (by decide) ⟨_, _, rfl⟩ rfl (by omega) (by omega) (by omega) rfl (Nat.le_of_ble_eq_true rfl) dX11_writesNode_18 ?_
    intro r9 T0 hp9
    obtain ⟨rfl, hT_T0, f_T0⟩ := hp9
    have hM := f_T0.lay hM
    refine a_iconst K dX11_writesNode_21 (v := 0) (by decide) ?_
    refine a_istore_n K dX11_writesNode_22 (by decide) ?_
    exact aw_locl rfl (loop (ets t).length 0 _ T0 nI_0.symm (by omega) hM (by rw [List.take_zero]; exact hT_T0) f_T0)
  | succ h ihh =>
    intro t S L hM0 rp hT0 hok0 hl
    have hr := rp.own.1
    have h7 : (kds t).length ≤ 7 := rp.1.2.2.2.2.1
    have hok0 : ∀ x ∈ (kds t).flatMap (ent h), okE x := hok0
    have hl : L.length + (40 :: ((kds t).flatMap (txt h) ++ [41])).length ≤ 1390 := hl
    simp only [List.length_append, List.length_cons, List.length_nil] at hl
    have hRR : L ++ txt (h + 1) t = L ++ 40 :: ((kds t).flatMap (txt h) ++ [41]) := rfl
    have hM := hM0
    refine aw_enter (by decide +kernel) (Nat.le_of_ble_eq_true rfl) (fun g K EE => ?_)
    have loop : ∀ (n i : Nat) (x : Int32) (T : aw_S), x = nI i → i + n = (kds t).length → LM T m → TxM T m (L ++ 40 :: ((kds t).take i).flatMap (txt h)) → frM S T m [30] [757] → aw g 3 T 0 0 [(2, .int x), (1, .int (nI (ρ t.1))), (0, .ref (m 33))] [] 23 := by
      intro n
      induction n with
      | zero =>
        intro i x T hx hn hM hT f
        subst hx
        have rT := f.rep hM0 (by decide) (by decide) (by decide) (by decide) (by decide) (by decide) rp
        have hE : L ++ 40 :: ((kds t).take i).flatMap (txt h) = L ++ 40 :: (kds t).flatMap (txt h) := by rw [show i = (kds t).length by omega, List.take_length]
        rw [hE] at hT
        refine a_iload_n K dX11_writesNode_23 rfl ?_
        first | refine a_aload_n K dX11_writesNode_24 rfl ?_ | refine a_aload_nN K dX11_writesNode_24 rfl ?_
        refine a_getRs K fd_X11_26 (by exact lm_o hM) (Or.inr ⟨_, rfl⟩) (by exact lm_r715 hM) dX11_writesNode_25 ?_
        refine a_iload_n K dX11_writesNode_28 rfl ?_
        refine a_iald K (by exact lm_kk hM (by decide) (by decide)) (by show vp_in _ (sN T (m 5)); exact lm_ix (z := 12000) hM (by decide) (by decide) (show ρ t.1 < 12000 by omega) (by decide)) dX11_writesNode_29 ?_
        rw [nI_clamp (by omega)]
        rw [show sA T (m 5) (ρ t.1) = nI (kds t).length from rT.1.2.2.1]
        refine a_icmp_ge K dX11_writesNode_30 (tgt := 107) (by decide) (fun c_30 => ?_) (fun c_30 => absurd c_30 (fun z => z (nI_le (a := (kds t).length) (b := i) (by omega) (by omega))))
        first | refine a_aload_n K dX11_writesNode_107 rfl ?_ | refine a_aload_nN K dX11_writesNode_107 rfl ?_
        first | refine a_aload_n K dX11_writesNode_108 rfl ?_ | refine a_aload_nN K dX11_writesNode_108 rfl ?_
        refine a_getRs K fd_X11_23 (by exact lm_o hM) (Or.inr ⟨_, rfl⟩) (by exact lm_r714 hM) dX11_writesNode_109 ?_
        refine a_iload_n K dX11_writesNode_112 rfl ?_
        refine a_iald K (by exact lm_kk hM (by decide) (by decide)) (by show vp_in _ (sN T (m 4)); exact lm_ix (z := 12000) hM (by decide) (by decide) (show ρ t.1 < 12000 by omega) (by decide)) dX11_writesNode_113 ?_
        rw [nI_clamp (by omega)]
        rw [show sA T (m 4) (ρ t.1) = 0 from rT.1.2.1]
        refine a_iconst K dX11_writesNode_114 (v := 1) (by decide) ?_
        refine a_icmp_ne K dX11_writesNode_115 (tgt := 123) (by decide) (fun c_115 => ?_) (fun c_115 => absurd c_115 (by decide))
        refine a_bipush K dX11_writesNode_123 (v := 41) (by decide) ?_
        rw [show (41 : Int32) = nI 41 from by decide]
        refine a_invV K (q_writes hM hT (b := 41) (by first | omega | (simp only [List.length_append, List.length_cons, List.length_nil]; omega)) (by omega)) my_X11_writes ml_X11_438 im_X11_writes se_X11_writes (ci := 11) (by exact lm_o hM) (by decide) ⟨_, _, rfl⟩ rfl (by omega) (by omega) (by omega) rfl (Nat.le_of_ble_eq_true rfl) dX11_writesNode_125 ?_
        intro r9 W9 hp9
        obtain ⟨rfl, hT_W9, f_W9⟩ := hp9
        have hM := f_W9.lay hM
        exact a_vret K EE (by omega) (by omega) dX11_writesNode_128 ⟨rfl, by rw [hRR]; simpa using hT_W9, f.tr f_W9⟩
      | succ n ih =>
        intro i x T hx0 hn hM hT f
        subst hx0
        have rT := f.rep hM0 (by decide) (by decide) (by decide) (by decide) (by decide) (by decide) rp
        have hi : i < (kds t).length := by omega
        have hc := List.getElem?_eq_getElem hi
        generalize (kds t)[i] = c at hc
        have htk := List.take_add_one (l := kds t) (i := i)
        rw [hc] at htk
        have hsn : L ++ 40 :: ((kds t).take (i + 1)).flatMap (txt h) = L ++ 40 :: (((kds t).take i).flatMap (txt h) ++ txt h c) := by
          rw [htk, List.flatMap_append]
          simp
        have hlc : (L ++ 40 :: ((kds t).take i).flatMap (txt h)).length + (txt h c).length ≤ 1390 := by
          have hln := congrArg List.length hsn
          have hft := fl_take (l := kds t) (i := i + 1)
          simp only [List.length_append, List.length_cons] at hln ⊢
          omega
        refine a_iload_n K dX11_writesNode_23 rfl ?_
        first | refine a_aload_n K dX11_writesNode_24 rfl ?_ | refine a_aload_nN K dX11_writesNode_24 rfl ?_
        refine a_getRs K fd_X11_26 (by exact lm_o hM) (Or.inr ⟨_, rfl⟩) (by exact lm_r715 hM) dX11_writesNode_25 ?_
        refine a_iload_n K dX11_writesNode_28 rfl ?_
        refine a_iald K (by exact lm_kk hM (by decide) (by decide)) (by show vp_in _ (sN T (m 5)); exact lm_ix (z := 12000) hM (by decide) (by decide) (show ρ t.1 < 12000 by omega) (by decide)) dX11_writesNode_29 ?_
        rw [nI_clamp (by omega)]
        rw [show sA T (m 5) (ρ t.1) = nI (kds t).length from rT.1.2.2.1]
        refine a_icmp_ge K dX11_writesNode_30 (tgt := 107) (by decide) (fun c_30 => absurd c_30 (nI_ge (a := i) (b := (kds t).length) (by omega) (by omega))) (fun c_30 => ?_)
        first | refine a_aload_n K dX11_writesNode_33 rfl ?_ | refine a_aload_nN K dX11_writesNode_33 rfl ?_
        refine a_getRs K fd_X11_23 (by exact lm_o hM) (Or.inr ⟨_, rfl⟩) (by exact lm_r714 hM) dX11_writesNode_34 ?_
        refine a_iload_n K dX11_writesNode_37 rfl ?_
        refine a_iald K (by exact lm_kk hM (by decide) (by decide)) (by show vp_in _ (sN T (m 4)); exact lm_ix (z := 12000) hM (by decide) (by decide) (show ρ t.1 < 12000 by omega) (by decide)) dX11_writesNode_38 ?_
        rw [nI_clamp (by omega)]
        rw [show sA T (m 4) (ρ t.1) = 0 from rT.1.2.1]
        refine a_if_ne K dX11_writesNode_39 (tgt := 55) (by decide) (fun c_39 => absurd c_39 (fun z => z rfl)) (fun c_39 => ?_)
        first | refine a_aload_n K dX11_writesNode_42 rfl ?_ | refine a_aload_nN K dX11_writesNode_42 rfl ?_
        first | refine a_aload_n K dX11_writesNode_43 rfl ?_ | refine a_aload_nN K dX11_writesNode_43 rfl ?_
        refine a_iload_n K dX11_writesNode_44 rfl ?_
        refine a_iload_n K dX11_writesNode_45 rfl ?_
        refine a_invV K (m_child hM (r := ρ t.1) (k := i) hr (by omega)) my_X11_child ml_X11_197 im_X11_child se_X11_child (ci := 11) (by exact lm_o hM) (by decide) ⟨_, _, rfl⟩ rfl (by omega) (by omega) (by omega) rfl (Nat.le_of_ble_eq_true rfl) dX11_writesNode_46 ?_
        intro r9 S9 hp9
        obtain ⟨rfl, hS9⟩ := hp9
        obtain rfl := hS9.symm
        rw [(rT.kid hc).2.1]
        refine a_invV K (ihh c T (L ++ 40 :: ((kds t).take i).flatMap (txt h)) hM (rT.kid hc).1 hT (fun x hx => hok0 x (List.mem_flatMap.mpr ⟨c, List.mem_of_getElem? hc, hx⟩)) hlc) my_X11_writesNode ml_X11_444 im_X11_writesNode se_X11_writesNode (ci := 11) (by exact lm_o hM) (by decide) ⟨_, _, rfl⟩ rfl (by omega) (by omega) (by omega) rfl (Nat.le_of_ble_eq_true rfl) dX11_writesNode_49 ?_
        intro r9 T2 hp9
        obtain ⟨rfl, hT2, f2⟩ := hp9
        refine a_goto K dX11_writesNode_52 (tgt := 101) (by decide) ?_
        refine a_iinc K dX11_writesNode_101 (v := 1) rfl (by decide) (by decide) ?_
        refine a_goto K dX11_writesNode_104 (tgt := 23) (by decide) ?_
        exact aw_locl rfl (ih (i + 1) _ T2 (nI_1 i) (by omega) (f2.lay hM) (by rw [hsn]; simpa using hT2) (f.tr f2))
    first | refine a_aload_n K dX11_writesNode_0 rfl ?_ | refine a_aload_nN K dX11_writesNode_0 rfl ?_
    first | refine a_aload_n K dX11_writesNode_1 rfl ?_ | refine a_aload_nN K dX11_writesNode_1 rfl ?_
    refine a_getRs K fd_X11_23 (by exact lm_o hM) (Or.inr ⟨_, rfl⟩) (by exact lm_r714 hM) dX11_writesNode_2 ?_
    refine a_iload_n K dX11_writesNode_5 rfl ?_
    refine a_iald K (by exact lm_kk hM (by decide) (by decide)) (by show vp_in _ (sN S (m 4)); exact lm_ix (z := 12000) hM (by decide) (by decide) (show ρ t.1 < 12000 by omega) (by decide)) dX11_writesNode_6 ?_
    rw [nI_clamp (by omega)]
    rw [show sA S (m 4) (ρ t.1) = 0 from rp.1.2.1]
    refine a_iconst K dX11_writesNode_7 (v := 1) (by decide) ?_
    refine a_icmp_ne K dX11_writesNode_8 (tgt := 16) (by decide) (fun c_8 => ?_) (fun c_8 => absurd c_8 (by decide))
    refine a_bipush K dX11_writesNode_16 (v := 40) (by decide) ?_
    rw [show (40 : Int32) = nI 40 from by decide]
    refine a_invV K (q_writes hM hT0 (b := 40) (by first | omega | (simp only [List.length_append, List.length_cons, List.length_nil]; omega)) (by omega)) my_X11_writes ml_X11_438 im_X11_writes se_X11_writes (ci := 11) (by exact lm_o hM) (by decide) ⟨_, _, rfl⟩ rfl (by omega) (by omega) (by omega) rfl (Nat.le_of_ble_eq_true rfl) dX11_writesNode_18 ?_
    intro r9 T0 hp9
    obtain ⟨rfl, hT_T0, f_T0⟩ := hp9
    have hM := f_T0.lay hM
    refine a_iconst K dX11_writesNode_21 (v := 0) (by decide) ?_
    refine a_istore_n K dX11_writesNode_22 (by decide) ?_
    exact aw_locl rfl (loop (kds t).length 0 _ T0 nI_0.symm (by omega) hM (by rw [List.take_zero, List.flatMap_nil]; exact hT_T0) f_T0)
