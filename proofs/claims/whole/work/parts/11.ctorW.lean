theorem made_at {S S1 : aw_S} {a ci G q : Nat} {FC : aw_FC} {FI : List (Nat × Int32)} {FX : List (Nat × Option Nat)} (h : made S S1 a ((a, pO ci FI FX) :: FC)) (hq : FX.lookup G = some (some q)) : sR S1 G a = some q := by
  have h1 := (h.2.1.2 _ List.mem_cons_self).2.2.2 G
  rw [hq] at h1
  exact h1
theorem made_arr {S S1 : aw_S} {a b ci kd N : Nat} {L1 L2 : aw_FC} {FI : List (Nat × Int32)} {FX : List (Nat × Option Nat)} {p : aw_C → Prop} (h : made S S1 a ((a, pO ci FI FX) :: (L1 ++ (b, p) :: L2))) (hp : ∀ c, p c → cK c = kd ∧ cN c = N) : aw_is S1 b kd ∧ sN S1 b = N := by
  have h1 := h.2.1.2 (b, p) (List.mem_cons_of_mem _ (List.mem_append_right _ List.mem_cons_self))
  exact ⟨⟨h1.1, (hp _ h1.2).1⟩, (hp _ h1.2).2⟩
theorem is_keeps {S S2 : aw_S} {P : Nat → Prop} {b c : Nat} (h : aw_is S b c) (k : keeps S S2 P) (n : ¬ P b) : aw_is S2 b c ∧ sN S2 b = sN S b := by
  have h1 := (k b h.1).2 n
  exact ⟨⟨(k b h.1).1, (congrArg cK h1).trans h.2⟩, congrArg cN h1⟩
theorem ob_made {S S2 : aw_S} {q b ci cj : Nat} {F2 : aw_FC} (h : aw_is S b ci) (f : q ∉ sL S) (m : made (nO S q cj) S2 q F2) : aw_is S2 b ci ∧ sN S2 b = sN S b := by
  have h1 := is_keeps (is_nO_old (ci := cj) h f) m.1 (ne_of_is h f)
  exact ⟨h1.1, h1.2⟩
theorem is_made {S S2 : aw_S} {q b ci cj : Nat} {F2 : aw_FC} (h : aw_is S b ci) (f : q ∉ sL S) (m : made (nO S q cj) S2 q F2) : aw_is S2 b ci := (ob_made h f m).1
theorem is_own {S S2 : aw_S} {q cj : Nat} {F2 : aw_FC} {FI : List (Nat × Int32)} {FX : List (Nat × Option Nat)} (m : made (nO S q cj) S2 q ((q, pO cj FI FX) :: F2)) : aw_is S2 q cj := made_is m
theorem sR_nO_old {S : aw_S} {q b ci c G : Nat} (h : aw_is S b c) (f : q ∉ sL S) : sR (nO S q ci) G b = sR S G b := if_neg (ne_of_is h f)
set_option maxHeartbeats 8000000 in
set_option maxRecDepth 100000 in
theorem m_X10_init {S : aw_S} {a : Nat} (h0 : kn S [(a, pO 10 [] [])]) : aw_M yX10_init cX10_init 2 (none : Option FieldType) 2 38 8947 [.ref a] S (fun r S2 => r = none ∧ ∃ q5 q8_q5 q16 q32 q39 q7_q39 q50 q61 q8_q61 q18_q61 q27_q61 q36_q61 q45_q61 q54_q61 q73 q95_0 q95_1 q95_2 q95_3 q111 q117 q8_q117 q128 q8_q128 q139 q8_q139 q150 q7_q150 q15_q150 q161 q7_q161 q15_q161 q172 q7_q172 q15_q172 q183 q7_q183 q16_q183 : Nat, made S S2 a ((a, pO 10 [] [(655, some q183), (654, some q172), (653, some q161), (652, some q150), (651, some q139), (650, some q128), (649, some q117), (648, some q111), (647, some q73), (646, some q61), (645, some q50), (643, some q39), (642, some q32), (641, some q16), (640, some q5)]) :: [(q5, pO 9 [] [(576, some q8_q5)]), (q8_q5, pA 13 240), (q16, pO 6 [] [(384, some q5)]), (q32, pA 17 4), (q39, pO 5 [] [(320, some q7_q39)]), (q7_q39, pA 13 64), (q50, pO 1 [(64, 4)] []), (q61, pO 3 [] [(197, some q54_q61), (196, some q45_q61), (195, some q36_q61), (194, some q27_q61), (193, some q18_q61), (192, some q8_q61)]), (q8_q61, pA 16 999), (q18_q61, pA 13 999), (q27_q61, pA 13 999), (q36_q61, pA 14 999), (q45_q61, pA 14 999), (q54_q61, pA 13 999), (q73, pQ 15 4 [(3, some q95_3), (2, some q95_2), (1, some q95_1), (0, some q95_0)]), (q95_0, pO 0 [] []), (q95_1, pO 0 [] []), (q95_2, pO 0 [] []), (q95_3, pO 0 [] []), (q111, pA 13 5), (q117, pO 8 [] [(512, some q8_q117)]), (q8_q117, pA 13 700), (q128, pO 8 [] [(512, some q8_q128)]), (q8_q128, pA 13 700), (q139, pO 8 [] [(512, some q8_q139)]), (q8_q139, pA 13 700), (q150, pO 7 [] [(449, some q15_q150), (448, some q7_q150)]), (q7_q150, pA 13 60), (q15_q150, pA 13 60), (q161, pO 7 [] [(449, some q15_q161), (448, some q7_q161)]), (q7_q161, pA 13 60), (q15_q161, pA 13 60), (q172, pO 7 [] [(449, some q15_q172), (448, some q7_q172)]), (q7_q172, pA 13 60), (q15_q172, pA 13 60), (q183, pO 2 [] [(129, some q16_q183), (128, some q7_q183)]), (q7_q183, pA 16 64), (q16_q183, pA 13 64)])) := by
  refine aw_enter (by decide +kernel) (Nat.le_of_ble_eq_true rfl) (fun g K E => ?_)
  have h := made_0 h0
  have ha := (h0.2 _ List.mem_cons_self).1
  refine a_aload_n K dX10_init_0 rfl ?_
  refine a_objInit K ml_X10_1 (by decide) (by decide) dX10_init_1 ?_
  refine a_aload_n K dX10_init_4 rfl ?_
  refine a_new K (ci := 9) (N := 2) kl_X10_7 in_X9 ini_X9 rfl (by decide) rfl (Nat.le_of_ble_eq_true rfl) (Nat.le_of_ble_eq_true rfl) dX10_init_5 (fun q5 fq5 => ?_)
  refine a_dup K dX10_init_8 rfl ?_
  refine a_invI K (m_X9_init (a := q5) pO_new) my_X9_init rfl ml_X10_9 im_X9_init rfl (by decide) (Nat.le_of_ble_eq_true rfl) (Nat.le_of_ble_eq_true rfl) rfl (Nat.le_of_ble_eq_true rfl) dX10_init_9 ?_
  intro rq5 Sq5 hpq5
  obtain ⟨rfl, q8_q5, hmq5⟩ := hpq5
  have i9 : aw_is Sq5 a 10 := is_made (made_is h) fq5 hmq5
  refine a_putRF K fd_X10_10 (v := some q5) i9 (Or.inl ⟨_, rfl⟩) rfl aw_clX10 dX10_init_12 ?_
  have h : made S _ a ((a, pO 10 [] [(640, some q5)]) :: [(q5, pO 9 [] [(576, some q8_q5)]), (q8_q5, pA 13 240)]) := made_obj (F := 640) h fq5 hmq5
  refine a_aload_n K dX10_init_15 rfl ?_
  refine a_new K (ci := 6) (N := 2) kl_X10_16 in_X6 ini_X6 rfl (by decide) rfl (Nat.le_of_ble_eq_true rfl) (Nat.le_of_ble_eq_true rfl) dX10_init_16 (fun q16 fq16 => ?_)
  refine a_dup K dX10_init_19 rfl ?_
  refine a_aload_n K dX10_init_20 rfl ?_
  refine a_getRs K fd_X10_10 (is_nO_old (made_is h) fq16) (Or.inl ⟨_, rfl⟩) (b := q5) ((sR_nO_old (made_is h) fq16).trans (made_at h rfl)) dX10_init_21 ?_
  refine a_invI K (m_X6_init (a := q16) (t := q5) pO_new) my_X6_init rfl ml_X10_18 im_X6_init rfl (by decide) (Nat.le_of_ble_eq_true rfl) (Nat.le_of_ble_eq_true rfl) rfl (Nat.le_of_ble_eq_true rfl) dX10_init_24 ?_
  intro rq16 Sq16 hpq16
  obtain ⟨rfl, hmq16⟩ := hpq16
  have i9 : aw_is Sq16 a 10 := is_made (made_is h) fq16 hmq16
  refine a_putRF K fd_X10_21 (v := some q16) i9 (Or.inl ⟨_, rfl⟩) rfl aw_clX10 dX10_init_27 ?_
  have h : made S _ a ((a, pO 10 [] [(641, some q16), (640, some q5)]) :: [(q5, pO 9 [] [(576, some q8_q5)]), (q8_q5, pA 13 240), (q16, pO 6 [] [(384, some q5)])]) := made_obj (F := 641) h fq16 hmq16
  refine a_aload_n K dX10_init_30 rfl ?_
  refine a_iconst K dX10_init_31 (v := 4) (by decide) ?_
  refine a_newqP K (N := 4) kl_X10_25 (by decide) (by decide) (Nat.le_of_ble_eq_true rfl) (Nat.le_of_ble_eq_true rfl) (Nat.le_of_ble_eq_true rfl) dX10_init_32 (fun q32 fq32 => ?_)
  refine a_putRF K fd_X10_27 (v := some q32) (is_nA_old (made_is h) fq32) (Or.inr ⟨_, rfl⟩) rfl aw_clX10 dX10_init_35 ?_
  have h : made S _ a ((a, pO 10 [] [(642, some q32), (641, some q16), (640, some q5)]) :: [(q5, pO 9 [] [(576, some q8_q5)]), (q8_q5, pA 13 240), (q16, pO 6 [] [(384, some q5)]), (q32, pA 17 4)]) := made_row (F := 642) (kd := 17) (N := 4) ha h fq32
  refine a_aload_n K dX10_init_38 rfl ?_
  refine a_new K (ci := 5) (N := 2) kl_X10_25 in_X5 ini_X5 rfl (by decide) rfl (Nat.le_of_ble_eq_true rfl) (Nat.le_of_ble_eq_true rfl) dX10_init_39 (fun q39 fq39 => ?_)
  refine a_dup K dX10_init_42 rfl ?_
  refine a_invI K (m_X5_init (a := q39) pO_new) my_X5_init rfl ml_X10_31 im_X5_init rfl (by decide) (Nat.le_of_ble_eq_true rfl) (Nat.le_of_ble_eq_true rfl) rfl (Nat.le_of_ble_eq_true rfl) dX10_init_43 ?_
  intro rq39 Sq39 hpq39
  obtain ⟨rfl, q7_q39, hmq39⟩ := hpq39
  have i9 : aw_is Sq39 a 10 := is_made (made_is h) fq39 hmq39
  refine a_putR K fd_X10_32 (v := some q39) i9 (Or.inl ⟨_, rfl⟩) dX10_init_46 ?_
  have h : made S _ a ((a, pO 10 [] [(643, some q39), (642, some q32), (641, some q16), (640, some q5)]) :: [(q5, pO 9 [] [(576, some q8_q5)]), (q8_q5, pA 13 240), (q16, pO 6 [] [(384, some q5)]), (q32, pA 17 4), (q39, pO 5 [] [(320, some q7_q39)]), (q7_q39, pA 13 64)]) := made_obj (F := 643) h fq39 hmq39
  refine a_aload_n K dX10_init_49 rfl ?_
  refine a_new K (ci := 1) (N := 3) kl_X10_36 in_X1 ini_X1 rfl (by decide) rfl (Nat.le_of_ble_eq_true rfl) (Nat.le_of_ble_eq_true rfl) dX10_init_50 (fun q50 fq50 => ?_)
  refine a_dup K dX10_init_53 rfl ?_
  refine a_invIN K (m_X1_init (a := q50) pO_new) my_X1_init rfl (fun _ _ _ z => z.1.1) im_X1_init rfl (by decide) (Nat.le_of_ble_eq_true rfl) (Nat.le_of_ble_eq_true rfl) rfl (Nat.le_of_ble_eq_true rfl) dX10_init_54 ?_
  intro rq50 Sq50 hpq50
  obtain ⟨rfl, hmq50⟩ := hpq50
  have i9 : aw_is Sq50 a 10 := is_made (made_is h) fq50 hmq50
  refine a_putRF K fd_X10_39 (v := some q50) i9 (Or.inl ⟨_, rfl⟩) rfl aw_clX10 dX10_init_57 ?_
  have h : made S _ a ((a, pO 10 [] [(645, some q50), (643, some q39), (642, some q32), (641, some q16), (640, some q5)]) :: [(q5, pO 9 [] [(576, some q8_q5)]), (q8_q5, pA 13 240), (q16, pO 6 [] [(384, some q5)]), (q32, pA 17 4), (q39, pO 5 [] [(320, some q7_q39)]), (q7_q39, pA 13 64), (q50, pO 1 [(64, 4)] [])]) := made_obj (F := 645) h fq50 hmq50
  refine a_aload_n K dX10_init_60 rfl ?_
  refine a_new K (ci := 3) (N := 9) kl_X10_43 in_X3 ini_X3 rfl (by decide) rfl (Nat.le_of_ble_eq_true rfl) (Nat.le_of_ble_eq_true rfl) dX10_init_61 (fun q61 fq61 => ?_)
  refine a_dup K dX10_init_64 rfl ?_
  refine a_invI K (m_X3_init (a := q61) pO_new) my_X3_init rfl ml_X10_45 im_X3_init rfl (by decide) (Nat.le_of_ble_eq_true rfl) (Nat.le_of_ble_eq_true rfl) rfl (Nat.le_of_ble_eq_true rfl) dX10_init_65 ?_
  intro rq61 Sq61 hpq61
  obtain ⟨rfl, q8_q61, q18_q61, q27_q61, q36_q61, q45_q61, q54_q61, hmq61⟩ := hpq61
  have i9 : aw_is Sq61 a 10 := is_made (made_is h) fq61 hmq61
  refine a_putRF K fd_X10_46 (v := some q61) i9 (Or.inl ⟨_, rfl⟩) rfl aw_clX10 dX10_init_68 ?_
  have h : made S _ a ((a, pO 10 [] [(646, some q61), (645, some q50), (643, some q39), (642, some q32), (641, some q16), (640, some q5)]) :: [(q5, pO 9 [] [(576, some q8_q5)]), (q8_q5, pA 13 240), (q16, pO 6 [] [(384, some q5)]), (q32, pA 17 4), (q39, pO 5 [] [(320, some q7_q39)]), (q7_q39, pA 13 64), (q50, pO 1 [(64, 4)] []), (q61, pO 3 [] [(197, some q54_q61), (196, some q45_q61), (195, some q36_q61), (194, some q27_q61), (193, some q18_q61), (192, some q8_q61)]), (q8_q61, pA 16 999), (q18_q61, pA 13 999), (q27_q61, pA 13 999), (q36_q61, pA 14 999), (q45_q61, pA 14 999), (q54_q61, pA 13 999)]) := made_obj (F := 646) h fq61 hmq61
  refine a_aload_n K dX10_init_71 rfl ?_
  refine a_iconst K dX10_init_72 (v := 4) (by decide) ?_
  refine a_newqB K (N := 4) kl_X10_50 (by decide) (by decide) (Nat.le_of_ble_eq_true rfl) (Nat.le_of_ble_eq_true rfl) (Nat.le_of_ble_eq_true rfl) dX10_init_73 (fun q73 fq73 => ?_)
  have hbs0 : ¬ q73 ∈ sL S := fun z => fq73 (h.1 _ z).1
  refine a_putRF K fd_X10_52 (v := some q73) (is_nA_old (made_is h) fq73) (Or.inr ⟨_, rfl⟩) rfl aw_clX10 dX10_init_76 ?_
  have h : made S _ a ((a, pO 10 [] [(647, some q73), (646, some q61), (645, some q50), (643, some q39), (642, some q32), (641, some q16), (640, some q5)]) :: [(q5, pO 9 [] [(576, some q8_q5)]), (q8_q5, pA 13 240), (q16, pO 6 [] [(384, some q5)]), (q32, pA 17 4), (q39, pO 5 [] [(320, some q7_q39)]), (q7_q39, pA 13 64), (q50, pO 1 [(64, 4)] []), (q61, pO 3 [] [(197, some q54_q61), (196, some q45_q61), (195, some q36_q61), (194, some q27_q61), (193, some q18_q61), (192, some q8_q61)]), (q8_q61, pA 16 999), (q18_q61, pA 13 999), (q27_q61, pA 13 999), (q36_q61, pA 14 999), (q45_q61, pA 14 999), (q54_q61, pA 13 999), (q73, pA 15 4)]) := made_row (F := 647) (kd := 15) (N := 4) ha h fq73
  have h : made S _ a ((a, pO 10 [] [(647, some q73), (646, some q61), (645, some q50), (643, some q39), (642, some q32), (641, some q16), (640, some q5)]) :: [(q5, pO 9 [] [(576, some q8_q5)]), (q8_q5, pA 13 240), (q16, pO 6 [] [(384, some q5)]), (q32, pA 17 4), (q39, pO 5 [] [(320, some q7_q39)]), (q7_q39, pA 13 64), (q50, pO 1 [(64, 4)] []), (q61, pO 3 [] [(197, some q54_q61), (196, some q45_q61), (195, some q36_q61), (194, some q27_q61), (193, some q18_q61), (192, some q8_q61)]), (q8_q61, pA 16 999), (q18_q61, pA 13 999), (q27_q61, pA 13 999), (q36_q61, pA 14 999), (q45_q61, pA 14 999), (q54_q61, pA 13 999), (q73, pQ 15 4 [])]) := made_imp (L1 := [(q5, pO 9 [] [(576, some q8_q5)]), (q8_q5, pA 13 240), (q16, pO 6 [] [(384, some q5)]), (q32, pA 17 4), (q39, pO 5 [] [(320, some q7_q39)]), (q7_q39, pA 13 64), (q50, pO 1 [(64, 4)] []), (q61, pO 3 [] [(197, some q54_q61), (196, some q45_q61), (195, some q36_q61), (194, some q27_q61), (193, some q18_q61), (192, some q8_q61)]), (q8_q61, pA 16 999), (q18_q61, pA 13 999), (q27_q61, pA 13 999), (q36_q61, pA 14 999), (q45_q61, pA 14 999), (q54_q61, pA 13 999)]) (L2 := []) h (fun c z => pA_pQ z)
  have hbs : ¬ q73 ∈ sL S := hbs0
  refine a_iconst K dX10_init_79 (v := 0) (by decide) ?_
  refine a_istore_n K dX10_init_80 (by decide) ?_
  have ob : aw_is _ q73 15 ∧ sN _ q73 = 4 := made_arr (L1 := [(q5, pO 9 [] [(576, some q8_q5)]), (q8_q5, pA 13 240), (q16, pO 6 [] [(384, some q5)]), (q32, pA 17 4), (q39, pO 5 [] [(320, some q7_q39)]), (q7_q39, pA 13 64), (q50, pO 1 [(64, 4)] []), (q61, pO 3 [] [(197, some q54_q61), (196, some q45_q61), (195, some q36_q61), (194, some q27_q61), (193, some q18_q61), (192, some q8_q61)]), (q8_q61, pA 16 999), (q18_q61, pA 13 999), (q27_q61, pA 13 999), (q36_q61, pA 14 999), (q45_q61, pA 14 999), (q54_q61, pA 13 999)]) (L2 := []) h (fun c z => ⟨z.1, z.2.1⟩)
  refine a_iload_n K dX10_init_81 rfl ?_
  refine a_aload_n K dX10_init_82 rfl ?_
  refine a_getRs K fd_X10_52 (made_is h) (Or.inr ⟨_, rfl⟩) (b := q73) (made_at h rfl) dX10_init_83 ?_
  refine a_alen K (v := nI 4) ob.1 (by decide) (by decide) (by rw [ob.2]; rfl) dX10_init_86 ?_
  refine a_icmp_ge K dX10_init_87 (tgt := 109) (by decide) (fun z => absurd z (by decide)) (fun _ => ?_)
  refine a_aload_n K dX10_init_90 rfl ?_
  refine a_getRs K fd_X10_52 (made_is h) (Or.inr ⟨_, rfl⟩) (b := q73) (made_at h rfl) dX10_init_91 ?_
  refine a_iload_n K dX10_init_94 rfl ?_
  refine a_new K (ci := 0) (N := 3) kl_X10_50 in_X0 ini_X0 rfl (by decide) rfl (Nat.le_of_ble_eq_true rfl) (Nat.le_of_ble_eq_true rfl) dX10_init_95 (fun q95_0 fq95_0 => ?_)
  refine a_dup K dX10_init_98 rfl ?_
  refine a_invIN K (m_X0_init (a := q95_0) pO_new) my_X0_init rfl (fun _ _ _ z => z.1.2.1) im_X0_init rfl (by decide) (Nat.le_of_ble_eq_true rfl) (Nat.le_of_ble_eq_true rfl) rfl (Nat.le_of_ble_eq_true rfl) dX10_init_99 ?_
  intro rq95_0 Sq95_0 hpq95_0
  obtain ⟨rfl, hmq95_0⟩ := hpq95_0
  have ob2 := ob_made ob.1 fq95_0 hmq95_0
  refine a_aastB K (i := 0) ob2.1 (is_own hmq95_0) (by rw [ob2.2, ob.2]; show ¬ ((0 : Int32) < 0 ∨ 4 ≤ (0 : Int32).toNatClampNeg); decide) dX10_init_102 ?_
  rw [show (Int32.toNatClampNeg (0)) = 0 from by decide]
  have h : made S _ a ((a, pO 10 [] [(647, some q73), (646, some q61), (645, some q50), (643, some q39), (642, some q32), (641, some q16), (640, some q5)]) :: [(q5, pO 9 [] [(576, some q8_q5)]), (q8_q5, pA 13 240), (q16, pO 6 [] [(384, some q5)]), (q32, pA 17 4), (q39, pO 5 [] [(320, some q7_q39)]), (q7_q39, pA 13 64), (q50, pO 1 [(64, 4)] []), (q61, pO 3 [] [(197, some q54_q61), (196, some q45_q61), (195, some q36_q61), (194, some q27_q61), (193, some q18_q61), (192, some q8_q61)]), (q8_q61, pA 16 999), (q18_q61, pA 13 999), (q27_q61, pA 13 999), (q36_q61, pA 14 999), (q45_q61, pA 14 999), (q54_q61, pA 13 999), (q73, pQ 15 4 [(0, some q95_0)]), (q95_0, pO 0 [] [])]) := made_put (L1 := [(q5, pO 9 [] [(576, some q8_q5)]), (q8_q5, pA 13 240), (q16, pO 6 [] [(384, some q5)]), (q32, pA 17 4), (q39, pO 5 [] [(320, some q7_q39)]), (q7_q39, pA 13 64), (q50, pO 1 [(64, 4)] []), (q61, pO 3 [] [(197, some q54_q61), (196, some q45_q61), (195, some q36_q61), (194, some q27_q61), (193, some q18_q61), (192, some q8_q61)]), (q8_q61, pA 16 999), (q18_q61, pA 13 999), (q27_q61, pA 13 999), (q36_q61, pA 14 999), (q45_q61, pA 14 999), (q54_q61, pA 13 999)]) (L2 := []) h hbs fq95_0 hmq95_0
  refine a_iinc K dX10_init_103 (v := 1) rfl (by decide) (by decide) ?_
  refine a_goto K dX10_init_106 (tgt := 81) (by decide) ?_
  have ob : aw_is _ q73 15 ∧ sN _ q73 = 4 := made_arr (L1 := [(q5, pO 9 [] [(576, some q8_q5)]), (q8_q5, pA 13 240), (q16, pO 6 [] [(384, some q5)]), (q32, pA 17 4), (q39, pO 5 [] [(320, some q7_q39)]), (q7_q39, pA 13 64), (q50, pO 1 [(64, 4)] []), (q61, pO 3 [] [(197, some q54_q61), (196, some q45_q61), (195, some q36_q61), (194, some q27_q61), (193, some q18_q61), (192, some q8_q61)]), (q8_q61, pA 16 999), (q18_q61, pA 13 999), (q27_q61, pA 13 999), (q36_q61, pA 14 999), (q45_q61, pA 14 999), (q54_q61, pA 13 999)]) (L2 := [(q95_0, pO 0 [] [])]) h (fun c z => ⟨z.1, z.2.1⟩)
  refine a_iload_n K dX10_init_81 rfl ?_
  refine a_aload_n K dX10_init_82 rfl ?_
  refine a_getRs K fd_X10_52 (made_is h) (Or.inr ⟨_, rfl⟩) (b := q73) (made_at h rfl) dX10_init_83 ?_
  refine a_alen K (v := nI 4) ob.1 (by decide) (by decide) (by rw [ob.2]; rfl) dX10_init_86 ?_
  refine a_icmp_ge K dX10_init_87 (tgt := 109) (by decide) (fun z => absurd z (by decide)) (fun _ => ?_)
  refine a_aload_n K dX10_init_90 rfl ?_
  refine a_getRs K fd_X10_52 (made_is h) (Or.inr ⟨_, rfl⟩) (b := q73) (made_at h rfl) dX10_init_91 ?_
  refine a_iload_n K dX10_init_94 rfl ?_
  refine a_new K (ci := 0) (N := 3) kl_X10_50 in_X0 ini_X0 rfl (by decide) rfl (Nat.le_of_ble_eq_true rfl) (Nat.le_of_ble_eq_true rfl) dX10_init_95 (fun q95_1 fq95_1 => ?_)
  refine a_dup K dX10_init_98 rfl ?_
  refine a_invIN K (m_X0_init (a := q95_1) pO_new) my_X0_init rfl (fun _ _ _ z => z.1.2.1) im_X0_init rfl (by decide) (Nat.le_of_ble_eq_true rfl) (Nat.le_of_ble_eq_true rfl) rfl (Nat.le_of_ble_eq_true rfl) dX10_init_99 ?_
  intro rq95_1 Sq95_1 hpq95_1
  obtain ⟨rfl, hmq95_1⟩ := hpq95_1
  have ob2 := ob_made ob.1 fq95_1 hmq95_1
  refine a_aastB K (i := 0 + 1) ob2.1 (is_own hmq95_1) (by rw [ob2.2, ob.2]; show ¬ ((0 + 1 : Int32) < 0 ∨ 4 ≤ (0 + 1 : Int32).toNatClampNeg); decide) dX10_init_102 ?_
  rw [show (Int32.toNatClampNeg (0 + 1)) = 1 from by decide]
  have h : made S _ a ((a, pO 10 [] [(647, some q73), (646, some q61), (645, some q50), (643, some q39), (642, some q32), (641, some q16), (640, some q5)]) :: [(q5, pO 9 [] [(576, some q8_q5)]), (q8_q5, pA 13 240), (q16, pO 6 [] [(384, some q5)]), (q32, pA 17 4), (q39, pO 5 [] [(320, some q7_q39)]), (q7_q39, pA 13 64), (q50, pO 1 [(64, 4)] []), (q61, pO 3 [] [(197, some q54_q61), (196, some q45_q61), (195, some q36_q61), (194, some q27_q61), (193, some q18_q61), (192, some q8_q61)]), (q8_q61, pA 16 999), (q18_q61, pA 13 999), (q27_q61, pA 13 999), (q36_q61, pA 14 999), (q45_q61, pA 14 999), (q54_q61, pA 13 999), (q73, pQ 15 4 [(1, some q95_1), (0, some q95_0)]), (q95_0, pO 0 [] []), (q95_1, pO 0 [] [])]) := made_put (L1 := [(q5, pO 9 [] [(576, some q8_q5)]), (q8_q5, pA 13 240), (q16, pO 6 [] [(384, some q5)]), (q32, pA 17 4), (q39, pO 5 [] [(320, some q7_q39)]), (q7_q39, pA 13 64), (q50, pO 1 [(64, 4)] []), (q61, pO 3 [] [(197, some q54_q61), (196, some q45_q61), (195, some q36_q61), (194, some q27_q61), (193, some q18_q61), (192, some q8_q61)]), (q8_q61, pA 16 999), (q18_q61, pA 13 999), (q27_q61, pA 13 999), (q36_q61, pA 14 999), (q45_q61, pA 14 999), (q54_q61, pA 13 999)]) (L2 := [(q95_0, pO 0 [] [])]) h hbs fq95_1 hmq95_1
  refine a_iinc K dX10_init_103 (v := 1) rfl (by decide) (by decide) ?_
  refine a_goto K dX10_init_106 (tgt := 81) (by decide) ?_
  have ob : aw_is _ q73 15 ∧ sN _ q73 = 4 := made_arr (L1 := [(q5, pO 9 [] [(576, some q8_q5)]), (q8_q5, pA 13 240), (q16, pO 6 [] [(384, some q5)]), (q32, pA 17 4), (q39, pO 5 [] [(320, some q7_q39)]), (q7_q39, pA 13 64), (q50, pO 1 [(64, 4)] []), (q61, pO 3 [] [(197, some q54_q61), (196, some q45_q61), (195, some q36_q61), (194, some q27_q61), (193, some q18_q61), (192, some q8_q61)]), (q8_q61, pA 16 999), (q18_q61, pA 13 999), (q27_q61, pA 13 999), (q36_q61, pA 14 999), (q45_q61, pA 14 999), (q54_q61, pA 13 999)]) (L2 := [(q95_0, pO 0 [] []), (q95_1, pO 0 [] [])]) h (fun c z => ⟨z.1, z.2.1⟩)
  refine a_iload_n K dX10_init_81 rfl ?_
  refine a_aload_n K dX10_init_82 rfl ?_
  refine a_getRs K fd_X10_52 (made_is h) (Or.inr ⟨_, rfl⟩) (b := q73) (made_at h rfl) dX10_init_83 ?_
  refine a_alen K (v := nI 4) ob.1 (by decide) (by decide) (by rw [ob.2]; rfl) dX10_init_86 ?_
  refine a_icmp_ge K dX10_init_87 (tgt := 109) (by decide) (fun z => absurd z (by decide)) (fun _ => ?_)
  refine a_aload_n K dX10_init_90 rfl ?_
  refine a_getRs K fd_X10_52 (made_is h) (Or.inr ⟨_, rfl⟩) (b := q73) (made_at h rfl) dX10_init_91 ?_
  refine a_iload_n K dX10_init_94 rfl ?_
  refine a_new K (ci := 0) (N := 3) kl_X10_50 in_X0 ini_X0 rfl (by decide) rfl (Nat.le_of_ble_eq_true rfl) (Nat.le_of_ble_eq_true rfl) dX10_init_95 (fun q95_2 fq95_2 => ?_)
  refine a_dup K dX10_init_98 rfl ?_
  refine a_invIN K (m_X0_init (a := q95_2) pO_new) my_X0_init rfl (fun _ _ _ z => z.1.2.1) im_X0_init rfl (by decide) (Nat.le_of_ble_eq_true rfl) (Nat.le_of_ble_eq_true rfl) rfl (Nat.le_of_ble_eq_true rfl) dX10_init_99 ?_
  intro rq95_2 Sq95_2 hpq95_2
  obtain ⟨rfl, hmq95_2⟩ := hpq95_2
  have ob2 := ob_made ob.1 fq95_2 hmq95_2
  refine a_aastB K (i := 0 + 1 + 1) ob2.1 (is_own hmq95_2) (by rw [ob2.2, ob.2]; show ¬ ((0 + 1 + 1 : Int32) < 0 ∨ 4 ≤ (0 + 1 + 1 : Int32).toNatClampNeg); decide) dX10_init_102 ?_
  rw [show (Int32.toNatClampNeg (0 + 1 + 1)) = 2 from by decide]
  have h : made S _ a ((a, pO 10 [] [(647, some q73), (646, some q61), (645, some q50), (643, some q39), (642, some q32), (641, some q16), (640, some q5)]) :: [(q5, pO 9 [] [(576, some q8_q5)]), (q8_q5, pA 13 240), (q16, pO 6 [] [(384, some q5)]), (q32, pA 17 4), (q39, pO 5 [] [(320, some q7_q39)]), (q7_q39, pA 13 64), (q50, pO 1 [(64, 4)] []), (q61, pO 3 [] [(197, some q54_q61), (196, some q45_q61), (195, some q36_q61), (194, some q27_q61), (193, some q18_q61), (192, some q8_q61)]), (q8_q61, pA 16 999), (q18_q61, pA 13 999), (q27_q61, pA 13 999), (q36_q61, pA 14 999), (q45_q61, pA 14 999), (q54_q61, pA 13 999), (q73, pQ 15 4 [(2, some q95_2), (1, some q95_1), (0, some q95_0)]), (q95_0, pO 0 [] []), (q95_1, pO 0 [] []), (q95_2, pO 0 [] [])]) := made_put (L1 := [(q5, pO 9 [] [(576, some q8_q5)]), (q8_q5, pA 13 240), (q16, pO 6 [] [(384, some q5)]), (q32, pA 17 4), (q39, pO 5 [] [(320, some q7_q39)]), (q7_q39, pA 13 64), (q50, pO 1 [(64, 4)] []), (q61, pO 3 [] [(197, some q54_q61), (196, some q45_q61), (195, some q36_q61), (194, some q27_q61), (193, some q18_q61), (192, some q8_q61)]), (q8_q61, pA 16 999), (q18_q61, pA 13 999), (q27_q61, pA 13 999), (q36_q61, pA 14 999), (q45_q61, pA 14 999), (q54_q61, pA 13 999)]) (L2 := [(q95_0, pO 0 [] []), (q95_1, pO 0 [] [])]) h hbs fq95_2 hmq95_2
  refine a_iinc K dX10_init_103 (v := 1) rfl (by decide) (by decide) ?_
  refine a_goto K dX10_init_106 (tgt := 81) (by decide) ?_
  have ob : aw_is _ q73 15 ∧ sN _ q73 = 4 := made_arr (L1 := [(q5, pO 9 [] [(576, some q8_q5)]), (q8_q5, pA 13 240), (q16, pO 6 [] [(384, some q5)]), (q32, pA 17 4), (q39, pO 5 [] [(320, some q7_q39)]), (q7_q39, pA 13 64), (q50, pO 1 [(64, 4)] []), (q61, pO 3 [] [(197, some q54_q61), (196, some q45_q61), (195, some q36_q61), (194, some q27_q61), (193, some q18_q61), (192, some q8_q61)]), (q8_q61, pA 16 999), (q18_q61, pA 13 999), (q27_q61, pA 13 999), (q36_q61, pA 14 999), (q45_q61, pA 14 999), (q54_q61, pA 13 999)]) (L2 := [(q95_0, pO 0 [] []), (q95_1, pO 0 [] []), (q95_2, pO 0 [] [])]) h (fun c z => ⟨z.1, z.2.1⟩)
  refine a_iload_n K dX10_init_81 rfl ?_
  refine a_aload_n K dX10_init_82 rfl ?_
  refine a_getRs K fd_X10_52 (made_is h) (Or.inr ⟨_, rfl⟩) (b := q73) (made_at h rfl) dX10_init_83 ?_
  refine a_alen K (v := nI 4) ob.1 (by decide) (by decide) (by rw [ob.2]; rfl) dX10_init_86 ?_
  refine a_icmp_ge K dX10_init_87 (tgt := 109) (by decide) (fun z => absurd z (by decide)) (fun _ => ?_)
  refine a_aload_n K dX10_init_90 rfl ?_
  refine a_getRs K fd_X10_52 (made_is h) (Or.inr ⟨_, rfl⟩) (b := q73) (made_at h rfl) dX10_init_91 ?_
  refine a_iload_n K dX10_init_94 rfl ?_
  refine a_new K (ci := 0) (N := 3) kl_X10_50 in_X0 ini_X0 rfl (by decide) rfl (Nat.le_of_ble_eq_true rfl) (Nat.le_of_ble_eq_true rfl) dX10_init_95 (fun q95_3 fq95_3 => ?_)
  refine a_dup K dX10_init_98 rfl ?_
  refine a_invIN K (m_X0_init (a := q95_3) pO_new) my_X0_init rfl (fun _ _ _ z => z.1.2.1) im_X0_init rfl (by decide) (Nat.le_of_ble_eq_true rfl) (Nat.le_of_ble_eq_true rfl) rfl (Nat.le_of_ble_eq_true rfl) dX10_init_99 ?_
  intro rq95_3 Sq95_3 hpq95_3
  obtain ⟨rfl, hmq95_3⟩ := hpq95_3
  have ob2 := ob_made ob.1 fq95_3 hmq95_3
  refine a_aastB K (i := 0 + 1 + 1 + 1) ob2.1 (is_own hmq95_3) (by rw [ob2.2, ob.2]; show ¬ ((0 + 1 + 1 + 1 : Int32) < 0 ∨ 4 ≤ (0 + 1 + 1 + 1 : Int32).toNatClampNeg); decide) dX10_init_102 ?_
  rw [show (Int32.toNatClampNeg (0 + 1 + 1 + 1)) = 3 from by decide]
  have h : made S _ a ((a, pO 10 [] [(647, some q73), (646, some q61), (645, some q50), (643, some q39), (642, some q32), (641, some q16), (640, some q5)]) :: [(q5, pO 9 [] [(576, some q8_q5)]), (q8_q5, pA 13 240), (q16, pO 6 [] [(384, some q5)]), (q32, pA 17 4), (q39, pO 5 [] [(320, some q7_q39)]), (q7_q39, pA 13 64), (q50, pO 1 [(64, 4)] []), (q61, pO 3 [] [(197, some q54_q61), (196, some q45_q61), (195, some q36_q61), (194, some q27_q61), (193, some q18_q61), (192, some q8_q61)]), (q8_q61, pA 16 999), (q18_q61, pA 13 999), (q27_q61, pA 13 999), (q36_q61, pA 14 999), (q45_q61, pA 14 999), (q54_q61, pA 13 999), (q73, pQ 15 4 [(3, some q95_3), (2, some q95_2), (1, some q95_1), (0, some q95_0)]), (q95_0, pO 0 [] []), (q95_1, pO 0 [] []), (q95_2, pO 0 [] []), (q95_3, pO 0 [] [])]) := made_put (L1 := [(q5, pO 9 [] [(576, some q8_q5)]), (q8_q5, pA 13 240), (q16, pO 6 [] [(384, some q5)]), (q32, pA 17 4), (q39, pO 5 [] [(320, some q7_q39)]), (q7_q39, pA 13 64), (q50, pO 1 [(64, 4)] []), (q61, pO 3 [] [(197, some q54_q61), (196, some q45_q61), (195, some q36_q61), (194, some q27_q61), (193, some q18_q61), (192, some q8_q61)]), (q8_q61, pA 16 999), (q18_q61, pA 13 999), (q27_q61, pA 13 999), (q36_q61, pA 14 999), (q45_q61, pA 14 999), (q54_q61, pA 13 999)]) (L2 := [(q95_0, pO 0 [] []), (q95_1, pO 0 [] []), (q95_2, pO 0 [] [])]) h hbs fq95_3 hmq95_3
  refine a_iinc K dX10_init_103 (v := 1) rfl (by decide) (by decide) ?_
  refine a_goto K dX10_init_106 (tgt := 81) (by decide) ?_
  have ob : aw_is _ q73 15 ∧ sN _ q73 = 4 := made_arr (L1 := [(q5, pO 9 [] [(576, some q8_q5)]), (q8_q5, pA 13 240), (q16, pO 6 [] [(384, some q5)]), (q32, pA 17 4), (q39, pO 5 [] [(320, some q7_q39)]), (q7_q39, pA 13 64), (q50, pO 1 [(64, 4)] []), (q61, pO 3 [] [(197, some q54_q61), (196, some q45_q61), (195, some q36_q61), (194, some q27_q61), (193, some q18_q61), (192, some q8_q61)]), (q8_q61, pA 16 999), (q18_q61, pA 13 999), (q27_q61, pA 13 999), (q36_q61, pA 14 999), (q45_q61, pA 14 999), (q54_q61, pA 13 999)]) (L2 := [(q95_0, pO 0 [] []), (q95_1, pO 0 [] []), (q95_2, pO 0 [] []), (q95_3, pO 0 [] [])]) h (fun c z => ⟨z.1, z.2.1⟩)
  refine a_iload_n K dX10_init_81 rfl ?_
  refine a_aload_n K dX10_init_82 rfl ?_
  refine a_getRs K fd_X10_52 (made_is h) (Or.inr ⟨_, rfl⟩) (b := q73) (made_at h rfl) dX10_init_83 ?_
  refine a_alen K (v := nI 4) ob.1 (by decide) (by decide) (by rw [ob.2]; rfl) dX10_init_86 ?_
  refine a_icmp_ge K dX10_init_87 (tgt := 109) (by decide) (fun _ => ?_) (fun z => absurd (show nI 4 ≤ (0 + 1 + 1 + 1 + 1 : Int32) by decide) z)
  refine a_aload_n K dX10_init_109 rfl ?_
  refine a_iconst K dX10_init_110 (v := 5) (by decide) ?_
  refine a_newaI K (N := 5) (by decide) (by decide) (Nat.le_of_ble_eq_true rfl) (Nat.le_of_ble_eq_true rfl) (Nat.le_of_ble_eq_true rfl) dX10_init_111 (fun q111 fq111 => ?_)
  refine a_putRF K fd_X10_57 (v := some q111) (is_nA_old (made_is h) fq111) (Or.inr ⟨_, rfl⟩) rfl aw_clX10 dX10_init_113 ?_
  have h : made S _ a ((a, pO 10 [] [(648, some q111), (647, some q73), (646, some q61), (645, some q50), (643, some q39), (642, some q32), (641, some q16), (640, some q5)]) :: [(q5, pO 9 [] [(576, some q8_q5)]), (q8_q5, pA 13 240), (q16, pO 6 [] [(384, some q5)]), (q32, pA 17 4), (q39, pO 5 [] [(320, some q7_q39)]), (q7_q39, pA 13 64), (q50, pO 1 [(64, 4)] []), (q61, pO 3 [] [(197, some q54_q61), (196, some q45_q61), (195, some q36_q61), (194, some q27_q61), (193, some q18_q61), (192, some q8_q61)]), (q8_q61, pA 16 999), (q18_q61, pA 13 999), (q27_q61, pA 13 999), (q36_q61, pA 14 999), (q45_q61, pA 14 999), (q54_q61, pA 13 999), (q73, pQ 15 4 [(3, some q95_3), (2, some q95_2), (1, some q95_1), (0, some q95_0)]), (q95_0, pO 0 [] []), (q95_1, pO 0 [] []), (q95_2, pO 0 [] []), (q95_3, pO 0 [] []), (q111, pA 13 5)]) := made_row (F := 648) (kd := 13) (N := 5) ha h fq111
  refine a_aload_n K dX10_init_116 rfl ?_
  refine a_new K (ci := 8) (N := 2) kl_X10_61 in_X8 ini_X8 rfl (by decide) rfl (Nat.le_of_ble_eq_true rfl) (Nat.le_of_ble_eq_true rfl) dX10_init_117 (fun q117 fq117 => ?_)
  refine a_dup K dX10_init_120 rfl ?_
  refine a_invI K (m_X8_init (a := q117) pO_new) my_X8_init rfl ml_X10_63 im_X8_init rfl (by decide) (Nat.le_of_ble_eq_true rfl) (Nat.le_of_ble_eq_true rfl) rfl (Nat.le_of_ble_eq_true rfl) dX10_init_121 ?_
  intro rq117 Sq117 hpq117
  obtain ⟨rfl, q8_q117, hmq117⟩ := hpq117
  have i9 : aw_is Sq117 a 10 := is_made (made_is h) fq117 hmq117
  refine a_putRF K fd_X10_64 (v := some q117) i9 (Or.inl ⟨_, rfl⟩) rfl aw_clX10 dX10_init_124 ?_
  have h : made S _ a ((a, pO 10 [] [(649, some q117), (648, some q111), (647, some q73), (646, some q61), (645, some q50), (643, some q39), (642, some q32), (641, some q16), (640, some q5)]) :: [(q5, pO 9 [] [(576, some q8_q5)]), (q8_q5, pA 13 240), (q16, pO 6 [] [(384, some q5)]), (q32, pA 17 4), (q39, pO 5 [] [(320, some q7_q39)]), (q7_q39, pA 13 64), (q50, pO 1 [(64, 4)] []), (q61, pO 3 [] [(197, some q54_q61), (196, some q45_q61), (195, some q36_q61), (194, some q27_q61), (193, some q18_q61), (192, some q8_q61)]), (q8_q61, pA 16 999), (q18_q61, pA 13 999), (q27_q61, pA 13 999), (q36_q61, pA 14 999), (q45_q61, pA 14 999), (q54_q61, pA 13 999), (q73, pQ 15 4 [(3, some q95_3), (2, some q95_2), (1, some q95_1), (0, some q95_0)]), (q95_0, pO 0 [] []), (q95_1, pO 0 [] []), (q95_2, pO 0 [] []), (q95_3, pO 0 [] []), (q111, pA 13 5), (q117, pO 8 [] [(512, some q8_q117)]), (q8_q117, pA 13 700)]) := made_obj (F := 649) h fq117 hmq117
  refine a_aload_n K dX10_init_127 rfl ?_
  refine a_new K (ci := 8) (N := 2) kl_X10_61 in_X8 ini_X8 rfl (by decide) rfl (Nat.le_of_ble_eq_true rfl) (Nat.le_of_ble_eq_true rfl) dX10_init_128 (fun q128 fq128 => ?_)
  refine a_dup K dX10_init_131 rfl ?_
  refine a_invI K (m_X8_init (a := q128) pO_new) my_X8_init rfl ml_X10_63 im_X8_init rfl (by decide) (Nat.le_of_ble_eq_true rfl) (Nat.le_of_ble_eq_true rfl) rfl (Nat.le_of_ble_eq_true rfl) dX10_init_132 ?_
  intro rq128 Sq128 hpq128
  obtain ⟨rfl, q8_q128, hmq128⟩ := hpq128
  have i9 : aw_is Sq128 a 10 := is_made (made_is h) fq128 hmq128
  refine a_putRF K fd_X10_68 (v := some q128) i9 (Or.inl ⟨_, rfl⟩) rfl aw_clX10 dX10_init_135 ?_
  have h : made S _ a ((a, pO 10 [] [(650, some q128), (649, some q117), (648, some q111), (647, some q73), (646, some q61), (645, some q50), (643, some q39), (642, some q32), (641, some q16), (640, some q5)]) :: [(q5, pO 9 [] [(576, some q8_q5)]), (q8_q5, pA 13 240), (q16, pO 6 [] [(384, some q5)]), (q32, pA 17 4), (q39, pO 5 [] [(320, some q7_q39)]), (q7_q39, pA 13 64), (q50, pO 1 [(64, 4)] []), (q61, pO 3 [] [(197, some q54_q61), (196, some q45_q61), (195, some q36_q61), (194, some q27_q61), (193, some q18_q61), (192, some q8_q61)]), (q8_q61, pA 16 999), (q18_q61, pA 13 999), (q27_q61, pA 13 999), (q36_q61, pA 14 999), (q45_q61, pA 14 999), (q54_q61, pA 13 999), (q73, pQ 15 4 [(3, some q95_3), (2, some q95_2), (1, some q95_1), (0, some q95_0)]), (q95_0, pO 0 [] []), (q95_1, pO 0 [] []), (q95_2, pO 0 [] []), (q95_3, pO 0 [] []), (q111, pA 13 5), (q117, pO 8 [] [(512, some q8_q117)]), (q8_q117, pA 13 700), (q128, pO 8 [] [(512, some q8_q128)]), (q8_q128, pA 13 700)]) := made_obj (F := 650) h fq128 hmq128
  refine a_aload_n K dX10_init_138 rfl ?_
  refine a_new K (ci := 8) (N := 2) kl_X10_61 in_X8 ini_X8 rfl (by decide) rfl (Nat.le_of_ble_eq_true rfl) (Nat.le_of_ble_eq_true rfl) dX10_init_139 (fun q139 fq139 => ?_)
  refine a_dup K dX10_init_142 rfl ?_
  refine a_invI K (m_X8_init (a := q139) pO_new) my_X8_init rfl ml_X10_63 im_X8_init rfl (by decide) (Nat.le_of_ble_eq_true rfl) (Nat.le_of_ble_eq_true rfl) rfl (Nat.le_of_ble_eq_true rfl) dX10_init_143 ?_
  intro rq139 Sq139 hpq139
  obtain ⟨rfl, q8_q139, hmq139⟩ := hpq139
  have i9 : aw_is Sq139 a 10 := is_made (made_is h) fq139 hmq139
  refine a_putRF K fd_X10_71 (v := some q139) i9 (Or.inl ⟨_, rfl⟩) rfl aw_clX10 dX10_init_146 ?_
  have h : made S _ a ((a, pO 10 [] [(651, some q139), (650, some q128), (649, some q117), (648, some q111), (647, some q73), (646, some q61), (645, some q50), (643, some q39), (642, some q32), (641, some q16), (640, some q5)]) :: [(q5, pO 9 [] [(576, some q8_q5)]), (q8_q5, pA 13 240), (q16, pO 6 [] [(384, some q5)]), (q32, pA 17 4), (q39, pO 5 [] [(320, some q7_q39)]), (q7_q39, pA 13 64), (q50, pO 1 [(64, 4)] []), (q61, pO 3 [] [(197, some q54_q61), (196, some q45_q61), (195, some q36_q61), (194, some q27_q61), (193, some q18_q61), (192, some q8_q61)]), (q8_q61, pA 16 999), (q18_q61, pA 13 999), (q27_q61, pA 13 999), (q36_q61, pA 14 999), (q45_q61, pA 14 999), (q54_q61, pA 13 999), (q73, pQ 15 4 [(3, some q95_3), (2, some q95_2), (1, some q95_1), (0, some q95_0)]), (q95_0, pO 0 [] []), (q95_1, pO 0 [] []), (q95_2, pO 0 [] []), (q95_3, pO 0 [] []), (q111, pA 13 5), (q117, pO 8 [] [(512, some q8_q117)]), (q8_q117, pA 13 700), (q128, pO 8 [] [(512, some q8_q128)]), (q8_q128, pA 13 700), (q139, pO 8 [] [(512, some q8_q139)]), (q8_q139, pA 13 700)]) := made_obj (F := 651) h fq139 hmq139
  refine a_aload_n K dX10_init_149 rfl ?_
  refine a_new K (ci := 7) (N := 3) kl_X10_74 in_X7 ini_X7 rfl (by decide) rfl (Nat.le_of_ble_eq_true rfl) (Nat.le_of_ble_eq_true rfl) dX10_init_150 (fun q150 fq150 => ?_)
  refine a_dup K dX10_init_153 rfl ?_
  refine a_invI K (m_X7_init (a := q150) pO_new) my_X7_init rfl ml_X10_76 im_X7_init rfl (by decide) (Nat.le_of_ble_eq_true rfl) (Nat.le_of_ble_eq_true rfl) rfl (Nat.le_of_ble_eq_true rfl) dX10_init_154 ?_
  intro rq150 Sq150 hpq150
  obtain ⟨rfl, q7_q150, q15_q150, hmq150⟩ := hpq150
  have i9 : aw_is Sq150 a 10 := is_made (made_is h) fq150 hmq150
  refine a_putRF K fd_X10_77 (v := some q150) i9 (Or.inl ⟨_, rfl⟩) rfl aw_clX10 dX10_init_157 ?_
  have h : made S _ a ((a, pO 10 [] [(652, some q150), (651, some q139), (650, some q128), (649, some q117), (648, some q111), (647, some q73), (646, some q61), (645, some q50), (643, some q39), (642, some q32), (641, some q16), (640, some q5)]) :: [(q5, pO 9 [] [(576, some q8_q5)]), (q8_q5, pA 13 240), (q16, pO 6 [] [(384, some q5)]), (q32, pA 17 4), (q39, pO 5 [] [(320, some q7_q39)]), (q7_q39, pA 13 64), (q50, pO 1 [(64, 4)] []), (q61, pO 3 [] [(197, some q54_q61), (196, some q45_q61), (195, some q36_q61), (194, some q27_q61), (193, some q18_q61), (192, some q8_q61)]), (q8_q61, pA 16 999), (q18_q61, pA 13 999), (q27_q61, pA 13 999), (q36_q61, pA 14 999), (q45_q61, pA 14 999), (q54_q61, pA 13 999), (q73, pQ 15 4 [(3, some q95_3), (2, some q95_2), (1, some q95_1), (0, some q95_0)]), (q95_0, pO 0 [] []), (q95_1, pO 0 [] []), (q95_2, pO 0 [] []), (q95_3, pO 0 [] []), (q111, pA 13 5), (q117, pO 8 [] [(512, some q8_q117)]), (q8_q117, pA 13 700), (q128, pO 8 [] [(512, some q8_q128)]), (q8_q128, pA 13 700), (q139, pO 8 [] [(512, some q8_q139)]), (q8_q139, pA 13 700), (q150, pO 7 [] [(449, some q15_q150), (448, some q7_q150)]), (q7_q150, pA 13 60), (q15_q150, pA 13 60)]) := made_obj (F := 652) h fq150 hmq150
  refine a_aload_n K dX10_init_160 rfl ?_
  refine a_new K (ci := 7) (N := 3) kl_X10_74 in_X7 ini_X7 rfl (by decide) rfl (Nat.le_of_ble_eq_true rfl) (Nat.le_of_ble_eq_true rfl) dX10_init_161 (fun q161 fq161 => ?_)
  refine a_dup K dX10_init_164 rfl ?_
  refine a_invI K (m_X7_init (a := q161) pO_new) my_X7_init rfl ml_X10_76 im_X7_init rfl (by decide) (Nat.le_of_ble_eq_true rfl) (Nat.le_of_ble_eq_true rfl) rfl (Nat.le_of_ble_eq_true rfl) dX10_init_165 ?_
  intro rq161 Sq161 hpq161
  obtain ⟨rfl, q7_q161, q15_q161, hmq161⟩ := hpq161
  have i9 : aw_is Sq161 a 10 := is_made (made_is h) fq161 hmq161
  refine a_putRF K fd_X10_81 (v := some q161) i9 (Or.inl ⟨_, rfl⟩) rfl aw_clX10 dX10_init_168 ?_
  have h : made S _ a ((a, pO 10 [] [(653, some q161), (652, some q150), (651, some q139), (650, some q128), (649, some q117), (648, some q111), (647, some q73), (646, some q61), (645, some q50), (643, some q39), (642, some q32), (641, some q16), (640, some q5)]) :: [(q5, pO 9 [] [(576, some q8_q5)]), (q8_q5, pA 13 240), (q16, pO 6 [] [(384, some q5)]), (q32, pA 17 4), (q39, pO 5 [] [(320, some q7_q39)]), (q7_q39, pA 13 64), (q50, pO 1 [(64, 4)] []), (q61, pO 3 [] [(197, some q54_q61), (196, some q45_q61), (195, some q36_q61), (194, some q27_q61), (193, some q18_q61), (192, some q8_q61)]), (q8_q61, pA 16 999), (q18_q61, pA 13 999), (q27_q61, pA 13 999), (q36_q61, pA 14 999), (q45_q61, pA 14 999), (q54_q61, pA 13 999), (q73, pQ 15 4 [(3, some q95_3), (2, some q95_2), (1, some q95_1), (0, some q95_0)]), (q95_0, pO 0 [] []), (q95_1, pO 0 [] []), (q95_2, pO 0 [] []), (q95_3, pO 0 [] []), (q111, pA 13 5), (q117, pO 8 [] [(512, some q8_q117)]), (q8_q117, pA 13 700), (q128, pO 8 [] [(512, some q8_q128)]), (q8_q128, pA 13 700), (q139, pO 8 [] [(512, some q8_q139)]), (q8_q139, pA 13 700), (q150, pO 7 [] [(449, some q15_q150), (448, some q7_q150)]), (q7_q150, pA 13 60), (q15_q150, pA 13 60), (q161, pO 7 [] [(449, some q15_q161), (448, some q7_q161)]), (q7_q161, pA 13 60), (q15_q161, pA 13 60)]) := made_obj (F := 653) h fq161 hmq161
  refine a_aload_n K dX10_init_171 rfl ?_
  refine a_new K (ci := 7) (N := 3) kl_X10_74 in_X7 ini_X7 rfl (by decide) rfl (Nat.le_of_ble_eq_true rfl) (Nat.le_of_ble_eq_true rfl) dX10_init_172 (fun q172 fq172 => ?_)
  refine a_dup K dX10_init_175 rfl ?_
  refine a_invI K (m_X7_init (a := q172) pO_new) my_X7_init rfl ml_X10_76 im_X7_init rfl (by decide) (Nat.le_of_ble_eq_true rfl) (Nat.le_of_ble_eq_true rfl) rfl (Nat.le_of_ble_eq_true rfl) dX10_init_176 ?_
  intro rq172 Sq172 hpq172
  obtain ⟨rfl, q7_q172, q15_q172, hmq172⟩ := hpq172
  have i9 : aw_is Sq172 a 10 := is_made (made_is h) fq172 hmq172
  refine a_putRF K fd_X10_84 (v := some q172) i9 (Or.inl ⟨_, rfl⟩) rfl aw_clX10 dX10_init_179 ?_
  have h : made S _ a ((a, pO 10 [] [(654, some q172), (653, some q161), (652, some q150), (651, some q139), (650, some q128), (649, some q117), (648, some q111), (647, some q73), (646, some q61), (645, some q50), (643, some q39), (642, some q32), (641, some q16), (640, some q5)]) :: [(q5, pO 9 [] [(576, some q8_q5)]), (q8_q5, pA 13 240), (q16, pO 6 [] [(384, some q5)]), (q32, pA 17 4), (q39, pO 5 [] [(320, some q7_q39)]), (q7_q39, pA 13 64), (q50, pO 1 [(64, 4)] []), (q61, pO 3 [] [(197, some q54_q61), (196, some q45_q61), (195, some q36_q61), (194, some q27_q61), (193, some q18_q61), (192, some q8_q61)]), (q8_q61, pA 16 999), (q18_q61, pA 13 999), (q27_q61, pA 13 999), (q36_q61, pA 14 999), (q45_q61, pA 14 999), (q54_q61, pA 13 999), (q73, pQ 15 4 [(3, some q95_3), (2, some q95_2), (1, some q95_1), (0, some q95_0)]), (q95_0, pO 0 [] []), (q95_1, pO 0 [] []), (q95_2, pO 0 [] []), (q95_3, pO 0 [] []), (q111, pA 13 5), (q117, pO 8 [] [(512, some q8_q117)]), (q8_q117, pA 13 700), (q128, pO 8 [] [(512, some q8_q128)]), (q8_q128, pA 13 700), (q139, pO 8 [] [(512, some q8_q139)]), (q8_q139, pA 13 700), (q150, pO 7 [] [(449, some q15_q150), (448, some q7_q150)]), (q7_q150, pA 13 60), (q15_q150, pA 13 60), (q161, pO 7 [] [(449, some q15_q161), (448, some q7_q161)]), (q7_q161, pA 13 60), (q15_q161, pA 13 60), (q172, pO 7 [] [(449, some q15_q172), (448, some q7_q172)]), (q7_q172, pA 13 60), (q15_q172, pA 13 60)]) := made_obj (F := 654) h fq172 hmq172
  refine a_aload_n K dX10_init_182 rfl ?_
  refine a_new K (ci := 2) (N := 3) kl_X10_87 in_X2 ini_X2 rfl (by decide) rfl (Nat.le_of_ble_eq_true rfl) (Nat.le_of_ble_eq_true rfl) dX10_init_183 (fun q183 fq183 => ?_)
  refine a_dup K dX10_init_186 rfl ?_
  refine a_invI K (m_X2_init (a := q183) pO_new) my_X2_init rfl ml_X10_89 im_X2_init rfl (by decide) (Nat.le_of_ble_eq_true rfl) (Nat.le_of_ble_eq_true rfl) rfl (Nat.le_of_ble_eq_true rfl) dX10_init_187 ?_
  intro rq183 Sq183 hpq183
  obtain ⟨rfl, q7_q183, q16_q183, hmq183⟩ := hpq183
  have i9 : aw_is Sq183 a 10 := is_made (made_is h) fq183 hmq183
  refine a_putRF K fd_X10_90 (v := some q183) i9 (Or.inl ⟨_, rfl⟩) rfl aw_clX10 dX10_init_190 ?_
  have h : made S _ a ((a, pO 10 [] [(655, some q183), (654, some q172), (653, some q161), (652, some q150), (651, some q139), (650, some q128), (649, some q117), (648, some q111), (647, some q73), (646, some q61), (645, some q50), (643, some q39), (642, some q32), (641, some q16), (640, some q5)]) :: [(q5, pO 9 [] [(576, some q8_q5)]), (q8_q5, pA 13 240), (q16, pO 6 [] [(384, some q5)]), (q32, pA 17 4), (q39, pO 5 [] [(320, some q7_q39)]), (q7_q39, pA 13 64), (q50, pO 1 [(64, 4)] []), (q61, pO 3 [] [(197, some q54_q61), (196, some q45_q61), (195, some q36_q61), (194, some q27_q61), (193, some q18_q61), (192, some q8_q61)]), (q8_q61, pA 16 999), (q18_q61, pA 13 999), (q27_q61, pA 13 999), (q36_q61, pA 14 999), (q45_q61, pA 14 999), (q54_q61, pA 13 999), (q73, pQ 15 4 [(3, some q95_3), (2, some q95_2), (1, some q95_1), (0, some q95_0)]), (q95_0, pO 0 [] []), (q95_1, pO 0 [] []), (q95_2, pO 0 [] []), (q95_3, pO 0 [] []), (q111, pA 13 5), (q117, pO 8 [] [(512, some q8_q117)]), (q8_q117, pA 13 700), (q128, pO 8 [] [(512, some q8_q128)]), (q8_q128, pA 13 700), (q139, pO 8 [] [(512, some q8_q139)]), (q8_q139, pA 13 700), (q150, pO 7 [] [(449, some q15_q150), (448, some q7_q150)]), (q7_q150, pA 13 60), (q15_q150, pA 13 60), (q161, pO 7 [] [(449, some q15_q161), (448, some q7_q161)]), (q7_q161, pA 13 60), (q15_q161, pA 13 60), (q172, pO 7 [] [(449, some q15_q172), (448, some q7_q172)]), (q7_q172, pA 13 60), (q15_q172, pA 13 60), (q183, pO 2 [] [(129, some q16_q183), (128, some q7_q183)]), (q7_q183, pA 16 64), (q16_q183, pA 13 64)]) := made_obj (F := 655) h fq183 hmq183
  exact a_vret K E (Nat.le_of_ble_eq_true rfl) (Nat.le_of_ble_eq_true rfl) dX10_init_193 ⟨rfl, q5, q8_q5, q16, q32, q39, q7_q39, q50, q61, q8_q61, q18_q61, q27_q61, q36_q61, q45_q61, q54_q61, q73, q95_0, q95_1, q95_2, q95_3, q111, q117, q8_q117, q128, q8_q128, q139, q8_q139, q150, q7_q150, q15_q150, q161, q7_q161, q15_q161, q172, q7_q172, q15_q172, q183, q7_q183, q16_q183, h⟩
