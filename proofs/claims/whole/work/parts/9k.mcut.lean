/-! the model: keys taken out one behind the other -/
def tkL (w t : Nat) : List Int32 → Tz × Nat → Tz × Nat
  | [], s => s
  | k :: l, s => tkL w t l (takT w t s.2 k s.1)
theorem tkL_at {w t : Nat} {l : List Int32} {i : Nat} (hi : i < l.length) (s : Tz × Nat) : tkL w t (l.drop i) s = tkL w t (l.drop (i + 1)) (takT w t s.2 l[i] s.1) := by rw [List.drop_eq_getElem_cons hi, tkL]
def inB (a b : Int32) (bt : Bool) (x : KV) : Bool := decide (a.toInt ≤ x.1.toInt ∧ x.1.toInt ≤ b.toInt) == bt
def selK (p : KV → Bool) (E : List KV) : List Int32 := (E.filter p).map Prod.fst
theorem cutE_tk {w t : Nat} {a b : Int32} : ∀ (E : List KV) (s : Tz × Nat), cutE w t a b E s = tkL w t (selK (inB a b true) E) s
  | [], _ => rfl
  | x :: l, s => by
    rw [cutE]
    by_cases c : x.1 < a ∨ b < x.1
    · have e : inB a b true x = false := by
        unfold inB
        have h9 : ¬ (a.toInt ≤ x.1.toInt ∧ x.1.toInt ≤ b.toInt) := fun z => c.elim (fun y => by have := i32_lt.mp y; omega) (fun y => by have := i32_lt.mp y; omega)
        rw [decide_eq_false h9]; rfl
      rw [if_pos c, cutE_tk l s]
      unfold selK
      rw [List.filter_cons_of_neg (by rw [e]; decide)]
    · have e : inB a b true x = true := by
        unfold inB
        have h9 : a.toInt ≤ x.1.toInt ∧ x.1.toInt ≤ b.toInt := ⟨Int.not_lt.mp (fun z => c (Or.inl (i32_lt.mpr z))), Int.not_lt.mp (fun z => c (Or.inr (i32_lt.mpr z)))⟩
        rw [decide_eq_true h9]; rfl
      rw [if_neg c, cutE_tk l _]
      unfold selK
      rw [List.filter_cons_of_pos e]
      rfl
theorem sliE_tk {w t : Nat} {a b : Int32} : ∀ (E : List KV) (s : Tz × Nat), sliE w t a b E s = tkL w t (selK (inB a b false) E) s
  | [], _ => rfl
  | x :: l, s => by
    rw [sliE]
    by_cases c : x.1 < a ∨ ¬ x.1 ≤ b
    · have e : inB a b false x = true := by
        unfold inB
        have h9 : ¬ (a.toInt ≤ x.1.toInt ∧ x.1.toInt ≤ b.toInt) := fun z => c.elim (fun y => by have := i32_lt.mp y; omega) (fun y => y (i32_le.mpr z.2))
        rw [decide_eq_false h9]; rfl
      rw [if_pos c, sliE_tk l _]
      unfold selK
      rw [List.filter_cons_of_pos e]
      rfl
    · have e : inB a b false x = false := by
        unfold inB
        have h9 : a.toInt ≤ x.1.toInt ∧ x.1.toInt ≤ b.toInt := ⟨Int.not_lt.mp (fun z => c (Or.inl (i32_lt.mpr z))), i32_le.mp (Classical.not_not.mp (fun z => c (Or.inr z)))⟩
        rw [decide_eq_true h9]; rfl
      rw [if_neg c, sliE_tk l s]
      unfold selK
      rw [List.filter_cons_of_neg (by rw [e]; decide)]
theorem selK_y {p : KV → Bool} {E : List KV} {i : Nat} {x : KV} (hx : E[i]? = some x) (h : p x = true) : selK p (E.take (i + 1)) = selK p (E.take i) ++ [x.1] := by
  unfold selK
  rw [take_i hx, List.filter_append, List.map_append, List.filter_cons_of_pos h]
  rfl
theorem selK_n {p : KV → Bool} {E : List KV} {i : Nat} {x : KV} (hx : E[i]? = some x) (h : ¬ p x = true) : selK p (E.take (i + 1)) = selK p (E.take i) := by
  unfold selK
  rw [take_i hx, List.filter_append, List.filter_cons_of_neg h, List.filter_nil, List.append_nil]
theorem selK_len {p : KV → Bool} (E : List KV) : (selK p E).length ≤ E.length := by
  unfold selK
  rw [List.length_map]
  exact List.length_filter_le _ _
theorem tkL_stp {w tk t : Nat} (hw : 3 ≤ w) (ht : t < tk) : ∀ (l : List Int32) (s : Tz × Nat), tok w s.2 tk s.1 → stp w tk t s (tkL w t l s)
  | [], s, h => stp.rf h
  | k :: l, s, h => by
    have h1 := stp_take (k := k) hw h ht
    exact h1.tr (tkL_stp hw ht l _ h1.1)
abbrev ksC : List Nat := [13, 14, 15, 16, 28]
set_option maxHeartbeats 4000000 in
set_option maxRecDepth 100000 in
theorem q_cuts {S : aw_S} {m ρ : Nat → Nat} (hM : LM S m) {u tk w : Nat} {Z : List Nat × Nat} {z : Tz} {Q : Nat → Prop} {a b : Int32} {bt : Bool} {tk9 : Nat} (hw : sI S 723 (m 33) = nI w) (hw3 : 3 ≤ w) (hw6 : w ≤ 6) (rp : RepM S m ρ z.1 z.2) (tz : tok w u tk9 z) (hF : FrM S m Z.1 Z.2) (nd : Z.1.Nodup) (al : AL ρ u Z Q) (hQ : ∀ x ∈ ndl z.1 z.2, Q x.1) (htk : tk < tk9) (htk9 : tk9 < 2147480000) (hrm : 100 ≤ rmM Z) : aw_M yX11_cuts cX11_cuts 8 (some FieldType.int) 8 0 0 [.ref (m 33), .int (nI (ρ z.2.1)), .int a, .int b, .int (if bt = true then 1 else 0), .int (nI (tk + 1))] S (fun q S2 => ∃ ρ2 Z2 S1, q = some (.int (nI (ρ2 (tkL w tk (selK (inB a b bt) (ent z.1 z.2)) (z, u)).1.2.1))) ∧ frM S S1 m ksC [734, 735] ∧ TS S1 S2 m ρ ρ2 u (tkL w tk (selK (inB a b bt) (ent z.1 z.2)) (z, u)).2 Z Z2 tk (ndl z.1 z.2) (tkL w tk (selK (inB a b bt) (ent z.1 z.2)) (z, u)).1) := by
  obtain ⟨R, hRR⟩ : ∃ R, (tkL w tk (selK (inB a b bt) (ent z.1 z.2)) (z, u)) = R := ⟨_, rfl⟩
  obtain ⟨b4, hb4⟩ : ∃ b4, (if bt = true then (1 : Int32) else 0) = b4 := ⟨_, rfl⟩
  rw [hb4]
  have h4 := tz.h4 hw3
  have e60 := tz.2.2.1
  refine aw_enter (by decide +kernel) (Nat.le_of_ble_eq_true rfl) (fun g K EE => ?_)
  first | refine a_aload_n K dX11_cuts_0 rfl ?_ | refine a_aload_nN K dX11_cuts_0 rfl ?_
  refine a_iload_n K dX11_cuts_1 rfl ?_
  refine a_invV K (m_laysTree hM rp (by omega) (by omega) (by omega)) my_X11_laysTree ml_X11_252 im_X11_laysTree se_X11_laysTree (ci := 11) (by exact lm_o hM) (by decide) ⟨_, _, rfl⟩ rfl (by omega) (by omega) (by omega) rfl (Nat.le_of_ble_eq_true rfl) dX11_cuts_2 ?_
  intro r9 T hp9
  obtain ⟨rfl, hLy, f9⟩ := hp9
  have hM0 := hM
  have hM := f9.lay hM0
  refine a_iconst K dX11_cuts_5 (v := 0) (by decide) ?_
  refine a_istore K dX11_cuts_6 (by decide) ?_
  refine a_iconst K dX11_cuts_8 (v := 0) (by decide) ?_
  refine a_istore K dX11_cuts_9 (by decide) ?_
  have hM1 := hM0
  have hMT := hM
  have loop1 : ∀ (n i : Nat) (x c : Int32) (V : aw_S), x = nI i → c = nI (selK (inB a b bt) ((ent z.1 z.2).take i)).length → i + n = (ent z.1 z.2).length → LM V m → frM T V m [28] [] → (∀ k y, (selK (inB a b bt) ((ent z.1 z.2).take i))[k]? = some y → sA V (m 28) k = y) → aw g 8 V 0 0 [(7, .int x), (6, .int c), (5, .int (nI (tk + 1))), (4, .int b4), (3, .int b), (2, .int a), (1, .int (nI (ρ z.2.1))), (0, .ref (m 33))] [] 11 := by
    intro n
    induction n with
    | zero =>
      intro i x c V hx hc hn hM f2 hrow
      subst hx
      subst hc
      refine a_iload K dX11_cuts_11 rfl ?_
      first | refine a_aload_n K dX11_cuts_13 rfl ?_ | refine a_aload_nN K dX11_cuts_13 rfl ?_
      refine a_getI K fd_X11_249 (by exact lm_o hM) (Or.inl rfl) dX11_cuts_14 ?_
      rw [show sI V 734 (m 33) = nI (ent z.1 z.2).length from (f2.2 734 (by decide)).trans hLy.1]
      refine a_icmp_ge K dX11_cuts_17 (tgt := 66) (by decide) (fun c_17 => ?_) (fun c_17 => absurd c_17 (fun q => q (nI_le (a := (ent z.1 z.2).length) (b := i) (by omega) (by omega))))
      refine a_iconst K dX11_cuts_66 (v := 0) (by decide) ?_
      refine a_istore K dX11_cuts_67 (by decide) ?_
      rw [show i = (ent z.1 z.2).length by omega, List.take_length] at hrow
      have hce : (selK (inB a b bt) ((ent z.1 z.2).take i)).length = (selK (inB a b bt) (ent z.1 z.2)).length := by rw [show i = (ent z.1 z.2).length by omega, List.take_length]
      have hl60 := selK_len (p := inB a b bt) (ent z.1 z.2)
      have hMV := hM
      have fV : frM S V m ksC [734, 735] := (f9.up (by decide) (by decide)).tr (f2.up (by decide) (by decide))
      have hwV : sI V 723 (m 33) = nI w := (fV.2 723 (by decide)).trans hw
      have ht9 : ∀ x ∈ ndl z.1 z.2, x.2 < 2147483000 := fun x hx => by have h1 := tz.2.2.2.2 x hx; omega
      have ts0 : TS V V m ρ ρ u u Z Z tk (ndl z.1 z.2) z := TS.rf (hF.fr hM1 fV (by decide) (by decide) (by decide) (by decide)) nd (fV.rep hM1 (by decide) (by decide) (by decide) (by decide) (by decide) (by decide) rp)
      rw [hce]
      have loop2 : ∀ (n i : Nat) (x : Int32) (s : Tz × Nat) (W : aw_S) (ρ2 : Nat → Nat) (Z2 : List Nat × Nat), x = nI i → i + n = (selK (inB a b bt) (ent z.1 z.2)).length → TS V W m ρ ρ2 u s.2 Z Z2 tk (ndl z.1 z.2) s.1 → stp w tk9 tk (z, u) s → tkL w tk ((selK (inB a b bt) (ent z.1 z.2)).drop i) s = R → aw g 8 W 0 0 [(7, .int x), (6, .int (nI (selK (inB a b bt) (ent z.1 z.2)).length)), (5, .int (nI (tk + 1))), (1, .int (nI (ρ2 s.1.2.1))), (0, .ref (m 33))] [] 69 := by
        intro n
        induction n with
        | zero =>
          intro i x s W ρ2 Z2 hx hn ts sp hR
          subst hx
          have hM := ts.1.lay hMV
          have hle := sp.le hw3 tz
          have hle : s.2 ≤ u + 61 := hle
          have hgF := ts.1.F
          refine a_iload K dX11_cuts_69 rfl ?_
          refine a_iload K dX11_cuts_71 rfl ?_
          refine a_icmp_ge K dX11_cuts_73 (tgt := 97) (by decide) (fun c_73 => ?_) (fun c_73 => absurd c_73 (fun q => q (nI_le (by omega) (by omega))))
          refine a_iload_n K dX11_cuts_97 rfl ?_
          exact a_iret K EE rfl (by omega) (by omega) dX11_cuts_98 ⟨ρ2, Z2, V, by rw [show i = (selK (inB a b bt) (ent z.1 z.2)).length by omega, List.drop_length] at hR; rw [hRR, ← hR]; rfl, fV, by rw [show i = (selK (inB a b bt) (ent z.1 z.2)).length by omega, List.drop_length] at hR; rw [hRR, ← hR]; exact ts⟩
        | succ n ih =>
          intro i x s W ρ2 Z2 hx hn ts sp hR
          subst hx
          have hi : i < (selK (inB a b bt) (ent z.1 z.2)).length := by omega
          have hM := ts.1.lay hMV
          have hle := sp.le hw3 tz
          have hle : s.2 ≤ u + 61 := hle
          have hgF := ts.1.F
          refine a_iload K dX11_cuts_69 rfl ?_
          refine a_iload K dX11_cuts_71 rfl ?_
          refine a_icmp_ge K dX11_cuts_73 (tgt := 97) (by decide) (fun c_73 => absurd c_73 (nI_ge (by omega) (by omega))) (fun c_73 => ?_)
          first | refine a_aload_n K dX11_cuts_76 rfl ?_ | refine a_aload_nN K dX11_cuts_76 rfl ?_
          refine a_iload_n K dX11_cuts_77 rfl ?_
          first | refine a_aload_n K dX11_cuts_78 rfl ?_ | refine a_aload_nN K dX11_cuts_78 rfl ?_
          refine a_getRs K fd_X11_101 (by exact lm_o hM) (Or.inr ⟨_, rfl⟩) (by exact lm_r751 hM) dX11_cuts_79 ?_
          refine a_iload K dX11_cuts_82 rfl ?_
          refine a_iald K (by exact lm_kk hM (by decide) (by decide)) (by show vp_in _ (sN W (m 28)); exact lm_ix (z := 60) hM (by decide) (by decide) (show i < 60 by omega) (by decide)) dX11_cuts_84 ?_
          rw [nI_clamp (by omega)]
          rw [show sA W (m 28) i = (selK (inB a b bt) (ent z.1 z.2))[i] from (congrFun (ts.1.2.2.2.2.2.2.2.2.2.1.A hMV (by decide) (by decide) (by decide)) i).trans (hrow i _ (List.getElem?_eq_getElem hi))]
          refine a_iload K dX11_cuts_85 rfl ?_
          refine a_invV K (ts.take hMV al hQ ht9 (by omega) hwV hw3 hw6 sp.1.1 sp.1.2.2.2.1 (by have h8 := (sp.1.h4 hw3).1; omega) (by have h8 := (sp.1.h4 hw3).1; omega)) my_X11_takes ml_X11_339 im_X11_takes se_X11_takes (ci := 11) (by exact lm_o hM) (by decide) ⟨_, _, rfl⟩ rfl (by omega) (by omega) (by omega) rfl (Nat.le_of_ble_eq_true rfl) dX11_cuts_87 ?_
          intro r9 W2 hp9
          obtain ⟨ρ3, Z3, rfl, ts3⟩ := hp9
          refine a_istore_n K dX11_cuts_90 (by decide) ?_
          refine a_iinc K dX11_cuts_91 (v := 1) rfl (by decide) (by decide) ?_
          refine a_goto K dX11_cuts_94 (tgt := 69) (by decide) ?_
          exact aw_locl rfl (ih (i + 1) _ (takT w tk s.2 (selK (inB a b bt) (ent z.1 z.2))[i] s.1) W2 ρ3 Z3 (nI_1 i) (by omega) ts3 (sp.tr (stp_take hw3 sp.1 htk)) (by rw [tkL_at hi] at hR; exact hR))
      exact aw_locl rfl (loop2 (selK (inB a b bt) (ent z.1 z.2)).length 0 _ (z, u) V ρ Z nI_0.symm (Nat.zero_add _) ts0 (stp.rf tz) hRR)
    | succ n ih =>
      intro i x c V hx hc hn hM f2 hrow
      subst hx
      subst hc
      have hi : i < (ent z.1 z.2).length := by omega
      have hx := List.getElem?_eq_getElem hi
      have e13 : sA V (m 13) = sA T (m 13) := f2.A hMT (by decide) (by decide) (by decide)
      have hsl : (selK (inB a b bt) ((ent z.1 z.2).take i)).length ≤ i := Nat.le_trans (selK_len _) (by rw [List.length_take]; omega)
      by_cases hc : a.toInt ≤ (ent z.1 z.2)[i].1.toInt ∧ (ent z.1 z.2)[i].1.toInt ≤ b.toInt
      · rcases Bool.eq_false_or_eq_true bt with hbt | hbt
        · have hpx : inB a b bt (ent z.1 z.2)[i] = true := by unfold inB; rw [decide_eq_true hc, hbt]; decide
          refine a_iload K dX11_cuts_11 rfl ?_
          first | refine a_aload_n K dX11_cuts_13 rfl ?_ | refine a_aload_nN K dX11_cuts_13 rfl ?_
          refine a_getI K fd_X11_249 (by exact lm_o hM) (Or.inl rfl) dX11_cuts_14 ?_
          rw [show sI V 734 (m 33) = nI (ent z.1 z.2).length from (f2.2 734 (by decide)).trans hLy.1]
          refine a_icmp_ge K dX11_cuts_17 (tgt := 66) (by decide) (fun c_17 => absurd c_17 (nI_ge (a := i) (b := (ent z.1 z.2).length) (by omega) (by omega))) (fun c_17 => ?_)
          first | refine a_aload_n K dX11_cuts_20 rfl ?_ | refine a_aload_nN K dX11_cuts_20 rfl ?_
          refine a_getRs K fd_X11_55 (by exact lm_o hM) (Or.inr ⟨_, rfl⟩) (by exact lm_r730 hM) dX11_cuts_21 ?_
          refine a_iload K dX11_cuts_24 rfl ?_
          refine a_iald K (by exact lm_kk hM (by decide) (by decide)) (by show vp_in _ (sN V (m 13)); exact lm_ix (z := 140) hM (by decide) (by decide) (show i < 140 by omega) (by decide)) dX11_cuts_26 ?_
          rw [nI_clamp (by omega)]
          rw [e13]
          rw [(hLy.2.2.1 i _ hx).1]
          refine a_i2l K dX11_cuts_27 ?_
          refine a_iload_n K dX11_cuts_28 rfl ?_
          refine a_i2l K dX11_cuts_29 ?_
          refine a_iload_n K dX11_cuts_30 rfl ?_
          refine a_i2l K dX11_cuts_31 ?_
          refine a_invS K (q_inY (p := a.toInt) (q := b.toInt) (Int32.toInt_toInt64 _) (Int32.toInt_toInt64 _) hc) my_X11_isIn ml_X11_174 st_X11_isIn rfl (by omega) (by omega) (by omega) rfl (Nat.le_of_ble_eq_true rfl) dX11_cuts_32 ?_
          intro r8 S8 hp8
          obtain ⟨rfl, hS8⟩ := hp8
          obtain rfl := hS8.symm
          refine a_iload K dX11_cuts_35 rfl ?_
          refine a_icmp_eq K dX11_cuts_37 (tgt := 43) (by decide) (fun c_37 => ?_) (fun c_37 => absurd c_37 (by rw [(show b4 = 1 from by rw [← hb4, hbt]; rfl)]; exact fun q => q rfl))
          first | refine a_aload_n K dX11_cuts_43 rfl ?_ | refine a_aload_nN K dX11_cuts_43 rfl ?_
          refine a_getRs K fd_X11_101 (by exact lm_o hM) (Or.inr ⟨_, rfl⟩) (by exact lm_r751 hM) dX11_cuts_44 ?_
          refine a_iload K dX11_cuts_47 rfl ?_
          first | refine a_aload_n K dX11_cuts_49 rfl ?_ | refine a_aload_nN K dX11_cuts_49 rfl ?_
          refine a_getRs K fd_X11_55 (by exact lm_o hM) (Or.inr ⟨_, rfl⟩) (by exact lm_r730 hM) dX11_cuts_50 ?_
          refine a_iload K dX11_cuts_53 rfl ?_
          refine a_iald K (by exact lm_kk hM (by decide) (by decide)) (by show vp_in _ (sN V (m 13)); exact lm_ix (z := 140) hM (by decide) (by decide) (show i < 140 by omega) (by decide)) dX11_cuts_55 ?_
          rw [nI_clamp (by omega)]
          rw [e13]
          rw [(hLy.2.2.1 i _ hx).1]
          refine a_iast K (by exact lm_kk hM (by decide) (by decide)) (by show vp_in _ (sN V (m 28)); exact lm_ix (z := 60) hM (by decide) (by decide) (show (selK (inB a b bt) ((ent z.1 z.2).take i)).length < 60 by omega) (by decide)) dX11_cuts_56 ?_
          rw [nI_clamp (by omega)]
          refine a_iinc K dX11_cuts_57 (v := 1) rfl (by decide) (by decide) ?_
          refine a_iinc K dX11_cuts_60 (v := 1) rfl (by decide) (by decide) ?_
          refine a_goto K dX11_cuts_63 (tgt := 11) (by decide) ?_
          have f3 : frM V (wA V (m 28) (selK (inB a b bt) ((ent z.1 z.2).take i)).length (ent z.1 z.2)[i].1) m [28] [] := frM_wA (by decide)
          exact aw_locl rfl (ih (i + 1) _ _ _ (nI_1 i) (by rw [selK_y hx hpx, List.length_append, List.length_singleton]; exact nI_1 _) (by omega) (f3.lay hM) (f2.tr f3) (fun k y hy => by
            rw [selK_y hx hpx] at hy
            rw [sA_wA]
            rcases get_app1 hy with ⟨h1, h2⟩ | ⟨h1, h2⟩
            · rw [if_neg (fun q => absurd q.2 (by omega))]
              exact hrow k y h2
            · rw [if_pos ⟨rfl, h1⟩, h2]))
        · have hpx : ¬ inB a b bt (ent z.1 z.2)[i] = true := by unfold inB; rw [decide_eq_true hc, hbt]; decide
          refine a_iload K dX11_cuts_11 rfl ?_
          first | refine a_aload_n K dX11_cuts_13 rfl ?_ | refine a_aload_nN K dX11_cuts_13 rfl ?_
          refine a_getI K fd_X11_249 (by exact lm_o hM) (Or.inl rfl) dX11_cuts_14 ?_
          rw [show sI V 734 (m 33) = nI (ent z.1 z.2).length from (f2.2 734 (by decide)).trans hLy.1]
          refine a_icmp_ge K dX11_cuts_17 (tgt := 66) (by decide) (fun c_17 => absurd c_17 (nI_ge (a := i) (b := (ent z.1 z.2).length) (by omega) (by omega))) (fun c_17 => ?_)
          first | refine a_aload_n K dX11_cuts_20 rfl ?_ | refine a_aload_nN K dX11_cuts_20 rfl ?_
          refine a_getRs K fd_X11_55 (by exact lm_o hM) (Or.inr ⟨_, rfl⟩) (by exact lm_r730 hM) dX11_cuts_21 ?_
          refine a_iload K dX11_cuts_24 rfl ?_
          refine a_iald K (by exact lm_kk hM (by decide) (by decide)) (by show vp_in _ (sN V (m 13)); exact lm_ix (z := 140) hM (by decide) (by decide) (show i < 140 by omega) (by decide)) dX11_cuts_26 ?_
          rw [nI_clamp (by omega)]
          rw [e13]
          rw [(hLy.2.2.1 i _ hx).1]
          refine a_i2l K dX11_cuts_27 ?_
          refine a_iload_n K dX11_cuts_28 rfl ?_
          refine a_i2l K dX11_cuts_29 ?_
          refine a_iload_n K dX11_cuts_30 rfl ?_
          refine a_i2l K dX11_cuts_31 ?_
          refine a_invS K (q_inY (p := a.toInt) (q := b.toInt) (Int32.toInt_toInt64 _) (Int32.toInt_toInt64 _) hc) my_X11_isIn ml_X11_174 st_X11_isIn rfl (by omega) (by omega) (by omega) rfl (Nat.le_of_ble_eq_true rfl) dX11_cuts_32 ?_
          intro r8 S8 hp8
          obtain ⟨rfl, hS8⟩ := hp8
          obtain rfl := hS8.symm
          refine a_iload K dX11_cuts_35 rfl ?_
          refine a_icmp_eq K dX11_cuts_37 (tgt := 43) (by decide) (fun c_37 => absurd c_37 (by rw [(show b4 = 0 from by rw [← hb4, hbt]; rfl)]; decide)) (fun c_37 => ?_)
          refine a_goto K dX11_cuts_40 (tgt := 60) (by decide) ?_
          refine a_iinc K dX11_cuts_60 (v := 1) rfl (by decide) (by decide) ?_
          refine a_goto K dX11_cuts_63 (tgt := 11) (by decide) ?_
          exact aw_locl rfl (ih (i + 1) _ _ V (nI_1 i) (by rw [selK_n hx hpx]) (by omega) hM f2 (by rw [selK_n hx hpx]; exact hrow))
      · rcases Bool.eq_false_or_eq_true bt with hbt | hbt
        · have hpx : ¬ inB a b bt (ent z.1 z.2)[i] = true := by unfold inB; rw [decide_eq_false hc, hbt]; decide
          refine a_iload K dX11_cuts_11 rfl ?_
          first | refine a_aload_n K dX11_cuts_13 rfl ?_ | refine a_aload_nN K dX11_cuts_13 rfl ?_
          refine a_getI K fd_X11_249 (by exact lm_o hM) (Or.inl rfl) dX11_cuts_14 ?_
          rw [show sI V 734 (m 33) = nI (ent z.1 z.2).length from (f2.2 734 (by decide)).trans hLy.1]
          refine a_icmp_ge K dX11_cuts_17 (tgt := 66) (by decide) (fun c_17 => absurd c_17 (nI_ge (a := i) (b := (ent z.1 z.2).length) (by omega) (by omega))) (fun c_17 => ?_)
          first | refine a_aload_n K dX11_cuts_20 rfl ?_ | refine a_aload_nN K dX11_cuts_20 rfl ?_
          refine a_getRs K fd_X11_55 (by exact lm_o hM) (Or.inr ⟨_, rfl⟩) (by exact lm_r730 hM) dX11_cuts_21 ?_
          refine a_iload K dX11_cuts_24 rfl ?_
          refine a_iald K (by exact lm_kk hM (by decide) (by decide)) (by show vp_in _ (sN V (m 13)); exact lm_ix (z := 140) hM (by decide) (by decide) (show i < 140 by omega) (by decide)) dX11_cuts_26 ?_
          rw [nI_clamp (by omega)]
          rw [e13]
          rw [(hLy.2.2.1 i _ hx).1]
          refine a_i2l K dX11_cuts_27 ?_
          refine a_iload_n K dX11_cuts_28 rfl ?_
          refine a_i2l K dX11_cuts_29 ?_
          refine a_iload_n K dX11_cuts_30 rfl ?_
          refine a_i2l K dX11_cuts_31 ?_
          refine a_invS K (q_inN (p := a.toInt) (q := b.toInt) (Int32.toInt_toInt64 _) (Int32.toInt_toInt64 _) hc) my_X11_isIn ml_X11_174 st_X11_isIn rfl (by omega) (by omega) (by omega) rfl (Nat.le_of_ble_eq_true rfl) dX11_cuts_32 ?_
          intro r8 S8 hp8
          obtain ⟨rfl, hS8⟩ := hp8
          obtain rfl := hS8.symm
          refine a_iload K dX11_cuts_35 rfl ?_
          refine a_icmp_eq K dX11_cuts_37 (tgt := 43) (by decide) (fun c_37 => absurd c_37 (by rw [(show b4 = 1 from by rw [← hb4, hbt]; rfl)]; decide)) (fun c_37 => ?_)
          refine a_goto K dX11_cuts_40 (tgt := 60) (by decide) ?_
          refine a_iinc K dX11_cuts_60 (v := 1) rfl (by decide) (by decide) ?_
          refine a_goto K dX11_cuts_63 (tgt := 11) (by decide) ?_
          exact aw_locl rfl (ih (i + 1) _ _ V (nI_1 i) (by rw [selK_n hx hpx]) (by omega) hM f2 (by rw [selK_n hx hpx]; exact hrow))
        · have hpx : inB a b bt (ent z.1 z.2)[i] = true := by unfold inB; rw [decide_eq_false hc, hbt]; decide
          refine a_iload K dX11_cuts_11 rfl ?_
          first | refine a_aload_n K dX11_cuts_13 rfl ?_ | refine a_aload_nN K dX11_cuts_13 rfl ?_
          refine a_getI K fd_X11_249 (by exact lm_o hM) (Or.inl rfl) dX11_cuts_14 ?_
          rw [show sI V 734 (m 33) = nI (ent z.1 z.2).length from (f2.2 734 (by decide)).trans hLy.1]
          refine a_icmp_ge K dX11_cuts_17 (tgt := 66) (by decide) (fun c_17 => absurd c_17 (nI_ge (a := i) (b := (ent z.1 z.2).length) (by omega) (by omega))) (fun c_17 => ?_)
          first | refine a_aload_n K dX11_cuts_20 rfl ?_ | refine a_aload_nN K dX11_cuts_20 rfl ?_
          refine a_getRs K fd_X11_55 (by exact lm_o hM) (Or.inr ⟨_, rfl⟩) (by exact lm_r730 hM) dX11_cuts_21 ?_
          refine a_iload K dX11_cuts_24 rfl ?_
          refine a_iald K (by exact lm_kk hM (by decide) (by decide)) (by show vp_in _ (sN V (m 13)); exact lm_ix (z := 140) hM (by decide) (by decide) (show i < 140 by omega) (by decide)) dX11_cuts_26 ?_
          rw [nI_clamp (by omega)]
          rw [e13]
          rw [(hLy.2.2.1 i _ hx).1]
          refine a_i2l K dX11_cuts_27 ?_
          refine a_iload_n K dX11_cuts_28 rfl ?_
          refine a_i2l K dX11_cuts_29 ?_
          refine a_iload_n K dX11_cuts_30 rfl ?_
          refine a_i2l K dX11_cuts_31 ?_
          refine a_invS K (q_inN (p := a.toInt) (q := b.toInt) (Int32.toInt_toInt64 _) (Int32.toInt_toInt64 _) hc) my_X11_isIn ml_X11_174 st_X11_isIn rfl (by omega) (by omega) (by omega) rfl (Nat.le_of_ble_eq_true rfl) dX11_cuts_32 ?_
          intro r8 S8 hp8
          obtain ⟨rfl, hS8⟩ := hp8
          obtain rfl := hS8.symm
          refine a_iload K dX11_cuts_35 rfl ?_
          refine a_icmp_eq K dX11_cuts_37 (tgt := 43) (by decide) (fun c_37 => ?_) (fun c_37 => absurd c_37 (by rw [(show b4 = 0 from by rw [← hb4, hbt]; rfl)]; exact fun q => q rfl))
          first | refine a_aload_n K dX11_cuts_43 rfl ?_ | refine a_aload_nN K dX11_cuts_43 rfl ?_
          refine a_getRs K fd_X11_101 (by exact lm_o hM) (Or.inr ⟨_, rfl⟩) (by exact lm_r751 hM) dX11_cuts_44 ?_
          refine a_iload K dX11_cuts_47 rfl ?_
          first | refine a_aload_n K dX11_cuts_49 rfl ?_ | refine a_aload_nN K dX11_cuts_49 rfl ?_
          refine a_getRs K fd_X11_55 (by exact lm_o hM) (Or.inr ⟨_, rfl⟩) (by exact lm_r730 hM) dX11_cuts_50 ?_
          refine a_iload K dX11_cuts_53 rfl ?_
          refine a_iald K (by exact lm_kk hM (by decide) (by decide)) (by show vp_in _ (sN V (m 13)); exact lm_ix (z := 140) hM (by decide) (by decide) (show i < 140 by omega) (by decide)) dX11_cuts_55 ?_
          rw [nI_clamp (by omega)]
          rw [e13]
          rw [(hLy.2.2.1 i _ hx).1]
          refine a_iast K (by exact lm_kk hM (by decide) (by decide)) (by show vp_in _ (sN V (m 28)); exact lm_ix (z := 60) hM (by decide) (by decide) (show (selK (inB a b bt) ((ent z.1 z.2).take i)).length < 60 by omega) (by decide)) dX11_cuts_56 ?_
          rw [nI_clamp (by omega)]
          refine a_iinc K dX11_cuts_57 (v := 1) rfl (by decide) (by decide) ?_
          refine a_iinc K dX11_cuts_60 (v := 1) rfl (by decide) (by decide) ?_
          refine a_goto K dX11_cuts_63 (tgt := 11) (by decide) ?_
          have f3 : frM V (wA V (m 28) (selK (inB a b bt) ((ent z.1 z.2).take i)).length (ent z.1 z.2)[i].1) m [28] [] := frM_wA (by decide)
          exact aw_locl rfl (ih (i + 1) _ _ _ (nI_1 i) (by rw [selK_y hx hpx, List.length_append, List.length_singleton]; exact nI_1 _) (by omega) (f3.lay hM) (f2.tr f3) (fun k y hy => by
            rw [selK_y hx hpx] at hy
            rw [sA_wA]
            rcases get_app1 hy with ⟨h1, h2⟩ | ⟨h1, h2⟩
            · rw [if_neg (fun q => absurd q.2 (by omega))]
              exact hrow k y h2
            · rw [if_pos ⟨rfl, h1⟩, h2]))
  exact aw_locl rfl (loop1 (ent z.1 z.2).length 0 _ _ T nI_0.symm (by rw [List.take_zero]; rfl) (Nat.zero_add _) hM frM.rf (fun k y hy => absurd hy (by simp [selK])))
theorem PJ.inc {n : Nat} {P : PS} (h : PJ n P) (hn : n + 1 < 1000000000) : PI (incT P) := by
  have hP := h.1
  refine ⟨hP.1, fun x hx => (hP.2.1 x hx).mono (Nat.le_refl _) (Nat.le_succ _), fun j b hb => ?_, ?_⟩
  · obtain ⟨h1, h2, h3, h4⟩ := hP.2.2.1 j b hb
    exact ⟨h1, h2.mono (Nat.le_refl _) (Nat.le_succ _), Nat.lt_succ_of_lt h3, h4⟩
  · have h9 := h.2.2.2.2.2.2
    show pTk P + 1 < 1000000000
    omega
set_option maxHeartbeats 4000000 in
set_option maxRecDepth 100000 in
theorem q_slice {S : aw_S} {m ρ : Nat → Nat} {Z : List Nat × Nat} {mb n9 : Nat} {P : PS} (h0 : RM S m ρ Z mb P) (hJ : PJ n9 P) (hmb : mb + 1 < 2147483000) (hn9 : n9 + 1 < 1000000000) {i a b : Int32} : aw_M yX11_slice cX11_slice 4 (some FieldType.int) 10 0 0 [.ref (m 33), .int i, .int a, .int b] S (fun r S2 => ∃ ρ2 Z2, r = some (.int (slcF P i a b).1) ∧ RM S2 m ρ2 Z2 (mb + 1) (slcF P i a b).2 ∧ frS S S2 (mQ m)) := by
  have hP := hJ.1
  have hw3 := hP.1.1
  have hM := h0.1
  have hl9 := hJ.ln
  have hw6 := hP.1.2
  have hpH := hJ.2.2.2.2.2.1.1
  have hc16 := hJ.2.2.2.2.2.1.2.1
  refine aw_enter (by decide +kernel) (Nat.le_of_ble_eq_true rfl) (fun g K EE => ?_)
  cases hz : rootP P i with
  | none =>
    first | refine a_aload_n K dX11_slice_0 rfl ?_ | refine a_aload_nN K dX11_slice_0 rfl ?_
    refine a_iconst K dX11_slice_1 (v := 0) (by decide) ?_
    refine a_putI K fd_X11_116 (by exact lm_o hM) rfl dX11_slice_2 ?_
    have f0 : frM S (wI S 704 (m 33) 0) m [] [704] := frM_wI (by decide) (by decide)
    obtain ⟨T, hT⟩ : ∃ T, T = wI S 704 (m 33) 0 := ⟨_, rfl⟩
    rw [← hT] at f0 ⊢
    obtain ⟨h, q0⟩ := h0.scr hP f0 (by decide) (by decide)
    have hM := h.1
    first | refine a_aload_n K dX11_slice_5 rfl ?_ | refine a_aload_nN K dX11_slice_5 rfl ?_
    refine a_iload_n K dX11_slice_6 rfl ?_
    refine a_invV K (q_mapN h hl9 hz) my_X11_isMap ml_X11_309 im_X11_isMap se_X11_isMap (ci := 11) (by exact lm_o hM) (by decide) ⟨_, _, rfl⟩ rfl (by omega) (by omega) (by omega) rfl (Nat.le_of_ble_eq_true rfl) dX11_slice_7 ?_
    intro r9 S9 hp9
    obtain ⟨rfl, hS9⟩ := hp9
    obtain rfl := hS9.symm
    refine a_if_ne K dX11_slice_10 (tgt := 19) (by decide) (fun c_10 => absurd c_10 (fun q => q rfl)) (fun c_10 => ?_)
    first | refine a_aload_n K dX11_slice_13 rfl ?_ | refine a_aload_nN K dX11_slice_13 rfl ?_
    refine a_iconst K dX11_slice_14 (v := 0) (by decide) ?_
    rw [show (0 : Int32) = nI 0 from rfl]
    refine a_invV K (q_refP h (k := 0) (by decide)) my_X11_refused ml_X11_292 im_X11_refused se_X11_refused (ci := 11) (by exact lm_o hM) (by decide) ⟨_, _, rfl⟩ rfl (by omega) (by omega) (by omega) rfl (Nat.le_of_ble_eq_true rfl) dX11_slice_15 ?_
    intro r9 S9 hp9
    obtain ⟨rfl, hR, qR⟩ := hp9
    exact a_iret K EE rfl (by omega) (by omega) dX11_slice_18 ⟨ρ, Z, by unfold slcF; rw [hz], by unfold slcF; rw [hz]; exact hR.up (Nat.le_succ mb) (by omega), mQ_tr q0 qR⟩
  | some z =>
    obtain ⟨j, hij, hj, -⟩ := h0.root hz
    subst hij
    have tz := hP.tz (rootP_live hz)
    have h4z := tz.h4 hw3
    have e60z := tz.2.2.1
    by_cases ha : ¬ (0 ≤ a.toInt ∧ a.toInt ≤ 999)
    · have hE : slcF P (nI j) a b = (-1, refP P 1) := by
        unfold slcF
        rw [hz]
        exact if_neg (fun q => ha ⟨q.1.1, by have := q.1.2; omega⟩)
      first | refine a_aload_n K dX11_slice_0 rfl ?_ | refine a_aload_nN K dX11_slice_0 rfl ?_
      refine a_iconst K dX11_slice_1 (v := 0) (by decide) ?_
      refine a_putI K fd_X11_116 (by exact lm_o hM) rfl dX11_slice_2 ?_
      have f0 : frM S (wI S 704 (m 33) 0) m [] [704] := frM_wI (by decide) (by decide)
      obtain ⟨T, hT⟩ : ∃ T, T = wI S 704 (m 33) 0 := ⟨_, rfl⟩
      rw [← hT] at f0 ⊢
      obtain ⟨h, q0⟩ := h0.scr hP f0 (by decide) (by decide)
      have hM := h.1
      first | refine a_aload_n K dX11_slice_5 rfl ?_ | refine a_aload_nN K dX11_slice_5 rfl ?_
      refine a_iload_n K dX11_slice_6 rfl ?_
      refine a_invV K (q_mapY h hl9 hz) my_X11_isMap ml_X11_309 im_X11_isMap se_X11_isMap (ci := 11) (by exact lm_o hM) (by decide) ⟨_, _, rfl⟩ rfl (by omega) (by omega) (by omega) rfl (Nat.le_of_ble_eq_true rfl) dX11_slice_7 ?_
      intro r9 S9 hp9
      obtain ⟨rfl, hS9⟩ := hp9
      obtain rfl := hS9.symm
      refine a_if_ne K dX11_slice_10 (tgt := 19) (by decide) (fun c_10 => ?_) (fun c_10 => absurd c_10 (by decide))
      refine a_iload_n K dX11_slice_19 rfl ?_
      refine a_i2l K dX11_slice_20 ?_
      refine a_lconst K dX11_slice_21 (v := 0) (by decide) ?_
      refine a_ldc2 K kc_X11_335 dX11_slice_22 ?_
      refine a_invS K (q_inN (p := 0) (q := 999) (by decide) (by decide) (by first | assumption | omega)) my_X11_isIn ml_X11_174 st_X11_isIn rfl (by omega) (by omega) (by omega) rfl (Nat.le_of_ble_eq_true rfl) dX11_slice_25 ?_
      intro r9 S9 hp9
      obtain ⟨rfl, hS9⟩ := hp9
      obtain rfl := hS9.symm
      refine a_if_eq K dX11_slice_28 (tgt := 44) (by decide) (fun c_28 => ?_) (fun c_28 => absurd c_28 (fun q => q rfl))
      first | refine a_aload_n K dX11_slice_44 rfl ?_ | refine a_aload_nN K dX11_slice_44 rfl ?_
      refine a_iconst K dX11_slice_45 (v := 1) (by decide) ?_
      rw [show (1 : Int32) = nI 1 from rfl]
      refine a_invV K (q_refP h (k := 1) (by decide)) my_X11_refused ml_X11_292 im_X11_refused se_X11_refused (ci := 11) (by exact lm_o hM) (by decide) ⟨_, _, rfl⟩ rfl (by omega) (by omega) (by omega) rfl (Nat.le_of_ble_eq_true rfl) dX11_slice_46 ?_
      intro r9 S9 hp9
      obtain ⟨rfl, hR, qR⟩ := hp9
      exact a_iret K EE rfl (by omega) (by omega) dX11_slice_49 ⟨ρ, Z, by rw [hE], by rw [hE]; exact hR.up (Nat.le_succ mb) (by omega), mQ_tr q0 qR⟩
    have ha := Classical.not_not.mp ha
    by_cases hb : ¬ (a.toInt ≤ b.toInt ∧ b.toInt ≤ 999)
    · have hE : slcF P (nI j) a b = (-1, refP P 1) := by
        unfold slcF
        rw [hz]
        exact if_neg (fun q => hb ⟨q.2.2, by have := q.2.1.2; omega⟩)
      first | refine a_aload_n K dX11_slice_0 rfl ?_ | refine a_aload_nN K dX11_slice_0 rfl ?_
      refine a_iconst K dX11_slice_1 (v := 0) (by decide) ?_
      refine a_putI K fd_X11_116 (by exact lm_o hM) rfl dX11_slice_2 ?_
      have f0 : frM S (wI S 704 (m 33) 0) m [] [704] := frM_wI (by decide) (by decide)
      obtain ⟨T, hT⟩ : ∃ T, T = wI S 704 (m 33) 0 := ⟨_, rfl⟩
      rw [← hT] at f0 ⊢
      obtain ⟨h, q0⟩ := h0.scr hP f0 (by decide) (by decide)
      have hM := h.1
      first | refine a_aload_n K dX11_slice_5 rfl ?_ | refine a_aload_nN K dX11_slice_5 rfl ?_
      refine a_iload_n K dX11_slice_6 rfl ?_
      refine a_invV K (q_mapY h hl9 hz) my_X11_isMap ml_X11_309 im_X11_isMap se_X11_isMap (ci := 11) (by exact lm_o hM) (by decide) ⟨_, _, rfl⟩ rfl (by omega) (by omega) (by omega) rfl (Nat.le_of_ble_eq_true rfl) dX11_slice_7 ?_
      intro r9 S9 hp9
      obtain ⟨rfl, hS9⟩ := hp9
      obtain rfl := hS9.symm
      refine a_if_ne K dX11_slice_10 (tgt := 19) (by decide) (fun c_10 => ?_) (fun c_10 => absurd c_10 (by decide))
      refine a_iload_n K dX11_slice_19 rfl ?_
      refine a_i2l K dX11_slice_20 ?_
      refine a_lconst K dX11_slice_21 (v := 0) (by decide) ?_
      refine a_ldc2 K kc_X11_335 dX11_slice_22 ?_
      refine a_invS K (q_inY (p := 0) (q := 999) (by decide) (by decide) (by first | assumption | omega)) my_X11_isIn ml_X11_174 st_X11_isIn rfl (by omega) (by omega) (by omega) rfl (Nat.le_of_ble_eq_true rfl) dX11_slice_25 ?_
      intro r9 S9 hp9
      obtain ⟨rfl, hS9⟩ := hp9
      obtain rfl := hS9.symm
      refine a_if_eq K dX11_slice_28 (tgt := 44) (by decide) (fun c_28 => absurd c_28 (by decide)) (fun c_28 => ?_)
      refine a_iload_n K dX11_slice_31 rfl ?_
      refine a_i2l K dX11_slice_32 ?_
      refine a_iload_n K dX11_slice_33 rfl ?_
      refine a_i2l K dX11_slice_34 ?_
      refine a_ldc2 K kc_X11_335 dX11_slice_35 ?_
      refine a_invS K (q_inN (p := a.toInt) (q := 999) (Int32.toInt_toInt64 _) (by decide) hb) my_X11_isIn ml_X11_174 st_X11_isIn rfl (by omega) (by omega) (by omega) rfl (Nat.le_of_ble_eq_true rfl) dX11_slice_38 ?_
      intro r9 S9 hp9
      obtain ⟨rfl, hS9⟩ := hp9
      obtain rfl := hS9.symm
      refine a_if_ne K dX11_slice_41 (tgt := 50) (by decide) (fun c_41 => absurd c_41 (fun q => q rfl)) (fun c_41 => ?_)
      first | refine a_aload_n K dX11_slice_44 rfl ?_ | refine a_aload_nN K dX11_slice_44 rfl ?_
      refine a_iconst K dX11_slice_45 (v := 1) (by decide) ?_
      rw [show (1 : Int32) = nI 1 from rfl]
      refine a_invV K (q_refP h (k := 1) (by decide)) my_X11_refused ml_X11_292 im_X11_refused se_X11_refused (ci := 11) (by exact lm_o hM) (by decide) ⟨_, _, rfl⟩ rfl (by omega) (by omega) (by omega) rfl (Nat.le_of_ble_eq_true rfl) dX11_slice_46 ?_
      intro r9 S9 hp9
      obtain ⟨rfl, hR, qR⟩ := hp9
      exact a_iret K EE rfl (by omega) (by omega) dX11_slice_49 ⟨ρ, Z, by rw [hE], by rw [hE]; exact hR.up (Nat.le_succ mb) (by omega), mQ_tr q0 qR⟩
    have hb := Classical.not_not.mp hb
    by_cases hr : hcnt (pH P) < 16 ∧ (pM P).length < 999
    · have hE : slcF P (nI j) a b = (nI (pM P).length, addM (setU (incT P) (tkL (pW P) (pTk P) (selK (inB a b false) (ent z.1 z.2)) (z, pU P)).2) (tkL (pW P) (pTk P) (selK (inB a b false) (ent z.1 z.2)) (z, pU P)).1 (nI j) (-1)) := by
        unfold slcF
        rw [hz]
        rw [← sliE_tk]
        exact (if_pos ⟨⟨ha.1, by omega⟩, ⟨by omega, by omega⟩, hb.1⟩).trans (if_pos hr)
      first | refine a_aload_n K dX11_slice_0 rfl ?_ | refine a_aload_nN K dX11_slice_0 rfl ?_
      refine a_iconst K dX11_slice_1 (v := 0) (by decide) ?_
      refine a_putI K fd_X11_116 (by exact lm_o hM) rfl dX11_slice_2 ?_
      have f0 : frM S (wI S 704 (m 33) 0) m [] [704] := frM_wI (by decide) (by decide)
      obtain ⟨T, hT⟩ : ∃ T, T = wI S 704 (m 33) 0 := ⟨_, rfl⟩
      rw [← hT] at f0 ⊢
      obtain ⟨h, q0⟩ := h0.scr hP f0 (by decide) (by decide)
      have hM := h.1
      first | refine a_aload_n K dX11_slice_5 rfl ?_ | refine a_aload_nN K dX11_slice_5 rfl ?_
      refine a_iload_n K dX11_slice_6 rfl ?_
      refine a_invV K (q_mapY h hl9 hz) my_X11_isMap ml_X11_309 im_X11_isMap se_X11_isMap (ci := 11) (by exact lm_o hM) (by decide) ⟨_, _, rfl⟩ rfl (by omega) (by omega) (by omega) rfl (Nat.le_of_ble_eq_true rfl) dX11_slice_7 ?_
      intro r9 S9 hp9
      obtain ⟨rfl, hS9⟩ := hp9
      obtain rfl := hS9.symm
      refine a_if_ne K dX11_slice_10 (tgt := 19) (by decide) (fun c_10 => ?_) (fun c_10 => absurd c_10 (by decide))
      refine a_iload_n K dX11_slice_19 rfl ?_
      refine a_i2l K dX11_slice_20 ?_
      refine a_lconst K dX11_slice_21 (v := 0) (by decide) ?_
      refine a_ldc2 K kc_X11_335 dX11_slice_22 ?_
      refine a_invS K (q_inY (p := 0) (q := 999) (by decide) (by decide) (by first | assumption | omega)) my_X11_isIn ml_X11_174 st_X11_isIn rfl (by omega) (by omega) (by omega) rfl (Nat.le_of_ble_eq_true rfl) dX11_slice_25 ?_
      intro r9 S9 hp9
      obtain ⟨rfl, hS9⟩ := hp9
      obtain rfl := hS9.symm
      refine a_if_eq K dX11_slice_28 (tgt := 44) (by decide) (fun c_28 => absurd c_28 (by decide)) (fun c_28 => ?_)
      refine a_iload_n K dX11_slice_31 rfl ?_
      refine a_i2l K dX11_slice_32 ?_
      refine a_iload_n K dX11_slice_33 rfl ?_
      refine a_i2l K dX11_slice_34 ?_
      refine a_ldc2 K kc_X11_335 dX11_slice_35 ?_
      refine a_invS K (q_inY (p := a.toInt) (q := 999) (Int32.toInt_toInt64 _) (by decide) hb) my_X11_isIn ml_X11_174 st_X11_isIn rfl (by omega) (by omega) (by omega) rfl (Nat.le_of_ble_eq_true rfl) dX11_slice_38 ?_
      intro r9 S9 hp9
      obtain ⟨rfl, hS9⟩ := hp9
      obtain rfl := hS9.symm
      refine a_if_ne K dX11_slice_41 (tgt := 50) (by decide) (fun c_41 => ?_) (fun c_41 => absurd c_41 (by decide))
      first | refine a_aload_n K dX11_slice_50 rfl ?_ | refine a_aload_nN K dX11_slice_50 rfl ?_
      refine a_invV K ((h.room hl9 hc16).1 hr) my_X11_hasRoom ml_X11_289 im_X11_hasRoom se_X11_hasRoom (ci := 11) (by exact lm_o hM) (by decide) ⟨_, _, rfl⟩ rfl (by omega) (by omega) (by omega) rfl (Nat.le_of_ble_eq_true rfl) dX11_slice_51 ?_
      intro r9 S9 hp9
      obtain ⟨rfl, hS9⟩ := hp9
      obtain rfl := hS9.symm
      refine a_if_ne K dX11_slice_54 (tgt := 63) (by decide) (fun c_54 => ?_) (fun c_54 => absurd c_54 (by decide))
      first | refine a_aload_n K dX11_slice_63 rfl ?_ | refine a_aload_nN K dX11_slice_63 rfl ?_
      first | refine a_aload_n K dX11_slice_64 rfl ?_ | refine a_aload_nN K dX11_slice_64 rfl ?_
      first | refine a_aload_n K dX11_slice_65 rfl ?_ | refine a_aload_nN K dX11_slice_65 rfl ?_
      refine a_getRs K fd_X11_67 (by exact lm_o hM) (Or.inr ⟨_, rfl⟩) (by exact lm_r736 hM) dX11_slice_66 ?_
      refine a_iload_n K dX11_slice_69 rfl ?_
      refine a_iald K (by exact lm_kk hM (by decide) (by decide)) (by show vp_in _ (sN T (m 17)); exact lm_ix (z := 999) hM (by decide) (by decide) (show j < 999 by omega) (by decide)) dX11_slice_70 ?_
      rw [nI_clamp (by omega)]
      rw [h.root2 hz (by omega)]
      refine a_iload_n K dX11_slice_71 rfl ?_
      refine a_iload_n K dX11_slice_72 rfl ?_
      refine a_iconst K dX11_slice_73 (v := 0) (by decide) ?_
      first | refine a_aload_n K dX11_slice_74 rfl ?_ | refine a_aload_nN K dX11_slice_74 rfl ?_
      refine a_invV K (q_newTk h hJ hmb) my_X11_newToken ml_X11_295 im_X11_newToken se_X11_newToken (ci := 11) (by exact lm_o hM) (by decide) ⟨_, _, rfl⟩ rfl (by omega) (by omega) (by omega) rfl (Nat.le_of_ble_eq_true rfl) dX11_slice_75 ?_
      intro r9 S1 hp9
      obtain ⟨rfl, Z1, h1, hrm1, q1⟩ := hp9
      have hM := h1.1
      have hQ0 : ∀ x ∈ ndl z.1 z.2, LvN (incT P) x.1 := live_in (P := incT P) (rootP_live hz)
      have hPT : PI (incT P) := hJ.inc hn9
      rw [show (0 : Int32) = (if false = true then 1 else 0) from rfl]
      refine a_invV K (q_cuts (bt := false) (tk := pTk P) (tk9 := pTk P + 1) (w := pW P) (u := pU P) h1.1 h1.wid hw3 hw6 (h1.rep (rootP_live hz)) (tz.mono (Nat.le_refl _) (Nat.le_succ _)) h1.N.1 h1.N.2.1 h1.N.2.2.1 hQ0 (Nat.lt_succ_self _) (by have := hP.2.2.2; omega) (by omega)) my_X11_cuts ml_X11_377 im_X11_cuts se_X11_cuts (ci := 11) (by exact lm_o hM) (by decide) ⟨_, _, rfl⟩ rfl (by omega) (by omega) (by omega) rfl (Nat.le_of_ble_eq_true rfl) dX11_slice_78 ?_
      intro r9 S5 hp9
      obtain ⟨ρ5, Z5, S4, rfl, f4, ts⟩ := hp9
      obtain ⟨h4, q4⟩ := h1.scr (P := incT P) hPT f4 (by decide) (by decide)
      obtain ⟨h5, q5, r5, a5⟩ := ts.fin (P := incT P) h4 (show IdP (incT P) from hP.ids) (tok.tk9 hP tz).2 hQ0
      have hM := h5.1
      refine a_iload_n K dX11_slice_81 rfl ?_
      refine a_iconst K dX11_slice_82 (v := -1) (by decide) ?_
      refine a_invV K (q_newMapR h5 hpH hr.2 r5 a5) my_X11_newMap ml_X11_302 im_X11_newMap se_X11_newMap (ci := 11) (by exact lm_o hM) (by decide) ⟨_, _, rfl⟩ rfl (by omega) (by omega) (by omega) rfl (Nat.le_of_ble_eq_true rfl) dX11_slice_83 ?_
      intro r9 S6 hp9
      obtain ⟨rfl, h6, q6⟩ := hp9
      exact a_iret K EE rfl (by omega) (by omega) dX11_slice_86 ⟨ρ5, Z5, by rw [hE]; rfl, by rw [hE]; exact h6, mQ_tr q0 (mQ_tr q1 (mQ_tr q4 (mQ_tr q5 q6)))⟩
    · have hE : slcF P (nI j) a b = (-1, refP P 4) := by
        unfold slcF
        rw [hz]
        exact (if_pos ⟨⟨ha.1, by omega⟩, ⟨by omega, by omega⟩, hb.1⟩).trans (if_neg hr)
      first | refine a_aload_n K dX11_slice_0 rfl ?_ | refine a_aload_nN K dX11_slice_0 rfl ?_
      refine a_iconst K dX11_slice_1 (v := 0) (by decide) ?_
      refine a_putI K fd_X11_116 (by exact lm_o hM) rfl dX11_slice_2 ?_
      have f0 : frM S (wI S 704 (m 33) 0) m [] [704] := frM_wI (by decide) (by decide)
      obtain ⟨T, hT⟩ : ∃ T, T = wI S 704 (m 33) 0 := ⟨_, rfl⟩
      rw [← hT] at f0 ⊢
      obtain ⟨h, q0⟩ := h0.scr hP f0 (by decide) (by decide)
      have hM := h.1
      first | refine a_aload_n K dX11_slice_5 rfl ?_ | refine a_aload_nN K dX11_slice_5 rfl ?_
      refine a_iload_n K dX11_slice_6 rfl ?_
      refine a_invV K (q_mapY h hl9 hz) my_X11_isMap ml_X11_309 im_X11_isMap se_X11_isMap (ci := 11) (by exact lm_o hM) (by decide) ⟨_, _, rfl⟩ rfl (by omega) (by omega) (by omega) rfl (Nat.le_of_ble_eq_true rfl) dX11_slice_7 ?_
      intro r9 S9 hp9
      obtain ⟨rfl, hS9⟩ := hp9
      obtain rfl := hS9.symm
      refine a_if_ne K dX11_slice_10 (tgt := 19) (by decide) (fun c_10 => ?_) (fun c_10 => absurd c_10 (by decide))
      refine a_iload_n K dX11_slice_19 rfl ?_
      refine a_i2l K dX11_slice_20 ?_
      refine a_lconst K dX11_slice_21 (v := 0) (by decide) ?_
      refine a_ldc2 K kc_X11_335 dX11_slice_22 ?_
      refine a_invS K (q_inY (p := 0) (q := 999) (by decide) (by decide) (by first | assumption | omega)) my_X11_isIn ml_X11_174 st_X11_isIn rfl (by omega) (by omega) (by omega) rfl (Nat.le_of_ble_eq_true rfl) dX11_slice_25 ?_
      intro r9 S9 hp9
      obtain ⟨rfl, hS9⟩ := hp9
      obtain rfl := hS9.symm
      refine a_if_eq K dX11_slice_28 (tgt := 44) (by decide) (fun c_28 => absurd c_28 (by decide)) (fun c_28 => ?_)
      refine a_iload_n K dX11_slice_31 rfl ?_
      refine a_i2l K dX11_slice_32 ?_
      refine a_iload_n K dX11_slice_33 rfl ?_
      refine a_i2l K dX11_slice_34 ?_
      refine a_ldc2 K kc_X11_335 dX11_slice_35 ?_
      refine a_invS K (q_inY (p := a.toInt) (q := 999) (Int32.toInt_toInt64 _) (by decide) hb) my_X11_isIn ml_X11_174 st_X11_isIn rfl (by omega) (by omega) (by omega) rfl (Nat.le_of_ble_eq_true rfl) dX11_slice_38 ?_
      intro r9 S9 hp9
      obtain ⟨rfl, hS9⟩ := hp9
      obtain rfl := hS9.symm
      refine a_if_ne K dX11_slice_41 (tgt := 50) (by decide) (fun c_41 => ?_) (fun c_41 => absurd c_41 (by decide))
      first | refine a_aload_n K dX11_slice_50 rfl ?_ | refine a_aload_nN K dX11_slice_50 rfl ?_
      refine a_invV K ((h.room hl9 hc16).2 hr) my_X11_hasRoom ml_X11_289 im_X11_hasRoom se_X11_hasRoom (ci := 11) (by exact lm_o hM) (by decide) ⟨_, _, rfl⟩ rfl (by omega) (by omega) (by omega) rfl (Nat.le_of_ble_eq_true rfl) dX11_slice_51 ?_
      intro r9 S9 hp9
      obtain ⟨rfl, hS9⟩ := hp9
      obtain rfl := hS9.symm
      refine a_if_ne K dX11_slice_54 (tgt := 63) (by decide) (fun c_54 => absurd c_54 (fun q => q rfl)) (fun c_54 => ?_)
      first | refine a_aload_n K dX11_slice_57 rfl ?_ | refine a_aload_nN K dX11_slice_57 rfl ?_
      refine a_iconst K dX11_slice_58 (v := 4) (by decide) ?_
      rw [show (4 : Int32) = nI 4 from rfl]
      refine a_invV K (q_refP h (k := 4) (by decide)) my_X11_refused ml_X11_292 im_X11_refused se_X11_refused (ci := 11) (by exact lm_o hM) (by decide) ⟨_, _, rfl⟩ rfl (by omega) (by omega) (by omega) rfl (Nat.le_of_ble_eq_true rfl) dX11_slice_59 ?_
      intro r9 S9 hp9
      obtain ⟨rfl, hR, qR⟩ := hp9
      exact a_iret K EE rfl (by omega) (by omega) dX11_slice_62 ⟨ρ, Z, by rw [hE], by rw [hE]; exact hR.up (Nat.le_succ mb) (by omega), mQ_tr q0 qR⟩
