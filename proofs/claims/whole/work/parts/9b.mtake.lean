/-! the model: takes -/
theorem refZ_mk {h w tk u : Nat} (A : List (Tr h)) (k : Tr h) (B : List (Tr h)) : (refZ w tk u A k B).2 ≤ u + 1 ∧ u ≤ (refZ w tk u A k B).2 := refZ_elim (P := fun q => q.2 ≤ u + 1 ∧ u ≤ q.2) A k B (fun a _ _ _ => edt_1) (fun b _ _ _ _ => edt_1) (fun a _ _ _ _ => edt_1) (fun _ _ _ _ _ => ⟨Nat.le_succ u, Nat.le_refl u⟩) (fun _ _ => ⟨Nat.le_succ u, Nat.le_refl u⟩)
theorem remB_mk {w tk : Nat} {key : Int32} : ∀ (h u : Nat) (t : Tr h), OwT tk key h t → NeT h t → (remB w tk key h u t).2 ≤ u + h
  | 0, _, _, _, _ => Nat.le_refl _
  | h + 1, u, t, ow, ne => by
    have hc := List.getElem?_eq_getElem (place_lt (key := key) ne.1)
    generalize (kds t)[place key (kds t)]'(place_lt (key := key) ne.1) = c at hc
    have h1 := remB_mk (w := w) h u c (ow.2 c hc) (ne.2 c (List.mem_of_getElem? hc))
    have ho := edt_own (u := u) (ow.2 c hc).tk
    by_cases hl : (remB w tk key h (edt tk u c).2 (edt tk u c).1).1.2.2.length < lea w
    · rw [remB_lt hc hl, ho]
      have h2 := refZ_mk (w := w) (tk := tk) (u := (remB w tk key h u c).2) ((kds t).take (place key (kds t))).reverse (remB w tk key h u c).1 ((kds t).drop (place key (kds t) + 1))
      show (refZ w tk (remB w tk key h u c).2 ((kds t).take (place key (kds t))).reverse (remB w tk key h u c).1 ((kds t).drop (place key (kds t) + 1))).2 ≤ _
      omega
    · rw [remB_ge hc hl, ho]
      show (remB w tk key h u c).2 ≤ _
      omega
theorem remE_at {es : List KV} {key : Int32} {k : Nat} {x : KV} (hs : srt es) (hx : es[k]? = some x) (e : x.1 = key) : remE es key = es.take k ++ es.drop (k + 1) := by
  have h1 := kpl_is hs hx e
  obtain ⟨h2, h3⟩ := List.getElem?_eq_some_iff.mp hx
  rw [remE_is (by rw [h1]; exact h2) (by
    have h4 : es[kpl es key]? = some x := by rw [h1]; exact hx
    obtain ⟨h5, h6⟩ := List.getElem?_eq_some_iff.mp h4
    rw [h6]; exact e), h1, List.eraseIdx_eq_take_drop_succ]
set_option maxHeartbeats 4000000 in
set_option maxRecDepth 100000 in
theorem m_takes {S0 : aw_S} {m : Nat → Nat} (hM0 : LM S0 m) {ρ0 : Nat → Nat} {u0 tk h0 w : Nat} {t0 : Tr h0} {Z0 : List Nat × Nat} {P0 : Nat → Prop} {key : Int32} (hw0 : sI S0 723 (m 33) = nI w) (hw3 : 3 ≤ w) (hw6 : w ≤ 6) (rp0 : RepM S0 m ρ0 h0 t0) (ro : rok w ⟨h0, t0⟩) (hF0 : FrM S0 m Z0.1 Z0.2) (nd0 : Z0.1.Nodup) (hrm0 : 2 * h0 + 5 ≤ rmM Z0) (a0 : AL ρ0 u0 Z0 P0) (ht0 : ∀ x ∈ ndl h0 t0, P0 x.1) (b0 : bdd u0 (ndl h0 t0)) (htk : tk < 2147483000) (ht9 : ∀ x ∈ ndl h0 t0, x.2 < 2147483000) (h9 : h0 ≤ 9) : aw_M yX11_takes cX11_takes 7 (some FieldType.int) 5 0 0 [.ref (m 33), .int (nI (ρ0 t0.1)), .int key, .int (nI (tk + 1))] S0 (fun q S2 => ∃ ρ2 Z2, q = some (.int (nI (ρ2 (takT w tk u0 key ⟨h0, t0⟩).1.2.1))) ∧ GM S0 S2 m ρ0 ρ2 u0 (takT w tk u0 key ⟨h0, t0⟩).2 Z0 Z2 tk (ndl h0 t0) ∧ RepM S2 m ρ2 (takT w tk u0 key ⟨h0, t0⟩).1.1 (takT w tk u0 key ⟨h0, t0⟩).1.2) := by
  have hlea : 1 ≤ lea w := by unfold lea; omega
  have ne0 := ro.ne hw3
  have hs0 := ro.2.2.2.1
  obtain ⟨PO, hPO⟩ : ∃ PO : Option Value → aw_S → Prop, PO = (fun q S2 => ∃ ρ2 Z2, q = some (.int (nI (ρ2 (takT w tk u0 key ⟨h0, t0⟩).1.2.1))) ∧ GM S0 S2 m ρ0 ρ2 u0 (takT w tk u0 key ⟨h0, t0⟩).2 Z0 Z2 tk (ndl h0 t0) ∧ RepM S2 m ρ2 (takT w tk u0 key ⟨h0, t0⟩).1.1 (takT w tk u0 key ⟨h0, t0⟩).1.2) := ⟨_, rfl⟩
  rw [← hPO]
  refine aw_enter (by decide +kernel) (Nat.le_of_ble_eq_true rfl) (fun g K EE => ?_)
  have fin1 : ∀ (h : Nat) (X : Tr h) (ρ2 : Nat → Nat) (S2 : aw_S), LM S2 m → RepM S2 m ρ2 h X → (0 < h → X.2.2.length ≠ 1) → PO (some (.int (nI (ρ2 X.1)))) S2 → aw g 7 S2 0 0 [(4, .int (nI (ρ2 X.1))), (0, .ref (m 33))] [] 105 := by
    intro h
    cases h with
    | zero =>
      intro X ρ2 S2 hM rp hn hpo
      have hr := rp.own.1
      first | refine a_aload_n K dX11_takes_105 rfl ?_ | refine a_aload_nN K dX11_takes_105 rfl ?_
      refine a_getRs K fd_X11_23 (by exact lm_o hM) (Or.inr ⟨_, rfl⟩) (by exact lm_r714 hM) dX11_takes_106 ?_
      refine a_iload K dX11_takes_109 rfl ?_
      refine a_iald K (by exact lm_kk hM (by decide) (by decide)) (by show vp_in _ (sN S2 (m 4)); exact lm_ix (z := 12000) hM (by decide) (by decide) (show ρ2 X.1 < 12000 by omega) (by decide)) dX11_takes_111 ?_
      rw [nI_clamp (by omega)]
      rw [show sA S2 (m 4) (ρ2 X.1) = 1 from rp.2.1]
      refine a_if_ne K dX11_takes_112 (tgt := 138) (by decide) (fun c_112 => ?_) (fun c_112 => absurd c_112 (by decide))
      refine a_iload K dX11_takes_138 rfl ?_
      exact a_iret K EE rfl (by omega) (by omega) dX11_takes_140 hpo
    | succ h =>
      intro X ρ2 S2 hM rp hn hpo
      have hr := rp.own.1
      have h7 := rp.own.2.2.2.2.1
      first | refine a_aload_n K dX11_takes_105 rfl ?_ | refine a_aload_nN K dX11_takes_105 rfl ?_
      refine a_getRs K fd_X11_23 (by exact lm_o hM) (Or.inr ⟨_, rfl⟩) (by exact lm_r714 hM) dX11_takes_106 ?_
      refine a_iload K dX11_takes_109 rfl ?_
      refine a_iald K (by exact lm_kk hM (by decide) (by decide)) (by show vp_in _ (sN S2 (m 4)); exact lm_ix (z := 12000) hM (by decide) (by decide) (show ρ2 X.1 < 12000 by omega) (by decide)) dX11_takes_111 ?_
      rw [nI_clamp (by omega)]
      rw [show sA S2 (m 4) (ρ2 X.1) = 0 from rp.1.2.1]
      refine a_if_ne K dX11_takes_112 (tgt := 138) (by decide) (fun c_112 => absurd c_112 (fun z => z rfl)) (fun c_112 => ?_)
      first | refine a_aload_n K dX11_takes_115 rfl ?_ | refine a_aload_nN K dX11_takes_115 rfl ?_
      refine a_getRs K fd_X11_26 (by exact lm_o hM) (Or.inr ⟨_, rfl⟩) (by exact lm_r715 hM) dX11_takes_116 ?_
      refine a_iload K dX11_takes_119 rfl ?_
      refine a_iald K (by exact lm_kk hM (by decide) (by decide)) (by show vp_in _ (sN S2 (m 5)); exact lm_ix (z := 12000) hM (by decide) (by decide) (show ρ2 X.1 < 12000 by omega) (by decide)) dX11_takes_121 ?_
      rw [nI_clamp (by omega)]
      rw [show sA S2 (m 5) (ρ2 X.1) = nI X.2.2.length from rp.1.2.2.1]
      refine a_iconst K dX11_takes_122 (v := 1) (by decide) ?_
      refine a_icmp_ne K dX11_takes_123 (tgt := 138) (by decide) (fun c_123 => ?_) (fun c_123 => absurd c_123 (fun z => hn (Nat.succ_pos h) (nI_inj (by omega) (by decide) (z.trans rfl))))
      refine a_iload K dX11_takes_138 rfl ?_
      exact a_iret K EE rfl (by omega) (by omega) dX11_takes_140 hpo
  have fin2 : ∀ (z : Tz) (ρ2 : Nat → Nat) (S2 : aw_S), LM S2 m → RepM S2 m ρ2 z.1 z.2 → fanL (lea w) w z.1 z.2.2.2 → (RepM S2 m ρ2 (dwn z).1 (dwn z).2 → PO (some (.int (nI (ρ2 (dwn z).2.1)))) S2) → aw g 7 S2 0 0 [(4, .int (nI (ρ2 z.2.1))), (0, .ref (m 33))] [] 105 := by
    intro z ρ2 S2 hM rp fz hpo
    rcases dwn_cases z with ⟨e1, e2⟩ | ⟨h, X, c, rfl, e2, e3⟩
    · rw [e1] at hpo
      exact fin1 z.1 z.2 ρ2 S2 hM rp e2 (hpo rp)
    · rw [e3] at hpo
      have rp : RepM S2 m ρ2 (h + 1) X := rp
      have hr := rp.own.1
      have hc : (kds X)[0]? = some c := by rw [e2]; rfl
      have h1 : X.2.2.length = 1 := congrArg List.length e2
      have fc : fan (lea w) w h c := fz c (List.mem_of_getElem? hc)
      show aw g 7 S2 0 0 [(4, .int (nI (ρ2 X.1))), (0, .ref (m 33))] [] 105
      first | refine a_aload_n K dX11_takes_105 rfl ?_ | refine a_aload_nN K dX11_takes_105 rfl ?_
      refine a_getRs K fd_X11_23 (by exact lm_o hM) (Or.inr ⟨_, rfl⟩) (by exact lm_r714 hM) dX11_takes_106 ?_
      refine a_iload K dX11_takes_109 rfl ?_
      refine a_iald K (by exact lm_kk hM (by decide) (by decide)) (by show vp_in _ (sN S2 (m 4)); exact lm_ix (z := 12000) hM (by decide) (by decide) (show ρ2 X.1 < 12000 by omega) (by decide)) dX11_takes_111 ?_
      rw [nI_clamp (by omega)]
      rw [show sA S2 (m 4) (ρ2 X.1) = 0 from rp.1.2.1]
      refine a_if_ne K dX11_takes_112 (tgt := 138) (by decide) (fun c_112 => absurd c_112 (fun z => z rfl)) (fun c_112 => ?_)
      first | refine a_aload_n K dX11_takes_115 rfl ?_ | refine a_aload_nN K dX11_takes_115 rfl ?_
      refine a_getRs K fd_X11_26 (by exact lm_o hM) (Or.inr ⟨_, rfl⟩) (by exact lm_r715 hM) dX11_takes_116 ?_
      refine a_iload K dX11_takes_119 rfl ?_
      refine a_iald K (by exact lm_kk hM (by decide) (by decide)) (by show vp_in _ (sN S2 (m 5)); exact lm_ix (z := 12000) hM (by decide) (by decide) (show ρ2 X.1 < 12000 by omega) (by decide)) dX11_takes_121 ?_
      rw [nI_clamp (by omega)]
      rw [show sA S2 (m 5) (ρ2 X.1) = nI 1 from rp.1.2.2.1.trans (congrArg nI h1)]
      refine a_iconst K dX11_takes_122 (v := 1) (by decide) ?_
      refine a_icmp_ne K dX11_takes_123 (tgt := 138) (by decide) (fun c_123 => absurd c_123 (fun z => z rfl)) (fun c_123 => ?_)
      first | refine a_aload_n K dX11_takes_126 rfl ?_ | refine a_aload_nN K dX11_takes_126 rfl ?_
      refine a_iload K dX11_takes_127 rfl ?_
      refine a_iconst K dX11_takes_129 (v := 0) (by decide) ?_
      refine a_invV K (m_child hM (r := ρ2 X.1) (k := 0) hr (by decide)) my_X11_child ml_X11_197 im_X11_child se_X11_child (ci := 11) (by exact lm_o hM) (by decide) ⟨_, _, rfl⟩ rfl (by omega) (by omega) (by omega) rfl (Nat.le_of_ble_eq_true rfl) dX11_takes_130 ?_
      intro r9 S9 hp9
      obtain ⟨rfl, hS9⟩ := hp9
      obtain rfl := hS9.symm
      rw [(rp.kid hc).2.1]
      refine a_istore K dX11_takes_133 (by decide) ?_
      refine a_goto K dX11_takes_135 (tgt := 105) (by decide) ?_
      exact aw_locl rfl (fin1 h c ρ2 S2 hM (rp.kid hc).1 (fun z e => by have h9 := (fan_L.mp fc).1.1; have h8 : 2 ≤ lea w := (by unfold lea; omega); omega) (hpo (rp.kid hc).1))
  have loop : ∀ (L : Nat) (S : aw_S) (ρ : Nat → Nat) (u : Nat) (Z : List Nat × Nat) (P : Nat → Prop) (hM : LM S m) (hF : FrM S m Z.1 Z.2) (nd : Z.1.Nodup) (hrm : L + 2 ≤ rmM Z) (a : AL ρ u Z P) (hL : sI S 729 (m 33) = nI L) (hL9 : L ≤ 9) (hw : sI S 723 (m 33) = nI w), ∀ (R : Int32) (h : Nat) (t : Tr h) (j : Nat), RepM S m ρ h t → NeT h t → srt (ent h t) → (∀ x ∈ ndl h t, P x.1) → bdd u (ndl h t) → (∀ x ∈ ndl h t, x.2 < 2147483000) → OwT tk key h t → WyM S m ρ key h j t → okT (lea w) w h t → t.2.2.length ≤ w → (0 < h → 2 ≤ t.2.2.length) → j + h = L → ¬ val h t key = -1000000 → (∀ (x : Int32) (ρ2 : Nat → Nat) (Z2 : List Nat × Nat) (S2 : aw_S), x = nI j - 1 → GM S S2 m ρ ρ2 u (remB w tk key h u t).2 Z Z2 tk (ndl h t) → RepM S2 m ρ2 h (remB w tk key h u t).1 → wyS S S2 m → aw g 7 S2 0 0 [(6, .int x), (4, .int R), (3, .int (nI (tk + 1))), (0, .ref (m 33))] [] 54) → aw g 7 S 0 0 [(4, .int R), (3, .int (nI (tk + 1))), (2, .int key), (0, .ref (m 33))] [] 22 := by
    intro L S ρ u Z P hM hF nd hrm a hL hL9 hw R h
    induction h with
    | zero =>
      intro t j rp ne hs ht b ht9 ow wy ok hlen h2 hjL hv done
      have hr := rp.1
      have own : t.2.1 = tk := ow
      have hs : srt (ets t) := hs
      have hv : ¬ valIn (ets t) key = -1000000 := hv
      have wy : sA S (m 11) j = nI (ρ t.1) := wy
      rcases spI_val (key := key) (ets t) 0 with ⟨h1, h2⟩ | ⟨k, x, hx, hxk, h3⟩
      · exact absurd rfl (h2 _ (valIn_some hv))
      rw [Nat.zero_add] at h3
      have hk := (List.getElem?_eq_some_iff.mp hx).1
      have h7 : (ets t).length ≤ 7 := rp.2.2.2.2.1
      first | refine a_aload_n K dX11_takes_22 rfl ?_ | refine a_aload_nN K dX11_takes_22 rfl ?_
      refine a_getRs K fd_X11_49 (by exact lm_o hM) (Or.inr ⟨_, rfl⟩) (by exact lm_r727 hM) dX11_takes_23 ?_
      first | refine a_aload_n K dX11_takes_26 rfl ?_ | refine a_aload_nN K dX11_takes_26 rfl ?_
      refine a_getI K fd_X11_215 (by exact lm_o hM) (Or.inl rfl) dX11_takes_27 ?_
      rw [hL, show L = j from hjL.symm]
      refine a_iald K (by exact lm_kk hM (by decide) (by decide)) (by show vp_in _ (sN S (m 11)); exact lm_ix (z := 10) hM (by decide) (by decide) (show j < 10 by omega) (by decide)) dX11_takes_30 ?_
      rw [nI_clamp (by omega)]
      rw [show sA S (m 11) j = nI (ρ t.1) from wy]
      refine a_istore K dX11_takes_31 (by decide) ?_
      first | refine a_aload_n K dX11_takes_33 rfl ?_ | refine a_aload_nN K dX11_takes_33 rfl ?_
      refine a_iload K dX11_takes_34 rfl ?_
      first | refine a_aload_n K dX11_takes_36 rfl ?_ | refine a_aload_nN K dX11_takes_36 rfl ?_
      refine a_iload K dX11_takes_37 rfl ?_
      refine a_iload_n K dX11_takes_39 rfl ?_
      refine a_invV K (m_spotIn hM rp (key := key)) my_X11_spotIn ml_X11_209 im_X11_spotIn se_X11_spotIn (ci := 11) (by exact lm_o hM) (by decide) ⟨_, _, rfl⟩ rfl (by omega) (by omega) (by omega) rfl (Nat.le_of_ble_eq_true rfl) dX11_takes_40 ?_
      intro r9 S9 hp9
      obtain ⟨rfl, hS9⟩ := hp9
      obtain rfl := hS9.symm
      rw [h3]
      refine a_invV K (q_takesFrom hM (u := u) (tk := tk) (t := t) (k := k) rp hF nd (fun y hy => absurd hy (by simp [blw])) (by show k < (ets t).length; omega)) my_X11_takesFrom ml_X11_235 im_X11_takesFrom se_X11_takesFrom (ci := 11) (by exact lm_o hM) (by decide) ⟨_, _, rfl⟩ rfl (by omega) (by omega) (by omega) rfl (Nat.le_of_ble_eq_true rfl) dX11_takes_43 ?_
      intro r9 S2 hp9
      obtain ⟨rfl, r2, g2, w2⟩ := hp9
      have r2 : RepM S2 m ρ 0 (remB w tk key 0 u t).1 := by
        show RepM S2 m ρ 0 (t.1, t.2.1, remE (ets t) key)
        rw [remE_at hs hx hxk]
        exact r2
      have hM := g2.lay hM
      first | refine a_aload_n K dX11_takes_46 rfl ?_ | refine a_aload_nN K dX11_takes_46 rfl ?_
      refine a_getI K fd_X11_215 (by exact lm_o hM) (Or.inl rfl) dX11_takes_47 ?_
      rw [show sI S2 729 (m 33) = nI j from w2.2.2.trans (hL.trans (congrArg nI hjL.symm))]
      refine a_iconst K dX11_takes_50 (v := 1) (by decide) ?_
      refine a_isub K dX11_takes_51 ?_
      refine a_istore K dX11_takes_52 (by decide) ?_
      exact aw_locl rfl (done _ ρ Z S2 rfl (g2.mono (fun x hx _ => by rw [List.mem_singleton.mp hx, ← own]; exact ndl_top t)) r2 w2)
    | succ h ih =>
      intro t j rp ne hs ht b ht9 ow wy ok hlen h2 hjL hv done
      have hr := rp.1.1
      have hc := List.getElem?_eq_getElem (place_lt (key := key) ne.1)
      generalize (kds t)[place key (kds t)]'(place_lt (key := key) ne.1) = c at hc
      have hp := (List.getElem?_eq_some_iff.mp hc).1
      obtain ⟨oc, lc, lc2⟩ := fan_kid hlea ok hc
      have hlea2 : 2 ≤ lea w := by unfold lea; omega
      have owc := ow.2 c hc
      have nec := ne.2 c (List.mem_of_getElem? hc)
      have sc : srt (ent h c) := by
        rw [ent_kds (get_split hc)] at hs
        exact srt_mid hs
      have bc := kid_bdd hc b
      have htc : ∀ x ∈ ndl h c, P x.1 := fun x hx => ht x (ndl_kid (List.mem_of_getElem? hc) hx)
      have sub : ∀ x ∈ ndl h c, x.2 = tk → x ∈ ndl (h + 1) t := fun x hx _ => ndl_kid (List.mem_of_getElem? hc) hx
      have hvc : ¬ val h c key = -1000000 := by rw [← val_s hc]; exact hv
      have ho := edt_own (u := u) owc.tk
      have hm2 : 2 ≤ (kds t).length := h2 (Nat.succ_pos h)
      have hmw : (kds t).length ≤ w := hlen
      refine ih c (j + 1) (rp.kid hc).1 nec sc htc bc (fun x hx => ht9 x (ndl_kid (List.mem_of_getElem? hc) hx)) owc (wy.2.2 c hc) oc lc (fun _ => by omega) (by omega) hvc (fun x ρ2 Z2 S2 hx g2 r2 w2 => ?_)
      rw [nI_pred] at hx
      subst hx
      obtain ⟨idc, gR⟩ := remB_gru (w := w) (tk := tk) (key := key) h (u := u) (t := c) bc
      have fR := remB_fan (w := w) (tk := tk) (key := key) hw3 h (u := u) (t := c) oc lc (fun _ => by omega)
      have mk := remB_mk (w := w) h u c owc nec
      have a2 := g2.al a
      have rT := RepM_ctx g2 a rp ht b hc r2 idc.1
      have gS := set_gru hc b gR
      have bT := gS.1.bd b
      have htT : ∀ x ∈ ndl (h + 1) (nod t.1 t.2.1 ((kds t).set (place key (kds t)) (remB w tk key h u c).1)), PN P u (remB w tk key h u c).2 x.1 := fun x hx => (gS.1.2.1 x hx).imp (ht x) (fun z => ⟨z.1, z.2.1⟩)
      have hM := g2.lay hM
      have hw2 := g2.wid.trans hw
      have g2F := g2.F
      have e11 : sA S2 (m 11) (j + 1) = nI (ρ2 (remB w tk key h u c).1.1) := by
        rw [w2.1, idc.1, g2.2.1 _ (a.1 _ (htc _ (ndl_top c))).1]
        exact (wy.2.2 c hc).top
      have hrc := r2.own.1
      have hl7 := r2.own.2.2.2.2.1
      by_cases hl : (remB w tk key h u c).1.2.2.length < lea w
      · have hT9 : ∀ x ∈ ndl (h + 1) (nod t.1 t.2.1 ((kds t).set (place key (kds t)) (remB w tk key h u c).1)), x.2 < 2147483000 := fun x hx => by
          rcases gS.1.2.1 x hx with z | z
          · exact ht9 x z
          · rw [z.2.2]; exact htk
        have hTw : ∀ d ∈ kds (nod t.1 t.2.1 ((kds t).set (place key (kds t)) (remB w tk key h u c).1)), d.2.2.length ≤ w := fun d hd => by
          rcases List.mem_or_eq_of_mem_set (show d ∈ (kds t).set (place key (kds t)) (remB w tk key h u c).1 from hd) with z | z
          · exact (fan_L.mp (okT_k ok d z)).1.2
          · rw [z]; exact Nat.le_trans fR.2.2 lc
        have hTn : ((kds t).take (place key (kds t))).reverse ≠ [] ∨ (kds t).drop (place key (kds t) + 1) ≠ [] := by
          by_cases z : place key (kds t) = 0
          · refine Or.inr (fun e => ?_)
            have e9 := congrArg List.length e
            rw [List.length_drop, List.length_nil] at e9
            omega
          · refine Or.inl (fun e => ?_)
            have e9 := congrArg List.length e
            rw [List.length_reverse, List.length_take, List.length_nil] at e9
            omega
        have hAl : ((kds t).take (place key (kds t))).reverse.length = place key (kds t) := by rw [List.length_reverse, List.length_take]; omega
        refine a_iload K dX11_takes_54 rfl ?_
        refine a_if_lt K dX11_takes_56 (tgt := 105) (by decide) (fun c_56 => absurd c_56 (nI_pos (by omega))) (fun c_56 => ?_)
        first | refine a_aload_n K dX11_takes_59 rfl ?_ | refine a_aload_nN K dX11_takes_59 rfl ?_
        refine a_getRs K fd_X11_26 (by exact lm_o hM) (Or.inr ⟨_, rfl⟩) (by exact lm_r715 hM) dX11_takes_60 ?_
        first | refine a_aload_n K dX11_takes_63 rfl ?_ | refine a_aload_nN K dX11_takes_63 rfl ?_
        refine a_getRs K fd_X11_49 (by exact lm_o hM) (Or.inr ⟨_, rfl⟩) (by exact lm_r727 hM) dX11_takes_64 ?_
        refine a_iload K dX11_takes_67 rfl ?_
        refine a_iconst K dX11_takes_69 (v := 1) (by decide) ?_
        refine a_iadd K dX11_takes_70 ?_
        rw [nI_1]
        refine a_iald K (by exact lm_kk hM (by decide) (by decide)) (by show vp_in _ (sN S2 (m 11)); exact lm_ix (z := 10) hM (by decide) (by decide) (show j + 1 < 10 by omega) (by decide)) dX11_takes_71 ?_
        rw [nI_clamp (by omega)]
        rw [e11]
        refine a_iald K (by exact lm_kk hM (by decide) (by decide)) (by show vp_in _ (sN S2 (m 5)); exact lm_ix (z := 12000) hM (by decide) (by decide) (show ρ2 (remB w tk key h u c).1.1 < 12000 by omega) (by decide)) dX11_takes_72 ?_
        rw [nI_clamp (by omega)]
        rw [show sA S2 (m 5) (ρ2 (remB w tk key h u c).1.1) = nI (remB w tk key h u c).1.2.2.length from r2.own.2.2.1]
        first | refine a_aload_n K dX11_takes_73 rfl ?_ | refine a_aload_nN K dX11_takes_73 rfl ?_
        refine a_invV K (q_least hM hw2 hw6) my_X11_least ml_X11_232 im_X11_least se_X11_least (ci := 11) (by exact lm_o hM) (by decide) ⟨_, _, rfl⟩ rfl (by omega) (by omega) (by omega) rfl (Nat.le_of_ble_eq_true rfl) dX11_takes_74 ?_
        intro r9 S9 hp9
        obtain ⟨rfl, hS9⟩ := hp9
        obtain rfl := hS9.symm
        refine a_icmp_ge K dX11_takes_77 (tgt := 99) (by decide) (fun c_77 => absurd c_77 (nI_ge (by omega) (by omega))) (fun c_77 => ?_)
        first | refine a_aload_n K dX11_takes_80 rfl ?_ | refine a_aload_nN K dX11_takes_80 rfl ?_
        first | refine a_aload_n K dX11_takes_81 rfl ?_ | refine a_aload_nN K dX11_takes_81 rfl ?_
        refine a_getRs K fd_X11_49 (by exact lm_o hM) (Or.inr ⟨_, rfl⟩) (by exact lm_r727 hM) dX11_takes_82 ?_
        refine a_iload K dX11_takes_85 rfl ?_
        refine a_iald K (by exact lm_kk hM (by decide) (by decide)) (by show vp_in _ (sN S2 (m 11)); exact lm_ix (z := 10) hM (by decide) (by decide) (show j < 10 by omega) (by decide)) dX11_takes_87 ?_
        rw [nI_clamp (by omega)]
        rw [show sA S2 (m 11) j = nI (ρ2 t.1) from (congrFun w2.1 j).trans (wy.1.trans (congrArg nI (g2.2.1 _ (a.1 _ (ht _ (ndl_top t))).1).symm))]
        first | refine a_aload_n K dX11_takes_88 rfl ?_ | refine a_aload_nN K dX11_takes_88 rfl ?_
        refine a_getRs K fd_X11_52 (by exact lm_o hM) (Or.inr ⟨_, rfl⟩) (by exact lm_r728 hM) dX11_takes_89 ?_
        refine a_iload K dX11_takes_92 rfl ?_
        refine a_iald K (by exact lm_kk hM (by decide) (by decide)) (by show vp_in _ (sN S2 (m 12)); exact lm_ix (z := 10) hM (by decide) (by decide) (show j < 10 by omega) (by decide)) dX11_takes_94 ?_
        rw [nI_clamp (by omega)]
        rw [show sA S2 (m 12) j = nI ((kds t).take (place key (kds t))).reverse.length from (congrFun w2.2.1 j).trans (wy.2.1.trans (congrArg nI hAl.symm))]
        refine a_iload_n K dX11_takes_95 rfl ?_
        refine a_invV K (m_fills hM (T := nod t.1 t.2.1 ((kds t).set (place key (kds t)) (remB w tk key h u c).1)) (c := (remB w tk key h u c).1) (A := ((kds t).take (place key (kds t))).reverse) (B := (kds t).drop (place key (kds t) + 1)) (u := (remB w tk key h u c).2) (tk := tk) hw2 hw3 hw6 rT g2F.1 g2F.2.1 (by omega) a2 htT bT htk hT9 ow.1 (idc.2.trans owc.tk) (by rw [List.reverse_reverse]; exact set_split hp) hl hTw hTn (by show ((kds t).set (place key (kds t)) (remB w tk key h u c).1).length ≤ 6; rw [List.length_set]; omega)) my_X11_fills ml_X11_239 im_X11_fills se_X11_fills (ci := 11) (by exact lm_o hM) (by decide) ⟨_, _, rfl⟩ rfl (by omega) (by omega) (by omega) rfl (Nat.le_of_ble_eq_true rfl) dX11_takes_96 ?_
        intro r9 S4 hp9
        obtain ⟨ρ4, Z4, rfl, g4, r4, w4⟩ := hp9
        refine a_iinc K dX11_takes_99 (v := -1) rfl (by decide) (by decide) ?_
        refine a_goto K dX11_takes_102 (tgt := 54) (by decide) ?_
        have eR : remB w tk key (h + 1) u t = (nod t.1 t.2.1 (refZ w tk (remB w tk key h u c).2 ((kds t).take (place key (kds t))).reverse (remB w tk key h u c).1 ((kds t).drop (place key (kds t) + 1))).1, (refZ w tk (remB w tk key h u c).2 ((kds t).take (place key (kds t))).reverse (remB w tk key h u c).1 ((kds t).drop (place key (kds t) + 1))).2) := by
          rw [remB_lt hc (by rw [ho]; exact hl), ho]
        exact aw_locl rfl (done _ ρ4 Z4 S4 (Int32.sub_eq_add_neg ..).symm (by rw [eR]; exact (g2.mono sub).tr g4 (fun x hx _ => (gS.1.2.1 x hx).imp id (fun z => ⟨z.1, z.2.1⟩)) (fun x hx => (a.1 _ (ht x hx)).1)) (by rw [eR]; exact r4) (w2.tr w4))
      · refine a_iload K dX11_takes_54 rfl ?_
        refine a_if_lt K dX11_takes_56 (tgt := 105) (by decide) (fun c_56 => absurd c_56 (nI_pos (by omega))) (fun c_56 => ?_)
        first | refine a_aload_n K dX11_takes_59 rfl ?_ | refine a_aload_nN K dX11_takes_59 rfl ?_
        refine a_getRs K fd_X11_26 (by exact lm_o hM) (Or.inr ⟨_, rfl⟩) (by exact lm_r715 hM) dX11_takes_60 ?_
        first | refine a_aload_n K dX11_takes_63 rfl ?_ | refine a_aload_nN K dX11_takes_63 rfl ?_
        refine a_getRs K fd_X11_49 (by exact lm_o hM) (Or.inr ⟨_, rfl⟩) (by exact lm_r727 hM) dX11_takes_64 ?_
        refine a_iload K dX11_takes_67 rfl ?_
        refine a_iconst K dX11_takes_69 (v := 1) (by decide) ?_
        refine a_iadd K dX11_takes_70 ?_
        rw [nI_1]
        refine a_iald K (by exact lm_kk hM (by decide) (by decide)) (by show vp_in _ (sN S2 (m 11)); exact lm_ix (z := 10) hM (by decide) (by decide) (show j + 1 < 10 by omega) (by decide)) dX11_takes_71 ?_
        rw [nI_clamp (by omega)]
        rw [e11]
        refine a_iald K (by exact lm_kk hM (by decide) (by decide)) (by show vp_in _ (sN S2 (m 5)); exact lm_ix (z := 12000) hM (by decide) (by decide) (show ρ2 (remB w tk key h u c).1.1 < 12000 by omega) (by decide)) dX11_takes_72 ?_
        rw [nI_clamp (by omega)]
        rw [show sA S2 (m 5) (ρ2 (remB w tk key h u c).1.1) = nI (remB w tk key h u c).1.2.2.length from r2.own.2.2.1]
        first | refine a_aload_n K dX11_takes_73 rfl ?_ | refine a_aload_nN K dX11_takes_73 rfl ?_
        refine a_invV K (q_least hM hw2 hw6) my_X11_least ml_X11_232 im_X11_least se_X11_least (ci := 11) (by exact lm_o hM) (by decide) ⟨_, _, rfl⟩ rfl (by omega) (by omega) (by omega) rfl (Nat.le_of_ble_eq_true rfl) dX11_takes_74 ?_
        intro r9 S9 hp9
        obtain ⟨rfl, hS9⟩ := hp9
        obtain rfl := hS9.symm
        refine a_icmp_ge K dX11_takes_77 (tgt := 99) (by decide) (fun c_77 => ?_) (fun c_77 => absurd c_77 (fun z => z (nI_le (by omega) (by omega))))
        refine a_iinc K dX11_takes_99 (v := -1) rfl (by decide) (by decide) ?_
        refine a_goto K dX11_takes_102 (tgt := 54) (by decide) ?_
        have eR : remB w tk key (h + 1) u t = (nod t.1 t.2.1 ((kds t).set (place key (kds t)) (remB w tk key h u c).1), (remB w tk key h u c).2) := by
          rw [remB_ge hc (by rw [ho]; exact hl), ho, set_split hp]
        exact aw_locl rfl (done _ ρ2 Z2 S2 (Int32.sub_eq_add_neg ..).symm (by rw [eR]; exact g2.mono sub) (by rw [eR]; exact rT) w2)
  by_cases hv : val h0 t0 key = -1000000
  · first | refine a_aload_n K dX11_takes_0 rfl ?_ | refine a_aload_nN K dX11_takes_0 rfl ?_
    refine a_iload_n K dX11_takes_1 rfl ?_
    refine a_iload_n K dX11_takes_2 rfl ?_
    refine a_invV K (m_valueAt hM0 rp0 ne0 hs0 (key := key)) my_X11_valueAt ml_X11_218 im_X11_valueAt se_X11_valueAt (ci := 11) (by exact lm_o hM0) (by decide) ⟨_, _, rfl⟩ rfl (by omega) (by omega) (by omega) rfl (Nat.le_of_ble_eq_true rfl) dX11_takes_3 ?_
    intro r9 S9 hp9
    obtain ⟨rfl, hS9⟩ := hp9
    obtain rfl := hS9.symm
    refine a_ldc K kc_X11_170 dX11_takes_6 ?_
    refine a_icmp_ne K dX11_takes_8 (tgt := 13) (by decide) (fun c_8 => absurd c_8 (fun z => z hv)) (fun c_8 => ?_)
    refine a_iload_n K dX11_takes_11 rfl ?_
    exact a_iret K EE rfl (by omega) (by omega) dX11_takes_12 (by rw [hPO, show takT w tk u0 key ⟨h0, t0⟩ = (⟨h0, t0⟩, u0) from if_pos hv]; exact ⟨ρ0, Z0, rfl, GM.rf hF0 nd0, rp0⟩)
  first | refine a_aload_n K dX11_takes_0 rfl ?_ | refine a_aload_nN K dX11_takes_0 rfl ?_
  refine a_iload_n K dX11_takes_1 rfl ?_
  refine a_iload_n K dX11_takes_2 rfl ?_
  refine a_invV K (m_valueAt hM0 rp0 ne0 hs0 (key := key)) my_X11_valueAt ml_X11_218 im_X11_valueAt se_X11_valueAt (ci := 11) (by exact lm_o hM0) (by decide) ⟨_, _, rfl⟩ rfl (by omega) (by omega) (by omega) rfl (Nat.le_of_ble_eq_true rfl) dX11_takes_3 ?_
  intro r9 S9 hp9
  obtain ⟨rfl, hS9⟩ := hp9
  obtain rfl := hS9.symm
  refine a_ldc K kc_X11_170 dX11_takes_6 ?_
  refine a_icmp_ne K dX11_takes_8 (tgt := 13) (by decide) (fun c_8 => ?_) (fun c_8 => absurd c_8 (hv))
  first | refine a_aload_n K dX11_takes_13 rfl ?_ | refine a_aload_nN K dX11_takes_13 rfl ?_
  refine a_iload_n K dX11_takes_14 rfl ?_
  refine a_iload_n K dX11_takes_15 rfl ?_
  refine a_iload_n K dX11_takes_16 rfl ?_
  refine a_invV K (m_goesDown hM0 rp0 ne0 hF0 nd0 (tk := tk) (key := key) (by omega) a0 ht0 b0 htk ht9 h9) my_X11_goesDown ml_X11_221 im_X11_goesDown se_X11_goesDown (ci := 11) (by exact lm_o hM0) (by decide) ⟨_, _, rfl⟩ rfl (by omega) (by omega) (by omega) rfl (Nat.le_of_ble_eq_true rfl) dX11_takes_17 ?_
  intro r9 S9 hp9
  obtain ⟨ρ2, Z2, rfl, g1, r1, wy1, hl1⟩ := hp9
  refine a_istore K dX11_takes_20 (by decide) ?_
  have uD := dnT_mk (tk := tk) (key := key) h0 (edt tk u0 t0).2 (edt tk u0 t0).1
  have uE := edt_1 (tk := tk) (u := u0) (t := t0)
  have gr := (edt_gru (tk := tk) b0).tr (dnT_gru (tk := tk) (key := key) h0 ((edt_gru (tk := tk) b0).1.bd b0))
  have idT := dnT_id (tk := tk) (key := key) h0 (edt tk u0 t0).2 (edt tk u0 t0).1
  have owT := dnT_ow (key := key) h0 (edt tk u0 t0).2 (edt tk u0 t0).1 (edt_tk tk u0 t0)
  have neT := dnT_ne (tk := tk) (key := key) h0 (edt tk u0 t0).2 (edt tk u0 t0).1 (edt_ne ne0)
  have enT := (dnT_ent (tk := tk) (key := key) h0 (edt tk u0 t0).2 (edt tk u0 t0).1).trans (edt_ent tk u0 t0)
  have faT := dnT_fanL (tk := tk) (key := key) (lo := lea w) (hi := w) h0 (edt tk u0 t0).2 (edt tk u0 t0).1 (by rw [edt_it]; exact ro.2.1)
  have eIB := remB_dn (w := w) (tk := tk) (key := key) h0 (edt tk u0 t0).2 (edt tk u0 t0).1
  have leT : (dnT tk key h0 (edt tk u0 t0).2 (edt tk u0 t0).1).1.2.2.length = t0.2.2.length := by rw [idT.2.2, edt_it]
  have hpc := takT_cases (w := w) (tk := tk) (u := u0) (key := key) (z := ⟨h0, t0⟩)
  rw [eIB] at hpc
  have gF := g1.F
  have a1 := g1.al a0
  generalize dnT tk key h0 (edt tk u0 t0).2 (edt tk u0 t0).1 = D at *
  obtain ⟨T, U⟩ := D
  simp only at g1 r1 wy1 uD gr idT owT neT enT faT eIB leT gF a1 hpc
  have htT : ∀ x ∈ ndl h0 T, PN P0 u0 U x.1 := fun x hx => (gr.1.2.1 x hx).imp (ht0 x) (fun z => ⟨z.1, z.2.1⟩)
  have bT := gr.1.bd b0
  have okT9 : okT (lea w) w h0 T := ⟨faT, fun z => by rw [leT]; have h9 : 2 ≤ t0.2.2.length := ro.2.2.1 z; omega⟩
  have hL0 : ∀ x ∈ ndl h0 t0, x.1 < u0 := fun x hx => (a0.1 _ (ht0 x hx)).1
  have hLT : ∀ x ∈ ndl h0 T, x.2 = tk → x ∈ ndl h0 t0 ∨ (u0 ≤ x.1 ∧ x.1 < U) := fun x hx _ => (gr.1.2.1 x hx).imp id (fun z => ⟨z.1, z.2.1⟩)
  have hT9 : ∀ x ∈ ndl h0 T, x.2 < 2147483000 := fun x hx => by
    rcases gr.1.2.1 x hx with z | z
    · exact ht9 x z
    · rw [z.2.2]; exact htk
  rcases hpc with ⟨hv9, -⟩ | ⟨-, hpc⟩
  · exact absurd hv9 hv
  have hs9 : srt (ent h0 T) := by rw [enT]; exact hs0
  have hvT : ¬ val h0 T key = -1000000 := by
    rw [val_ent hlea h0 okT9 hs9, enT, ← val_ent hlea h0 ro.ok hs0]
    exact hv
  refine aw_locl rfl (loop h0 S9 ρ2 U Z2 (PN P0 u0 U) (g1.lay hM0) gF.1 gF.2.1 (by omega) a1 hl1 h9 (g1.wid.trans hw0) (nI (ρ2 T.1)) h0 T 0 r1 neT hs9 htT bT hT9 owT wy1 okT9 (by rw [leT]; exact ro.1) (fun z => by rw [leT]; exact ro.2.2.1 z) (Nat.zero_add _) hvT (fun x ρ3 Z3 S3 hx g3 r3 w3 => ?_))
  subst hx
  obtain ⟨idR, -⟩ := remB_gru (w := w) (tk := tk) (key := key) h0 (u := U) (t := T) bT
  have fR := remB_fan (w := w) (tk := tk) (key := key) hw3 h0 (u := U) (t := T) okT9 (by rw [leT]; exact ro.1) (fun z => by rw [leT]; exact ro.2.2.1 z)
  have hM := g3.lay (g1.lay hM0)
  have er : ρ2 T.1 = ρ3 (remB w tk key h0 U T).1.1 := by rw [idR.1, g3.2.1 _ (a1.1 _ (htT _ (ndl_top T))).1]
  refine a_iload K dX11_takes_54 rfl ?_
  refine a_if_lt K dX11_takes_56 (tgt := 105) (by decide) (fun c_56 => ?_) (fun c_56 => absurd c_56 (fun z => z (by decide)))
  rw [er]
  exact aw_locl rfl (fin2 ⟨h0, (remB w tk key h0 U T).1⟩ ρ3 S3 hM r3 fR.1 (fun r9 => by rw [hPO, hpc]; exact ⟨ρ3, Z3, rfl, g1.tr g3 hLT hL0, r9⟩))
