/-! the model: a builder's puts with the room left; inc -/
theorem TS.own {S S2 : aw_S} {m ρ ρ2 : Nat → Nat} {u u2 : Nat} {Z Z2 : List Nat × Nat} {tk : Nat} {L0 : List (Nat × Nat)} {z : Tz} (ts : TS S S2 m ρ ρ2 u u2 Z Z2 tk L0 z) (hM : LM S m) {j : Nat} {x : Int32} : sA (wA S2 (m 20) j x) (m 28) = sA S (m 28) := by
  have f := ts.1.2.2.2.2.2.2.2.2.2.1
  have f2 : frM S2 (wA S2 (m 20) j x) m [20] [] := frM_wA (by decide)
  exact (f2.A (f.lay hM) (by decide) (by decide) (by decide)).trans (f.A hM (by decide) (by decide) (by decide))
/-- entries added, one behind the other -/
def adL (w t : Nat) (d : Int32) : List Int32 → Tz × Nat → Tz × Nat
  | [], s => s
  | k :: l, s => adL w t d l (putT w t s.2 k (addV (ent s.1.1 s.1.2) k d) s.1)
theorem adL_at {w t : Nat} {d : Int32} {l : List Int32} {i : Nat} (hi : i < l.length) (s : Tz × Nat) : adL w t d (l.drop i) s = adL w t d (l.drop (i + 1)) (putT w t s.2 l[i] (addV (ent s.1.1 s.1.2) l[i] d) s.1) := by rw [List.drop_eq_getElem_cons hi, adL]
theorem addV_has {E : List KV} {k d : Int32} (h : ¬ valIn E k = -1000000) : addV E k d = hldW (valIn E k + d) := by
  unfold addV
  exact if_neg h
theorem raiE_ad {w tk t : Nat} {a b d : Int32} (hw : 3 ≤ w) (ht : t < tk) : ∀ (E : List KV) (s : Tz × Nat), tok w s.2 tk s.1 → srt E → (∀ x ∈ E, okE x ∧ valIn (ent s.1.1 s.1.2) x.1 = x.2) → raiE w t a b d E s = adL w t d (selK (inB a b true) E) s
  | [], _, _, _, _ => rfl
  | x :: l, s, h, hs, hx => by
    have hgt : ∀ y ∈ l, x.1 < y.1 := (List.pairwise_cons.mp hs).1
    rw [raiE]
    by_cases c : x.1 < a ∨ b < x.1
    · have e : inB a b true x = false := by
        unfold inB
        have h9 : ¬ (a.toInt ≤ x.1.toInt ∧ x.1.toInt ≤ b.toInt) := fun z => c.elim (fun y => by have := i32_lt.mp y; omega) (fun y => by have := i32_lt.mp y; omega)
        rw [decide_eq_false h9]; rfl
      rw [if_pos c, raiE_ad hw ht l s h (List.pairwise_cons.mp hs).2 (fun y hy => hx y (List.mem_cons_of_mem _ hy))]
      unfold selK
      rw [List.filter_cons_of_neg (by rw [e]; decide)]
    · have e : inB a b true x = true := by
        unfold inB
        have h9 : a.toInt ≤ x.1.toInt ∧ x.1.toInt ≤ b.toInt := ⟨Int.not_lt.mp (fun z => c (Or.inl (i32_lt.mpr z))), Int.not_lt.mp (fun z => c (Or.inr (i32_lt.mpr z)))⟩
        rw [decide_eq_true h9]; rfl
      obtain ⟨h1, h2⟩ := hx x List.mem_cons_self
      have hne : ¬ valIn (ent s.1.1 s.1.2) x.1 = -1000000 := by
        rw [h2]
        exact okV.ne h1.2
      have hv : addV (ent s.1.1 s.1.2) x.1 d = hldW (x.2 + d) := by rw [addV_has hne, h2]
      have st := stp_put (k := x.1) (v := hldW (x.2 + d)) hw h ht ⟨h1.1, hldW_ok _⟩ hne
      rw [if_neg c, raiE_ad hw ht l _ st.1 (List.pairwise_cons.mp hs).2 (fun y hy => ⟨(hx y (List.mem_cons_of_mem _ hy)).1, by
        rw [putT_ent hw h.1 (hldW_ok _).ne, valIn_setE _ _ _ h.1.2.2.2.1, if_neg (fun q => absurd (hgt y hy) (by rw [q]; exact fun z => Int32.lt_irrefl z))]
        exact (hx y (List.mem_cons_of_mem _ hy)).2⟩)]
      unfold selK
      rw [List.filter_cons_of_pos e, List.map_cons, adL, hv]
theorem keyIn_sel {p : KV → Bool} {E : List KV} {k : Int32} (h : k ∈ selK p E) : ∃ x ∈ E, x.1 = k := by
  obtain ⟨x, hx, e⟩ := List.mem_map.mp h
  exact ⟨x, (List.mem_filter.mp hx).1, e⟩
set_option maxHeartbeats 4000000 in
set_option maxRecDepth 100000 in
theorem q_bPutsR {S : aw_S} {m ρ : Nat → Nat} {Z : List Nat × Nat} {mb : Nat} {P : PS} (h : RM S m ρ Z mb P) (hP : PI P) {j : Nat} {b : BI} (hb : pB P j = some b) (hj : j < 4) (hrm : 100 ≤ rmM Z) {k v : Int32} : aw_M yX11_builderPuts cX11_builderPuts 4 (none : Option FieldType) 7 0 0 [.ref (m 33), .int (nI j), .int k, .int v] S (fun r S2 => ∃ ρ3 Z3, r = none ∧ RM S2 m ρ3 Z3 mb (setT P j (putT (pW P) b.2.1 (pU P) k v b.1) b.2.1 b.2.2) ∧ frS S S2 (mQ m) ∧ sA S2 (m 28) = sA S (m 28) ∧ rmM Z3 + ((putT (pW P) b.2.1 (pU P) k v b.1).2 - pU P) = rmM Z) := by
  have hM := h.1
  have hw3 := hP.1.1
  have hw6 := hP.1.2
  have hbl := bui_live hj hb
  have tz := hP.tz hbl
  have h4z := tz.h4 hw3
  have e60z := tz.2.2.1
  have ne : NeT b.1.1 b.1.2 := NeT_fan (show 1 ≤ lea (pW P) by unfold lea; omega) b.1.1 tz.1.ok
  refine aw_enter (by decide +kernel) (Nat.le_of_ble_eq_true rfl) (fun g K EE => ?_)
  first | refine a_aload_n K dX11_builderPuts_0 rfl ?_ | refine a_aload_nN K dX11_builderPuts_0 rfl ?_
  refine a_getRs K fd_X11_76 (by exact lm_o hM) (Or.inr ⟨_, rfl⟩) (by exact lm_r739 hM) dX11_builderPuts_1 ?_
  refine a_iload_n K dX11_builderPuts_4 rfl ?_
  first | refine a_aload_n K dX11_builderPuts_5 rfl ?_ | refine a_aload_nN K dX11_builderPuts_5 rfl ?_
  first | refine a_aload_n K dX11_builderPuts_6 rfl ?_ | refine a_aload_nN K dX11_builderPuts_6 rfl ?_
  refine a_getRs K fd_X11_76 (by exact lm_o hM) (Or.inr ⟨_, rfl⟩) (by exact lm_r739 hM) dX11_builderPuts_7 ?_
  refine a_iload_n K dX11_builderPuts_10 rfl ?_
  refine a_iald K (by exact lm_kk hM (by decide) (by decide)) (by show vp_in _ (sN S (m 20)); exact lm_ix (z := 4) hM (by decide) (by decide) (show j < 4 by omega) (by decide)) dX11_builderPuts_11 ?_
  rw [nI_clamp (by omega)]
  rw [(h.bro hj hb).1]
  refine a_iload_n K dX11_builderPuts_12 rfl ?_
  refine a_iload_n K dX11_builderPuts_13 rfl ?_
  first | refine a_aload_n K dX11_builderPuts_14 rfl ?_ | refine a_aload_nN K dX11_builderPuts_14 rfl ?_
  refine a_getRs K fd_X11_79 (by exact lm_o hM) (Or.inr ⟨_, rfl⟩) (by exact lm_r740 hM) dX11_builderPuts_15 ?_
  refine a_iload_n K dX11_builderPuts_18 rfl ?_
  refine a_iald K (by exact lm_kk hM (by decide) (by decide)) (by show vp_in _ (sN S (m 21)); exact lm_ix (z := 4) hM (by decide) (by decide) (show j < 4 by omega) (by decide)) dX11_builderPuts_19 ?_
  rw [nI_clamp (by omega)]
  rw [(h.bro hj hb).2.1]
  refine a_invV K ((TS.rf (tk := b.2.1) h.N.1 h.N.2.1 (h.rep hbl)).put (key := k) (v := v) h.1 h.N.2.2.1 (live_in hbl) (tok.tk9 hP tz).1 (by have h5 := (hP.2.2.1 j b hb).2.2.1; have h6 := hP.2.2.2; omega) h.wid hw3 hw6 tz.1 tz.2.2.2.1 (by omega) (by omega)) my_X11_puts ml_X11_298 im_X11_puts se_X11_puts (ci := 11) (by exact lm_o hM) (by decide) ⟨_, _, rfl⟩ rfl (by omega) (by omega) (by omega) rfl (Nat.le_of_ble_eq_true rfl) dX11_builderPuts_20 ?_
  intro r9 W2 hp9
  obtain ⟨ρ3, Z3, rfl, ts3⟩ := hp9
  obtain ⟨hF, qF⟩ := RM_bset h hP hb hj ts3
  have hM := ts3.1.lay h.1
  refine a_iast K (by exact lm_kk hM (by decide) (by decide)) (by show vp_in _ (sN W2 (m 20)); exact lm_ix (z := 4) hM (by decide) (by decide) (show j < 4 by omega) (by decide)) dX11_builderPuts_23 ?_
  rw [nI_clamp (by omega)]
  exact a_vret K EE (by omega) (by omega) dX11_builderPuts_24 ⟨ρ3, Z3, rfl, hF, qF, ts3.own h.1, ts3.1.F.2.2.1⟩
set_option maxHeartbeats 4000000 in
set_option maxRecDepth 100000 in
theorem q_bAddsR {S : aw_S} {m ρ : Nat → Nat} {Z : List Nat × Nat} {mb : Nat} {P : PS} (h : RM S m ρ Z mb P) (hP : PI P) {j : Nat} {b : BI} (hb : pB P j = some b) (hj : j < 4) (hrm : 100 ≤ rmM Z) {k v : Int32} : aw_M yX11_builderAdds cX11_builderAdds 5 (none : Option FieldType) 8 0 0 [.ref (m 33), .int (nI j), .int k, .int v] S (fun r S2 => ∃ ρ3 Z3, r = none ∧ RM S2 m ρ3 Z3 mb (setT P j (putT (pW P) b.2.1 (pU P) k (addV (ent b.1.1 b.1.2) k v) b.1) b.2.1 b.2.2) ∧ frS S S2 (mQ m) ∧ sA S2 (m 28) = sA S (m 28) ∧ rmM Z3 + ((putT (pW P) b.2.1 (pU P) k (addV (ent b.1.1 b.1.2) k v) b.1).2 - pU P) = rmM Z) := by
  have hM := h.1
  have hw3 := hP.1.1
  have hw6 := hP.1.2
  have hbl := bui_live hj hb
  have tz := hP.tz hbl
  have h4z := tz.h4 hw3
  have e60z := tz.2.2.1
  have ne : NeT b.1.1 b.1.2 := NeT_fan (show 1 ≤ lea (pW P) by unfold lea; omega) b.1.1 tz.1.ok
  refine aw_enter (by decide +kernel) (Nat.le_of_ble_eq_true rfl) (fun g K EE => ?_)
  by_cases hv : valIn (ent b.1.1 b.1.2) k = -1000000
  · first | refine a_aload_n K dX11_builderAdds_0 rfl ?_ | refine a_aload_nN K dX11_builderAdds_0 rfl ?_
    first | refine a_aload_n K dX11_builderAdds_1 rfl ?_ | refine a_aload_nN K dX11_builderAdds_1 rfl ?_
    refine a_getRs K fd_X11_76 (by exact lm_o hM) (Or.inr ⟨_, rfl⟩) (by exact lm_r739 hM) dX11_builderAdds_2 ?_
    refine a_iload_n K dX11_builderAdds_5 rfl ?_
    refine a_iald K (by exact lm_kk hM (by decide) (by decide)) (by show vp_in _ (sN S (m 20)); exact lm_ix (z := 4) hM (by decide) (by decide) (show j < 4 by omega) (by decide)) dX11_builderAdds_6 ?_
    rw [nI_clamp (by omega)]
    rw [(h.bro hj hb).1]
    refine a_iload_n K dX11_builderAdds_7 rfl ?_
    refine a_invV K (m_valueAt hM (h.rep hbl) ne tz.hs) my_X11_valueAt ml_X11_218 im_X11_valueAt se_X11_valueAt (ci := 11) (by exact lm_o hM) (by decide) ⟨_, _, rfl⟩ rfl (by omega) (by omega) (by omega) rfl (Nat.le_of_ble_eq_true rfl) dX11_builderAdds_8 ?_
    intro r8 S8 hp8
    obtain ⟨rfl, hS8⟩ := hp8
    obtain rfl := hS8.symm
    rw [tz.1.val hw3]
    refine a_istore K dX11_builderAdds_11 (by decide) ?_
    first | refine a_aload_n K dX11_builderAdds_13 rfl ?_ | refine a_aload_nN K dX11_builderAdds_13 rfl ?_
    refine a_iload_n K dX11_builderAdds_14 rfl ?_
    refine a_iload_n K dX11_builderAdds_15 rfl ?_
    refine a_iload K dX11_builderAdds_16 rfl ?_
    refine a_ldc K kc_X11_170 dX11_builderAdds_18 ?_
    refine a_icmp_ne K dX11_builderAdds_20 (tgt := 27) (by decide) (fun c_20 => absurd c_20 (fun q => q hv)) (fun c_20 => ?_)
    refine a_iload_n K dX11_builderAdds_23 rfl ?_
    refine a_goto K dX11_builderAdds_24 (tgt := 34) (by decide) ?_
    refine a_invV K (q_bPutsR h hP hb hj hrm) my_X11_builderPuts ml_X11_384 im_X11_builderPuts se_X11_builderPuts (ci := 11) (by exact lm_o hM) (by decide) ⟨_, _, rfl⟩ rfl (by omega) (by omega) (by omega) rfl (Nat.le_of_ble_eq_true rfl) dX11_builderAdds_34 ?_
    intro r9 W2 hp9
    obtain ⟨ρ3, Z3, rfl, hF, qF, o3, r3⟩ := hp9
    exact a_vret K EE (by omega) (by omega) dX11_builderAdds_37 ⟨ρ3, Z3, rfl, by rw [show addV (ent b.1.1 b.1.2) k v = v from by unfold addV; exact if_pos hv]; exact hF, qF, o3, by rw [show addV (ent b.1.1 b.1.2) k v = v from by unfold addV; exact if_pos hv]; exact r3⟩
  · first | refine a_aload_n K dX11_builderAdds_0 rfl ?_ | refine a_aload_nN K dX11_builderAdds_0 rfl ?_
    first | refine a_aload_n K dX11_builderAdds_1 rfl ?_ | refine a_aload_nN K dX11_builderAdds_1 rfl ?_
    refine a_getRs K fd_X11_76 (by exact lm_o hM) (Or.inr ⟨_, rfl⟩) (by exact lm_r739 hM) dX11_builderAdds_2 ?_
    refine a_iload_n K dX11_builderAdds_5 rfl ?_
    refine a_iald K (by exact lm_kk hM (by decide) (by decide)) (by show vp_in _ (sN S (m 20)); exact lm_ix (z := 4) hM (by decide) (by decide) (show j < 4 by omega) (by decide)) dX11_builderAdds_6 ?_
    rw [nI_clamp (by omega)]
    rw [(h.bro hj hb).1]
    refine a_iload_n K dX11_builderAdds_7 rfl ?_
    refine a_invV K (m_valueAt hM (h.rep hbl) ne tz.hs) my_X11_valueAt ml_X11_218 im_X11_valueAt se_X11_valueAt (ci := 11) (by exact lm_o hM) (by decide) ⟨_, _, rfl⟩ rfl (by omega) (by omega) (by omega) rfl (Nat.le_of_ble_eq_true rfl) dX11_builderAdds_8 ?_
    intro r8 S8 hp8
    obtain ⟨rfl, hS8⟩ := hp8
    obtain rfl := hS8.symm
    rw [tz.1.val hw3]
    refine a_istore K dX11_builderAdds_11 (by decide) ?_
    first | refine a_aload_n K dX11_builderAdds_13 rfl ?_ | refine a_aload_nN K dX11_builderAdds_13 rfl ?_
    refine a_iload_n K dX11_builderAdds_14 rfl ?_
    refine a_iload_n K dX11_builderAdds_15 rfl ?_
    refine a_iload K dX11_builderAdds_16 rfl ?_
    refine a_ldc K kc_X11_170 dX11_builderAdds_18 ?_
    refine a_icmp_ne K dX11_builderAdds_20 (tgt := 27) (by decide) (fun c_20 => ?_) (fun c_20 => absurd c_20 (hv))
    refine a_iload K dX11_builderAdds_27 rfl ?_
    refine a_iload_n K dX11_builderAdds_29 rfl ?_
    refine a_iadd K dX11_builderAdds_30 ?_
    refine a_invS K (q_held) my_X11_held ml_X11_348 st_X11_held rfl (by omega) (by omega) (by omega) rfl (Nat.le_of_ble_eq_true rfl) dX11_builderAdds_31 ?_
    intro r9 S9 hp9
    obtain ⟨rfl, hS9⟩ := hp9
    obtain rfl := hS9.symm
    refine a_invV K (q_bPutsR h hP hb hj hrm) my_X11_builderPuts ml_X11_384 im_X11_builderPuts se_X11_builderPuts (ci := 11) (by exact lm_o hM) (by decide) ⟨_, _, rfl⟩ rfl (by omega) (by omega) (by omega) rfl (Nat.le_of_ble_eq_true rfl) dX11_builderAdds_34 ?_
    intro r9 W2 hp9
    obtain ⟨ρ3, Z3, rfl, hF, qF, o3, r3⟩ := hp9
    exact a_vret K EE (by omega) (by omega) dX11_builderAdds_37 ⟨ρ3, Z3, rfl, by rw [addV_has hv]; exact hF, qF, o3, by rw [addV_has hv]; exact r3⟩
set_option maxHeartbeats 4000000 in
set_option maxRecDepth 100000 in
theorem q_bIncs {S : aw_S} {m ρ : Nat → Nat} {Z : List Nat × Nat} {mb : Nat} {P : PS} (h : RM S m ρ Z mb P) (hP : PI P) {j : Nat} {b : BI} (hb : pB P j = some b) (hj : j < 4) (hrm : 200 ≤ rmM Z) {a c d : Int32} : aw_M yX11_builderIncs cX11_builderIncs 7 (none : Option FieldType) 9 0 0 [.ref (m 33), .int (nI j), .int a, .int c, .int d] S (fun r S2 => ∃ ρ3 Z3, r = none ∧ RM S2 m ρ3 Z3 mb (setT P j (raiE (pW P) b.2.1 a c d (ent b.1.1 b.1.2) (b.1, pU P)) b.2.1 b.2.2) ∧ frS S S2 (mQ m) ∧ rmM Z3 + ((raiE (pW P) b.2.1 a c d (ent b.1.1 b.1.2) (b.1, pU P)).2 - pU P) = rmM Z) := by
  have hM := h.1
  have hw3 := hP.1.1
  have hw6 := hP.1.2
  have hbl := bui_live hj hb
  have tz := hP.tz hbl
  have h4z := tz.h4 hw3
  have e60z := tz.2.2.1
  have ne : NeT b.1.1 b.1.2 := NeT_fan (show 1 ≤ lea (pW P) by unfold lea; omega) b.1.1 tz.1.ok
  have htk := (hP.2.2.1 j b hb).2.2.1
  have hV0 := ent_has tz.hs tz.1.2.2.2.2
  have hRA : (raiE (pW P) b.2.1 a c d (ent b.1.1 b.1.2) (b.1, pU P)) = adL (pW P) b.2.1 d (selK (inB a c true) (ent b.1.1 b.1.2)) (b.1, pU P) := raiE_ad hw3 htk (ent b.1.1 b.1.2) (b.1, pU P) tz tz.hs (fun x hx => ⟨tz.2.1 x hx, valIn_mem tz.hs hx⟩)
  obtain ⟨R, hRR⟩ : ∃ R, adL (pW P) b.2.1 d (selK (inB a c true) (ent b.1.1 b.1.2)) (b.1, pU P) = R := ⟨_, rfl⟩
  rw [hRA, hRR]
  refine aw_enter (by decide +kernel) (Nat.le_of_ble_eq_true rfl) (fun g K EE => ?_)
  first | refine a_aload_n K dX11_builderIncs_0 rfl ?_ | refine a_aload_nN K dX11_builderIncs_0 rfl ?_
  first | refine a_aload_n K dX11_builderIncs_1 rfl ?_ | refine a_aload_nN K dX11_builderIncs_1 rfl ?_
  refine a_getRs K fd_X11_76 (by exact lm_o hM) (Or.inr ⟨_, rfl⟩) (by exact lm_r739 hM) dX11_builderIncs_2 ?_
  refine a_iload_n K dX11_builderIncs_5 rfl ?_
  refine a_iald K (by exact lm_kk hM (by decide) (by decide)) (by show vp_in _ (sN S (m 20)); exact lm_ix (z := 4) hM (by decide) (by decide) (show j < 4 by omega) (by decide)) dX11_builderIncs_6 ?_
  rw [nI_clamp (by omega)]
  rw [(h.bro hj hb).1]
  refine a_invV K (m_laysTree hM (h.rep hbl) (by omega) (by omega) (by omega)) my_X11_laysTree ml_X11_252 im_X11_laysTree se_X11_laysTree (ci := 11) (by exact lm_o hM) (by decide) ⟨_, _, rfl⟩ rfl (by omega) (by omega) (by omega) rfl (Nat.le_of_ble_eq_true rfl) dX11_builderIncs_7 ?_
  intro r9 T hp9
  obtain ⟨rfl, hLy, f9⟩ := hp9
  have hM0 := hM
  have hM := f9.lay hM0
  refine a_iconst K dX11_builderIncs_10 (v := 0) (by decide) ?_
  refine a_istore K dX11_builderIncs_11 (by decide) ?_
  refine a_iconst K dX11_builderIncs_13 (v := 0) (by decide) ?_
  refine a_istore K dX11_builderIncs_14 (by decide) ?_
  have hMT := hM
  have loop1 : ∀ (n i : Nat) (x y : Int32) (V : aw_S), x = nI i → y = nI (selK (inB a c true) ((ent b.1.1 b.1.2).take i)).length → i + n = (ent b.1.1 b.1.2).length → LM V m → frM T V m [28] [] → (∀ k y, (selK (inB a c true) ((ent b.1.1 b.1.2).take i))[k]? = some y → sA V (m 28) k = y) → aw g 7 V 0 0 [(6, .int x), (5, .int y), (4, .int d), (3, .int c), (2, .int a), (1, .int (nI j)), (0, .ref (m 33))] [] 16 := by
    intro n
    induction n with
    | zero =>
      intro i x y V hx hy hn hM f2 hrow
      subst hx
      subst hy
      refine a_iload K dX11_builderIncs_16 rfl ?_
      first | refine a_aload_n K dX11_builderIncs_18 rfl ?_ | refine a_aload_nN K dX11_builderIncs_18 rfl ?_
      refine a_getI K fd_X11_249 (by exact lm_o hM) (Or.inl rfl) dX11_builderIncs_19 ?_
      rw [show sI V 734 (m 33) = nI (ent b.1.1 b.1.2).length from (f2.2 734 (by decide)).trans hLy.1]
      refine a_icmp_ge K dX11_builderIncs_22 (tgt := 69) (by decide) (fun c_22 => ?_) (fun c_22 => absurd c_22 (fun q => q (nI_le (a := (ent b.1.1 b.1.2).length) (b := i) (by omega) (by omega))))
      refine a_iconst K dX11_builderIncs_69 (v := 0) (by decide) ?_
      refine a_istore K dX11_builderIncs_70 (by decide) ?_
      rw [show i = (ent b.1.1 b.1.2).length by omega, List.take_length] at hrow
      have hce : (selK (inB a c true) ((ent b.1.1 b.1.2).take i)).length = (selK (inB a c true) (ent b.1.1 b.1.2)).length := by rw [show i = (ent b.1.1 b.1.2).length by omega, List.take_length]
      have hl60 := selK_len (p := inB a c true) (ent b.1.1 b.1.2)
      have fV : frM S V m [13, 14, 15, 16, 28] [734, 735] := (f9.up (by decide) (by decide)).tr (f2.up (by decide) (by decide))
      obtain ⟨hV9, qV9⟩ := h.scr hP fV (by decide) (by decide)
      rw [hce]
      have loop2 : ∀ (n i : Nat) (x : Int32) (s : Tz × Nat) (W : aw_S) (ρ2 : Nat → Nat) (Z2 : List Nat × Nat), x = nI i → i + n = (selK (inB a c true) (ent b.1.1 b.1.2)).length → RM W m ρ2 Z2 mb (setT P j s b.2.1 b.2.2) → frS S W (mQ m) → sA W (m 28) = sA V (m 28) → rmM Z2 + (s.2 - pU P) = rmM Z → stp (pW P) (pTk P) b.2.1 (b.1, pU P) s → (∀ k ∈ (selK (inB a c true) (ent b.1.1 b.1.2)).drop i, (∃ n, n < 1000 ∧ k = nI n) ∧ ¬ valIn (ent s.1.1 s.1.2) k = -1000000) → adL (pW P) b.2.1 d ((selK (inB a c true) (ent b.1.1 b.1.2)).drop i) s = R → aw g 7 W 0 0 [(6, .int x), (5, .int (nI (selK (inB a c true) (ent b.1.1 b.1.2)).length)), (4, .int d), (3, .int c), (2, .int a), (1, .int (nI j)), (0, .ref (m 33))] [] 72 := by
        intro n
        induction n with
        | zero =>
          intro i x s W ρ2 Z2 hx hn hW qW o28 hrW sp hV hR
          subst hx
          rw [show i = (selK (inB a c true) (ent b.1.1 b.1.2)).length by omega, List.drop_length] at hR
          have hR : s = R := hR
          have hM := hW.1
          have hle := sp.le hw3 tz
          have hle : s.2 ≤ pU P + 61 := hle
          have hPs : PI (setT P j s b.2.1 b.2.2) := hP.bset hb sp.1 sp.2.1 sp.2.2.2
          refine a_iload K dX11_builderIncs_72 rfl ?_
          refine a_iload K dX11_builderIncs_74 rfl ?_
          refine a_icmp_ge K dX11_builderIncs_76 (tgt := 99) (by decide) (fun c_76 => ?_) (fun c_76 => absurd c_76 (fun q => q (nI_le (by omega) (by omega))))
          exact a_vret K EE (by omega) (by omega) dX11_builderIncs_99 ⟨ρ2, Z2, rfl, by rw [← hR]; exact hW, qW, by rw [← hR]; exact hrW⟩
        | succ n ih =>
          intro i x s W ρ2 Z2 hx hn hW qW o28 hrW sp hV hR
          subst hx
          have hM := hW.1
          have hle := sp.le hw3 tz
          have hle : s.2 ≤ pU P + 61 := hle
          have hPs : PI (setT P j s b.2.1 b.2.2) := hP.bset hb sp.1 sp.2.1 sp.2.2.2
          have hi : i < (selK (inB a c true) (ent b.1.1 b.1.2)).length := by omega
          have hq := hV (selK (inB a c true) (ent b.1.1 b.1.2))[i] (by rw [List.drop_eq_getElem_cons hi]; exact List.mem_cons_self)
          have hok : okE ((selK (inB a c true) (ent b.1.1 b.1.2))[i], addV (ent s.1.1 s.1.2) (selK (inB a c true) (ent b.1.1 b.1.2))[i] d) := ⟨hq.1, by rw [addV_has hq.2]; exact hldW_ok _⟩
          have st3 : stp (pW P) (pTk P) b.2.1 s (putT (pW P) b.2.1 s.2 (selK (inB a c true) (ent b.1.1 b.1.2))[i] (addV (ent s.1.1 s.1.2) (selK (inB a c true) (ent b.1.1 b.1.2))[i] d) s.1) := stp_put hw3 sp.1 htk hok hq.2
          refine a_iload K dX11_builderIncs_72 rfl ?_
          refine a_iload K dX11_builderIncs_74 rfl ?_
          refine a_icmp_ge K dX11_builderIncs_76 (tgt := 99) (by decide) (fun c_76 => absurd c_76 (nI_ge (by omega) (by omega))) (fun c_76 => ?_)
          first | refine a_aload_n K dX11_builderIncs_79 rfl ?_ | refine a_aload_nN K dX11_builderIncs_79 rfl ?_
          refine a_iload_n K dX11_builderIncs_80 rfl ?_
          first | refine a_aload_n K dX11_builderIncs_81 rfl ?_ | refine a_aload_nN K dX11_builderIncs_81 rfl ?_
          refine a_getRs K fd_X11_101 (by exact lm_o hM) (Or.inr ⟨_, rfl⟩) (by exact lm_r751 hM) dX11_builderIncs_82 ?_
          refine a_iload K dX11_builderIncs_85 rfl ?_
          refine a_iald K (by exact lm_kk hM (by decide) (by decide)) (by show vp_in _ (sN W (m 28)); exact lm_ix (z := 60) hM (by decide) (by decide) (show i < 60 by omega) (by decide)) dX11_builderIncs_87 ?_
          rw [nI_clamp (by omega)]
          rw [show sA W (m 28) i = (selK (inB a c true) (ent b.1.1 b.1.2))[i] from (congrFun o28 i).trans (hrow i _ (List.getElem?_eq_getElem hi))]
          refine a_iload K dX11_builderIncs_88 rfl ?_
          refine a_invV K (q_bAddsR hW hPs setT_B hj (by omega)) my_X11_builderAdds ml_X11_387 im_X11_builderAdds se_X11_builderAdds (ci := 11) (by exact lm_o hM) (by decide) ⟨_, _, rfl⟩ rfl (by omega) (by omega) (by omega) rfl (Nat.le_of_ble_eq_true rfl) dX11_builderIncs_90 ?_
          intro r9 W2 hp9
          obtain ⟨ρ3, Z3, rfl, hF, qF, o3, r3⟩ := hp9
          refine a_iinc K dX11_builderIncs_93 (v := 1) rfl (by decide) (by decide) ?_
          refine a_goto K dX11_builderIncs_96 (tgt := 72) (by decide) ?_
          exact aw_locl rfl (ih (i + 1) _ (putT (pW P) b.2.1 s.2 (selK (inB a c true) (ent b.1.1 b.1.2))[i] (addV (ent s.1.1 s.1.2) (selK (inB a c true) (ent b.1.1 b.1.2))[i] d) s.1) W2 ρ3 Z3 (nI_1 i) (by omega) (by rw [← setT_setT (P := P) (j := j) (t := b.2.1) (f := b.2.2) sp.2.1 st3.2.1]; exact hF) (mQ_tr qW qF) (o3.trans o28) (by have r3 : rmM Z3 + ((putT (pW P) b.2.1 s.2 (selK (inB a c true) (ent b.1.1 b.1.2))[i] (addV (ent s.1.1 s.1.2) (selK (inB a c true) (ent b.1.1 b.1.2))[i] d) s.1).2 - s.2) = rmM Z2 := r3; have q1 := st3.2.1; have q2 := sp.2.1; omega) (sp.tr st3) (fun k hk => ⟨(hV k (by rw [List.drop_eq_getElem_cons hi]; exact List.mem_cons_of_mem _ hk)).1, put_has hw3 sp.1.1 hok.2 (hV k (by rw [List.drop_eq_getElem_cons hi]; exact List.mem_cons_of_mem _ hk)).2⟩) (by rw [adL_at hi] at hR; exact hR))
      exact aw_locl rfl (loop2 (selK (inB a c true) (ent b.1.1 b.1.2)).length 0 _ (b.1, pU P) V ρ Z nI_0.symm (Nat.zero_add _) (by rw [show setT P j (b.1, pU P) b.2.1 b.2.2 = P from setT_self hb]; exact hV9) qV9 rfl (by show rmM Z + (pU P - pU P) = _; omega) (stp.rf tz) (fun k hk => by obtain ⟨x, hx, e⟩ := keyIn_sel hk; rw [← e]; exact ⟨(tz.2.1 x hx).1, hV0 x hx⟩) hRR)
    | succ n ih =>
      intro i x y V hx hy hn hM f2 hrow
      subst hx
      subst hy
      have hi : i < (ent b.1.1 b.1.2).length := by omega
      have hx := List.getElem?_eq_getElem hi
      have e13 : sA V (m 13) = sA T (m 13) := f2.A hMT (by decide) (by decide) (by decide)
      have hsl : (selK (inB a c true) ((ent b.1.1 b.1.2).take i)).length ≤ i := Nat.le_trans (selK_len _) (by rw [List.length_take]; omega)
      by_cases hc : a.toInt ≤ (ent b.1.1 b.1.2)[i].1.toInt ∧ (ent b.1.1 b.1.2)[i].1.toInt ≤ c.toInt
      · have hpx : inB a c true (ent b.1.1 b.1.2)[i] = true := by unfold inB; rw [decide_eq_true hc]; decide
        refine a_iload K dX11_builderIncs_16 rfl ?_
        first | refine a_aload_n K dX11_builderIncs_18 rfl ?_ | refine a_aload_nN K dX11_builderIncs_18 rfl ?_
        refine a_getI K fd_X11_249 (by exact lm_o hM) (Or.inl rfl) dX11_builderIncs_19 ?_
        rw [show sI V 734 (m 33) = nI (ent b.1.1 b.1.2).length from (f2.2 734 (by decide)).trans hLy.1]
        refine a_icmp_ge K dX11_builderIncs_22 (tgt := 69) (by decide) (fun c_22 => absurd c_22 (nI_ge (a := i) (b := (ent b.1.1 b.1.2).length) (by omega) (by omega))) (fun c_22 => ?_)
        first | refine a_aload_n K dX11_builderIncs_25 rfl ?_ | refine a_aload_nN K dX11_builderIncs_25 rfl ?_
        refine a_getRs K fd_X11_55 (by exact lm_o hM) (Or.inr ⟨_, rfl⟩) (by exact lm_r730 hM) dX11_builderIncs_26 ?_
        refine a_iload K dX11_builderIncs_29 rfl ?_
        refine a_iald K (by exact lm_kk hM (by decide) (by decide)) (by show vp_in _ (sN V (m 13)); exact lm_ix (z := 140) hM (by decide) (by decide) (show i < 140 by omega) (by decide)) dX11_builderIncs_31 ?_
        rw [nI_clamp (by omega)]
        rw [e13]
        rw [(hLy.2.2.1 i _ hx).1]
        refine a_i2l K dX11_builderIncs_32 ?_
        refine a_iload_n K dX11_builderIncs_33 rfl ?_
        refine a_i2l K dX11_builderIncs_34 ?_
        refine a_iload_n K dX11_builderIncs_35 rfl ?_
        refine a_i2l K dX11_builderIncs_36 ?_
        refine a_invS K (q_inY (p := a.toInt) (q := c.toInt) (Int32.toInt_toInt64 _) (Int32.toInt_toInt64 _) hc) my_X11_isIn ml_X11_174 st_X11_isIn rfl (by omega) (by omega) (by omega) rfl (Nat.le_of_ble_eq_true rfl) dX11_builderIncs_37 ?_
        intro r8 S8 hp8
        obtain ⟨rfl, hS8⟩ := hp8
        obtain rfl := hS8.symm
        refine a_if_ne K dX11_builderIncs_40 (tgt := 46) (by decide) (fun c_40 => ?_) (fun c_40 => absurd c_40 (by decide))
        first | refine a_aload_n K dX11_builderIncs_46 rfl ?_ | refine a_aload_nN K dX11_builderIncs_46 rfl ?_
        refine a_getRs K fd_X11_101 (by exact lm_o hM) (Or.inr ⟨_, rfl⟩) (by exact lm_r751 hM) dX11_builderIncs_47 ?_
        refine a_iload K dX11_builderIncs_50 rfl ?_
        first | refine a_aload_n K dX11_builderIncs_52 rfl ?_ | refine a_aload_nN K dX11_builderIncs_52 rfl ?_
        refine a_getRs K fd_X11_55 (by exact lm_o hM) (Or.inr ⟨_, rfl⟩) (by exact lm_r730 hM) dX11_builderIncs_53 ?_
        refine a_iload K dX11_builderIncs_56 rfl ?_
        refine a_iald K (by exact lm_kk hM (by decide) (by decide)) (by show vp_in _ (sN V (m 13)); exact lm_ix (z := 140) hM (by decide) (by decide) (show i < 140 by omega) (by decide)) dX11_builderIncs_58 ?_
        rw [nI_clamp (by omega)]
        rw [e13]
        rw [(hLy.2.2.1 i _ hx).1]
        refine a_iast K (by exact lm_kk hM (by decide) (by decide)) (by show vp_in _ (sN V (m 28)); exact lm_ix (z := 60) hM (by decide) (by decide) (show (selK (inB a c true) ((ent b.1.1 b.1.2).take i)).length < 60 by omega) (by decide)) dX11_builderIncs_59 ?_
        rw [nI_clamp (by omega)]
        refine a_iinc K dX11_builderIncs_60 (v := 1) rfl (by decide) (by decide) ?_
        refine a_iinc K dX11_builderIncs_63 (v := 1) rfl (by decide) (by decide) ?_
        refine a_goto K dX11_builderIncs_66 (tgt := 16) (by decide) ?_
        have f3 : frM V (wA V (m 28) (selK (inB a c true) ((ent b.1.1 b.1.2).take i)).length (ent b.1.1 b.1.2)[i].1) m [28] [] := frM_wA (by decide)
        exact aw_locl rfl (ih (i + 1) _ _ _ (nI_1 i) (by rw [selK_y hx hpx, List.length_append, List.length_singleton]; exact nI_1 _) (by omega) (f3.lay hM) (f2.tr f3) (fun k y hy => by
          rw [selK_y hx hpx] at hy
          rw [sA_wA]
          rcases get_app1 hy with ⟨h1, h2⟩ | ⟨h1, h2⟩
          · rw [if_neg (fun q => absurd q.2 (by omega))]
            exact hrow k y h2
          · rw [if_pos ⟨rfl, h1⟩, h2]))
      · have hpx : ¬ inB a c true (ent b.1.1 b.1.2)[i] = true := by unfold inB; rw [decide_eq_false hc]; decide
        refine a_iload K dX11_builderIncs_16 rfl ?_
        first | refine a_aload_n K dX11_builderIncs_18 rfl ?_ | refine a_aload_nN K dX11_builderIncs_18 rfl ?_
        refine a_getI K fd_X11_249 (by exact lm_o hM) (Or.inl rfl) dX11_builderIncs_19 ?_
        rw [show sI V 734 (m 33) = nI (ent b.1.1 b.1.2).length from (f2.2 734 (by decide)).trans hLy.1]
        refine a_icmp_ge K dX11_builderIncs_22 (tgt := 69) (by decide) (fun c_22 => absurd c_22 (nI_ge (a := i) (b := (ent b.1.1 b.1.2).length) (by omega) (by omega))) (fun c_22 => ?_)
        first | refine a_aload_n K dX11_builderIncs_25 rfl ?_ | refine a_aload_nN K dX11_builderIncs_25 rfl ?_
        refine a_getRs K fd_X11_55 (by exact lm_o hM) (Or.inr ⟨_, rfl⟩) (by exact lm_r730 hM) dX11_builderIncs_26 ?_
        refine a_iload K dX11_builderIncs_29 rfl ?_
        refine a_iald K (by exact lm_kk hM (by decide) (by decide)) (by show vp_in _ (sN V (m 13)); exact lm_ix (z := 140) hM (by decide) (by decide) (show i < 140 by omega) (by decide)) dX11_builderIncs_31 ?_
        rw [nI_clamp (by omega)]
        rw [e13]
        rw [(hLy.2.2.1 i _ hx).1]
        refine a_i2l K dX11_builderIncs_32 ?_
        refine a_iload_n K dX11_builderIncs_33 rfl ?_
        refine a_i2l K dX11_builderIncs_34 ?_
        refine a_iload_n K dX11_builderIncs_35 rfl ?_
        refine a_i2l K dX11_builderIncs_36 ?_
        refine a_invS K (q_inN (p := a.toInt) (q := c.toInt) (Int32.toInt_toInt64 _) (Int32.toInt_toInt64 _) hc) my_X11_isIn ml_X11_174 st_X11_isIn rfl (by omega) (by omega) (by omega) rfl (Nat.le_of_ble_eq_true rfl) dX11_builderIncs_37 ?_
        intro r8 S8 hp8
        obtain ⟨rfl, hS8⟩ := hp8
        obtain rfl := hS8.symm
        refine a_if_ne K dX11_builderIncs_40 (tgt := 46) (by decide) (fun c_40 => absurd c_40 (fun q => q rfl)) (fun c_40 => ?_)
        refine a_goto K dX11_builderIncs_43 (tgt := 63) (by decide) ?_
        refine a_iinc K dX11_builderIncs_63 (v := 1) rfl (by decide) (by decide) ?_
        refine a_goto K dX11_builderIncs_66 (tgt := 16) (by decide) ?_
        exact aw_locl rfl (ih (i + 1) _ _ V (nI_1 i) (by rw [selK_n hx hpx]) (by omega) hM f2 (by rw [selK_n hx hpx]; exact hrow))
  exact aw_locl rfl (loop1 (ent b.1.1 b.1.2).length 0 _ _ T nI_0.symm (by rw [List.take_zero]; rfl) (Nat.zero_add _) hM frM.rf (fun k y hy => absurd hy (by simp [selK])))
set_option maxHeartbeats 4000000 in
set_option maxRecDepth 100000 in
theorem q_inc {S : aw_S} {m ρ : Nat → Nat} {Z : List Nat × Nat} {mb n9 : Nat} {P : PS} (h0 : RM S m ρ Z mb P) (hJ : PJ n9 P) (hmb : mb + 1 < 2147483000) {i a c d : Int32} : aw_M yX11_inc cX11_inc 7 (some FieldType.int) 10 0 0 [.ref (m 33), .int i, .int a, .int c, .int d] S (fun r S2 => ∃ ρ2 Z2, r = some (.int (bld P i (rngR a c ∧ valR d) (incF P a c d)).1) ∧ RM S2 m ρ2 Z2 (mb + 1) (bld P i (rngR a c ∧ valR d) (incF P a c d)).2 ∧ frS S S2 (mQ m)) := by
  have hP := hJ.1
  have hw3 := hP.1.1
  have hM := h0.1
  have hl9 := hJ.ln
  have hw6 := hP.1.2
  have hpH := hJ.2.2.2.2.2.1.1
  have hc16 := hJ.2.2.2.2.2.1.2.1
  refine aw_enter (by decide +kernel) (Nat.le_of_ble_eq_true rfl) (fun g K EE => ?_)
  by_cases c1 : ¬ (0 ≤ a.toInt ∧ a.toInt ≤ 999)
  · have hno : ¬ (rngR a c ∧ valR d) := fun q => c1 ⟨q.1.1.1, by have := q.1.1.2; omega⟩
    rcases stp_cs (P := P) (i := i) (ok := false) with ⟨hA, hv⟩ | ⟨j, hA, hob, hv⟩ | ⟨j, hA, hob, hb, hv⟩ | ⟨j, b, hA, hob, hb, hv⟩
    · have hE : bld P i (rngR a c ∧ valR d) (incF P a c d) = (-1, refP P 0) := bld_0 hA
      first | refine a_aload_n K dX11_inc_0 rfl ?_ | refine a_aload_nN K dX11_inc_0 rfl ?_
      refine a_iconst K dX11_inc_1 (v := 0) (by decide) ?_
      refine a_putI K fd_X11_116 (by exact lm_o hM) rfl dX11_inc_2 ?_
      have f0 : frM S (wI S 704 (m 33) 0) m [] [704] := frM_wI (by decide) (by decide)
      obtain ⟨T, hT⟩ : ∃ T, T = wI S 704 (m 33) 0 := ⟨_, rfl⟩
      rw [← hT] at f0 ⊢
      obtain ⟨h, q0⟩ := h0.scr hP f0 (by decide) (by decide)
      have hM := h.1
      first | refine a_aload_n K dX11_inc_5 rfl ?_ | refine a_aload_nN K dX11_inc_5 rfl ?_
      refine a_iload_n K dX11_inc_6 rfl ?_
      refine a_iload_n K dX11_inc_7 rfl ?_
      refine a_i2l K dX11_inc_8 ?_
      refine a_lconst K dX11_inc_9 (v := 0) (by decide) ?_
      refine a_ldc2 K kc_X11_335 dX11_inc_10 ?_
      refine a_invS K (q_inN (p := 0) (q := 999) (by decide) (by decide) c1) my_X11_isIn ml_X11_174 st_X11_isIn rfl (by omega) (by omega) (by omega) rfl (Nat.le_of_ble_eq_true rfl) dX11_inc_13 ?_
      intro r9 S9 hp9
      obtain ⟨rfl, hS9⟩ := hp9
      obtain rfl := hS9.symm
      refine a_if_eq K dX11_inc_16 (tgt := 51) (by decide) (fun c_16 => ?_) (fun c_16 => absurd c_16 (fun z => z rfl))
      refine a_iconst K dX11_inc_51 (v := 0) (by decide) ?_
      refine a_invV K (q_stp0 (v := nI 0) h hv) my_X11_stops ml_X11_393 im_X11_stops se_X11_stops (ci := 11) (by exact lm_o hM) (by decide) ⟨_, _, rfl⟩ rfl (by omega) (by omega) (by omega) rfl (Nat.le_of_ble_eq_true rfl) dX11_inc_52 ?_
      intro r9 S9 hp9
      obtain ⟨rfl, hS9⟩ := hp9
      obtain rfl := hS9.symm
      refine a_istore K dX11_inc_55 (by decide) ?_
      refine a_iload K dX11_inc_57 rfl ?_
      refine a_iconst K dX11_inc_59 (v := -1) (by decide) ?_
      refine a_icmp_eq K dX11_inc_60 (tgt := 70) (by decide) (fun c_60 => absurd c_60 (by decide)) (fun c_60 => ?_)
      first | refine a_aload_n K dX11_inc_63 rfl ?_ | refine a_aload_nN K dX11_inc_63 rfl ?_
      refine a_iload K dX11_inc_64 rfl ?_
      refine a_invV K (q_refP h (k := 0) (by decide)) my_X11_refused ml_X11_292 im_X11_refused se_X11_refused (ci := 11) (by exact lm_o hM) (by decide) ⟨_, _, rfl⟩ rfl (by omega) (by omega) (by omega) rfl (Nat.le_of_ble_eq_true rfl) dX11_inc_66 ?_
      intro r9 S9 hp9
      obtain ⟨rfl, hR, qR⟩ := hp9
      exact a_iret K EE rfl (by omega) (by omega) dX11_inc_69 ⟨ρ, Z, by rw [hE], by rw [hE]; exact hR.up (Nat.le_succ mb) (by omega), mQ_tr q0 qR⟩
    · have hE : bld P i (rngR a c ∧ valR d) (incF P a c d) = (-1, refP P 1) := bld_1 hA hno
      first | refine a_aload_n K dX11_inc_0 rfl ?_ | refine a_aload_nN K dX11_inc_0 rfl ?_
      refine a_iconst K dX11_inc_1 (v := 0) (by decide) ?_
      refine a_putI K fd_X11_116 (by exact lm_o hM) rfl dX11_inc_2 ?_
      have f0 : frM S (wI S 704 (m 33) 0) m [] [704] := frM_wI (by decide) (by decide)
      obtain ⟨T, hT⟩ : ∃ T, T = wI S 704 (m 33) 0 := ⟨_, rfl⟩
      rw [← hT] at f0 ⊢
      obtain ⟨h, q0⟩ := h0.scr hP f0 (by decide) (by decide)
      have hM := h.1
      first | refine a_aload_n K dX11_inc_5 rfl ?_ | refine a_aload_nN K dX11_inc_5 rfl ?_
      refine a_iload_n K dX11_inc_6 rfl ?_
      refine a_iload_n K dX11_inc_7 rfl ?_
      refine a_i2l K dX11_inc_8 ?_
      refine a_lconst K dX11_inc_9 (v := 0) (by decide) ?_
      refine a_ldc2 K kc_X11_335 dX11_inc_10 ?_
      refine a_invS K (q_inN (p := 0) (q := 999) (by decide) (by decide) c1) my_X11_isIn ml_X11_174 st_X11_isIn rfl (by omega) (by omega) (by omega) rfl (Nat.le_of_ble_eq_true rfl) dX11_inc_13 ?_
      intro r9 S9 hp9
      obtain ⟨rfl, hS9⟩ := hp9
      obtain rfl := hS9.symm
      refine a_if_eq K dX11_inc_16 (tgt := 51) (by decide) (fun c_16 => ?_) (fun c_16 => absurd c_16 (fun z => z rfl))
      refine a_iconst K dX11_inc_51 (v := 0) (by decide) ?_
      refine a_invV K (q_stp0 (v := nI 1) h hv) my_X11_stops ml_X11_393 im_X11_stops se_X11_stops (ci := 11) (by exact lm_o hM) (by decide) ⟨_, _, rfl⟩ rfl (by omega) (by omega) (by omega) rfl (Nat.le_of_ble_eq_true rfl) dX11_inc_52 ?_
      intro r9 S9 hp9
      obtain ⟨rfl, hS9⟩ := hp9
      obtain rfl := hS9.symm
      refine a_istore K dX11_inc_55 (by decide) ?_
      refine a_iload K dX11_inc_57 rfl ?_
      refine a_iconst K dX11_inc_59 (v := -1) (by decide) ?_
      refine a_icmp_eq K dX11_inc_60 (tgt := 70) (by decide) (fun c_60 => absurd c_60 (by decide)) (fun c_60 => ?_)
      first | refine a_aload_n K dX11_inc_63 rfl ?_ | refine a_aload_nN K dX11_inc_63 rfl ?_
      refine a_iload K dX11_inc_64 rfl ?_
      refine a_invV K (q_refP h (k := 1) (by decide)) my_X11_refused ml_X11_292 im_X11_refused se_X11_refused (ci := 11) (by exact lm_o hM) (by decide) ⟨_, _, rfl⟩ rfl (by omega) (by omega) (by omega) rfl (Nat.le_of_ble_eq_true rfl) dX11_inc_66 ?_
      intro r9 S9 hp9
      obtain ⟨rfl, hR, qR⟩ := hp9
      exact a_iret K EE rfl (by omega) (by omega) dX11_inc_69 ⟨ρ, Z, by rw [hE], by rw [hE]; exact hR.up (Nat.le_succ mb) (by omega), mQ_tr q0 qR⟩
    · exact absurd hob (by decide)
    · exact absurd hob (by decide)
  have c1 := Classical.not_not.mp c1
  by_cases c2 : ¬ (a.toInt ≤ c.toInt ∧ c.toInt ≤ 999)
  · have hno : ¬ (rngR a c ∧ valR d) := fun q => c2 ⟨q.1.2.2, by have := q.1.2.1.2; omega⟩
    rcases stp_cs (P := P) (i := i) (ok := false) with ⟨hA, hv⟩ | ⟨j, hA, hob, hv⟩ | ⟨j, hA, hob, hb, hv⟩ | ⟨j, b, hA, hob, hb, hv⟩
    · have hE : bld P i (rngR a c ∧ valR d) (incF P a c d) = (-1, refP P 0) := bld_0 hA
      first | refine a_aload_n K dX11_inc_0 rfl ?_ | refine a_aload_nN K dX11_inc_0 rfl ?_
      refine a_iconst K dX11_inc_1 (v := 0) (by decide) ?_
      refine a_putI K fd_X11_116 (by exact lm_o hM) rfl dX11_inc_2 ?_
      have f0 : frM S (wI S 704 (m 33) 0) m [] [704] := frM_wI (by decide) (by decide)
      obtain ⟨T, hT⟩ : ∃ T, T = wI S 704 (m 33) 0 := ⟨_, rfl⟩
      rw [← hT] at f0 ⊢
      obtain ⟨h, q0⟩ := h0.scr hP f0 (by decide) (by decide)
      have hM := h.1
      first | refine a_aload_n K dX11_inc_5 rfl ?_ | refine a_aload_nN K dX11_inc_5 rfl ?_
      refine a_iload_n K dX11_inc_6 rfl ?_
      refine a_iload_n K dX11_inc_7 rfl ?_
      refine a_i2l K dX11_inc_8 ?_
      refine a_lconst K dX11_inc_9 (v := 0) (by decide) ?_
      refine a_ldc2 K kc_X11_335 dX11_inc_10 ?_
      refine a_invS K (q_inY (p := 0) (q := 999) (by decide) (by decide) c1) my_X11_isIn ml_X11_174 st_X11_isIn rfl (by omega) (by omega) (by omega) rfl (Nat.le_of_ble_eq_true rfl) dX11_inc_13 ?_
      intro r9 S9 hp9
      obtain ⟨rfl, hS9⟩ := hp9
      obtain rfl := hS9.symm
      refine a_if_eq K dX11_inc_16 (tgt := 51) (by decide) (fun c_16 => absurd c_16 (by decide)) (fun c_16 => ?_)
      refine a_iload_n K dX11_inc_19 rfl ?_
      refine a_i2l K dX11_inc_20 ?_
      refine a_iload_n K dX11_inc_21 rfl ?_
      refine a_i2l K dX11_inc_22 ?_
      refine a_ldc2 K kc_X11_335 dX11_inc_23 ?_
      refine a_invS K (q_inN (p := a.toInt) (q := 999) (Int32.toInt_toInt64 _) (by decide) c2) my_X11_isIn ml_X11_174 st_X11_isIn rfl (by omega) (by omega) (by omega) rfl (Nat.le_of_ble_eq_true rfl) dX11_inc_26 ?_
      intro r9 S9 hp9
      obtain ⟨rfl, hS9⟩ := hp9
      obtain rfl := hS9.symm
      refine a_if_eq K dX11_inc_29 (tgt := 51) (by decide) (fun c_29 => ?_) (fun c_29 => absurd c_29 (fun z => z rfl))
      refine a_iconst K dX11_inc_51 (v := 0) (by decide) ?_
      refine a_invV K (q_stp0 (v := nI 0) h hv) my_X11_stops ml_X11_393 im_X11_stops se_X11_stops (ci := 11) (by exact lm_o hM) (by decide) ⟨_, _, rfl⟩ rfl (by omega) (by omega) (by omega) rfl (Nat.le_of_ble_eq_true rfl) dX11_inc_52 ?_
      intro r9 S9 hp9
      obtain ⟨rfl, hS9⟩ := hp9
      obtain rfl := hS9.symm
      refine a_istore K dX11_inc_55 (by decide) ?_
      refine a_iload K dX11_inc_57 rfl ?_
      refine a_iconst K dX11_inc_59 (v := -1) (by decide) ?_
      refine a_icmp_eq K dX11_inc_60 (tgt := 70) (by decide) (fun c_60 => absurd c_60 (by decide)) (fun c_60 => ?_)
      first | refine a_aload_n K dX11_inc_63 rfl ?_ | refine a_aload_nN K dX11_inc_63 rfl ?_
      refine a_iload K dX11_inc_64 rfl ?_
      refine a_invV K (q_refP h (k := 0) (by decide)) my_X11_refused ml_X11_292 im_X11_refused se_X11_refused (ci := 11) (by exact lm_o hM) (by decide) ⟨_, _, rfl⟩ rfl (by omega) (by omega) (by omega) rfl (Nat.le_of_ble_eq_true rfl) dX11_inc_66 ?_
      intro r9 S9 hp9
      obtain ⟨rfl, hR, qR⟩ := hp9
      exact a_iret K EE rfl (by omega) (by omega) dX11_inc_69 ⟨ρ, Z, by rw [hE], by rw [hE]; exact hR.up (Nat.le_succ mb) (by omega), mQ_tr q0 qR⟩
    · have hE : bld P i (rngR a c ∧ valR d) (incF P a c d) = (-1, refP P 1) := bld_1 hA hno
      first | refine a_aload_n K dX11_inc_0 rfl ?_ | refine a_aload_nN K dX11_inc_0 rfl ?_
      refine a_iconst K dX11_inc_1 (v := 0) (by decide) ?_
      refine a_putI K fd_X11_116 (by exact lm_o hM) rfl dX11_inc_2 ?_
      have f0 : frM S (wI S 704 (m 33) 0) m [] [704] := frM_wI (by decide) (by decide)
      obtain ⟨T, hT⟩ : ∃ T, T = wI S 704 (m 33) 0 := ⟨_, rfl⟩
      rw [← hT] at f0 ⊢
      obtain ⟨h, q0⟩ := h0.scr hP f0 (by decide) (by decide)
      have hM := h.1
      first | refine a_aload_n K dX11_inc_5 rfl ?_ | refine a_aload_nN K dX11_inc_5 rfl ?_
      refine a_iload_n K dX11_inc_6 rfl ?_
      refine a_iload_n K dX11_inc_7 rfl ?_
      refine a_i2l K dX11_inc_8 ?_
      refine a_lconst K dX11_inc_9 (v := 0) (by decide) ?_
      refine a_ldc2 K kc_X11_335 dX11_inc_10 ?_
      refine a_invS K (q_inY (p := 0) (q := 999) (by decide) (by decide) c1) my_X11_isIn ml_X11_174 st_X11_isIn rfl (by omega) (by omega) (by omega) rfl (Nat.le_of_ble_eq_true rfl) dX11_inc_13 ?_
      intro r9 S9 hp9
      obtain ⟨rfl, hS9⟩ := hp9
      obtain rfl := hS9.symm
      refine a_if_eq K dX11_inc_16 (tgt := 51) (by decide) (fun c_16 => absurd c_16 (by decide)) (fun c_16 => ?_)
      refine a_iload_n K dX11_inc_19 rfl ?_
      refine a_i2l K dX11_inc_20 ?_
      refine a_iload_n K dX11_inc_21 rfl ?_
      refine a_i2l K dX11_inc_22 ?_
      refine a_ldc2 K kc_X11_335 dX11_inc_23 ?_
      refine a_invS K (q_inN (p := a.toInt) (q := 999) (Int32.toInt_toInt64 _) (by decide) c2) my_X11_isIn ml_X11_174 st_X11_isIn rfl (by omega) (by omega) (by omega) rfl (Nat.le_of_ble_eq_true rfl) dX11_inc_26 ?_
      intro r9 S9 hp9
      obtain ⟨rfl, hS9⟩ := hp9
      obtain rfl := hS9.symm
      refine a_if_eq K dX11_inc_29 (tgt := 51) (by decide) (fun c_29 => ?_) (fun c_29 => absurd c_29 (fun z => z rfl))
      refine a_iconst K dX11_inc_51 (v := 0) (by decide) ?_
      refine a_invV K (q_stp0 (v := nI 1) h hv) my_X11_stops ml_X11_393 im_X11_stops se_X11_stops (ci := 11) (by exact lm_o hM) (by decide) ⟨_, _, rfl⟩ rfl (by omega) (by omega) (by omega) rfl (Nat.le_of_ble_eq_true rfl) dX11_inc_52 ?_
      intro r9 S9 hp9
      obtain ⟨rfl, hS9⟩ := hp9
      obtain rfl := hS9.symm
      refine a_istore K dX11_inc_55 (by decide) ?_
      refine a_iload K dX11_inc_57 rfl ?_
      refine a_iconst K dX11_inc_59 (v := -1) (by decide) ?_
      refine a_icmp_eq K dX11_inc_60 (tgt := 70) (by decide) (fun c_60 => absurd c_60 (by decide)) (fun c_60 => ?_)
      first | refine a_aload_n K dX11_inc_63 rfl ?_ | refine a_aload_nN K dX11_inc_63 rfl ?_
      refine a_iload K dX11_inc_64 rfl ?_
      refine a_invV K (q_refP h (k := 1) (by decide)) my_X11_refused ml_X11_292 im_X11_refused se_X11_refused (ci := 11) (by exact lm_o hM) (by decide) ⟨_, _, rfl⟩ rfl (by omega) (by omega) (by omega) rfl (Nat.le_of_ble_eq_true rfl) dX11_inc_66 ?_
      intro r9 S9 hp9
      obtain ⟨rfl, hR, qR⟩ := hp9
      exact a_iret K EE rfl (by omega) (by omega) dX11_inc_69 ⟨ρ, Z, by rw [hE], by rw [hE]; exact hR.up (Nat.le_succ mb) (by omega), mQ_tr q0 qR⟩
    · exact absurd hob (by decide)
    · exact absurd hob (by decide)
  have c2 := Classical.not_not.mp c2
  by_cases c3 : ¬ (-999 ≤ d.toInt ∧ d.toInt ≤ 999)
  · have hno : ¬ (rngR a c ∧ valR d) := fun q => c3 q.2
    rcases stp_cs (P := P) (i := i) (ok := false) with ⟨hA, hv⟩ | ⟨j, hA, hob, hv⟩ | ⟨j, hA, hob, hb, hv⟩ | ⟨j, b, hA, hob, hb, hv⟩
    · have hE : bld P i (rngR a c ∧ valR d) (incF P a c d) = (-1, refP P 0) := bld_0 hA
      first | refine a_aload_n K dX11_inc_0 rfl ?_ | refine a_aload_nN K dX11_inc_0 rfl ?_
      refine a_iconst K dX11_inc_1 (v := 0) (by decide) ?_
      refine a_putI K fd_X11_116 (by exact lm_o hM) rfl dX11_inc_2 ?_
      have f0 : frM S (wI S 704 (m 33) 0) m [] [704] := frM_wI (by decide) (by decide)
      obtain ⟨T, hT⟩ : ∃ T, T = wI S 704 (m 33) 0 := ⟨_, rfl⟩
      rw [← hT] at f0 ⊢
      obtain ⟨h, q0⟩ := h0.scr hP f0 (by decide) (by decide)
      have hM := h.1
      first | refine a_aload_n K dX11_inc_5 rfl ?_ | refine a_aload_nN K dX11_inc_5 rfl ?_
      refine a_iload_n K dX11_inc_6 rfl ?_
      refine a_iload_n K dX11_inc_7 rfl ?_
      refine a_i2l K dX11_inc_8 ?_
      refine a_lconst K dX11_inc_9 (v := 0) (by decide) ?_
      refine a_ldc2 K kc_X11_335 dX11_inc_10 ?_
      refine a_invS K (q_inY (p := 0) (q := 999) (by decide) (by decide) c1) my_X11_isIn ml_X11_174 st_X11_isIn rfl (by omega) (by omega) (by omega) rfl (Nat.le_of_ble_eq_true rfl) dX11_inc_13 ?_
      intro r9 S9 hp9
      obtain ⟨rfl, hS9⟩ := hp9
      obtain rfl := hS9.symm
      refine a_if_eq K dX11_inc_16 (tgt := 51) (by decide) (fun c_16 => absurd c_16 (by decide)) (fun c_16 => ?_)
      refine a_iload_n K dX11_inc_19 rfl ?_
      refine a_i2l K dX11_inc_20 ?_
      refine a_iload_n K dX11_inc_21 rfl ?_
      refine a_i2l K dX11_inc_22 ?_
      refine a_ldc2 K kc_X11_335 dX11_inc_23 ?_
      refine a_invS K (q_inY (p := a.toInt) (q := 999) (Int32.toInt_toInt64 _) (by decide) c2) my_X11_isIn ml_X11_174 st_X11_isIn rfl (by omega) (by omega) (by omega) rfl (Nat.le_of_ble_eq_true rfl) dX11_inc_26 ?_
      intro r9 S9 hp9
      obtain ⟨rfl, hS9⟩ := hp9
      obtain rfl := hS9.symm
      refine a_if_eq K dX11_inc_29 (tgt := 51) (by decide) (fun c_29 => absurd c_29 (by decide)) (fun c_29 => ?_)
      refine a_iload K dX11_inc_32 rfl ?_
      refine a_i2l K dX11_inc_34 ?_
      refine a_ldc2 K kc_X11_337 dX11_inc_35 ?_
      refine a_ldc2 K kc_X11_335 dX11_inc_38 ?_
      refine a_invS K (q_inN (p := -999) (q := 999) (by decide) (by decide) c3) my_X11_isIn ml_X11_174 st_X11_isIn rfl (by omega) (by omega) (by omega) rfl (Nat.le_of_ble_eq_true rfl) dX11_inc_41 ?_
      intro r9 S9 hp9
      obtain ⟨rfl, hS9⟩ := hp9
      obtain rfl := hS9.symm
      refine a_if_eq K dX11_inc_44 (tgt := 51) (by decide) (fun c_44 => ?_) (fun c_44 => absurd c_44 (fun z => z rfl))
      refine a_iconst K dX11_inc_51 (v := 0) (by decide) ?_
      refine a_invV K (q_stp0 (v := nI 0) h hv) my_X11_stops ml_X11_393 im_X11_stops se_X11_stops (ci := 11) (by exact lm_o hM) (by decide) ⟨_, _, rfl⟩ rfl (by omega) (by omega) (by omega) rfl (Nat.le_of_ble_eq_true rfl) dX11_inc_52 ?_
      intro r9 S9 hp9
      obtain ⟨rfl, hS9⟩ := hp9
      obtain rfl := hS9.symm
      refine a_istore K dX11_inc_55 (by decide) ?_
      refine a_iload K dX11_inc_57 rfl ?_
      refine a_iconst K dX11_inc_59 (v := -1) (by decide) ?_
      refine a_icmp_eq K dX11_inc_60 (tgt := 70) (by decide) (fun c_60 => absurd c_60 (by decide)) (fun c_60 => ?_)
      first | refine a_aload_n K dX11_inc_63 rfl ?_ | refine a_aload_nN K dX11_inc_63 rfl ?_
      refine a_iload K dX11_inc_64 rfl ?_
      refine a_invV K (q_refP h (k := 0) (by decide)) my_X11_refused ml_X11_292 im_X11_refused se_X11_refused (ci := 11) (by exact lm_o hM) (by decide) ⟨_, _, rfl⟩ rfl (by omega) (by omega) (by omega) rfl (Nat.le_of_ble_eq_true rfl) dX11_inc_66 ?_
      intro r9 S9 hp9
      obtain ⟨rfl, hR, qR⟩ := hp9
      exact a_iret K EE rfl (by omega) (by omega) dX11_inc_69 ⟨ρ, Z, by rw [hE], by rw [hE]; exact hR.up (Nat.le_succ mb) (by omega), mQ_tr q0 qR⟩
    · have hE : bld P i (rngR a c ∧ valR d) (incF P a c d) = (-1, refP P 1) := bld_1 hA hno
      first | refine a_aload_n K dX11_inc_0 rfl ?_ | refine a_aload_nN K dX11_inc_0 rfl ?_
      refine a_iconst K dX11_inc_1 (v := 0) (by decide) ?_
      refine a_putI K fd_X11_116 (by exact lm_o hM) rfl dX11_inc_2 ?_
      have f0 : frM S (wI S 704 (m 33) 0) m [] [704] := frM_wI (by decide) (by decide)
      obtain ⟨T, hT⟩ : ∃ T, T = wI S 704 (m 33) 0 := ⟨_, rfl⟩
      rw [← hT] at f0 ⊢
      obtain ⟨h, q0⟩ := h0.scr hP f0 (by decide) (by decide)
      have hM := h.1
      first | refine a_aload_n K dX11_inc_5 rfl ?_ | refine a_aload_nN K dX11_inc_5 rfl ?_
      refine a_iload_n K dX11_inc_6 rfl ?_
      refine a_iload_n K dX11_inc_7 rfl ?_
      refine a_i2l K dX11_inc_8 ?_
      refine a_lconst K dX11_inc_9 (v := 0) (by decide) ?_
      refine a_ldc2 K kc_X11_335 dX11_inc_10 ?_
      refine a_invS K (q_inY (p := 0) (q := 999) (by decide) (by decide) c1) my_X11_isIn ml_X11_174 st_X11_isIn rfl (by omega) (by omega) (by omega) rfl (Nat.le_of_ble_eq_true rfl) dX11_inc_13 ?_
      intro r9 S9 hp9
      obtain ⟨rfl, hS9⟩ := hp9
      obtain rfl := hS9.symm
      refine a_if_eq K dX11_inc_16 (tgt := 51) (by decide) (fun c_16 => absurd c_16 (by decide)) (fun c_16 => ?_)
      refine a_iload_n K dX11_inc_19 rfl ?_
      refine a_i2l K dX11_inc_20 ?_
      refine a_iload_n K dX11_inc_21 rfl ?_
      refine a_i2l K dX11_inc_22 ?_
      refine a_ldc2 K kc_X11_335 dX11_inc_23 ?_
      refine a_invS K (q_inY (p := a.toInt) (q := 999) (Int32.toInt_toInt64 _) (by decide) c2) my_X11_isIn ml_X11_174 st_X11_isIn rfl (by omega) (by omega) (by omega) rfl (Nat.le_of_ble_eq_true rfl) dX11_inc_26 ?_
      intro r9 S9 hp9
      obtain ⟨rfl, hS9⟩ := hp9
      obtain rfl := hS9.symm
      refine a_if_eq K dX11_inc_29 (tgt := 51) (by decide) (fun c_29 => absurd c_29 (by decide)) (fun c_29 => ?_)
      refine a_iload K dX11_inc_32 rfl ?_
      refine a_i2l K dX11_inc_34 ?_
      refine a_ldc2 K kc_X11_337 dX11_inc_35 ?_
      refine a_ldc2 K kc_X11_335 dX11_inc_38 ?_
      refine a_invS K (q_inN (p := -999) (q := 999) (by decide) (by decide) c3) my_X11_isIn ml_X11_174 st_X11_isIn rfl (by omega) (by omega) (by omega) rfl (Nat.le_of_ble_eq_true rfl) dX11_inc_41 ?_
      intro r9 S9 hp9
      obtain ⟨rfl, hS9⟩ := hp9
      obtain rfl := hS9.symm
      refine a_if_eq K dX11_inc_44 (tgt := 51) (by decide) (fun c_44 => ?_) (fun c_44 => absurd c_44 (fun z => z rfl))
      refine a_iconst K dX11_inc_51 (v := 0) (by decide) ?_
      refine a_invV K (q_stp0 (v := nI 1) h hv) my_X11_stops ml_X11_393 im_X11_stops se_X11_stops (ci := 11) (by exact lm_o hM) (by decide) ⟨_, _, rfl⟩ rfl (by omega) (by omega) (by omega) rfl (Nat.le_of_ble_eq_true rfl) dX11_inc_52 ?_
      intro r9 S9 hp9
      obtain ⟨rfl, hS9⟩ := hp9
      obtain rfl := hS9.symm
      refine a_istore K dX11_inc_55 (by decide) ?_
      refine a_iload K dX11_inc_57 rfl ?_
      refine a_iconst K dX11_inc_59 (v := -1) (by decide) ?_
      refine a_icmp_eq K dX11_inc_60 (tgt := 70) (by decide) (fun c_60 => absurd c_60 (by decide)) (fun c_60 => ?_)
      first | refine a_aload_n K dX11_inc_63 rfl ?_ | refine a_aload_nN K dX11_inc_63 rfl ?_
      refine a_iload K dX11_inc_64 rfl ?_
      refine a_invV K (q_refP h (k := 1) (by decide)) my_X11_refused ml_X11_292 im_X11_refused se_X11_refused (ci := 11) (by exact lm_o hM) (by decide) ⟨_, _, rfl⟩ rfl (by omega) (by omega) (by omega) rfl (Nat.le_of_ble_eq_true rfl) dX11_inc_66 ?_
      intro r9 S9 hp9
      obtain ⟨rfl, hR, qR⟩ := hp9
      exact a_iret K EE rfl (by omega) (by omega) dX11_inc_69 ⟨ρ, Z, by rw [hE], by rw [hE]; exact hR.up (Nat.le_succ mb) (by omega), mQ_tr q0 qR⟩
    · exact absurd hob (by decide)
    · exact absurd hob (by decide)
  have c3 := Classical.not_not.mp c3
  have hok : rngR a c ∧ valR d := ⟨⟨⟨c1.1, by omega⟩, ⟨by omega, by omega⟩, c2.1⟩, c3⟩
  rcases stp_cs (P := P) (i := i) (ok := true) with ⟨hA, hv⟩ | ⟨j, hA, hob, hv⟩ | ⟨j, hA, hob, hb, hv⟩ | ⟨j, b, hA, hob, hb, hv⟩
  · have hE : bld P i (rngR a c ∧ valR d) (incF P a c d) = (-1, refP P 0) := bld_0 hA
    first | refine a_aload_n K dX11_inc_0 rfl ?_ | refine a_aload_nN K dX11_inc_0 rfl ?_
    refine a_iconst K dX11_inc_1 (v := 0) (by decide) ?_
    refine a_putI K fd_X11_116 (by exact lm_o hM) rfl dX11_inc_2 ?_
    have f0 : frM S (wI S 704 (m 33) 0) m [] [704] := frM_wI (by decide) (by decide)
    obtain ⟨T, hT⟩ : ∃ T, T = wI S 704 (m 33) 0 := ⟨_, rfl⟩
    rw [← hT] at f0 ⊢
    obtain ⟨h, q0⟩ := h0.scr hP f0 (by decide) (by decide)
    have hM := h.1
    first | refine a_aload_n K dX11_inc_5 rfl ?_ | refine a_aload_nN K dX11_inc_5 rfl ?_
    refine a_iload_n K dX11_inc_6 rfl ?_
    refine a_iload_n K dX11_inc_7 rfl ?_
    refine a_i2l K dX11_inc_8 ?_
    refine a_lconst K dX11_inc_9 (v := 0) (by decide) ?_
    refine a_ldc2 K kc_X11_335 dX11_inc_10 ?_
    refine a_invS K (q_inY (p := 0) (q := 999) (by decide) (by decide) c1) my_X11_isIn ml_X11_174 st_X11_isIn rfl (by omega) (by omega) (by omega) rfl (Nat.le_of_ble_eq_true rfl) dX11_inc_13 ?_
    intro r9 S9 hp9
    obtain ⟨rfl, hS9⟩ := hp9
    obtain rfl := hS9.symm
    refine a_if_eq K dX11_inc_16 (tgt := 51) (by decide) (fun c_16 => absurd c_16 (by decide)) (fun c_16 => ?_)
    refine a_iload_n K dX11_inc_19 rfl ?_
    refine a_i2l K dX11_inc_20 ?_
    refine a_iload_n K dX11_inc_21 rfl ?_
    refine a_i2l K dX11_inc_22 ?_
    refine a_ldc2 K kc_X11_335 dX11_inc_23 ?_
    refine a_invS K (q_inY (p := a.toInt) (q := 999) (Int32.toInt_toInt64 _) (by decide) c2) my_X11_isIn ml_X11_174 st_X11_isIn rfl (by omega) (by omega) (by omega) rfl (Nat.le_of_ble_eq_true rfl) dX11_inc_26 ?_
    intro r9 S9 hp9
    obtain ⟨rfl, hS9⟩ := hp9
    obtain rfl := hS9.symm
    refine a_if_eq K dX11_inc_29 (tgt := 51) (by decide) (fun c_29 => absurd c_29 (by decide)) (fun c_29 => ?_)
    refine a_iload K dX11_inc_32 rfl ?_
    refine a_i2l K dX11_inc_34 ?_
    refine a_ldc2 K kc_X11_337 dX11_inc_35 ?_
    refine a_ldc2 K kc_X11_335 dX11_inc_38 ?_
    refine a_invS K (q_inY (p := -999) (q := 999) (by decide) (by decide) c3) my_X11_isIn ml_X11_174 st_X11_isIn rfl (by omega) (by omega) (by omega) rfl (Nat.le_of_ble_eq_true rfl) dX11_inc_41 ?_
    intro r9 S9 hp9
    obtain ⟨rfl, hS9⟩ := hp9
    obtain rfl := hS9.symm
    refine a_if_eq K dX11_inc_44 (tgt := 51) (by decide) (fun c_44 => absurd c_44 (by decide)) (fun c_44 => ?_)
    refine a_iconst K dX11_inc_47 (v := 1) (by decide) ?_
    refine a_goto K dX11_inc_48 (tgt := 52) (by decide) ?_
    refine a_invV K (q_stp1 (v := nI 0) h hv) my_X11_stops ml_X11_393 im_X11_stops se_X11_stops (ci := 11) (by exact lm_o hM) (by decide) ⟨_, _, rfl⟩ rfl (by omega) (by omega) (by omega) rfl (Nat.le_of_ble_eq_true rfl) dX11_inc_52 ?_
    intro r9 S9 hp9
    obtain ⟨rfl, hS9⟩ := hp9
    obtain rfl := hS9.symm
    refine a_istore K dX11_inc_55 (by decide) ?_
    refine a_iload K dX11_inc_57 rfl ?_
    refine a_iconst K dX11_inc_59 (v := -1) (by decide) ?_
    refine a_icmp_eq K dX11_inc_60 (tgt := 70) (by decide) (fun c_60 => absurd c_60 (by decide)) (fun c_60 => ?_)
    first | refine a_aload_n K dX11_inc_63 rfl ?_ | refine a_aload_nN K dX11_inc_63 rfl ?_
    refine a_iload K dX11_inc_64 rfl ?_
    refine a_invV K (q_refP h (k := 0) (by decide)) my_X11_refused ml_X11_292 im_X11_refused se_X11_refused (ci := 11) (by exact lm_o hM) (by decide) ⟨_, _, rfl⟩ rfl (by omega) (by omega) (by omega) rfl (Nat.le_of_ble_eq_true rfl) dX11_inc_66 ?_
    intro r9 S9 hp9
    obtain ⟨rfl, hR, qR⟩ := hp9
    exact a_iret K EE rfl (by omega) (by omega) dX11_inc_69 ⟨ρ, Z, by rw [hE], by rw [hE]; exact hR.up (Nat.le_succ mb) (by omega), mQ_tr q0 qR⟩
  · exact absurd hob (by decide)
  · have hE : bld P i (rngR a c ∧ valR d) (incF P a c d) = (-1, refP P 2) := bld_2 hA hok hb
    first | refine a_aload_n K dX11_inc_0 rfl ?_ | refine a_aload_nN K dX11_inc_0 rfl ?_
    refine a_iconst K dX11_inc_1 (v := 0) (by decide) ?_
    refine a_putI K fd_X11_116 (by exact lm_o hM) rfl dX11_inc_2 ?_
    have f0 : frM S (wI S 704 (m 33) 0) m [] [704] := frM_wI (by decide) (by decide)
    obtain ⟨T, hT⟩ : ∃ T, T = wI S 704 (m 33) 0 := ⟨_, rfl⟩
    rw [← hT] at f0 ⊢
    obtain ⟨h, q0⟩ := h0.scr hP f0 (by decide) (by decide)
    have hM := h.1
    first | refine a_aload_n K dX11_inc_5 rfl ?_ | refine a_aload_nN K dX11_inc_5 rfl ?_
    refine a_iload_n K dX11_inc_6 rfl ?_
    refine a_iload_n K dX11_inc_7 rfl ?_
    refine a_i2l K dX11_inc_8 ?_
    refine a_lconst K dX11_inc_9 (v := 0) (by decide) ?_
    refine a_ldc2 K kc_X11_335 dX11_inc_10 ?_
    refine a_invS K (q_inY (p := 0) (q := 999) (by decide) (by decide) c1) my_X11_isIn ml_X11_174 st_X11_isIn rfl (by omega) (by omega) (by omega) rfl (Nat.le_of_ble_eq_true rfl) dX11_inc_13 ?_
    intro r9 S9 hp9
    obtain ⟨rfl, hS9⟩ := hp9
    obtain rfl := hS9.symm
    refine a_if_eq K dX11_inc_16 (tgt := 51) (by decide) (fun c_16 => absurd c_16 (by decide)) (fun c_16 => ?_)
    refine a_iload_n K dX11_inc_19 rfl ?_
    refine a_i2l K dX11_inc_20 ?_
    refine a_iload_n K dX11_inc_21 rfl ?_
    refine a_i2l K dX11_inc_22 ?_
    refine a_ldc2 K kc_X11_335 dX11_inc_23 ?_
    refine a_invS K (q_inY (p := a.toInt) (q := 999) (Int32.toInt_toInt64 _) (by decide) c2) my_X11_isIn ml_X11_174 st_X11_isIn rfl (by omega) (by omega) (by omega) rfl (Nat.le_of_ble_eq_true rfl) dX11_inc_26 ?_
    intro r9 S9 hp9
    obtain ⟨rfl, hS9⟩ := hp9
    obtain rfl := hS9.symm
    refine a_if_eq K dX11_inc_29 (tgt := 51) (by decide) (fun c_29 => absurd c_29 (by decide)) (fun c_29 => ?_)
    refine a_iload K dX11_inc_32 rfl ?_
    refine a_i2l K dX11_inc_34 ?_
    refine a_ldc2 K kc_X11_337 dX11_inc_35 ?_
    refine a_ldc2 K kc_X11_335 dX11_inc_38 ?_
    refine a_invS K (q_inY (p := -999) (q := 999) (by decide) (by decide) c3) my_X11_isIn ml_X11_174 st_X11_isIn rfl (by omega) (by omega) (by omega) rfl (Nat.le_of_ble_eq_true rfl) dX11_inc_41 ?_
    intro r9 S9 hp9
    obtain ⟨rfl, hS9⟩ := hp9
    obtain rfl := hS9.symm
    refine a_if_eq K dX11_inc_44 (tgt := 51) (by decide) (fun c_44 => absurd c_44 (by decide)) (fun c_44 => ?_)
    refine a_iconst K dX11_inc_47 (v := 1) (by decide) ?_
    refine a_goto K dX11_inc_48 (tgt := 52) (by decide) ?_
    refine a_invV K (q_stp1 (v := nI 2) h hv) my_X11_stops ml_X11_393 im_X11_stops se_X11_stops (ci := 11) (by exact lm_o hM) (by decide) ⟨_, _, rfl⟩ rfl (by omega) (by omega) (by omega) rfl (Nat.le_of_ble_eq_true rfl) dX11_inc_52 ?_
    intro r9 S9 hp9
    obtain ⟨rfl, hS9⟩ := hp9
    obtain rfl := hS9.symm
    refine a_istore K dX11_inc_55 (by decide) ?_
    refine a_iload K dX11_inc_57 rfl ?_
    refine a_iconst K dX11_inc_59 (v := -1) (by decide) ?_
    refine a_icmp_eq K dX11_inc_60 (tgt := 70) (by decide) (fun c_60 => absurd c_60 (by decide)) (fun c_60 => ?_)
    first | refine a_aload_n K dX11_inc_63 rfl ?_ | refine a_aload_nN K dX11_inc_63 rfl ?_
    refine a_iload K dX11_inc_64 rfl ?_
    refine a_invV K (q_refP h (k := 2) (by decide)) my_X11_refused ml_X11_292 im_X11_refused se_X11_refused (ci := 11) (by exact lm_o hM) (by decide) ⟨_, _, rfl⟩ rfl (by omega) (by omega) (by omega) rfl (Nat.le_of_ble_eq_true rfl) dX11_inc_66 ?_
    intro r9 S9 hp9
    obtain ⟨rfl, hR, qR⟩ := hp9
    exact a_iret K EE rfl (by omega) (by omega) dX11_inc_69 ⟨ρ, Z, by rw [hE], by rw [hE]; exact hR.up (Nat.le_succ mb) (by omega), mQ_tr q0 qR⟩
  · obtain ⟨rfl, hj4⟩ := bAt_some hA
    have hE : bld P (nI j) (rngR a c ∧ valR d) (incF P a c d) = (nI ((raiE (pW P) b.2.1 a c d (ent b.1.1 b.1.2) (b.1, pU P)).2 - pU P), setT P j (raiE (pW P) b.2.1 a c d (ent b.1.1 b.1.2) (b.1, pU P)) b.2.1 b.2.2) := bld_9 hA hok hb
    first | refine a_aload_n K dX11_inc_0 rfl ?_ | refine a_aload_nN K dX11_inc_0 rfl ?_
    refine a_iconst K dX11_inc_1 (v := 0) (by decide) ?_
    refine a_putI K fd_X11_116 (by exact lm_o hM) rfl dX11_inc_2 ?_
    have f0 : frM S (wI S 704 (m 33) 0) m [] [704] := frM_wI (by decide) (by decide)
    obtain ⟨T, hT⟩ : ∃ T, T = wI S 704 (m 33) 0 := ⟨_, rfl⟩
    rw [← hT] at f0 ⊢
    obtain ⟨h, q0⟩ := h0.scr hP f0 (by decide) (by decide)
    have hM := h.1
    first | refine a_aload_n K dX11_inc_5 rfl ?_ | refine a_aload_nN K dX11_inc_5 rfl ?_
    refine a_iload_n K dX11_inc_6 rfl ?_
    refine a_iload_n K dX11_inc_7 rfl ?_
    refine a_i2l K dX11_inc_8 ?_
    refine a_lconst K dX11_inc_9 (v := 0) (by decide) ?_
    refine a_ldc2 K kc_X11_335 dX11_inc_10 ?_
    refine a_invS K (q_inY (p := 0) (q := 999) (by decide) (by decide) c1) my_X11_isIn ml_X11_174 st_X11_isIn rfl (by omega) (by omega) (by omega) rfl (Nat.le_of_ble_eq_true rfl) dX11_inc_13 ?_
    intro r9 S9 hp9
    obtain ⟨rfl, hS9⟩ := hp9
    obtain rfl := hS9.symm
    refine a_if_eq K dX11_inc_16 (tgt := 51) (by decide) (fun c_16 => absurd c_16 (by decide)) (fun c_16 => ?_)
    refine a_iload_n K dX11_inc_19 rfl ?_
    refine a_i2l K dX11_inc_20 ?_
    refine a_iload_n K dX11_inc_21 rfl ?_
    refine a_i2l K dX11_inc_22 ?_
    refine a_ldc2 K kc_X11_335 dX11_inc_23 ?_
    refine a_invS K (q_inY (p := a.toInt) (q := 999) (Int32.toInt_toInt64 _) (by decide) c2) my_X11_isIn ml_X11_174 st_X11_isIn rfl (by omega) (by omega) (by omega) rfl (Nat.le_of_ble_eq_true rfl) dX11_inc_26 ?_
    intro r9 S9 hp9
    obtain ⟨rfl, hS9⟩ := hp9
    obtain rfl := hS9.symm
    refine a_if_eq K dX11_inc_29 (tgt := 51) (by decide) (fun c_29 => absurd c_29 (by decide)) (fun c_29 => ?_)
    refine a_iload K dX11_inc_32 rfl ?_
    refine a_i2l K dX11_inc_34 ?_
    refine a_ldc2 K kc_X11_337 dX11_inc_35 ?_
    refine a_ldc2 K kc_X11_335 dX11_inc_38 ?_
    refine a_invS K (q_inY (p := -999) (q := 999) (by decide) (by decide) c3) my_X11_isIn ml_X11_174 st_X11_isIn rfl (by omega) (by omega) (by omega) rfl (Nat.le_of_ble_eq_true rfl) dX11_inc_41 ?_
    intro r9 S9 hp9
    obtain ⟨rfl, hS9⟩ := hp9
    obtain rfl := hS9.symm
    refine a_if_eq K dX11_inc_44 (tgt := 51) (by decide) (fun c_44 => absurd c_44 (by decide)) (fun c_44 => ?_)
    refine a_iconst K dX11_inc_47 (v := 1) (by decide) ?_
    refine a_goto K dX11_inc_48 (tgt := 52) (by decide) ?_
    refine a_invV K (q_stp1 (v := -1) h hv) my_X11_stops ml_X11_393 im_X11_stops se_X11_stops (ci := 11) (by exact lm_o hM) (by decide) ⟨_, _, rfl⟩ rfl (by omega) (by omega) (by omega) rfl (Nat.le_of_ble_eq_true rfl) dX11_inc_52 ?_
    intro r9 S9 hp9
    obtain ⟨rfl, hS9⟩ := hp9
    obtain rfl := hS9.symm
    refine a_istore K dX11_inc_55 (by decide) ?_
    refine a_iload K dX11_inc_57 rfl ?_
    refine a_iconst K dX11_inc_59 (v := -1) (by decide) ?_
    refine a_icmp_eq K dX11_inc_60 (tgt := 70) (by decide) (fun c_60 => ?_) (fun c_60 => absurd c_60 (fun z => z rfl))
    first | refine a_aload_n K dX11_inc_70 rfl ?_ | refine a_aload_nN K dX11_inc_70 rfl ?_
    refine a_invV K (q_swF h hJ hmb) my_X11_sweeps ml_X11_278 im_X11_sweeps se_X11_sweeps (ci := 11) (by exact lm_o hM) (by decide) ⟨_, _, rfl⟩ rfl (by omega) (by omega) (by omega) rfl (Nat.le_of_ble_eq_true rfl) dX11_inc_71 ?_
    intro r9 S1 hp9
    obtain ⟨rfl, Z1, h1, hrm1, f1⟩ := hp9
    have q1 : frS T S1 (mQ m) := f1.mq (by decide)
    have hM := h1.1
    first | refine a_aload_n K dX11_inc_74 rfl ?_ | refine a_aload_nN K dX11_inc_74 rfl ?_
    refine a_getI K fd_X11_190 (by exact lm_o hM) (Or.inl rfl) dX11_inc_75 ?_
    rw [h1.N.2.2.2.2]
    refine a_istore K dX11_inc_78 (by decide) ?_
    first | refine a_aload_n K dX11_inc_80 rfl ?_ | refine a_aload_nN K dX11_inc_80 rfl ?_
    refine a_iload_n K dX11_inc_81 rfl ?_
    refine a_iload_n K dX11_inc_82 rfl ?_
    refine a_iload_n K dX11_inc_83 rfl ?_
    refine a_iload K dX11_inc_84 rfl ?_
    refine a_invV K (q_bIncs h1 hP hb hj4 (by omega)) my_X11_builderIncs ml_X11_404 im_X11_builderIncs se_X11_builderIncs (ci := 11) (by exact lm_o hM) (by decide) ⟨_, _, rfl⟩ rfl (by omega) (by omega) (by omega) rfl (Nat.le_of_ble_eq_true rfl) dX11_inc_86 ?_
    intro r9 W2 hp9
    obtain ⟨ρ3, Z3, rfl, hF, qF, -⟩ := hp9
    have hM := hF.1
    first | refine a_aload_n K dX11_inc_89 rfl ?_ | refine a_aload_nN K dX11_inc_89 rfl ?_
    refine a_getI K fd_X11_190 (by exact lm_o hM) (Or.inl rfl) dX11_inc_90 ?_
    rw [hF.N.2.2.2.2]
    refine a_iload K dX11_inc_93 rfl ?_
    refine a_isub K dX11_inc_95 ?_
    rw [show pMd (setT P j (raiE (pW P) b.2.1 a c d (ent b.1.1 b.1.2) (b.1, pU P)) b.2.1 b.2.2) = pMd P + nI ((raiE (pW P) b.2.1 a c d (ent b.1.1 b.1.2) (b.1, pU P)).2 - pU P) from rfl, md_sub]
    exact a_iret K EE rfl (by omega) (by omega) dX11_inc_96 ⟨ρ3, Z3, by rw [hE], by rw [hE]; exact hF, mQ_tr q0 (mQ_tr q1 qF)⟩
