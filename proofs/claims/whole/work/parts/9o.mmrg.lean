/-! the model: merge -/
theorem RM_marked {S S2 : aw_S} {m ρ : Nat → Nat} {Z : List Nat × Nat} {mb st : Nat} {P : PS} {mk : Nat → Bool} (h : RM S m ρ Z mb P) (hP : PI P) (hm : mb + 1 < 2147483000) (h2 : st + 1 ≤ mb + 1) (h4 : ∀ r, r < 12000 → ∃ x, x ≤ st ∧ sA S (m 7) r = nI x) (k : MkM S2 m (nI (st + 1)) mk) (f : mkF (wI S 726 (m 33) (nI (st + 1))) S2 m (nI (st + 1))) : RM S2 m ρ Z (mb + 1) P ∧ frS S S2 (mQ m) := by
  have fw : frM S (wI S 726 (m 33) (nI (st + 1))) m [7] [726] := frM_wI (by decide) (by decide)
  have f2 : frM S S2 m [7] [726] := fw.tr (f.1.up (by decide) (by decide))
  refine h.mks hP f2 (by decide) (by decide) (RK_mk (S := S) (st := st + 1) (fun r hr => ?_) k (fun r hr => ?_) hm h2)
  · obtain ⟨x, hx, e⟩ := h4 r hr
    exact ⟨x, by omega, e⟩
  · have e := f.2 r hr
    rw [sA_wI] at e
    exact e
theorem own_eq {S : aw_S} {m ρ : Nat → Nat} {Q : Nat → Prop} {z y : Tz} (rz : RepM S m ρ z.1 z.2) (ry : RepM S m ρ y.1 y.2) (inj : ∀ i j, Q i → Q j → ρ i = ρ j → i = j) (Qz : ∀ x ∈ ndl z.1 z.2, Q x.1) (Qy : ∀ x ∈ ndl y.1 y.2, Q x.1) : ewV (fun i => mrM (fun _ => false) (rwT ρ z.1 z.2) (ρ i)) y.1 y.2 = ownE z y := by
  unfold ownE
  rw [← ewV_U rz inj Qz y.1 y.2 ry Qy]
  refine ewV_mk y.1 y.2 (fun x hx => ?_)
  have e : (mrM (fun _ => false) (rwT ρ z.1 z.2) (ρ x.1) = true) ↔ mkS (fun _ => false) (sub z.1 z.2) x.1 = true := by
    rw [mkS_is]
    unfold mrM
    rw [Bool.false_or, decide_eq_true_iff]
    unfold rwT
    rw [List.mem_map]
    exact ⟨fun ⟨w, hw, e⟩ => by
      obtain ⟨v, hv, e2⟩ := id_sub hw
      exact ⟨v, hv, e2.trans (inj _ _ (Qz _ hw) (Qy _ hx) e)⟩, fun ⟨w, hw, e⟩ => ⟨_, sub_id hw, by show ρ w.2.1 = ρ x.1; rw [e]⟩⟩
  exact Bool.eq_iff_iff.mpr e
theorem bt_no {a b : Int32} : bt3 a b (-1000000) = 0 ↔ a = -1000000 ∧ b = -1000000 := by
  unfold bt3
  rw [if_pos rfl]
  by_cases h1 : a = -1000000
  · by_cases h2 : b = -1000000
    · rw [if_pos h1, if_pos h2]
      exact ⟨fun _ => ⟨h1, h2⟩, fun _ => by decide⟩
    · rw [if_pos h1, if_neg h2]
      exact ⟨fun e => absurd e (by decide), fun e => absurd e.2 h2⟩
  · by_cases h2 : b = -1000000
    · rw [if_neg h1, if_pos h2]
      exact ⟨fun e => absurd e (by decide), fun e => absurd e.1 h1⟩
    · rw [if_neg h1, if_neg h2]
      exact ⟨fun e => absurd e (by decide), fun e => absurd e.1 h1⟩
def eiU (E F : List KV) (k : Nat) : Bool := hsU E k || hsU F k
theorem ei_n {E F : List KV} {k : Nat} (h : vTwo E F 0 k = -1000000 ∧ vTwo E F 1 k = -1000000) : eiU E F k = false := by
  have h1 : valIn E (nI k) = -1000000 := h.1
  have h2 : valIn F (nI k) = -1000000 := h.2
  unfold eiU hsU
  rw [h1, h2]
  decide
theorem ei_y {E F : List KV} {k : Nat} (h : ¬ (vTwo E F 0 k = -1000000 ∧ vTwo E F 1 k = -1000000)) : eiU E F k = true := by
  unfold eiU hsU
  by_cases h1 : valIn E (nI k) = -1000000
  · have h2 : ¬ valIn F (nI k) = -1000000 := fun e => h ⟨h1, e⟩
    rw [decide_eq_true h2, Bool.or_true]
  · rw [decide_eq_true h1, Bool.true_or]
theorem own_cnt {S : aw_S} {m ρ : Nat → Nat} {z y : Tz} {w u tk w2 u2 tk2 : Nat} (rz : RepM S m ρ z.1 z.2) (ry : RepM S m ρ y.1 y.2) (tz : tok w u tk z) (ty : tok w2 u2 tk2 y) : cntU (eiU (ent z.1 z.2) (ent y.1 y.2)) 1000 0 = swE (ent z.1 z.2) (ownE z y) (ent z.1 z.2).length ∧ srt (ownE z y) ∧ (∀ x ∈ ownE z y, okE x) ∧ (ownE z y).length ≤ 60 := by
  have hs := entU_sub (mkS (fun _ => false) (sub z.1 z.2)) y.1 y.2
  have so : srt (ownE z y) := List.Pairwise.sublist hs ty.hs
  have oo : ∀ x ∈ ownE z y, okE x := fun x hx => ty.2.1 x (hs.subset hx)
  refine ⟨?_, so, oo, Nat.le_trans hs.length_le ty.2.2.1⟩
  rw [← cnt_sw tz.hs tz.2.1 (ownE z y) so oo]
  refine cntU_congr (fun k hk => ?_) 1000 0 (Nat.le_refl _)
  show (hsU (ent z.1 z.2) k || hsU (ent y.1 y.2) k) = (hsU (ent z.1 z.2) k || hsU (ownE z y) k)
  by_cases h1 : hsU (ent z.1 z.2) k = true
  · rw [h1, Bool.true_or, Bool.true_or]
  · have e1 : valIn (ent z.1 z.2) (nI k) = -1000000 := Classical.byContradiction (fun c => h1 (decide_eq_true c))
    rw [show hsU (ent z.1 z.2) k = false from by simpa using h1, Bool.false_or, Bool.false_or]
    refine Bool.eq_iff_iff.mpr ⟨fun c => ?_, fun c => ?_⟩
    · have c2 : ¬ valIn (ent y.1 y.2) (nI k) = -1000000 := of_decide_eq_true c
      have c3 := valIn_some c2
      rcases shr_ent rz y.1 y.2 ry _ c3 with c4 | c4
      · have c5 := valIn_mem so c4
        exact decide_eq_true (by
          rw [show valIn (ownE z y) (nI k) = valIn (ent y.1 y.2) (nI k) from c5]
          exact c2)
      · have c5 := valIn_mem tz.hs c4
        exact absurd ((show valIn (ent z.1 z.2) (nI k) = valIn (ent y.1 y.2) (nI k) from c5).symm.trans e1) c2
    · have c2 : ¬ valIn (ownE z y) (nI k) = -1000000 := of_decide_eq_true c
      have c5 := valIn_mem ty.hs (hs.subset (valIn_some c2))
      exact decide_eq_true (by
        rw [show valIn (ent y.1 y.2) (nI k) = valIn (ownE z y) (nI k) from c5]
        exact c2)
theorem mrg_go {w t tk q i : Nat} {E O : List KV} {r : Int32} {s0 s : Tz × Nat} (hw : 3 ≤ w) (ht : t < tk) (hE : ∀ x ∈ E, okE x) (oO : ∀ x ∈ O, okE x) (hi : i < O.length) (h60 : O.length ≤ 60) (e : O[i].1 = nI q) (h : stn (60 + i) (7 * i) w tk t s0 s) : stn (60 + (i + 1)) (7 * (i + 1)) w tk t s0 (putT w t s.2 (nI q) (rulV (valIn E (nI q)) O[i].2 r) s.1) := by
  have h0 := oO _ (List.getElem_mem hi)
  have h3 := stn_put (k := nI q) (v := rulV (valIn E (nI q)) O[i].2 r) hw h.1 (by omega) ht ⟨by rw [← e]; exact h0.1, rulV_ok (valIn_ok hE _) h0.2⟩
  exact (h.tr h3).up (by omega) (by omega)
set_option maxHeartbeats 4000000 in
set_option maxRecDepth 100000 in
theorem q_merge {S : aw_S} {m ρ : Nat → Nat} {Z : List Nat × Nat} {mb n9 : Nat} {P : PS} (h0 : RM S m ρ Z mb P) (hJ : PJ n9 P) (hmb : mb + 2 < 2147483000) (hn9 : n9 + 1 < 1000000000) {i k ru : Int32} : aw_M yX11_merge cX11_merge 10 (some FieldType.int) 10 0 0 [.ref (m 33), .int i, .int k, .int ru] S (fun r S2 => ∃ ρ2 Z2, r = some (.int (mrgF P i k ru).1) ∧ RM S2 m ρ2 Z2 (mb + 1 + 1) (mrgF P i k ru).2 ∧ frS S S2 (mQ m)) := by
  have hP := hJ.1
  have hw3 := hP.1.1
  have hM := h0.1
  have hl9 := hJ.ln
  have hw6 := hP.1.2
  have hpH := hJ.2.2.2.2.2.1.1
  have hc16 := hJ.2.2.2.2.2.1.2.1
  refine aw_enter (by decide +kernel) (Nat.le_of_ble_eq_true rfl) (fun g K EE => ?_)
  cases hz : rootP P i with
  | none =>
    first | refine a_aload_n K dX11_merge_0 rfl ?_ | refine a_aload_nN K dX11_merge_0 rfl ?_
    refine a_iconst K dX11_merge_1 (v := 0) (by decide) ?_
    refine a_putI K fd_X11_116 (by exact lm_o hM) rfl dX11_merge_2 ?_
    have f0 : frM S (wI S 704 (m 33) 0) m [] [704] := frM_wI (by decide) (by decide)
    obtain ⟨T, hT⟩ : ∃ T, T = wI S 704 (m 33) 0 := ⟨_, rfl⟩
    rw [← hT] at f0 ⊢
    obtain ⟨h, q0⟩ := h0.scr hP f0 (by decide) (by decide)
    have hM := h.1
    first | refine a_aload_n K dX11_merge_5 rfl ?_ | refine a_aload_nN K dX11_merge_5 rfl ?_
    refine a_iload_n K dX11_merge_6 rfl ?_
    refine a_invV K (q_mapN h hl9 hz) my_X11_isMap ml_X11_309 im_X11_isMap se_X11_isMap (ci := 11) (by exact lm_o hM) (by decide) ⟨_, _, rfl⟩ rfl (by omega) (by omega) (by omega) rfl (Nat.le_of_ble_eq_true rfl) dX11_merge_7 ?_
    intro r9 S9 hp9
    obtain ⟨rfl, hS9⟩ := hp9
    obtain rfl := hS9.symm
    refine a_if_eq K dX11_merge_10 (tgt := 21) (by decide) (fun c_10 => ?_) (fun c_10 => absurd c_10 (fun z => z rfl))
    first | refine a_aload_n K dX11_merge_21 rfl ?_ | refine a_aload_nN K dX11_merge_21 rfl ?_
    refine a_iconst K dX11_merge_22 (v := 0) (by decide) ?_
    rw [show (0 : Int32) = nI 0 from rfl]
    refine a_invV K (q_refP h (k := 0) (by decide)) my_X11_refused ml_X11_292 im_X11_refused se_X11_refused (ci := 11) (by exact lm_o hM) (by decide) ⟨_, _, rfl⟩ rfl (by omega) (by omega) (by omega) rfl (Nat.le_of_ble_eq_true rfl) dX11_merge_23 ?_
    intro r9 S9 hp9
    obtain ⟨rfl, hR, qR⟩ := hp9
    exact a_iret K EE rfl (by omega) (by omega) dX11_merge_26 ⟨ρ, Z, by unfold mrgF; rw [hz], by unfold mrgF; rw [hz]; exact hR.up (by omega) (by omega), mQ_tr q0 qR⟩
  | some z =>
    cases hy : rootP P k with
    | none =>
      first | refine a_aload_n K dX11_merge_0 rfl ?_ | refine a_aload_nN K dX11_merge_0 rfl ?_
      refine a_iconst K dX11_merge_1 (v := 0) (by decide) ?_
      refine a_putI K fd_X11_116 (by exact lm_o hM) rfl dX11_merge_2 ?_
      have f0 : frM S (wI S 704 (m 33) 0) m [] [704] := frM_wI (by decide) (by decide)
      obtain ⟨T, hT⟩ : ∃ T, T = wI S 704 (m 33) 0 := ⟨_, rfl⟩
      rw [← hT] at f0 ⊢
      obtain ⟨h, q0⟩ := h0.scr hP f0 (by decide) (by decide)
      have hM := h.1
      first | refine a_aload_n K dX11_merge_5 rfl ?_ | refine a_aload_nN K dX11_merge_5 rfl ?_
      refine a_iload_n K dX11_merge_6 rfl ?_
      refine a_invV K (q_mapY h hl9 hz) my_X11_isMap ml_X11_309 im_X11_isMap se_X11_isMap (ci := 11) (by exact lm_o hM) (by decide) ⟨_, _, rfl⟩ rfl (by omega) (by omega) (by omega) rfl (Nat.le_of_ble_eq_true rfl) dX11_merge_7 ?_
      intro r9 S9 hp9
      obtain ⟨rfl, hS9⟩ := hp9
      obtain rfl := hS9.symm
      refine a_if_eq K dX11_merge_10 (tgt := 21) (by decide) (fun c_10 => absurd c_10 (by decide)) (fun c_10 => ?_)
      first | refine a_aload_n K dX11_merge_13 rfl ?_ | refine a_aload_nN K dX11_merge_13 rfl ?_
      refine a_iload_n K dX11_merge_14 rfl ?_
      refine a_invV K (q_mapN h hl9 hy) my_X11_isMap ml_X11_309 im_X11_isMap se_X11_isMap (ci := 11) (by exact lm_o hM) (by decide) ⟨_, _, rfl⟩ rfl (by omega) (by omega) (by omega) rfl (Nat.le_of_ble_eq_true rfl) dX11_merge_15 ?_
      intro r9 S9 hp9
      obtain ⟨rfl, hS9⟩ := hp9
      obtain rfl := hS9.symm
      refine a_if_ne K dX11_merge_18 (tgt := 27) (by decide) (fun c_18 => absurd c_18 (fun z => z rfl)) (fun c_18 => ?_)
      first | refine a_aload_n K dX11_merge_21 rfl ?_ | refine a_aload_nN K dX11_merge_21 rfl ?_
      refine a_iconst K dX11_merge_22 (v := 0) (by decide) ?_
      rw [show (0 : Int32) = nI 0 from rfl]
      refine a_invV K (q_refP h (k := 0) (by decide)) my_X11_refused ml_X11_292 im_X11_refused se_X11_refused (ci := 11) (by exact lm_o hM) (by decide) ⟨_, _, rfl⟩ rfl (by omega) (by omega) (by omega) rfl (Nat.le_of_ble_eq_true rfl) dX11_merge_23 ?_
      intro r9 S9 hp9
      obtain ⟨rfl, hR, qR⟩ := hp9
      exact a_iret K EE rfl (by omega) (by omega) dX11_merge_26 ⟨ρ, Z, by unfold mrgF; rw [hz, hy], by unfold mrgF; rw [hz, hy]; exact hR.up (by omega) (by omega), mQ_tr q0 qR⟩
    | some y =>
      obtain ⟨jm, hijm, hjm, -⟩ := h0.root hz
      subst hijm
      have tz := hP.tz (rootP_live hz)
      have h4z := tz.h4 hw3
      have e60z := tz.2.2.1
      obtain ⟨jo, hijo, hjo, -⟩ := h0.root hy
      subst hijo
      have ty := hP.tz (rootP_live hy)
      have h4y := ty.h4 hw3
      by_cases hrr : 0 ≤ ru.toInt ∧ ru.toInt ≤ 3
      · first | refine a_aload_n K dX11_merge_0 rfl ?_ | refine a_aload_nN K dX11_merge_0 rfl ?_
        refine a_iconst K dX11_merge_1 (v := 0) (by decide) ?_
        refine a_putI K fd_X11_116 (by exact lm_o hM) rfl dX11_merge_2 ?_
        have f0 : frM S (wI S 704 (m 33) 0) m [] [704] := frM_wI (by decide) (by decide)
        obtain ⟨T, hT⟩ : ∃ T, T = wI S 704 (m 33) 0 := ⟨_, rfl⟩
        rw [← hT] at f0 ⊢
        obtain ⟨h, q0⟩ := h0.scr hP f0 (by decide) (by decide)
        have hM := h.1
        first | refine a_aload_n K dX11_merge_5 rfl ?_ | refine a_aload_nN K dX11_merge_5 rfl ?_
        refine a_iload_n K dX11_merge_6 rfl ?_
        refine a_invV K (q_mapY h hl9 hz) my_X11_isMap ml_X11_309 im_X11_isMap se_X11_isMap (ci := 11) (by exact lm_o hM) (by decide) ⟨_, _, rfl⟩ rfl (by omega) (by omega) (by omega) rfl (Nat.le_of_ble_eq_true rfl) dX11_merge_7 ?_
        intro r9 S9 hp9
        obtain ⟨rfl, hS9⟩ := hp9
        obtain rfl := hS9.symm
        refine a_if_eq K dX11_merge_10 (tgt := 21) (by decide) (fun c_10 => absurd c_10 (by decide)) (fun c_10 => ?_)
        first | refine a_aload_n K dX11_merge_13 rfl ?_ | refine a_aload_nN K dX11_merge_13 rfl ?_
        refine a_iload_n K dX11_merge_14 rfl ?_
        refine a_invV K (q_mapY h hl9 hy) my_X11_isMap ml_X11_309 im_X11_isMap se_X11_isMap (ci := 11) (by exact lm_o hM) (by decide) ⟨_, _, rfl⟩ rfl (by omega) (by omega) (by omega) rfl (Nat.le_of_ble_eq_true rfl) dX11_merge_15 ?_
        intro r9 S9 hp9
        obtain ⟨rfl, hS9⟩ := hp9
        obtain rfl := hS9.symm
        refine a_if_ne K dX11_merge_18 (tgt := 27) (by decide) (fun c_18 => ?_) (fun c_18 => absurd c_18 (by decide))
        refine a_iload_n K dX11_merge_27 rfl ?_
        refine a_i2l K dX11_merge_28 ?_
        refine a_lconst K dX11_merge_29 (v := 0) (by decide) ?_
        refine a_ldc2 K kc_X11_305 dX11_merge_30 ?_
        refine a_invS K (q_inY (p := 0) (q := 3) (by decide) (by decide) hrr) my_X11_isIn ml_X11_174 st_X11_isIn rfl (by omega) (by omega) (by omega) rfl (Nat.le_of_ble_eq_true rfl) dX11_merge_33 ?_
        intro r9 S9 hp9
        obtain ⟨rfl, hS9⟩ := hp9
        obtain rfl := hS9.symm
        refine a_if_ne K dX11_merge_36 (tgt := 45) (by decide) (fun c_36 => ?_) (fun c_36 => absurd c_36 (by decide))
        first | refine a_aload_n K dX11_merge_45 rfl ?_ | refine a_aload_nN K dX11_merge_45 rfl ?_
        first | refine a_aload_n K dX11_merge_46 rfl ?_ | refine a_aload_nN K dX11_merge_46 rfl ?_
        refine a_getRs K fd_X11_67 (by exact lm_o hM) (Or.inr ⟨_, rfl⟩) (by exact lm_r736 hM) dX11_merge_47 ?_
        refine a_iload_n K dX11_merge_50 rfl ?_
        refine a_iald K (by exact lm_kk hM (by decide) (by decide)) (by show vp_in _ (sN T (m 17)); exact lm_ix (z := 999) hM (by decide) (by decide) (show jm < 999 by omega) (by decide)) dX11_merge_51 ?_
        rw [nI_clamp (by omega)]
        rw [h.root2 hz (by omega)]
        first | refine a_aload_n K dX11_merge_52 rfl ?_ | refine a_aload_nN K dX11_merge_52 rfl ?_
        refine a_getRs K fd_X11_67 (by exact lm_o hM) (Or.inr ⟨_, rfl⟩) (by exact lm_r736 hM) dX11_merge_53 ?_
        refine a_iload_n K dX11_merge_56 rfl ?_
        refine a_iald K (by exact lm_kk hM (by decide) (by decide)) (by show vp_in _ (sN T (m 17)); exact lm_ix (z := 999) hM (by decide) (by decide) (show jo < 999 by omega) (by decide)) dX11_merge_57 ?_
        rw [nI_clamp (by omega)]
        rw [h.root2 hy (by omega)]
        refine a_invV K (q_laysTwo hM (LyT_of h hP hz) (LyT_of h hP hy)) my_X11_laysTwo ml_X11_356 im_X11_laysTwo se_X11_laysTwo (ci := 11) (by exact lm_o hM) (by decide) ⟨_, _, rfl⟩ rfl (by omega) (by omega) (by omega) rfl (Nat.le_of_ble_eq_true rfl) dX11_merge_58 ?_
        intro r9 S9 hp9
        obtain ⟨rfl, hTh, f9⟩ := hp9
        obtain ⟨h9, q9⟩ := h.scr hP f9 (by decide) (by decide)
        have hM := h9.1
        refine a_iconst K dX11_merge_61 (v := 0) (by decide) ?_
        refine a_istore K dX11_merge_62 (by decide) ?_
        refine a_iconst K dX11_merge_64 (v := 0) (by decide) ?_
        refine a_istore K dX11_merge_65 (by decide) ?_
        have rz1 := h9.rep (rootP_live hz)
        have ry1 := h9.rep (rootP_live hy)
        have inj := h9.N.2.2.1.2
        have Qz : ∀ x ∈ ndl z.1 z.2, LvN P x.1 := live_in (rootP_live hz)
        have Qy : ∀ x ∈ ndl y.1 y.2, LvN P x.1 := live_in (rootP_live hy)
        obtain ⟨hcs, hOs, hOo, hOl⟩ := own_cnt rz1 ry1 tz ty
        obtain ⟨R1, hR1e⟩ : ∃ R1, cntU (eiU (ent z.1 z.2) (ent y.1 y.2)) 1000 0 = R1 := ⟨_, rfl⟩
        have hR1s := hcs.symm.trans hR1e
        have hc9 : R1 ≤ 1000 := by rw [← hR1e]; exact cntU_le _ 1000 0
        have loop1 : ∀ (n q a : Nat) (x c : Int32), x = nI q → c = nI a → q + n = 1000 → cntU (eiU (ent z.1 z.2) (ent y.1 y.2)) n a = R1 → aw g 10 S9 0 0 [(5, .int x), (4, .int c), (3, .int ru), (2, .int (nI jo)), (1, .int (nI jm)), (0, .ref (m 33))] [] 67 := by
          intro n
          induction n with
          | zero =>
            intro q a x c hx9 hc hn hR
            subst hx9
            subst hc
            refine a_iload K dX11_merge_67 rfl ?_
            refine a_sipush K dX11_merge_69 (v := 999) (by decide) ?_
            refine a_icmp_gt K dX11_merge_72 (tgt := 101) (by decide) (fun c_72 => ?_) (fun c_72 => absurd c_72 (fun e9 => e9 (by rw [show q = 1000 by omega]; decide)))
            have hR1 : a = R1 := hR
            rw [hR1]
            by_cases hsz : R1 ≤ 60
            · by_cases hr : hcnt (pH P) < 16 ∧ (pM P).length < 999
              · have hE : mrgF P (nI jm) (nI jo) ru = (nI (pM P).length, addM (setU (incT P) (mrgL (pW P) (pTk P) (ent z.1 z.2) ru (ownE z y) (z, pU P)).2) (mrgL (pW P) (pTk P) (ent z.1 z.2) ru (ownE z y) (z, pU P)).1 (nI jm) (nI jo)) := by
                  unfold mrgF
                  rw [hz, hy]
                  exact (if_pos hrr).trans ((if_pos (by rw [hR1s]; exact hsz)).trans (if_pos hr))
                refine a_iload K dX11_merge_101 rfl ?_
                refine a_bipush K dX11_merge_103 (v := 60) (by decide) ?_
                refine a_icmp_le K dX11_merge_105 (tgt := 114) (by decide) (fun c_105 => ?_) (fun c_105 => absurd c_105 (fun z => z (nI_le (b := 60) hsz (by decide))))
                first | refine a_aload_n K dX11_merge_114 rfl ?_ | refine a_aload_nN K dX11_merge_114 rfl ?_
                refine a_invV K ((h9.room hl9 hc16).1 hr) my_X11_hasRoom ml_X11_289 im_X11_hasRoom se_X11_hasRoom (ci := 11) (by exact lm_o hM) (by decide) ⟨_, _, rfl⟩ rfl (by omega) (by omega) (by omega) rfl (Nat.le_of_ble_eq_true rfl) dX11_merge_115 ?_
                intro r9 S9 hp9
                obtain ⟨rfl, hS9⟩ := hp9
                obtain rfl := hS9.symm
                refine a_if_ne K dX11_merge_118 (tgt := 127) (by decide) (fun c_118 => ?_) (fun c_118 => absurd c_118 (by decide))
                first | refine a_aload_n K dX11_merge_127 rfl ?_ | refine a_aload_nN K dX11_merge_127 rfl ?_
                refine a_invV K (q_newTkF h9 hJ (by omega)) my_X11_newToken ml_X11_295 im_X11_newToken se_X11_newToken (ci := 11) (by exact lm_o hM) (by decide) ⟨_, _, rfl⟩ rfl (by omega) (by omega) (by omega) rfl (Nat.le_of_ble_eq_true rfl) dX11_merge_128 ?_
                intro r9 S1 hp9
                obtain ⟨rfl, Z1, h1, hrm1, f1⟩ := hp9
                have q1 : frS S9 S1 (mQ m) := f1.mq (by decide)
                have hTh1 := hTh.fr hM f1 (by decide) (by decide) (by decide)
                have hM := h1.1
                have hPi : PI (incT P) := hJ.inc hn9
                obtain ⟨st, hst, hs1, hk0, hs2, hs4⟩ := h1.stamp (by omega)
                refine a_istore K dX11_merge_131 (by decide) ?_
                first | refine a_aload_n K dX11_merge_133 rfl ?_ | refine a_aload_nN K dX11_merge_133 rfl ?_
                refine a_dup K dX11_merge_134 rfl ?_
                refine a_getI K fd_X11_255 (by exact lm_o hM) (Or.inl rfl) dX11_merge_135 ?_
                rw [hst]
                refine a_iconst K dX11_merge_138 (v := 1) (by decide) ?_
                refine a_iadd K dX11_merge_139 ?_
                rw [nI_1]
                refine a_putI K fd_X11_255 (by exact lm_o hM) rfl dX11_merge_140 ?_
                have fW : frM S1 (wI S1 726 (m 33) (nI (st + 1))) m [] [726] := frM_wI (by decide) (by decide)
                have hM := fW.lay h1.1
                first | refine a_aload_n K dX11_merge_143 rfl ?_ | refine a_aload_nN K dX11_merge_143 rfl ?_
                first | refine a_aload_n K dX11_merge_144 rfl ?_ | refine a_aload_nN K dX11_merge_144 rfl ?_
                refine a_getRs K fd_X11_67 (by exact lm_o hM) (Or.inr ⟨_, rfl⟩) (by exact lm_r736 hM) dX11_merge_145 ?_
                refine a_iload_n K dX11_merge_148 rfl ?_
                refine a_iald K (by exact lm_kk hM (by decide) (by decide)) (by show vp_in _ (sN (wI S1 726 (m 33) (nI (st + 1))) (m 17)); exact lm_ix (z := 999) hM (by decide) (by decide) (show jm < 999 by omega) (by decide)) dX11_merge_149 ?_
                rw [nI_clamp (by omega)]
                rw [show sA (wI S1 726 (m 33) (nI (st + 1))) (m 17) jm = nI (ρ z.2.1) from h1.root2 hz (by omega)]
                refine a_invV K (m_marks z.1 z.2 _ (fun _ => false) (nI (st + 1)) (by exact hM) (fW.rep h1.1 (by decide) (by decide) (by decide) (by decide) (by decide) (by decide) (h1.rep (rootP_live hz))) hk0) my_X11_marks ml_X11_258 im_X11_marks se_X11_marks (ci := 11) (by exact lm_o hM) (by decide) ⟨_, _, rfl⟩ rfl (by omega) (by omega) (by omega) rfl (Nat.le_of_ble_eq_true rfl) dX11_merge_150 ?_
                intro r9 S2 hp9
                obtain ⟨rfl, hk2, f2⟩ := hp9
                obtain ⟨h2, q2⟩ := RM_marked h1 hPi (by omega) hs2 hs4 hk2 f2
                have hTh2 := (hTh1.fr h1.1 fW (by decide) (by decide) (by decide)).fr (fW.lay h1.1) f2.1 (by decide) (by decide) (by decide)
                have hM := h2.1
                refine a_istore K dX11_merge_153 (by decide) ?_
                first | refine a_aload_n K dX11_merge_155 rfl ?_ | refine a_aload_nN K dX11_merge_155 rfl ?_
                refine a_iconst K dX11_merge_156 (v := 0) (by decide) ?_
                refine a_putI K fd_X11_353 (by exact lm_o hM) rfl dX11_merge_157 ?_
                have fV : frM S2 (wI S2 753 (m 33) 0) m [] [753] := frM_wI (by decide) (by decide)
                have hO0 : OwM (wI S2 753 (m 33) 0) m [] := ⟨wI_at, fun i x hx => absurd hx (by simp)⟩
                obtain ⟨V1, hV1⟩ : ∃ V1, V1 = wI S2 753 (m 33) 0 := ⟨_, rfl⟩
                rw [← hV1] at fV hO0 ⊢
                obtain ⟨h2V, q2V⟩ := h2.scr hPi fV (by decide) (by decide)
                have hThV := hTh2.fr hM fV (by decide) (by decide) (by decide)
                have hk3 := hk2.fr hM fV (by decide) (by decide) (by decide)
                have hM := h2V.1
                first | refine a_aload_n K dX11_merge_160 rfl ?_ | refine a_aload_nN K dX11_merge_160 rfl ?_
                first | refine a_aload_n K dX11_merge_161 rfl ?_ | refine a_aload_nN K dX11_merge_161 rfl ?_
                refine a_getRs K fd_X11_67 (by exact lm_o hM) (Or.inr ⟨_, rfl⟩) (by exact lm_r736 hM) dX11_merge_162 ?_
                refine a_iload_n K dX11_merge_165 rfl ?_
                refine a_iald K (by exact lm_kk hM (by decide) (by decide)) (by show vp_in _ (sN V1 (m 17)); exact lm_ix (z := 999) hM (by decide) (by decide) (show jo < 999 by omega) (by decide)) dX11_merge_166 ?_
                rw [nI_clamp (by omega)]
                rw [h2V.root2 hy (by omega)]
                refine a_invV K (m_laysOwn y.1 y.2 V1 [] hM (h2V.rep (rootP_live hy)) hk3 hO0 (by rw [own_eq rz1 ry1 inj Qz Qy, List.length_nil, Nat.zero_add]; exact hOl)) my_X11_laysOwn ml_X11_350 im_X11_laysOwn se_X11_laysOwn (ci := 11) (by exact lm_o hM) (by decide) ⟨_, _, rfl⟩ rfl (by omega) (by omega) (by omega) rfl (Nat.le_of_ble_eq_true rfl) dX11_merge_167 ?_
                intro r9 S3 hp9
                obtain ⟨rfl, hO3, f3⟩ := hp9
                rw [own_eq rz1 ry1 inj Qz Qy] at hO3
                have hO3 : OwM S3 m (ownE z y) := hO3
                obtain ⟨h3, q3⟩ := h2V.scr hPi f3 (by decide) (by decide)
                have hTh3 := hThV.fr hM f3 (by decide) (by decide) (by decide)
                have hM := h3.1
                first | refine a_aload_n K dX11_merge_170 rfl ?_ | refine a_aload_nN K dX11_merge_170 rfl ?_
                refine a_getRs K fd_X11_67 (by exact lm_o hM) (Or.inr ⟨_, rfl⟩) (by exact lm_r736 hM) dX11_merge_171 ?_
                refine a_iload_n K dX11_merge_174 rfl ?_
                refine a_iald K (by exact lm_kk hM (by decide) (by decide)) (by show vp_in _ (sN S3 (m 17)); exact lm_ix (z := 999) hM (by decide) (by decide) (show jm < 999 by omega) (by decide)) dX11_merge_175 ?_
                rw [nI_clamp (by omega)]
                rw [h3.root2 hz (by omega)]
                refine a_istore K dX11_merge_176 (by decide) ?_
                refine a_iconst K dX11_merge_178 (v := 0) (by decide) ?_
                refine a_istore K dX11_merge_179 (by decide) ?_
                have hQ0 : ∀ x ∈ ndl z.1 z.2, LvN (incT P) x.1 := live_in (P := incT P) (rootP_live hz)
                obtain ⟨R, hRR⟩ : ∃ R, (mrgL (pW P) (pTk P) (ent z.1 z.2) ru (ownE z y) (z, pU P)) = R := ⟨_, rfl⟩
                have loop3 : ∀ (n i : Nat) (x : Int32) (s : Tz × Nat) (W : aw_S) (ρ2 : Nat → Nat) (Z2 : List Nat × Nat), x = nI i → i + n = (ownE z y).length → TS S3 W m ρ ρ2 (pU P) s.2 Z1 Z2 (pTk P) (ndl z.1 z.2) s.1 → stn (60 + i) (7 * i) (pW P) (pTk P + 1) (pTk P) (z, pU P) s → mrgL (pW P) (pTk P) (ent z.1 z.2) ru ((ownE z y).drop i) s = R → aw g 10 W 0 0 [(8, .int x), (7, .int (nI (ρ2 s.1.2.1))), (5, .int (nI (pTk P + 1))), (3, .int ru), (2, .int (nI jo)), (1, .int (nI jm)), (0, .ref (m 33))] [] 181 := by
                  intro n
                  induction n with
                  | zero =>
                    intro i x s W ρ2 Z2 hx9 hn ts hst9 hR
                    subst hx9
                    have hM := ts.1.lay h3.1
                    have fT := ts.1.2.2.2.2.2.2.2.2.2.1
                    have hTh := hTh3.fr h3.1 fT (by decide) (by decide) (by decide)
                    have hO : OwM W m (ownE z y) := ⟨(fT.2 753 (by decide)).trans hO3.1, by rw [fT.A h3.1 (by decide) (by decide) (by decide), fT.A h3.1 (by decide) (by decide) (by decide)]; exact hO3.2⟩
                    have hgF := ts.1.F
                    obtain rfl : s = R := by rw [show i = (ownE z y).length by omega, List.drop_length] at hR; exact hR
                    obtain ⟨h5, q5, r5, a5⟩ := ts.fin (P := incT P) h3 (show IdP (incT P) from hP.ids) (tok.tk9 hP tz).2 hQ0
                    refine a_iload K dX11_merge_181 rfl ?_
                    first | refine a_aload_n K dX11_merge_183 rfl ?_ | refine a_aload_nN K dX11_merge_183 rfl ?_
                    refine a_getI K fd_X11_353 (by exact lm_o hM) (Or.inl rfl) dX11_merge_184 ?_
                    rw [hO.1]
                    refine a_icmp_ge K dX11_merge_187 (tgt := 261) (by decide) (fun c_187 => ?_) (fun c_187 => absurd c_187 (fun z9 => z9 (nI_le (a := (ownE z y).length) (b := i) (by omega) (by omega))))
                    first | refine a_aload_n K dX11_merge_261 rfl ?_ | refine a_aload_nN K dX11_merge_261 rfl ?_
                    refine a_iload K dX11_merge_262 rfl ?_
                    refine a_iload_n K dX11_merge_264 rfl ?_
                    refine a_iload_n K dX11_merge_265 rfl ?_
                    refine a_invV K (q_newMapR h5 hpH hr.2 r5 a5) my_X11_newMap ml_X11_302 im_X11_newMap se_X11_newMap (ci := 11) (by exact lm_o hM) (by decide) ⟨_, _, rfl⟩ rfl (by omega) (by omega) (by omega) rfl (Nat.le_of_ble_eq_true rfl) dX11_merge_266 ?_
                    intro r9 S6 hp9
                    obtain ⟨rfl, h6, q6⟩ := hp9
                    exact a_iret K EE rfl (by omega) (by omega) dX11_merge_269 ⟨ρ2, Z2, by rw [hE, hRR]; rfl, by rw [hE, hRR]; exact h6, mQ_tr q0 (mQ_tr q9 (mQ_tr q1 (mQ_tr q2 (mQ_tr q2V (mQ_tr q3 (mQ_tr q5 q6))))))⟩
                  | succ n ih =>
                    intro i x s W ρ2 Z2 hx9 hn ts hst9 hR
                    subst hx9
                    have hM := ts.1.lay h3.1
                    have fT := ts.1.2.2.2.2.2.2.2.2.2.1
                    have hTh := hTh3.fr h3.1 fT (by decide) (by decide) (by decide)
                    have hO : OwM W m (ownE z y) := ⟨(fT.2 753 (by decide)).trans hO3.1, by rw [fT.A h3.1 (by decide) (by decide) (by decide), fT.A h3.1 (by decide) (by decide) (by decide)]; exact hO3.2⟩
                    have hgF := ts.1.F
                    have hi : i < (ownE z y).length := by omega
                    have hxi := List.getElem?_eq_getElem hi
                    obtain ⟨q, hq9, hqe⟩ := okE_key (hOo _ (List.getElem_mem hi))
                    have hgo := mrg_go (r := ru) hw3 (Nat.lt_succ_self (pTk P)) tz.2.1 hOo hi hOl hqe hst9
                    rw [mrgL_at hi, hqe] at hR
                    have hle := hst9.le hw3 (tz.mono (Nat.le_refl _) (Nat.le_succ _))
                    have h5 := hst9.1.h5 hw3 (by omega)
                    have hle : s.2 ≤ pU P + 61 + 7 * i := hle
                    by_cases hv : (vTwo (ent z.1 z.2) (ent y.1 y.2)) 0 q = -1000000
                    · have hval : (rulV (valIn (ent z.1 z.2) (nI q)) (ownE z y)[i].2 ru) = (ownE z y)[i].2 := by unfold rulV; exact if_pos (Or.inl hv)
                      refine a_iload K dX11_merge_181 rfl ?_
                      first | refine a_aload_n K dX11_merge_183 rfl ?_ | refine a_aload_nN K dX11_merge_183 rfl ?_
                      refine a_getI K fd_X11_353 (by exact lm_o hM) (Or.inl rfl) dX11_merge_184 ?_
                      rw [hO.1]
                      refine a_icmp_ge K dX11_merge_187 (tgt := 261) (by decide) (fun c_187 => absurd c_187 (nI_ge (a := i) (b := (ownE z y).length) (by omega) (by omega))) (fun c_187 => ?_)
                      first | refine a_aload_n K dX11_merge_190 rfl ?_ | refine a_aload_nN K dX11_merge_190 rfl ?_
                      refine a_getRs K fd_X11_101 (by exact lm_o hM) (Or.inr ⟨_, rfl⟩) (by exact lm_r751 hM) dX11_merge_191 ?_
                      refine a_iload K dX11_merge_194 rfl ?_
                      refine a_iald K (by exact lm_kk hM (by decide) (by decide)) (by show vp_in _ (sN W (m 28)); exact lm_ix (z := 60) hM (by decide) (by decide) (show i < 60 by omega) (by decide)) dX11_merge_196 ?_
                      rw [nI_clamp (by omega)]
                      rw [show sA W (m 28) i = nI q from (hO.2 i _ hxi).1.trans hqe]
                      refine a_istore K dX11_merge_197 (by decide) ?_
                      first | refine a_aload_n K dX11_merge_199 rfl ?_ | refine a_aload_nN K dX11_merge_199 rfl ?_
                      refine a_iload K dX11_merge_200 rfl ?_
                      refine a_iload K dX11_merge_202 rfl ?_
                      first | refine a_aload_n K dX11_merge_204 rfl ?_ | refine a_aload_nN K dX11_merge_204 rfl ?_
                      refine a_getRs K fd_X11_95 (by exact lm_o hM) (Or.inr ⟨_, rfl⟩) (by exact lm_r749 hM) dX11_merge_205 ?_
                      refine a_iload K dX11_merge_208 rfl ?_
                      refine a_iald K (by exact lm_kk hM (by decide) (by decide)) (by show vp_in _ (sN W (m 26)); exact lm_ix (z := 1000) hM (by decide) (by decide) (show q < 1000 by omega) (by decide)) dX11_merge_210 ?_
                      rw [nI_clamp (by omega)]
                      rw [hTh.1 q (by omega)]
                      refine a_iconst K dX11_merge_211 (v := 0) (by decide) ?_
                      rw [show (0 : Int32) = nI 0 from rfl]
                      refine a_invS K (q_thN (V := (vTwo (ent z.1 z.2) (ent y.1 y.2))) (q := q) (w := 0) (by decide) hv) my_X11_has ml_X11_271 st_X11_has rfl (by omega) (by omega) (by omega) rfl (Nat.le_of_ble_eq_true rfl) dX11_merge_212 ?_
                      intro r8 S8 hp8
                      obtain ⟨rfl, hS8⟩ := hp8
                      obtain rfl := hS8.symm
                      refine a_if_eq K dX11_merge_215 (tgt := 241) (by decide) (fun c_215 => ?_) (fun c_215 => absurd c_215 (fun z9 => z9 rfl))
                      first | refine a_aload_n K dX11_merge_241 rfl ?_ | refine a_aload_nN K dX11_merge_241 rfl ?_
                      refine a_getRs K fd_X11_104 (by exact lm_o hM) (Or.inr ⟨_, rfl⟩) (by exact lm_r752 hM) dX11_merge_242 ?_
                      refine a_iload K dX11_merge_245 rfl ?_
                      refine a_iald K (by exact lm_kk hM (by decide) (by decide)) (by show vp_in _ (sN W (m 29)); exact lm_ix (z := 60) hM (by decide) (by decide) (show i < 60 by omega) (by decide)) dX11_merge_247 ?_
                      rw [nI_clamp (by omega)]
                      rw [(hO.2 i _ hxi).2, ← hval]
                      refine a_iload K dX11_merge_248 rfl ?_
                      refine a_invV K (ts.put (key := nI q) (v := (rulV (valIn (ent z.1 z.2) (nI q)) (ownE z y)[i].2 ru)) h3.1 h3.N.2.2.1 hQ0 (tok.tk9 hP tz).1 (by have := hP.2.2.2; omega) h3.wid hw3 hw6 hst9.1.1 hst9.1.2.2.2.1 (by omega) (by omega)) my_X11_puts ml_X11_298 im_X11_puts se_X11_puts (ci := 11) (by exact lm_o hM) (by decide) ⟨_, _, rfl⟩ rfl (by omega) (by omega) (by omega) rfl (Nat.le_of_ble_eq_true rfl) dX11_merge_250 ?_
                      intro r9 W2 hp9
                      obtain ⟨ρ3, Z3, rfl, ts3⟩ := hp9
                      refine a_istore K dX11_merge_253 (by decide) ?_
                      refine a_iinc K dX11_merge_255 (v := 1) rfl (by decide) (by decide) ?_
                      refine a_goto K dX11_merge_258 (tgt := 181) (by decide) ?_
                      exact aw_locl rfl (ih (i + 1) _ _ W2 ρ3 Z3 (nI_1 i) (by omega) ts3 hgo hR)
                    · refine a_iload K dX11_merge_181 rfl ?_
                      first | refine a_aload_n K dX11_merge_183 rfl ?_ | refine a_aload_nN K dX11_merge_183 rfl ?_
                      refine a_getI K fd_X11_353 (by exact lm_o hM) (Or.inl rfl) dX11_merge_184 ?_
                      rw [hO.1]
                      refine a_icmp_ge K dX11_merge_187 (tgt := 261) (by decide) (fun c_187 => absurd c_187 (nI_ge (a := i) (b := (ownE z y).length) (by omega) (by omega))) (fun c_187 => ?_)
                      first | refine a_aload_n K dX11_merge_190 rfl ?_ | refine a_aload_nN K dX11_merge_190 rfl ?_
                      refine a_getRs K fd_X11_101 (by exact lm_o hM) (Or.inr ⟨_, rfl⟩) (by exact lm_r751 hM) dX11_merge_191 ?_
                      refine a_iload K dX11_merge_194 rfl ?_
                      refine a_iald K (by exact lm_kk hM (by decide) (by decide)) (by show vp_in _ (sN W (m 28)); exact lm_ix (z := 60) hM (by decide) (by decide) (show i < 60 by omega) (by decide)) dX11_merge_196 ?_
                      rw [nI_clamp (by omega)]
                      rw [show sA W (m 28) i = nI q from (hO.2 i _ hxi).1.trans hqe]
                      refine a_istore K dX11_merge_197 (by decide) ?_
                      first | refine a_aload_n K dX11_merge_199 rfl ?_ | refine a_aload_nN K dX11_merge_199 rfl ?_
                      refine a_iload K dX11_merge_200 rfl ?_
                      refine a_iload K dX11_merge_202 rfl ?_
                      first | refine a_aload_n K dX11_merge_204 rfl ?_ | refine a_aload_nN K dX11_merge_204 rfl ?_
                      refine a_getRs K fd_X11_95 (by exact lm_o hM) (Or.inr ⟨_, rfl⟩) (by exact lm_r749 hM) dX11_merge_205 ?_
                      refine a_iload K dX11_merge_208 rfl ?_
                      refine a_iald K (by exact lm_kk hM (by decide) (by decide)) (by show vp_in _ (sN W (m 26)); exact lm_ix (z := 1000) hM (by decide) (by decide) (show q < 1000 by omega) (by decide)) dX11_merge_210 ?_
                      rw [nI_clamp (by omega)]
                      rw [hTh.1 q (by omega)]
                      refine a_iconst K dX11_merge_211 (v := 0) (by decide) ?_
                      rw [show (0 : Int32) = nI 0 from rfl]
                      refine a_invS K (q_thY (V := (vTwo (ent z.1 z.2) (ent y.1 y.2))) (q := q) (w := 0) (by decide) hv) my_X11_has ml_X11_271 st_X11_has rfl (by omega) (by omega) (by omega) rfl (Nat.le_of_ble_eq_true rfl) dX11_merge_212 ?_
                      intro r8 S8 hp8
                      obtain ⟨rfl, hS8⟩ := hp8
                      obtain rfl := hS8.symm
                      refine a_if_eq K dX11_merge_215 (tgt := 241) (by decide) (fun c_215 => absurd c_215 (by decide)) (fun c_215 => ?_)
                      first | refine a_aload_n K dX11_merge_218 rfl ?_ | refine a_aload_nN K dX11_merge_218 rfl ?_
                      refine a_getRs K fd_X11_98 (by exact lm_o hM) (Or.inr ⟨_, rfl⟩) (by exact lm_r750 hM) dX11_merge_219 ?_
                      refine a_iconst K dX11_merge_222 (v := 3) (by decide) ?_
                      refine a_iload K dX11_merge_223 rfl ?_
                      refine a_imul K dX11_merge_225 ?_
                      rw [nI_3]
                      refine a_iald K (by exact lm_kk hM (by decide) (by decide)) (by show vp_in _ (sN W (m 27)); exact lm_ix (z := 3000) hM (by decide) (by decide) (show 3 * q < 3000 by omega) (by decide)) dX11_merge_226 ?_
                      rw [nI_clamp (by omega)]
                      rw [show sA W (m 27) (3 * q) = valIn (ent z.1 z.2) (nI q) from hTh.2 0 (by decide) q hq9 hv]
                      first | refine a_aload_n K dX11_merge_227 rfl ?_ | refine a_aload_nN K dX11_merge_227 rfl ?_
                      refine a_getRs K fd_X11_104 (by exact lm_o hM) (Or.inr ⟨_, rfl⟩) (by exact lm_r752 hM) dX11_merge_228 ?_
                      refine a_iload K dX11_merge_231 rfl ?_
                      refine a_iald K (by exact lm_kk hM (by decide) (by decide)) (by show vp_in _ (sN W (m 29)); exact lm_ix (z := 60) hM (by decide) (by decide) (show i < 60 by omega) (by decide)) dX11_merge_233 ?_
                      rw [nI_clamp (by omega)]
                      rw [(hO.2 i _ hxi).2]
                      refine a_iload_n K dX11_merge_234 rfl ?_
                      refine a_invS K (q_ruled (a := valIn (ent z.1 z.2) (nI q)) hv) my_X11_ruled ml_X11_359 st_X11_ruled rfl (by omega) (by omega) (by omega) rfl (Nat.le_of_ble_eq_true rfl) dX11_merge_235 ?_
                      intro r8 S8 hp8
                      obtain ⟨rfl, hS8⟩ := hp8
                      obtain rfl := hS8.symm
                      refine a_goto K dX11_merge_238 (tgt := 248) (by decide) ?_
                      refine a_iload K dX11_merge_248 rfl ?_
                      refine a_invV K (ts.put (key := nI q) (v := (rulV (valIn (ent z.1 z.2) (nI q)) (ownE z y)[i].2 ru)) h3.1 h3.N.2.2.1 hQ0 (tok.tk9 hP tz).1 (by have := hP.2.2.2; omega) h3.wid hw3 hw6 hst9.1.1 hst9.1.2.2.2.1 (by omega) (by omega)) my_X11_puts ml_X11_298 im_X11_puts se_X11_puts (ci := 11) (by exact lm_o hM) (by decide) ⟨_, _, rfl⟩ rfl (by omega) (by omega) (by omega) rfl (Nat.le_of_ble_eq_true rfl) dX11_merge_250 ?_
                      intro r9 W2 hp9
                      obtain ⟨ρ3, Z3, rfl, ts3⟩ := hp9
                      refine a_istore K dX11_merge_253 (by decide) ?_
                      refine a_iinc K dX11_merge_255 (v := 1) rfl (by decide) (by decide) ?_
                      refine a_goto K dX11_merge_258 (tgt := 181) (by decide) ?_
                      exact aw_locl rfl (ih (i + 1) _ _ W2 ρ3 Z3 (nI_1 i) (by omega) ts3 hgo hR)
                exact aw_locl rfl (loop3 (ownE z y).length 0 _ (z, pU P) S3 ρ Z1 nI_0.symm (Nat.zero_add _) (TS.rf h3.N.1 h3.N.2.1 (h3.rep (rootP_live hz))) (stn.rf ((tz.mono (Nat.le_refl _) (Nat.le_succ _)).n (Nat.le_refl _))) hRR)
              · have hE : mrgF P (nI jm) (nI jo) ru = (-1, refP P 4) := by
                  unfold mrgF
                  rw [hz, hy]
                  exact (if_pos hrr).trans ((if_pos (by rw [hR1s]; exact hsz)).trans (if_neg hr))
                refine a_iload K dX11_merge_101 rfl ?_
                refine a_bipush K dX11_merge_103 (v := 60) (by decide) ?_
                refine a_icmp_le K dX11_merge_105 (tgt := 114) (by decide) (fun c_105 => ?_) (fun c_105 => absurd c_105 (fun z => z (nI_le (b := 60) hsz (by decide))))
                first | refine a_aload_n K dX11_merge_114 rfl ?_ | refine a_aload_nN K dX11_merge_114 rfl ?_
                refine a_invV K ((h9.room hl9 hc16).2 hr) my_X11_hasRoom ml_X11_289 im_X11_hasRoom se_X11_hasRoom (ci := 11) (by exact lm_o hM) (by decide) ⟨_, _, rfl⟩ rfl (by omega) (by omega) (by omega) rfl (Nat.le_of_ble_eq_true rfl) dX11_merge_115 ?_
                intro r9 S9 hp9
                obtain ⟨rfl, hS9⟩ := hp9
                obtain rfl := hS9.symm
                refine a_if_ne K dX11_merge_118 (tgt := 127) (by decide) (fun c_118 => absurd c_118 (fun z => z rfl)) (fun c_118 => ?_)
                first | refine a_aload_n K dX11_merge_121 rfl ?_ | refine a_aload_nN K dX11_merge_121 rfl ?_
                refine a_iconst K dX11_merge_122 (v := 4) (by decide) ?_
                rw [show (4 : Int32) = nI 4 from rfl]
                refine a_invV K (q_refP h9 (k := 4) (by decide)) my_X11_refused ml_X11_292 im_X11_refused se_X11_refused (ci := 11) (by exact lm_o hM) (by decide) ⟨_, _, rfl⟩ rfl (by omega) (by omega) (by omega) rfl (Nat.le_of_ble_eq_true rfl) dX11_merge_123 ?_
                intro r9 S9 hp9
                obtain ⟨rfl, hR, qR⟩ := hp9
                exact a_iret K EE rfl (by omega) (by omega) dX11_merge_126 ⟨ρ, Z, by rw [hE], by rw [hE]; exact hR.up (by omega) (by omega), mQ_tr q0 (mQ_tr q9 qR)⟩
            · have hE : mrgF P (nI jm) (nI jo) ru = (-1, refP P 3) := by
                unfold mrgF
                rw [hz, hy]
                exact (if_pos hrr).trans (if_neg (by rw [hR1s]; exact hsz))
              refine a_iload K dX11_merge_101 rfl ?_
              refine a_bipush K dX11_merge_103 (v := 60) (by decide) ?_
              refine a_icmp_le K dX11_merge_105 (tgt := 114) (by decide) (fun c_105 => absurd c_105 (fun z => hsz ((nI_leI (b := 60) (by omega) (by decide)).mp z))) (fun c_105 => ?_)
              first | refine a_aload_n K dX11_merge_108 rfl ?_ | refine a_aload_nN K dX11_merge_108 rfl ?_
              refine a_iconst K dX11_merge_109 (v := 3) (by decide) ?_
              rw [show (3 : Int32) = nI 3 from rfl]
              refine a_invV K (q_refP h9 (k := 3) (by decide)) my_X11_refused ml_X11_292 im_X11_refused se_X11_refused (ci := 11) (by exact lm_o hM) (by decide) ⟨_, _, rfl⟩ rfl (by omega) (by omega) (by omega) rfl (Nat.le_of_ble_eq_true rfl) dX11_merge_110 ?_
              intro r9 S9 hp9
              obtain ⟨rfl, hR, qR⟩ := hp9
              exact a_iret K EE rfl (by omega) (by omega) dX11_merge_113 ⟨ρ, Z, by rw [hE], by rw [hE]; exact hR.up (by omega) (by omega), mQ_tr q0 (mQ_tr q9 qR)⟩
          | succ n ih =>
            intro q a x c hx9 hc hn hR
            subst hx9
            subst hc
            by_cases hv : (vTwo (ent z.1 z.2) (ent y.1 y.2)) 0 q = -1000000 ∧ (vTwo (ent z.1 z.2) (ent y.1 y.2)) 1 q = -1000000
            · refine a_iload K dX11_merge_67 rfl ?_
              refine a_sipush K dX11_merge_69 (v := 999) (by decide) ?_
              refine a_icmp_gt K dX11_merge_72 (tgt := 101) (by decide) (fun c_72 => absurd c_72 ((Int32.not_lt.mpr (show nI q ≤ 999 from nI_le (b := 999) (by omega) (by decide))))) (fun c_72 => ?_)
              refine a_iload K dX11_merge_75 rfl ?_
              first | refine a_aload_n K dX11_merge_77 rfl ?_ | refine a_aload_nN K dX11_merge_77 rfl ?_
              refine a_getRs K fd_X11_95 (by exact lm_o hM) (Or.inr ⟨_, rfl⟩) (by exact lm_r749 hM) dX11_merge_78 ?_
              refine a_iload K dX11_merge_81 rfl ?_
              refine a_iald K (by exact lm_kk hM (by decide) (by decide)) (by show vp_in _ (sN S9 (m 26)); exact lm_ix (z := 1000) hM (by decide) (by decide) (show q < 1000 by omega) (by decide)) dX11_merge_83 ?_
              rw [nI_clamp (by omega)]
              rw [hTh.1 q (by omega)]
              refine a_if_ne K dX11_merge_84 (tgt := 91) (by decide) (fun c_84 => absurd c_84 (fun e => e (bt_no.mpr hv))) (fun c_84 => ?_)
              refine a_iconst K dX11_merge_87 (v := 0) (by decide) ?_
              refine a_goto K dX11_merge_88 (tgt := 92) (by decide) ?_
              refine a_iadd K dX11_merge_92 ?_
              refine a_istore K dX11_merge_93 (by decide) ?_
              refine a_iinc K dX11_merge_95 (v := 1) rfl (by decide) (by decide) ?_
              refine a_goto K dX11_merge_98 (tgt := 67) (by decide) ?_
              exact aw_locl rfl (ih (q + 1) a _ _ (nI_1 q) (Int32.add_zero _) (by omega) (by rw [cntU_n (show eiU (ent z.1 z.2) (ent y.1 y.2) (999 - n) = false by rw [show 999 - n = q by omega]; exact ei_n hv)] at hR; exact hR))
            · refine a_iload K dX11_merge_67 rfl ?_
              refine a_sipush K dX11_merge_69 (v := 999) (by decide) ?_
              refine a_icmp_gt K dX11_merge_72 (tgt := 101) (by decide) (fun c_72 => absurd c_72 ((Int32.not_lt.mpr (show nI q ≤ 999 from nI_le (b := 999) (by omega) (by decide))))) (fun c_72 => ?_)
              refine a_iload K dX11_merge_75 rfl ?_
              first | refine a_aload_n K dX11_merge_77 rfl ?_ | refine a_aload_nN K dX11_merge_77 rfl ?_
              refine a_getRs K fd_X11_95 (by exact lm_o hM) (Or.inr ⟨_, rfl⟩) (by exact lm_r749 hM) dX11_merge_78 ?_
              refine a_iload K dX11_merge_81 rfl ?_
              refine a_iald K (by exact lm_kk hM (by decide) (by decide)) (by show vp_in _ (sN S9 (m 26)); exact lm_ix (z := 1000) hM (by decide) (by decide) (show q < 1000 by omega) (by decide)) dX11_merge_83 ?_
              rw [nI_clamp (by omega)]
              rw [hTh.1 q (by omega)]
              refine a_if_ne K dX11_merge_84 (tgt := 91) (by decide) (fun c_84 => ?_) (fun c_84 => absurd c_84 (fun e => hv (bt_no.mp e)))
              refine a_iconst K dX11_merge_91 (v := 1) (by decide) ?_
              refine a_iadd K dX11_merge_92 ?_
              refine a_istore K dX11_merge_93 (by decide) ?_
              refine a_iinc K dX11_merge_95 (v := 1) rfl (by decide) (by decide) ?_
              refine a_goto K dX11_merge_98 (tgt := 67) (by decide) ?_
              exact aw_locl rfl (ih (q + 1) (a + 1) _ _ (nI_1 q) (nI_1 a) (by omega) (by rw [cntU_y (show eiU (ent z.1 z.2) (ent y.1 y.2) (999 - n) = true by rw [show 999 - n = q by omega]; exact ei_y hv)] at hR; exact hR))
        exact aw_locl rfl (loop1 1000 0 0 _ _ nI_0.symm nI_0.symm (Nat.zero_add _) hR1e)
      · have hE : mrgF P (nI jm) (nI jo) ru = (-1, refP P 1) := by
          unfold mrgF
          rw [hz, hy]
          exact if_neg hrr
        first | refine a_aload_n K dX11_merge_0 rfl ?_ | refine a_aload_nN K dX11_merge_0 rfl ?_
        refine a_iconst K dX11_merge_1 (v := 0) (by decide) ?_
        refine a_putI K fd_X11_116 (by exact lm_o hM) rfl dX11_merge_2 ?_
        have f0 : frM S (wI S 704 (m 33) 0) m [] [704] := frM_wI (by decide) (by decide)
        obtain ⟨T, hT⟩ : ∃ T, T = wI S 704 (m 33) 0 := ⟨_, rfl⟩
        rw [← hT] at f0 ⊢
        obtain ⟨h, q0⟩ := h0.scr hP f0 (by decide) (by decide)
        have hM := h.1
        first | refine a_aload_n K dX11_merge_5 rfl ?_ | refine a_aload_nN K dX11_merge_5 rfl ?_
        refine a_iload_n K dX11_merge_6 rfl ?_
        refine a_invV K (q_mapY h hl9 hz) my_X11_isMap ml_X11_309 im_X11_isMap se_X11_isMap (ci := 11) (by exact lm_o hM) (by decide) ⟨_, _, rfl⟩ rfl (by omega) (by omega) (by omega) rfl (Nat.le_of_ble_eq_true rfl) dX11_merge_7 ?_
        intro r9 S9 hp9
        obtain ⟨rfl, hS9⟩ := hp9
        obtain rfl := hS9.symm
        refine a_if_eq K dX11_merge_10 (tgt := 21) (by decide) (fun c_10 => absurd c_10 (by decide)) (fun c_10 => ?_)
        first | refine a_aload_n K dX11_merge_13 rfl ?_ | refine a_aload_nN K dX11_merge_13 rfl ?_
        refine a_iload_n K dX11_merge_14 rfl ?_
        refine a_invV K (q_mapY h hl9 hy) my_X11_isMap ml_X11_309 im_X11_isMap se_X11_isMap (ci := 11) (by exact lm_o hM) (by decide) ⟨_, _, rfl⟩ rfl (by omega) (by omega) (by omega) rfl (Nat.le_of_ble_eq_true rfl) dX11_merge_15 ?_
        intro r9 S9 hp9
        obtain ⟨rfl, hS9⟩ := hp9
        obtain rfl := hS9.symm
        refine a_if_ne K dX11_merge_18 (tgt := 27) (by decide) (fun c_18 => ?_) (fun c_18 => absurd c_18 (by decide))
        refine a_iload_n K dX11_merge_27 rfl ?_
        refine a_i2l K dX11_merge_28 ?_
        refine a_lconst K dX11_merge_29 (v := 0) (by decide) ?_
        refine a_ldc2 K kc_X11_305 dX11_merge_30 ?_
        refine a_invS K (q_inN (p := 0) (q := 3) (by decide) (by decide) hrr) my_X11_isIn ml_X11_174 st_X11_isIn rfl (by omega) (by omega) (by omega) rfl (Nat.le_of_ble_eq_true rfl) dX11_merge_33 ?_
        intro r9 S9 hp9
        obtain ⟨rfl, hS9⟩ := hp9
        obtain rfl := hS9.symm
        refine a_if_ne K dX11_merge_36 (tgt := 45) (by decide) (fun c_36 => absurd c_36 (fun z => z rfl)) (fun c_36 => ?_)
        first | refine a_aload_n K dX11_merge_39 rfl ?_ | refine a_aload_nN K dX11_merge_39 rfl ?_
        refine a_iconst K dX11_merge_40 (v := 1) (by decide) ?_
        rw [show (1 : Int32) = nI 1 from rfl]
        refine a_invV K (q_refP h (k := 1) (by decide)) my_X11_refused ml_X11_292 im_X11_refused se_X11_refused (ci := 11) (by exact lm_o hM) (by decide) ⟨_, _, rfl⟩ rfl (by omega) (by omega) (by omega) rfl (Nat.le_of_ble_eq_true rfl) dX11_merge_41 ?_
        intro r9 S9 hp9
        obtain ⟨rfl, hR, qR⟩ := hp9
        exact a_iret K EE rfl (by omega) (by omega) dX11_merge_44 ⟨ρ, Z, by rw [hE], by rw [hE]; exact hR.up (by omega) (by omega), mQ_tr q0 qR⟩
