/-! the model: nodes counted -/
theorem rwT_sub {ρ : Nat → Nat} (h : Nat) (t : Tr h) : rwT ρ h t = (sub h t).map (fun z => ρ z.2.1) := by
  unfold rwT
  rw [← sub_ndl, List.map_map]
  rfl
theorem mrM_is {mk : Nat → Bool} {l : List Nat} {r : Nat} : mrM mk l r = true ↔ mk r = true ∨ r ∈ l := by
  unfold mrM
  rw [Bool.or_eq_true, decide_eq_true_iff]
theorem mkS_or {mk : Nat → Bool} {L : List Tz} {i : Nat} : mkS mk L i = true ↔ mk i = true ∨ ∃ w ∈ L, w.2.1 = i := by
  unfold mkS
  rw [Bool.or_eq_true, List.any_eq_true]
  exact ⟨fun h => h.imp id (fun ⟨w, hw, e⟩ => ⟨w, hw, (eq_of_beq e).symm⟩), fun h => h.imp id (fun ⟨w, hw, e⟩ => ⟨w, hw, by rw [e]; exact beq_self_eq_true i⟩)⟩
/-- marks on rows and marks on numbers -/
theorem mr_mkS {ρ : Nat → Nat} {Q : Nat → Prop} (inj : ∀ i j, Q i → Q j → ρ i = ρ j → i = j) {mr mi : Nat → Bool} {L : List Tz} (e : ∀ i, Q i → mr (ρ i) = mi i) (hL : ∀ z ∈ L, Q z.2.1) : ∀ i, Q i → mrM mr (L.map (fun z => ρ z.2.1)) (ρ i) = mkS mi L i := fun i hi => by
  refine Bool.eq_iff_iff.mpr ?_
  rw [mrM_is, mkS_or, e i hi, List.mem_map]
  exact ⟨fun h => h.imp id (fun ⟨w, hw, e2⟩ => ⟨w, hw, inj _ _ (hL w hw) hi e2⟩), fun h => h.imp id (fun ⟨w, hw, e2⟩ => ⟨w, hw, by rw [e2]⟩)⟩
theorem mr_mkC {ρ : Nat → Nat} {Q : Nat → Prop} (inj : ∀ i j, Q i → Q j → ρ i = ρ j → i = j) : ∀ (L : List Tz) (mr mi : Nat → Bool) (n : Nat), (∀ i, Q i → mr (ρ i) = mi i) → (∀ z ∈ L, Q z.2.1) → n + mrC mr (L.map (fun z => ρ z.2.1)) = mkC mi L n
  | [], mr, mi, n, _, _ => rfl
  | z :: l, mr, mi, n, e, hL => by
    have hz := hL z List.mem_cons_self
    have hl : ∀ w ∈ l, Q w.2.1 := fun w hw => hL w (List.mem_cons_of_mem _ hw)
    rw [List.map_cons, mrC, mkC, e _ hz]
    by_cases c : mi z.2.1 = true
    · rw [if_pos c, if_pos c, Nat.zero_add]
      refine mr_mkC inj l _ mi n (fun i hi => ?_) hl
      refine Bool.eq_iff_iff.mpr ?_
      rw [mrM_is, e i hi]
      exact ⟨fun h => h.elim id (fun w => by rw [inj _ _ hi hz (List.mem_singleton.mp w)]; exact c), Or.inl⟩
    · rw [if_neg c, if_neg c, ← Nat.add_assoc]
      refine mr_mkC inj l _ _ (n + 1) (fun i hi => ?_) hl
      refine Bool.eq_iff_iff.mpr ?_
      rw [mrM_is, e i hi, Bool.or_eq_true]
      exact ⟨fun h => h.imp id (fun w => by rw [inj _ _ hi hz (List.mem_singleton.mp w)]; exact beq_self_eq_true _), fun h => h.imp id (fun w => by rw [eq_of_beq w]; exact List.mem_singleton.mpr rfl)⟩
/-- those with a mark and those without: all -/
theorem mkC_cnt : ∀ (L : List Tz) (mi : Nat → Bool) (n : Nat), (L.map (fun z => z.2.1)).Nodup → mkC mi L n + L.countP (fun z => mi z.2.1) = n + L.length
  | [], mi, n, _ => rfl
  | z :: l, mi, n, nd => by
    have nd2 := (List.nodup_cons.mp nd)
    rw [mkC, List.countP_cons, List.length_cons]
    by_cases c : mi z.2.1 = true
    · rw [if_pos c, if_pos c, ← Nat.add_assoc, mkC_cnt l mi n nd2.2, Nat.add_assoc]
    · rw [if_neg c, if_neg c, Nat.add_zero]
      have e : l.countP (fun w => mi w.2.1) = l.countP (fun w => mi w.2.1 || w.2.1 == z.2.1) := List.countP_congr (fun w hw => by
        have hne : ¬ w.2.1 = z.2.1 := fun q => nd2.1 (List.mem_map.mpr ⟨w, hw, q⟩)
        rw [show (w.2.1 == z.2.1) = false from by simp [hne], Bool.or_false])
      have h9 := mkC_cnt l (fun i => mi i || i == z.2.1) (n + 1) nd2.2
      have h9 : mkC (fun i => mi i || i == z.2.1) l (n + 1) + l.countP (fun w => mi w.2.1 || w.2.1 == z.2.1) = n + 1 + l.length := h9
      rw [e]
      omega
def shN (z y : Tz) (n : Nat) : Nat := ((sub y.1 y.2).take n).countP (fun w => mkS (fun _ => false) (sub z.1 z.2) w.2.1)
theorem shI_is {w u tk : Nat} {z y : Tz} (ty : tok w u tk y) : shI z y = nI (shN z y (sub y.1 y.2).length) := by
  unfold shI shN
  have h1 := mkC_cnt (sub y.1 y.2) (mkS (fun _ => false) (sub z.1 z.2)) 0 (by
    have h2 := ty.2.2.2.1.2
    rw [← sub_ndl, List.map_map] at h2
    exact h2)
  rw [List.take_length, nI_sub (by omega)]
  congr 1
  omega
theorem shN_s {z y : Tz} {i : Nat} {x : Tz} (hx : (sub y.1 y.2)[i]? = some x) : shN z y (i + 1) = shN z y i + if mkS (fun _ => false) (sub z.1 z.2) x.2.1 = true then 1 else 0 := by
  unfold shN
  rw [take_i hx, List.countP_append, List.countP_singleton]
theorem looked_i (a b c : Int32) : -2 * c + b + a = a + b - 2 * c := by
  rw [Int32.sub_eq_add_neg, ← Int32.neg_mul, Int32.add_comm, Int32.add_comm (-2 * c) b, Int32.add_assoc]
theorem RM.Q {S : aw_S} {m ρ : Nat → Nat} {Z : List Nat × Nat} {mb : Nat} {P : PS} (h : RM S m ρ Z mb P) : ∀ i j, LvN P i → LvN P j → ρ i = ρ j → i = j := h.N.2.2.1.2
theorem LvT.sub {P : PS} {z : Tz} (hz : LvT P z) : ∀ w ∈ sub z.1 z.2, LvN P w.2.1 := fun w hw => live_in hz _ (sub_id hw)
set_option maxHeartbeats 4000000 in
set_option maxRecDepth 100000 in
theorem q_sharedBy {S : aw_S} {m ρ : Nat → Nat} {Z : List Nat × Nat} {mb : Nat} {P : PS} (h : RM S m ρ Z mb P) (hP : PI P) (hmb : mb + 1 < 2147483000) {jm jo : Nat} {z y : Tz} (hjm : jm < 999) (hjo : jo < 999) (hz : rootP P (nI jm) = some z) (hy : rootP P (nI jo) = some y) : aw_M yX11_sharedBy cX11_sharedBy 6 (some FieldType.int) 7 0 0 [.ref (m 33), .int (nI jm), .int (nI jo)] S (fun r S2 => r = some (.int (nI (shN z y (sub y.1 y.2).length))) ∧ RM S2 m ρ Z (mb + 1) P ∧ frS S S2 (mQ m) ∧ sI S2 735 (m 33) = nI (sub y.1 y.2).length) := by
  have hM := h.1
  have ty := hP.tz (rootP_live hy)
  have tz := hP.tz (rootP_live hz)
  have h4y := ty.h4 hP.1.1
  have h4z := tz.h4 hP.1.1
  have e60y := ty.2.2.1
  refine aw_enter (by decide +kernel) (Nat.le_of_ble_eq_true rfl) (fun g K EE => ?_)
  obtain ⟨st, hst, hs1, hk0, hs2, hs4⟩ := h.stamp hmb
  first | refine a_aload_n K dX11_sharedBy_0 rfl ?_ | refine a_aload_nN K dX11_sharedBy_0 rfl ?_
  refine a_dup K dX11_sharedBy_1 rfl ?_
  refine a_getI K fd_X11_255 (by exact lm_o hM) (Or.inl rfl) dX11_sharedBy_2 ?_
  rw [hst]
  refine a_iconst K dX11_sharedBy_5 (v := 1) (by decide) ?_
  refine a_iadd K dX11_sharedBy_6 ?_
  rw [nI_1]
  refine a_putI K fd_X11_255 (by exact lm_o hM) rfl dX11_sharedBy_7 ?_
  have fW : frM S (wI S 726 (m 33) (nI (st + 1))) m [] [726] := frM_wI (by decide) (by decide)
  have hM := fW.lay h.1
  first | refine a_aload_n K dX11_sharedBy_10 rfl ?_ | refine a_aload_nN K dX11_sharedBy_10 rfl ?_
  first | refine a_aload_n K dX11_sharedBy_11 rfl ?_ | refine a_aload_nN K dX11_sharedBy_11 rfl ?_
  refine a_getRs K fd_X11_67 (by exact lm_o hM) (Or.inr ⟨_, rfl⟩) (by exact lm_r736 hM) dX11_sharedBy_12 ?_
  refine a_iload_n K dX11_sharedBy_15 rfl ?_
  refine a_iald K (by exact lm_kk hM (by decide) (by decide)) (by show vp_in _ (sN (wI S 726 (m 33) (nI (st + 1))) (m 17)); exact lm_ix (z := 999) hM (by decide) (by decide) (show jm < 999 by omega) (by decide)) dX11_sharedBy_16 ?_
  rw [nI_clamp (by omega)]
  rw [show sA (wI S 726 (m 33) (nI (st + 1))) (m 17) jm = nI (ρ z.2.1) from h.root2 hz (by omega)]
  refine a_invV K (m_marks z.1 z.2 _ (fun _ => false) (nI (st + 1)) (by exact hM) (fW.rep h.1 (by decide) (by decide) (by decide) (by decide) (by decide) (by decide) (h.rep (rootP_live hz))) hk0) my_X11_marks ml_X11_258 im_X11_marks se_X11_marks (ci := 11) (by exact lm_o hM) (by decide) ⟨_, _, rfl⟩ rfl (by omega) (by omega) (by omega) rfl (Nat.le_of_ble_eq_true rfl) dX11_sharedBy_17 ?_
  intro r9 S2 hp9
  obtain ⟨rfl, hk2, f2⟩ := hp9
  obtain ⟨h2, q2⟩ := RM_marked h hP hmb hs2 hs4 hk2 f2
  have hM := h2.1
  refine a_istore_n K dX11_sharedBy_20 (by decide) ?_
  first | refine a_aload_n K dX11_sharedBy_21 rfl ?_ | refine a_aload_nN K dX11_sharedBy_21 rfl ?_
  first | refine a_aload_n K dX11_sharedBy_22 rfl ?_ | refine a_aload_nN K dX11_sharedBy_22 rfl ?_
  refine a_getRs K fd_X11_67 (by exact lm_o hM) (Or.inr ⟨_, rfl⟩) (by exact lm_r736 hM) dX11_sharedBy_23 ?_
  refine a_iload_n K dX11_sharedBy_26 rfl ?_
  refine a_iald K (by exact lm_kk hM (by decide) (by decide)) (by show vp_in _ (sN S2 (m 17)); exact lm_ix (z := 999) hM (by decide) (by decide) (show jo < 999 by omega) (by decide)) dX11_sharedBy_27 ?_
  rw [nI_clamp (by omega)]
  rw [h2.root2 hy (by omega)]
  refine a_invV K (m_laysTree hM (h2.rep (rootP_live hy)) (by omega) (by omega) (by omega)) my_X11_laysTree ml_X11_252 im_X11_laysTree se_X11_laysTree (ci := 11) (by exact lm_o hM) (by decide) ⟨_, _, rfl⟩ rfl (by omega) (by omega) (by omega) rfl (Nat.le_of_ble_eq_true rfl) dX11_sharedBy_28 ?_
  intro r9 S3 hp9
  obtain ⟨rfl, hLy, f3⟩ := hp9
  obtain ⟨h3, q3⟩ := h2.scr hP f3 (by decide) (by decide)
  have hk3 := hk2.fr hM f3 (by decide) (by decide) (by decide)
  have hM := h3.1
  have hN : (dpT y.1 y.2 0).length = (sub y.1 y.2).length := by rw [dpT_len, sub_len]
  refine a_iconst K dX11_sharedBy_31 (v := 0) (by decide) ?_
  refine a_istore K dX11_sharedBy_32 (by decide) ?_
  refine a_iconst K dX11_sharedBy_34 (v := 0) (by decide) ?_
  refine a_istore K dX11_sharedBy_35 (by decide) ?_
  have loop : ∀ (n i : Nat) (x c : Int32), x = nI i → c = nI (shN z y i) → i + n = (sub y.1 y.2).length → aw g 6 S3 0 0 [(5, .int x), (4, .int c), (0, .ref (m 33))] [] 37 := by
    intro n
    induction n with
    | zero =>
      intro i x c hx9 hc hn
      subst hx9
      subst hc
      refine a_iload K dX11_sharedBy_37 rfl ?_
      first | refine a_aload_n K dX11_sharedBy_39 rfl ?_ | refine a_aload_nN K dX11_sharedBy_39 rfl ?_
      refine a_getI K fd_X11_243 (by exact lm_o hM) (Or.inl rfl) dX11_sharedBy_40 ?_
      rw [hLy.2.1, hN]
      refine a_icmp_ge K dX11_sharedBy_43 (tgt := 81) (by decide) (fun c_43 => ?_) (fun c_43 => absurd c_43 (fun q => q (nI_le (a := (sub y.1 y.2).length) (b := i) (by omega) (by omega))))
      refine a_iload K dX11_sharedBy_81 rfl ?_
      exact a_iret K EE rfl (by omega) (by omega) dX11_sharedBy_83 ⟨by rw [show i = (sub y.1 y.2).length by omega], h3, mQ_tr q2 q3, by rw [hLy.2.1, hN]⟩
    | succ n ih =>
      intro i x9 c hx9 hc hn
      subst hx9
      subst hc
      have hi : i < (sub y.1 y.2).length := by omega
      have hx := List.getElem?_eq_getElem hi
      generalize (sub y.1 y.2)[i] = x at hx
      have hdx : (dpT y.1 y.2 0)[i]? = some (x.2.1, 0 + (y.1 - x.1)) := by rw [dpT_sub, List.getElem?_map, hx]; rfl
      have hxm := List.mem_of_getElem? hx
      have hr12 : ρ x.2.1 < 12000 := ((h3.rep (rootP_live hy)).tks x hxm).1
      have hmm : mrM (fun _ => false) (rwT ρ z.1 z.2) (ρ x.2.1) = mkS (fun _ => false) (sub z.1 z.2) x.2.1 := by rw [rwT_sub]; exact mr_mkS h.Q (Q := LvN P) (mi := fun _ => false) (fun _ _ => rfl) (rootP_live hz).sub _ ((rootP_live hy).sub x hxm)
      by_cases hms : mkS (fun _ => false) (sub z.1 z.2) x.2.1 = true
      · have hm := hmm.trans hms
        refine a_iload K dX11_sharedBy_37 rfl ?_
        first | refine a_aload_n K dX11_sharedBy_39 rfl ?_ | refine a_aload_nN K dX11_sharedBy_39 rfl ?_
        refine a_getI K fd_X11_243 (by exact lm_o hM) (Or.inl rfl) dX11_sharedBy_40 ?_
        rw [hLy.2.1, hN]
        refine a_icmp_ge K dX11_sharedBy_43 (tgt := 81) (by decide) (fun c_43 => absurd c_43 (nI_ge (a := i) (b := (sub y.1 y.2).length) (by omega) (by omega))) (fun c_43 => ?_)
        refine a_iload K dX11_sharedBy_46 rfl ?_
        first | refine a_aload_n K dX11_sharedBy_48 rfl ?_ | refine a_aload_nN K dX11_sharedBy_48 rfl ?_
        refine a_getRs K fd_X11_32 (by exact lm_o hM) (Or.inr ⟨_, rfl⟩) (by exact lm_r717 hM) dX11_sharedBy_49 ?_
        first | refine a_aload_n K dX11_sharedBy_52 rfl ?_ | refine a_aload_nN K dX11_sharedBy_52 rfl ?_
        refine a_getRs K fd_X11_61 (by exact lm_o hM) (Or.inr ⟨_, rfl⟩) (by exact lm_r732 hM) dX11_sharedBy_53 ?_
        refine a_iload K dX11_sharedBy_56 rfl ?_
        refine a_iald K (by exact lm_kk hM (by decide) (by decide)) (by show vp_in _ (sN S3 (m 15)); exact lm_ix (z := 240) hM (by decide) (by decide) (show i < 240 by omega) (by decide)) dX11_sharedBy_58 ?_
        rw [nI_clamp (by omega)]
        rw [show sA S3 (m 15) i = nI (ρ x.2.1) from (hLy.2.2.2 i _ hdx).1]
        refine a_iald K (by exact lm_kk hM (by decide) (by decide)) (by show vp_in _ (sN S3 (m 7)); exact lm_ix (z := 12000) hM (by decide) (by decide) (show ρ x.2.1 < 12000 by omega) (by decide)) dX11_sharedBy_59 ?_
        rw [nI_clamp (by omega)]
        first | refine a_aload_n K dX11_sharedBy_60 rfl ?_ | refine a_aload_nN K dX11_sharedBy_60 rfl ?_
        refine a_getI K fd_X11_255 (by exact lm_o hM) (Or.inl rfl) dX11_sharedBy_61 ?_
        rw [hk3.1]
        refine a_icmp_ne K dX11_sharedBy_64 (tgt := 71) (by decide) (fun c_64 => absurd c_64 (fun q => q ((hk3.2 _ hr12).mpr hm))) (fun c_64 => ?_)
        refine a_iconst K dX11_sharedBy_67 (v := 1) (by decide) ?_
        refine a_goto K dX11_sharedBy_68 (tgt := 72) (by decide) ?_
        refine a_iadd K dX11_sharedBy_72 ?_
        rw [nI_1]
        refine a_istore K dX11_sharedBy_73 (by decide) ?_
        refine a_iinc K dX11_sharedBy_75 (v := 1) rfl (by decide) (by decide) ?_
        refine a_goto K dX11_sharedBy_78 (tgt := 37) (by decide) ?_
        exact aw_locl rfl (ih (i + 1) _ _ (nI_1 i) (by rw [shN_s hx, if_pos hms]) (by omega))
      · have hm : ¬ mrM (fun _ => false) (rwT ρ z.1 z.2) (ρ x.2.1) = true := fun q => hms (hmm.symm.trans q)
        refine a_iload K dX11_sharedBy_37 rfl ?_
        first | refine a_aload_n K dX11_sharedBy_39 rfl ?_ | refine a_aload_nN K dX11_sharedBy_39 rfl ?_
        refine a_getI K fd_X11_243 (by exact lm_o hM) (Or.inl rfl) dX11_sharedBy_40 ?_
        rw [hLy.2.1, hN]
        refine a_icmp_ge K dX11_sharedBy_43 (tgt := 81) (by decide) (fun c_43 => absurd c_43 (nI_ge (a := i) (b := (sub y.1 y.2).length) (by omega) (by omega))) (fun c_43 => ?_)
        refine a_iload K dX11_sharedBy_46 rfl ?_
        first | refine a_aload_n K dX11_sharedBy_48 rfl ?_ | refine a_aload_nN K dX11_sharedBy_48 rfl ?_
        refine a_getRs K fd_X11_32 (by exact lm_o hM) (Or.inr ⟨_, rfl⟩) (by exact lm_r717 hM) dX11_sharedBy_49 ?_
        first | refine a_aload_n K dX11_sharedBy_52 rfl ?_ | refine a_aload_nN K dX11_sharedBy_52 rfl ?_
        refine a_getRs K fd_X11_61 (by exact lm_o hM) (Or.inr ⟨_, rfl⟩) (by exact lm_r732 hM) dX11_sharedBy_53 ?_
        refine a_iload K dX11_sharedBy_56 rfl ?_
        refine a_iald K (by exact lm_kk hM (by decide) (by decide)) (by show vp_in _ (sN S3 (m 15)); exact lm_ix (z := 240) hM (by decide) (by decide) (show i < 240 by omega) (by decide)) dX11_sharedBy_58 ?_
        rw [nI_clamp (by omega)]
        rw [show sA S3 (m 15) i = nI (ρ x.2.1) from (hLy.2.2.2 i _ hdx).1]
        refine a_iald K (by exact lm_kk hM (by decide) (by decide)) (by show vp_in _ (sN S3 (m 7)); exact lm_ix (z := 12000) hM (by decide) (by decide) (show ρ x.2.1 < 12000 by omega) (by decide)) dX11_sharedBy_59 ?_
        rw [nI_clamp (by omega)]
        first | refine a_aload_n K dX11_sharedBy_60 rfl ?_ | refine a_aload_nN K dX11_sharedBy_60 rfl ?_
        refine a_getI K fd_X11_255 (by exact lm_o hM) (Or.inl rfl) dX11_sharedBy_61 ?_
        rw [hk3.1]
        refine a_icmp_ne K dX11_sharedBy_64 (tgt := 71) (by decide) (fun c_64 => ?_) (fun c_64 => absurd c_64 (fun q => hm ((hk3.2 _ hr12).mp q)))
        refine a_iconst K dX11_sharedBy_71 (v := 0) (by decide) ?_
        refine a_iadd K dX11_sharedBy_72 ?_
        rw [Int32.add_zero]
        refine a_istore K dX11_sharedBy_73 (by decide) ?_
        refine a_iinc K dX11_sharedBy_75 (v := 1) rfl (by decide) (by decide) ?_
        refine a_goto K dX11_sharedBy_78 (tgt := 37) (by decide) ?_
        exact aw_locl rfl (ih (i + 1) _ _ (nI_1 i) (by rw [shN_s hx, if_neg hms, Nat.add_zero]) (by omega))
  exact aw_locl rfl (loop (sub y.1 y.2).length 0 _ _ nI_0.symm (by rfl) (Nat.zero_add _))
set_option maxHeartbeats 4000000 in
set_option maxRecDepth 100000 in
theorem q_shared {S : aw_S} {m ρ : Nat → Nat} {Z : List Nat × Nat} {mb n9 : Nat} {P : PS} (h0 : RM S m ρ Z mb P) (hJ : PJ n9 P) (hmb : mb + 1 < 2147483000) {i k : Int32} : aw_M yX11_shared cX11_shared 3 (some FieldType.int) 9 0 0 [.ref (m 33), .int i, .int k] S (fun r S2 => r = some (.int (aShared P i k)) ∧ RM S2 m ρ Z (mb + 1) P ∧ frS S S2 (mQ m)) := by
  have hP := hJ.1
  have hw3 := hP.1.1
  have hM := h0.1
  have hl9 := hJ.ln
  refine aw_enter (by decide +kernel) (Nat.le_of_ble_eq_true rfl) (fun g K EE => ?_)
  cases hz : rootP P i with
  | none =>
    first | refine a_aload_n K dX11_shared_0 rfl ?_ | refine a_aload_nN K dX11_shared_0 rfl ?_
    refine a_iconst K dX11_shared_1 (v := 0) (by decide) ?_
    refine a_putI K fd_X11_116 (by exact lm_o hM) rfl dX11_shared_2 ?_
    have f0 : frM S (wI S 704 (m 33) 0) m [] [704] := frM_wI (by decide) (by decide)
    obtain ⟨T, hT⟩ : ∃ T, T = wI S 704 (m 33) 0 := ⟨_, rfl⟩
    rw [← hT] at f0 ⊢
    obtain ⟨h, q0⟩ := h0.scr hP f0 (by decide) (by decide)
    have hM := h.1
    first | refine a_aload_n K dX11_shared_5 rfl ?_ | refine a_aload_nN K dX11_shared_5 rfl ?_
    refine a_iload_n K dX11_shared_6 rfl ?_
    refine a_invV K (q_mapN h hl9 hz) my_X11_isMap ml_X11_309 im_X11_isMap se_X11_isMap (ci := 11) (by exact lm_o hM) (by decide) ⟨_, _, rfl⟩ rfl (by omega) (by omega) (by omega) rfl (Nat.le_of_ble_eq_true rfl) dX11_shared_7 ?_
    intro r9 S9 hp9
    obtain ⟨rfl, hS9⟩ := hp9
    obtain rfl := hS9.symm
    refine a_if_eq K dX11_shared_10 (tgt := 30) (by decide) (fun c_10 => ?_) (fun c_10 => absurd c_10 (fun q => q rfl))
    refine a_iconst K dX11_shared_30 (v := -1) (by decide) ?_
    exact a_iret K EE rfl (by omega) (by omega) dX11_shared_31 ⟨by unfold aShared; rw [hz], h.up (Nat.le_succ mb) hmb, q0⟩
  | some z =>
    cases hy : rootP P k with
    | none =>
      first | refine a_aload_n K dX11_shared_0 rfl ?_ | refine a_aload_nN K dX11_shared_0 rfl ?_
      refine a_iconst K dX11_shared_1 (v := 0) (by decide) ?_
      refine a_putI K fd_X11_116 (by exact lm_o hM) rfl dX11_shared_2 ?_
      have f0 : frM S (wI S 704 (m 33) 0) m [] [704] := frM_wI (by decide) (by decide)
      obtain ⟨T, hT⟩ : ∃ T, T = wI S 704 (m 33) 0 := ⟨_, rfl⟩
      rw [← hT] at f0 ⊢
      obtain ⟨h, q0⟩ := h0.scr hP f0 (by decide) (by decide)
      have hM := h.1
      first | refine a_aload_n K dX11_shared_5 rfl ?_ | refine a_aload_nN K dX11_shared_5 rfl ?_
      refine a_iload_n K dX11_shared_6 rfl ?_
      refine a_invV K (q_mapY h hl9 hz) my_X11_isMap ml_X11_309 im_X11_isMap se_X11_isMap (ci := 11) (by exact lm_o hM) (by decide) ⟨_, _, rfl⟩ rfl (by omega) (by omega) (by omega) rfl (Nat.le_of_ble_eq_true rfl) dX11_shared_7 ?_
      intro r9 S9 hp9
      obtain ⟨rfl, hS9⟩ := hp9
      obtain rfl := hS9.symm
      refine a_if_eq K dX11_shared_10 (tgt := 30) (by decide) (fun c_10 => absurd c_10 (by decide)) (fun c_10 => ?_)
      first | refine a_aload_n K dX11_shared_13 rfl ?_ | refine a_aload_nN K dX11_shared_13 rfl ?_
      refine a_iload_n K dX11_shared_14 rfl ?_
      refine a_invV K (q_mapN h hl9 hy) my_X11_isMap ml_X11_309 im_X11_isMap se_X11_isMap (ci := 11) (by exact lm_o hM) (by decide) ⟨_, _, rfl⟩ rfl (by omega) (by omega) (by omega) rfl (Nat.le_of_ble_eq_true rfl) dX11_shared_15 ?_
      intro r9 S9 hp9
      obtain ⟨rfl, hS9⟩ := hp9
      obtain rfl := hS9.symm
      refine a_if_eq K dX11_shared_18 (tgt := 30) (by decide) (fun c_18 => ?_) (fun c_18 => absurd c_18 (fun q => q rfl))
      refine a_iconst K dX11_shared_30 (v := -1) (by decide) ?_
      exact a_iret K EE rfl (by omega) (by omega) dX11_shared_31 ⟨by unfold aShared; rw [hz, hy], h.up (Nat.le_succ mb) hmb, q0⟩
    | some y =>
      obtain ⟨jm, hijm, hjm, -⟩ := h0.root hz
      subst hijm
      obtain ⟨jo, hijo, hjo, -⟩ := h0.root hy
      subst hijo
      have ty := hP.tz (rootP_live hy)
      have tz := hP.tz (rootP_live hz)
      have h4z := tz.h4 hw3
      have e60z := tz.2.2.1
      first | refine a_aload_n K dX11_shared_0 rfl ?_ | refine a_aload_nN K dX11_shared_0 rfl ?_
      refine a_iconst K dX11_shared_1 (v := 0) (by decide) ?_
      refine a_putI K fd_X11_116 (by exact lm_o hM) rfl dX11_shared_2 ?_
      have f0 : frM S (wI S 704 (m 33) 0) m [] [704] := frM_wI (by decide) (by decide)
      obtain ⟨T, hT⟩ : ∃ T, T = wI S 704 (m 33) 0 := ⟨_, rfl⟩
      rw [← hT] at f0 ⊢
      obtain ⟨h, q0⟩ := h0.scr hP f0 (by decide) (by decide)
      have hM := h.1
      first | refine a_aload_n K dX11_shared_5 rfl ?_ | refine a_aload_nN K dX11_shared_5 rfl ?_
      refine a_iload_n K dX11_shared_6 rfl ?_
      refine a_invV K (q_mapY h hl9 hz) my_X11_isMap ml_X11_309 im_X11_isMap se_X11_isMap (ci := 11) (by exact lm_o hM) (by decide) ⟨_, _, rfl⟩ rfl (by omega) (by omega) (by omega) rfl (Nat.le_of_ble_eq_true rfl) dX11_shared_7 ?_
      intro r9 S9 hp9
      obtain ⟨rfl, hS9⟩ := hp9
      obtain rfl := hS9.symm
      refine a_if_eq K dX11_shared_10 (tgt := 30) (by decide) (fun c_10 => absurd c_10 (by decide)) (fun c_10 => ?_)
      first | refine a_aload_n K dX11_shared_13 rfl ?_ | refine a_aload_nN K dX11_shared_13 rfl ?_
      refine a_iload_n K dX11_shared_14 rfl ?_
      refine a_invV K (q_mapY h hl9 hy) my_X11_isMap ml_X11_309 im_X11_isMap se_X11_isMap (ci := 11) (by exact lm_o hM) (by decide) ⟨_, _, rfl⟩ rfl (by omega) (by omega) (by omega) rfl (Nat.le_of_ble_eq_true rfl) dX11_shared_15 ?_
      intro r9 S9 hp9
      obtain ⟨rfl, hS9⟩ := hp9
      obtain rfl := hS9.symm
      refine a_if_eq K dX11_shared_18 (tgt := 30) (by decide) (fun c_18 => absurd c_18 (by decide)) (fun c_18 => ?_)
      first | refine a_aload_n K dX11_shared_21 rfl ?_ | refine a_aload_nN K dX11_shared_21 rfl ?_
      refine a_iload_n K dX11_shared_22 rfl ?_
      refine a_iload_n K dX11_shared_23 rfl ?_
      refine a_invV K (q_sharedBy h hP hmb (by omega) (by omega) hz hy) my_X11_sharedBy ml_X11_432 im_X11_sharedBy se_X11_sharedBy (ci := 11) (by exact lm_o hM) (by decide) ⟨_, _, rfl⟩ rfl (by omega) (by omega) (by omega) rfl (Nat.le_of_ble_eq_true rfl) dX11_shared_24 ?_
      intro r9 S9 hp9
      obtain ⟨rfl, h9, q9, h735⟩ := hp9
      have hM := h9.1
      refine a_goto K dX11_shared_27 (tgt := 31) (by decide) ?_
      exact a_iret K EE rfl (by omega) (by omega) dX11_shared_31 ⟨by unfold aShared; rw [hz, hy]; exact congrArg (fun v => some (Value.int v)) (shI_is ty).symm, h9, mQ_tr q0 q9⟩
set_option maxHeartbeats 4000000 in
set_option maxRecDepth 100000 in
theorem q_looked {S : aw_S} {m ρ : Nat → Nat} {Z : List Nat × Nat} {mb n9 : Nat} {P : PS} (h0 : RM S m ρ Z mb P) (hJ : PJ n9 P) (hmb : mb + 1 < 2147483000) {i k : Int32} : aw_M yX11_looked cX11_looked 4 (some FieldType.int) 9 0 0 [.ref (m 33), .int i, .int k] S (fun r S2 => r = some (.int (aLooked P i k)) ∧ RM S2 m ρ Z (mb + 1) P ∧ frS S S2 (mQ m)) := by
  have hP := hJ.1
  have hw3 := hP.1.1
  have hM := h0.1
  have hl9 := hJ.ln
  refine aw_enter (by decide +kernel) (Nat.le_of_ble_eq_true rfl) (fun g K EE => ?_)
  cases hz : rootP P i with
  | none =>
    first | refine a_aload_n K dX11_looked_0 rfl ?_ | refine a_aload_nN K dX11_looked_0 rfl ?_
    refine a_iconst K dX11_looked_1 (v := 0) (by decide) ?_
    refine a_putI K fd_X11_116 (by exact lm_o hM) rfl dX11_looked_2 ?_
    have f0 : frM S (wI S 704 (m 33) 0) m [] [704] := frM_wI (by decide) (by decide)
    obtain ⟨T, hT⟩ : ∃ T, T = wI S 704 (m 33) 0 := ⟨_, rfl⟩
    rw [← hT] at f0 ⊢
    obtain ⟨h, q0⟩ := h0.scr hP f0 (by decide) (by decide)
    have hM := h.1
    first | refine a_aload_n K dX11_looked_5 rfl ?_ | refine a_aload_nN K dX11_looked_5 rfl ?_
    refine a_iload_n K dX11_looked_6 rfl ?_
    refine a_invV K (q_mapN h hl9 hz) my_X11_isMap ml_X11_309 im_X11_isMap se_X11_isMap (ci := 11) (by exact lm_o hM) (by decide) ⟨_, _, rfl⟩ rfl (by omega) (by omega) (by omega) rfl (Nat.le_of_ble_eq_true rfl) dX11_looked_7 ?_
    intro r9 S9 hp9
    obtain ⟨rfl, hS9⟩ := hp9
    obtain rfl := hS9.symm
    refine a_if_eq K dX11_looked_10 (tgt := 21) (by decide) (fun c_10 => ?_) (fun c_10 => absurd c_10 (fun q => q rfl))
    refine a_iconst K dX11_looked_21 (v := -1) (by decide) ?_
    exact a_iret K EE rfl (by omega) (by omega) dX11_looked_22 ⟨by unfold aLooked; rw [hz], h.up (Nat.le_succ mb) hmb, q0⟩
  | some z =>
    cases hy : rootP P k with
    | none =>
      first | refine a_aload_n K dX11_looked_0 rfl ?_ | refine a_aload_nN K dX11_looked_0 rfl ?_
      refine a_iconst K dX11_looked_1 (v := 0) (by decide) ?_
      refine a_putI K fd_X11_116 (by exact lm_o hM) rfl dX11_looked_2 ?_
      have f0 : frM S (wI S 704 (m 33) 0) m [] [704] := frM_wI (by decide) (by decide)
      obtain ⟨T, hT⟩ : ∃ T, T = wI S 704 (m 33) 0 := ⟨_, rfl⟩
      rw [← hT] at f0 ⊢
      obtain ⟨h, q0⟩ := h0.scr hP f0 (by decide) (by decide)
      have hM := h.1
      first | refine a_aload_n K dX11_looked_5 rfl ?_ | refine a_aload_nN K dX11_looked_5 rfl ?_
      refine a_iload_n K dX11_looked_6 rfl ?_
      refine a_invV K (q_mapY h hl9 hz) my_X11_isMap ml_X11_309 im_X11_isMap se_X11_isMap (ci := 11) (by exact lm_o hM) (by decide) ⟨_, _, rfl⟩ rfl (by omega) (by omega) (by omega) rfl (Nat.le_of_ble_eq_true rfl) dX11_looked_7 ?_
      intro r9 S9 hp9
      obtain ⟨rfl, hS9⟩ := hp9
      obtain rfl := hS9.symm
      refine a_if_eq K dX11_looked_10 (tgt := 21) (by decide) (fun c_10 => absurd c_10 (by decide)) (fun c_10 => ?_)
      first | refine a_aload_n K dX11_looked_13 rfl ?_ | refine a_aload_nN K dX11_looked_13 rfl ?_
      refine a_iload_n K dX11_looked_14 rfl ?_
      refine a_invV K (q_mapN h hl9 hy) my_X11_isMap ml_X11_309 im_X11_isMap se_X11_isMap (ci := 11) (by exact lm_o hM) (by decide) ⟨_, _, rfl⟩ rfl (by omega) (by omega) (by omega) rfl (Nat.le_of_ble_eq_true rfl) dX11_looked_15 ?_
      intro r9 S9 hp9
      obtain ⟨rfl, hS9⟩ := hp9
      obtain rfl := hS9.symm
      refine a_if_ne K dX11_looked_18 (tgt := 23) (by decide) (fun c_18 => absurd c_18 (fun q => q rfl)) (fun c_18 => ?_)
      refine a_iconst K dX11_looked_21 (v := -1) (by decide) ?_
      exact a_iret K EE rfl (by omega) (by omega) dX11_looked_22 ⟨by unfold aLooked; rw [hz, hy], h.up (Nat.le_succ mb) hmb, q0⟩
    | some y =>
      obtain ⟨jm, hijm, hjm, -⟩ := h0.root hz
      subst hijm
      obtain ⟨jo, hijo, hjo, -⟩ := h0.root hy
      subst hijo
      have ty := hP.tz (rootP_live hy)
      have tz := hP.tz (rootP_live hz)
      have h4z := tz.h4 hw3
      have e60z := tz.2.2.1
      first | refine a_aload_n K dX11_looked_0 rfl ?_ | refine a_aload_nN K dX11_looked_0 rfl ?_
      refine a_iconst K dX11_looked_1 (v := 0) (by decide) ?_
      refine a_putI K fd_X11_116 (by exact lm_o hM) rfl dX11_looked_2 ?_
      have f0 : frM S (wI S 704 (m 33) 0) m [] [704] := frM_wI (by decide) (by decide)
      obtain ⟨T, hT⟩ : ∃ T, T = wI S 704 (m 33) 0 := ⟨_, rfl⟩
      rw [← hT] at f0 ⊢
      obtain ⟨h, q0⟩ := h0.scr hP f0 (by decide) (by decide)
      have hM := h.1
      first | refine a_aload_n K dX11_looked_5 rfl ?_ | refine a_aload_nN K dX11_looked_5 rfl ?_
      refine a_iload_n K dX11_looked_6 rfl ?_
      refine a_invV K (q_mapY h hl9 hz) my_X11_isMap ml_X11_309 im_X11_isMap se_X11_isMap (ci := 11) (by exact lm_o hM) (by decide) ⟨_, _, rfl⟩ rfl (by omega) (by omega) (by omega) rfl (Nat.le_of_ble_eq_true rfl) dX11_looked_7 ?_
      intro r9 S9 hp9
      obtain ⟨rfl, hS9⟩ := hp9
      obtain rfl := hS9.symm
      refine a_if_eq K dX11_looked_10 (tgt := 21) (by decide) (fun c_10 => absurd c_10 (by decide)) (fun c_10 => ?_)
      first | refine a_aload_n K dX11_looked_13 rfl ?_ | refine a_aload_nN K dX11_looked_13 rfl ?_
      refine a_iload_n K dX11_looked_14 rfl ?_
      refine a_invV K (q_mapY h hl9 hy) my_X11_isMap ml_X11_309 im_X11_isMap se_X11_isMap (ci := 11) (by exact lm_o hM) (by decide) ⟨_, _, rfl⟩ rfl (by omega) (by omega) (by omega) rfl (Nat.le_of_ble_eq_true rfl) dX11_looked_15 ?_
      intro r9 S9 hp9
      obtain ⟨rfl, hS9⟩ := hp9
      obtain rfl := hS9.symm
      refine a_if_ne K dX11_looked_18 (tgt := 23) (by decide) (fun c_18 => ?_) (fun c_18 => absurd c_18 (by decide))
      refine a_bipush K dX11_looked_23 (v := -2) (by decide) ?_
      first | refine a_aload_n K dX11_looked_25 rfl ?_ | refine a_aload_nN K dX11_looked_25 rfl ?_
      refine a_iload_n K dX11_looked_26 rfl ?_
      refine a_iload_n K dX11_looked_27 rfl ?_
      refine a_invV K (q_sharedBy h hP hmb (by omega) (by omega) hz hy) my_X11_sharedBy ml_X11_432 im_X11_sharedBy se_X11_sharedBy (ci := 11) (by exact lm_o hM) (by decide) ⟨_, _, rfl⟩ rfl (by omega) (by omega) (by omega) rfl (Nat.le_of_ble_eq_true rfl) dX11_looked_28 ?_
      intro r9 S9 hp9
      obtain ⟨rfl, h9, q9, h735⟩ := hp9
      have hM := h9.1
      refine a_imul K dX11_looked_31 ?_
      refine a_istore_n K dX11_looked_32 (by decide) ?_
      refine a_iload_n K dX11_looked_33 rfl ?_
      first | refine a_aload_n K dX11_looked_34 rfl ?_ | refine a_aload_nN K dX11_looked_34 rfl ?_
      refine a_getI K fd_X11_243 (by exact lm_o hM) (Or.inl rfl) dX11_looked_35 ?_
      rw [h735]
      refine a_iadd K dX11_looked_38 ?_
      refine a_istore_n K dX11_looked_39 (by decide) ?_
      first | refine a_aload_n K dX11_looked_40 rfl ?_ | refine a_aload_nN K dX11_looked_40 rfl ?_
      first | refine a_aload_n K dX11_looked_41 rfl ?_ | refine a_aload_nN K dX11_looked_41 rfl ?_
      refine a_getRs K fd_X11_67 (by exact lm_o hM) (Or.inr ⟨_, rfl⟩) (by exact lm_r736 hM) dX11_looked_42 ?_
      refine a_iload_n K dX11_looked_45 rfl ?_
      refine a_iald K (by exact lm_kk hM (by decide) (by decide)) (by show vp_in _ (sN S9 (m 17)); exact lm_ix (z := 999) hM (by decide) (by decide) (show jm < 999 by omega) (by decide)) dX11_looked_46 ?_
      rw [nI_clamp (by omega)]
      rw [h9.root2 hz (by omega)]
      refine a_invV K (m_laysTree hM (h9.rep (rootP_live hz)) (by omega) (by omega) (by omega)) my_X11_laysTree ml_X11_252 im_X11_laysTree se_X11_laysTree (ci := 11) (by exact lm_o hM) (by decide) ⟨_, _, rfl⟩ rfl (by omega) (by omega) (by omega) rfl (Nat.le_of_ble_eq_true rfl) dX11_looked_47 ?_
      intro r9 S3 hp9
      obtain ⟨rfl, hLy, f3⟩ := hp9
      obtain ⟨h3, q3⟩ := h9.scr hP f3 (by decide) (by decide)
      have hM := h3.1
      have hN : (dpT z.1 z.2 0).length = (sub z.1 z.2).length := by rw [dpT_len, sub_len]
      refine a_iload_n K dX11_looked_50 rfl ?_
      first | refine a_aload_n K dX11_looked_51 rfl ?_ | refine a_aload_nN K dX11_looked_51 rfl ?_
      refine a_getI K fd_X11_243 (by exact lm_o hM) (Or.inl rfl) dX11_looked_52 ?_
      rw [hLy.2.1, hN]
      refine a_iadd K dX11_looked_55 ?_
      exact a_iret K EE rfl (by omega) (by omega) dX11_looked_56 ⟨by unfold aLooked; rw [hz, hy]; exact congrArg (fun v => some (Value.int v)) ((looked_i _ _ _).trans (by rw [← shI_is ty])), h3, mQ_tr q0 (mQ_tr q9 q3)⟩
