/-! the model: a builder's calls -/
theorem q_stp {S : aw_S} {m ρ : Nat → Nat} {Z : List Nat × Nat} {mb : Nat} {P : PS} (h : RM S m ρ Z mb P) {i v : Int32} {ok : Bool} (hv : stpW i (obN P 4) ok = v) : aw_M yX11_stops cX11_stops 3 (some FieldType.int) 3 0 0 [.ref (m 33), .int i, .int (if ok = true then 1 else 0)] S (fun r S2 => r = some (.int v) ∧ S2 = S) := (q_stops h.1 h.ob).post (fun r S2 hp => ⟨by rw [← hv]; exact hp.1, hp.2⟩)
theorem q_inB {S : aw_S} {x : Int32} {a b : Int64} {p q : Int} (ha : a.toInt = p) (hb : b.toInt = q) : aw_M yX11_isIn cX11_isIn 6 (some FieldType.boolean) 0 0 0 [.long x.toInt64, .long a, .long b] S (fun r S2 => r = some (.int (if decide (p ≤ x.toInt ∧ x.toInt ≤ q) = true then 1 else 0)) ∧ S2 = S) := by
  by_cases h : p ≤ x.toInt ∧ x.toInt ≤ q
  · rw [if_pos (decide_eq_true h)]
    exact q_inY ha hb h
  · rw [if_neg (fun z => h (of_decide_eq_true z))]
    exact q_inN ha hb h
theorem stp_cs {P : PS} {i : Int32} {ok : Bool} : (bAt i = none ∧ stpW i (obN P 4) ok = nI 0) ∨ (∃ j, bAt i = some j ∧ ok = false ∧ stpW i (obN P 4) ok = nI 1) ∨ (∃ j, bAt i = some j ∧ ok = true ∧ pB P j = none ∧ stpW i (obN P 4) ok = nI 2) ∨ ∃ j b, bAt i = some j ∧ ok = true ∧ pB P j = some b ∧ stpW i (obN P 4) ok = -1 := by
  unfold stpW
  cases hA : bAt i with
  | none =>
    refine Or.inl ⟨rfl, ?_⟩
    rw [if_pos (show ¬ (0 ≤ i.toInt ∧ i.toInt < 4) from bAt_none hA)]
    rfl
  | some j =>
    obtain ⟨e, hj⟩ := bAt_some hA
    have hn : ¬ ¬ (0 ≤ i.toInt ∧ i.toInt < 4) := fun z => z (by rw [e]; exact bld4_nI hj)
    rw [if_neg hn]
    cases ok with
    | false => exact Or.inr (Or.inl ⟨j, rfl, rfl, rfl⟩)
    | true =>
      rw [if_neg (show ¬ (true = false) by decide)]
      cases hb : pB P j with
      | none =>
        refine Or.inr (Or.inr (Or.inl ⟨j, rfl, rfl, hb, ?_⟩))
        rw [if_pos (fun z => absurd ((ob_has j hj).mp (by rw [← e]; exact z)) (by rw [hb]; decide))]
        rfl
      | some b =>
        refine Or.inr (Or.inr (Or.inr ⟨j, b, rfl, rfl, hb, ?_⟩))
        rw [if_neg (fun z => z (by rw [e]; exact (ob_has j hj).mpr (by rw [hb]; rfl)))]
theorem bld_0 {P : PS} {i : Int32} {ok : Prop} [Decidable ok] {f : Nat → BI → Int32 × PS} (h : bAt i = none) : bld P i ok f = (-1, refP P 0) := by
  unfold bld
  rw [h]
theorem bld_1 {P : PS} {i : Int32} {j : Nat} {ok : Prop} [Decidable ok] {f : Nat → BI → Int32 × PS} (h : bAt i = some j) (ho : ¬ ok) : bld P i ok f = (-1, refP P 1) := by
  unfold bld
  rw [h]
  exact if_neg ho
theorem bld_2 {P : PS} {i : Int32} {j : Nat} {ok : Prop} [Decidable ok] {f : Nat → BI → Int32 × PS} (h : bAt i = some j) (ho : ok) (hb : pB P j = none) : bld P i ok f = (-1, refP P 2) := by
  unfold bld
  rw [h]
  refine (if_pos ho).trans ?_
  rw [hb]
theorem bld_9 {P : PS} {i : Int32} {j : Nat} {b : BI} {ok : Prop} [Decidable ok] {f : Nat → BI → Int32 × PS} (h : bAt i = some j) (ho : ok) (hb : pB P j = some b) : bld P i ok f = f j b := by
  unfold bld
  rw [h]
  refine (if_pos ho).trans ?_
  rw [hb]
theorem sel1 {k : Int32} : ∀ {E : List KV}, srt E → (∀ x ∈ E, okE x) → selK (inB k k true) E = if valIn E k = -1000000 then [] else [k]
  | [], _, _ => by
    rw [valIn_nil, if_pos rfl]
    rfl
  | x :: l, hs, ho => by
    have hgt : ∀ y ∈ l, x.1 < y.1 := (List.pairwise_cons.mp hs).1
    have ih := sel1 (k := k) (List.pairwise_cons.mp hs).2 (fun y hy => ho y (List.mem_cons_of_mem _ hy))
    have hx : ¬ x.2 = -1000000 := okV.ne (ho x List.mem_cons_self).2
    by_cases e : x.1 = k
    · have h1 : inB k k true x = true := by
        unfold inB
        rw [e, decide_eq_true ⟨Int.le_refl _, Int.le_refl _⟩]
        rfl
      have h2 : valIn l k = -1000000 := valIn_hi (fun y hy => by rw [← e]; exact hgt y hy)
      rw [valIn_at e, if_neg hx]
      unfold selK at ih ⊢
      rw [List.filter_cons_of_pos h1, List.map_cons, ih, if_pos h2, e]
    · have h1 : ¬ inB k k true x = true := by
        unfold inB
        rw [decide_eq_false (fun z => e (Int32.toInt_inj.mp (Int.le_antisymm z.2 z.1)))]
        decide
      have h2 : valIn (x :: l) k = valIn l k := by
        by_cases h3 : x.1 < k
        · exact valIn_skip h3
        · have h4 : k < x.1 := lt_3 h3 e
          rw [valIn_over h4, valIn_hi (fun y hy => lt_tr h4 (hgt y hy))]
      rw [h2, ← ih]
      unfold selK
      rw [List.filter_cons_of_neg h1]
theorem cut1 {w u tk t : Nat} {z : Tz} {k : Int32} (hw : 3 ≤ w) (tz : tok w u tk z) : cutE w t k k (ent z.1 z.2) (z, u) = takT w t u k z := by
  rw [cutE_tk, sel1 tz.hs tz.2.1]
  by_cases c : valIn (ent z.1 z.2) k = -1000000
  · rw [if_pos c]
    exact (takT_same (by rw [tz.1.val hw]; exact c)).symm
  · rw [if_neg c]
    rfl
theorem md_sub (a b : Int32) : a + b - a = b := by
  rw [Int32.add_comm, Int32.add_sub_cancel]
set_option maxHeartbeats 4000000 in
set_option maxRecDepth 100000 in
theorem q_take {S : aw_S} {m ρ : Nat → Nat} {Z : List Nat × Nat} {mb n9 : Nat} {P : PS} (h0 : RM S m ρ Z mb P) (hJ : PJ n9 P) (hmb : mb + 1 < 2147483000) {i k : Int32} : aw_M yX11_take cX11_take 5 (some FieldType.int) 10 0 0 [.ref (m 33), .int i, .int k] S (fun r S2 => ∃ ρ2 Z2, r = some (.int (bld P i (keyR k) (cutF P k k)).1) ∧ RM S2 m ρ2 Z2 (mb + 1) (bld P i (keyR k) (cutF P k k)).2 ∧ frS S S2 (mQ m)) := by
  have hP := hJ.1
  have hw3 := hP.1.1
  have hM := h0.1
  have hl9 := hJ.ln
  have hw6 := hP.1.2
  have hpH := hJ.2.2.2.2.2.1.1
  have hc16 := hJ.2.2.2.2.2.1.2.1
  refine aw_enter (by decide +kernel) (Nat.le_of_ble_eq_true rfl) (fun g K EE => ?_)
  rcases stp_cs (P := P) (i := i) (ok := decide (0 ≤ k.toInt ∧ k.toInt ≤ 999)) with ⟨hA, hv⟩ | ⟨j, hA, hob, hv⟩ | ⟨j, hA, hob, hb, hv⟩ | ⟨j, b, hA, hob, hb, hv⟩
  · have hE : bld P i (keyR k) (cutF P k k) = (-1, refP P 0) := bld_0 hA
    first | refine a_aload_n K dX11_take_0 rfl ?_ | refine a_aload_nN K dX11_take_0 rfl ?_
    refine a_iconst K dX11_take_1 (v := 0) (by decide) ?_
    refine a_putI K fd_X11_116 (by exact lm_o hM) rfl dX11_take_2 ?_
    have f0 : frM S (wI S 704 (m 33) 0) m [] [704] := frM_wI (by decide) (by decide)
    obtain ⟨T, hT⟩ : ∃ T, T = wI S 704 (m 33) 0 := ⟨_, rfl⟩
    rw [← hT] at f0 ⊢
    obtain ⟨h, q0⟩ := h0.scr hP f0 (by decide) (by decide)
    have hM := h.1
    first | refine a_aload_n K dX11_take_5 rfl ?_ | refine a_aload_nN K dX11_take_5 rfl ?_
    refine a_iload_n K dX11_take_6 rfl ?_
    refine a_iload_n K dX11_take_7 rfl ?_
    refine a_i2l K dX11_take_8 ?_
    refine a_lconst K dX11_take_9 (v := 0) (by decide) ?_
    refine a_ldc2 K kc_X11_335 dX11_take_10 ?_
    refine a_invS K (q_inB (p := 0) (q := 999) (by decide) (by decide)) my_X11_isIn ml_X11_174 st_X11_isIn rfl (by omega) (by omega) (by omega) rfl (Nat.le_of_ble_eq_true rfl) dX11_take_13 ?_
    intro r9 S9 hp9
    obtain ⟨rfl, hS9⟩ := hp9
    obtain rfl := hS9.symm
    refine a_invV K (q_stp (v := nI 0) h hv) my_X11_stops ml_X11_393 im_X11_stops se_X11_stops (ci := 11) (by exact lm_o hM) (by decide) ⟨_, _, rfl⟩ rfl (by omega) (by omega) (by omega) rfl (Nat.le_of_ble_eq_true rfl) dX11_take_16 ?_
    intro r9 S9 hp9
    obtain ⟨rfl, hS9⟩ := hp9
    obtain rfl := hS9.symm
    refine a_istore_n K dX11_take_19 (by decide) ?_
    refine a_iload_n K dX11_take_20 rfl ?_
    refine a_iconst K dX11_take_21 (v := -1) (by decide) ?_
    refine a_icmp_eq K dX11_take_22 (tgt := 31) (by decide) (fun c_22 => absurd c_22 (by decide)) (fun c_22 => ?_)
    first | refine a_aload_n K dX11_take_25 rfl ?_ | refine a_aload_nN K dX11_take_25 rfl ?_
    refine a_iload_n K dX11_take_26 rfl ?_
    refine a_invV K (q_refP h (k := 0) (by decide)) my_X11_refused ml_X11_292 im_X11_refused se_X11_refused (ci := 11) (by exact lm_o hM) (by decide) ⟨_, _, rfl⟩ rfl (by omega) (by omega) (by omega) rfl (Nat.le_of_ble_eq_true rfl) dX11_take_27 ?_
    intro r9 S9 hp9
    obtain ⟨rfl, hR, qR⟩ := hp9
    exact a_iret K EE rfl (by omega) (by omega) dX11_take_30 ⟨ρ, Z, by rw [hE], by rw [hE]; exact hR.up (Nat.le_succ mb) (by omega), mQ_tr q0 qR⟩
  · have hok : ¬ keyR k := fun q => absurd (of_decide_eq_false hob) (fun z => z ⟨q.1, by omega⟩)
    have hE : bld P i (keyR k) (cutF P k k) = (-1, refP P 1) := bld_1 hA hok
    first | refine a_aload_n K dX11_take_0 rfl ?_ | refine a_aload_nN K dX11_take_0 rfl ?_
    refine a_iconst K dX11_take_1 (v := 0) (by decide) ?_
    refine a_putI K fd_X11_116 (by exact lm_o hM) rfl dX11_take_2 ?_
    have f0 : frM S (wI S 704 (m 33) 0) m [] [704] := frM_wI (by decide) (by decide)
    obtain ⟨T, hT⟩ : ∃ T, T = wI S 704 (m 33) 0 := ⟨_, rfl⟩
    rw [← hT] at f0 ⊢
    obtain ⟨h, q0⟩ := h0.scr hP f0 (by decide) (by decide)
    have hM := h.1
    first | refine a_aload_n K dX11_take_5 rfl ?_ | refine a_aload_nN K dX11_take_5 rfl ?_
    refine a_iload_n K dX11_take_6 rfl ?_
    refine a_iload_n K dX11_take_7 rfl ?_
    refine a_i2l K dX11_take_8 ?_
    refine a_lconst K dX11_take_9 (v := 0) (by decide) ?_
    refine a_ldc2 K kc_X11_335 dX11_take_10 ?_
    refine a_invS K (q_inB (p := 0) (q := 999) (by decide) (by decide)) my_X11_isIn ml_X11_174 st_X11_isIn rfl (by omega) (by omega) (by omega) rfl (Nat.le_of_ble_eq_true rfl) dX11_take_13 ?_
    intro r9 S9 hp9
    obtain ⟨rfl, hS9⟩ := hp9
    obtain rfl := hS9.symm
    refine a_invV K (q_stp (v := nI 1) h hv) my_X11_stops ml_X11_393 im_X11_stops se_X11_stops (ci := 11) (by exact lm_o hM) (by decide) ⟨_, _, rfl⟩ rfl (by omega) (by omega) (by omega) rfl (Nat.le_of_ble_eq_true rfl) dX11_take_16 ?_
    intro r9 S9 hp9
    obtain ⟨rfl, hS9⟩ := hp9
    obtain rfl := hS9.symm
    refine a_istore_n K dX11_take_19 (by decide) ?_
    refine a_iload_n K dX11_take_20 rfl ?_
    refine a_iconst K dX11_take_21 (v := -1) (by decide) ?_
    refine a_icmp_eq K dX11_take_22 (tgt := 31) (by decide) (fun c_22 => absurd c_22 (by decide)) (fun c_22 => ?_)
    first | refine a_aload_n K dX11_take_25 rfl ?_ | refine a_aload_nN K dX11_take_25 rfl ?_
    refine a_iload_n K dX11_take_26 rfl ?_
    refine a_invV K (q_refP h (k := 1) (by decide)) my_X11_refused ml_X11_292 im_X11_refused se_X11_refused (ci := 11) (by exact lm_o hM) (by decide) ⟨_, _, rfl⟩ rfl (by omega) (by omega) (by omega) rfl (Nat.le_of_ble_eq_true rfl) dX11_take_27 ?_
    intro r9 S9 hp9
    obtain ⟨rfl, hR, qR⟩ := hp9
    exact a_iret K EE rfl (by omega) (by omega) dX11_take_30 ⟨ρ, Z, by rw [hE], by rw [hE]; exact hR.up (Nat.le_succ mb) (by omega), mQ_tr q0 qR⟩
  · have hok : keyR k := by have q := of_decide_eq_true hob; exact ⟨q.1, by omega⟩
    have hE : bld P i (keyR k) (cutF P k k) = (-1, refP P 2) := bld_2 hA hok hb
    first | refine a_aload_n K dX11_take_0 rfl ?_ | refine a_aload_nN K dX11_take_0 rfl ?_
    refine a_iconst K dX11_take_1 (v := 0) (by decide) ?_
    refine a_putI K fd_X11_116 (by exact lm_o hM) rfl dX11_take_2 ?_
    have f0 : frM S (wI S 704 (m 33) 0) m [] [704] := frM_wI (by decide) (by decide)
    obtain ⟨T, hT⟩ : ∃ T, T = wI S 704 (m 33) 0 := ⟨_, rfl⟩
    rw [← hT] at f0 ⊢
    obtain ⟨h, q0⟩ := h0.scr hP f0 (by decide) (by decide)
    have hM := h.1
    first | refine a_aload_n K dX11_take_5 rfl ?_ | refine a_aload_nN K dX11_take_5 rfl ?_
    refine a_iload_n K dX11_take_6 rfl ?_
    refine a_iload_n K dX11_take_7 rfl ?_
    refine a_i2l K dX11_take_8 ?_
    refine a_lconst K dX11_take_9 (v := 0) (by decide) ?_
    refine a_ldc2 K kc_X11_335 dX11_take_10 ?_
    refine a_invS K (q_inB (p := 0) (q := 999) (by decide) (by decide)) my_X11_isIn ml_X11_174 st_X11_isIn rfl (by omega) (by omega) (by omega) rfl (Nat.le_of_ble_eq_true rfl) dX11_take_13 ?_
    intro r9 S9 hp9
    obtain ⟨rfl, hS9⟩ := hp9
    obtain rfl := hS9.symm
    refine a_invV K (q_stp (v := nI 2) h hv) my_X11_stops ml_X11_393 im_X11_stops se_X11_stops (ci := 11) (by exact lm_o hM) (by decide) ⟨_, _, rfl⟩ rfl (by omega) (by omega) (by omega) rfl (Nat.le_of_ble_eq_true rfl) dX11_take_16 ?_
    intro r9 S9 hp9
    obtain ⟨rfl, hS9⟩ := hp9
    obtain rfl := hS9.symm
    refine a_istore_n K dX11_take_19 (by decide) ?_
    refine a_iload_n K dX11_take_20 rfl ?_
    refine a_iconst K dX11_take_21 (v := -1) (by decide) ?_
    refine a_icmp_eq K dX11_take_22 (tgt := 31) (by decide) (fun c_22 => absurd c_22 (by decide)) (fun c_22 => ?_)
    first | refine a_aload_n K dX11_take_25 rfl ?_ | refine a_aload_nN K dX11_take_25 rfl ?_
    refine a_iload_n K dX11_take_26 rfl ?_
    refine a_invV K (q_refP h (k := 2) (by decide)) my_X11_refused ml_X11_292 im_X11_refused se_X11_refused (ci := 11) (by exact lm_o hM) (by decide) ⟨_, _, rfl⟩ rfl (by omega) (by omega) (by omega) rfl (Nat.le_of_ble_eq_true rfl) dX11_take_27 ?_
    intro r9 S9 hp9
    obtain ⟨rfl, hR, qR⟩ := hp9
    exact a_iret K EE rfl (by omega) (by omega) dX11_take_30 ⟨ρ, Z, by rw [hE], by rw [hE]; exact hR.up (Nat.le_succ mb) (by omega), mQ_tr q0 qR⟩
  · obtain ⟨rfl, hj4⟩ := bAt_some hA
    have hbl := bui_live hj4 hb
    have tz := hP.tz hbl
    have h4z := tz.h4 hw3
    have hok : keyR k := by have q := of_decide_eq_true hob; exact ⟨q.1, by omega⟩
    have hE : bld P (nI j) (keyR k) (cutF P k k) = (nI ((takT (pW P) b.2.1 (pU P) k b.1).2 - pU P), setT P j (takT (pW P) b.2.1 (pU P) k b.1) b.2.1 b.2.2) := by
      rw [bld_9 hA hok hb]
      unfold cutF
      rw [cut1 hw3 tz]
    first | refine a_aload_n K dX11_take_0 rfl ?_ | refine a_aload_nN K dX11_take_0 rfl ?_
    refine a_iconst K dX11_take_1 (v := 0) (by decide) ?_
    refine a_putI K fd_X11_116 (by exact lm_o hM) rfl dX11_take_2 ?_
    have f0 : frM S (wI S 704 (m 33) 0) m [] [704] := frM_wI (by decide) (by decide)
    obtain ⟨T, hT⟩ : ∃ T, T = wI S 704 (m 33) 0 := ⟨_, rfl⟩
    rw [← hT] at f0 ⊢
    obtain ⟨h, q0⟩ := h0.scr hP f0 (by decide) (by decide)
    have hM := h.1
    first | refine a_aload_n K dX11_take_5 rfl ?_ | refine a_aload_nN K dX11_take_5 rfl ?_
    refine a_iload_n K dX11_take_6 rfl ?_
    refine a_iload_n K dX11_take_7 rfl ?_
    refine a_i2l K dX11_take_8 ?_
    refine a_lconst K dX11_take_9 (v := 0) (by decide) ?_
    refine a_ldc2 K kc_X11_335 dX11_take_10 ?_
    refine a_invS K (q_inB (p := 0) (q := 999) (by decide) (by decide)) my_X11_isIn ml_X11_174 st_X11_isIn rfl (by omega) (by omega) (by omega) rfl (Nat.le_of_ble_eq_true rfl) dX11_take_13 ?_
    intro r9 S9 hp9
    obtain ⟨rfl, hS9⟩ := hp9
    obtain rfl := hS9.symm
    refine a_invV K (q_stp (v := -1) h hv) my_X11_stops ml_X11_393 im_X11_stops se_X11_stops (ci := 11) (by exact lm_o hM) (by decide) ⟨_, _, rfl⟩ rfl (by omega) (by omega) (by omega) rfl (Nat.le_of_ble_eq_true rfl) dX11_take_16 ?_
    intro r9 S9 hp9
    obtain ⟨rfl, hS9⟩ := hp9
    obtain rfl := hS9.symm
    refine a_istore_n K dX11_take_19 (by decide) ?_
    refine a_iload_n K dX11_take_20 rfl ?_
    refine a_iconst K dX11_take_21 (v := -1) (by decide) ?_
    refine a_icmp_eq K dX11_take_22 (tgt := 31) (by decide) (fun c_22 => ?_) (fun c_22 => absurd c_22 (fun z => z rfl))
    first | refine a_aload_n K dX11_take_31 rfl ?_ | refine a_aload_nN K dX11_take_31 rfl ?_
    refine a_invV K (q_swF h hJ hmb) my_X11_sweeps ml_X11_278 im_X11_sweeps se_X11_sweeps (ci := 11) (by exact lm_o hM) (by decide) ⟨_, _, rfl⟩ rfl (by omega) (by omega) (by omega) rfl (Nat.le_of_ble_eq_true rfl) dX11_take_32 ?_
    intro r9 S1 hp9
    obtain ⟨rfl, Z1, h1, hrm1, f1⟩ := hp9
    have q1 : frS T S1 (mQ m) := f1.mq (by decide)
    have hM := h1.1
    first | refine a_aload_n K dX11_take_35 rfl ?_ | refine a_aload_nN K dX11_take_35 rfl ?_
    refine a_getI K fd_X11_190 (by exact lm_o hM) (Or.inl rfl) dX11_take_36 ?_
    rw [h1.N.2.2.2.2]
    refine a_istore K dX11_take_39 (by decide) ?_
    first | refine a_aload_n K dX11_take_41 rfl ?_ | refine a_aload_nN K dX11_take_41 rfl ?_
    refine a_getRs K fd_X11_76 (by exact lm_o hM) (Or.inr ⟨_, rfl⟩) (by exact lm_r739 hM) dX11_take_42 ?_
    refine a_iload_n K dX11_take_45 rfl ?_
    first | refine a_aload_n K dX11_take_46 rfl ?_ | refine a_aload_nN K dX11_take_46 rfl ?_
    first | refine a_aload_n K dX11_take_47 rfl ?_ | refine a_aload_nN K dX11_take_47 rfl ?_
    refine a_getRs K fd_X11_76 (by exact lm_o hM) (Or.inr ⟨_, rfl⟩) (by exact lm_r739 hM) dX11_take_48 ?_
    refine a_iload_n K dX11_take_51 rfl ?_
    refine a_iald K (by exact lm_kk hM (by decide) (by decide)) (by show vp_in _ (sN S1 (m 20)); exact lm_ix (z := 4) hM (by decide) (by decide) (show j < 4 by omega) (by decide)) dX11_take_52 ?_
    rw [nI_clamp (by omega)]
    rw [(h1.bro hj4 hb).1]
    refine a_iload_n K dX11_take_53 rfl ?_
    first | refine a_aload_n K dX11_take_54 rfl ?_ | refine a_aload_nN K dX11_take_54 rfl ?_
    refine a_getRs K fd_X11_79 (by exact lm_o hM) (Or.inr ⟨_, rfl⟩) (by exact lm_r740 hM) dX11_take_55 ?_
    refine a_iload_n K dX11_take_58 rfl ?_
    refine a_iald K (by exact lm_kk hM (by decide) (by decide)) (by show vp_in _ (sN S1 (m 21)); exact lm_ix (z := 4) hM (by decide) (by decide) (show j < 4 by omega) (by decide)) dX11_take_59 ?_
    rw [nI_clamp (by omega)]
    rw [(h1.bro hj4 hb).2.1]
    refine a_invV K ((TS.rf (tk := b.2.1) h1.N.1 h1.N.2.1 (h1.rep hbl)).take (key := k) h1.1 h1.N.2.2.1 (live_in hbl) (tok.tk9 hP tz).1 (by have h5 := (hP.2.2.1 j b hb).2.2.1; have h6 := hP.2.2.2; omega) h1.wid hw3 hw6 tz.1 tz.2.2.2.1 (by omega) (by omega)) my_X11_takes ml_X11_339 im_X11_takes se_X11_takes (ci := 11) (by exact lm_o hM) (by decide) ⟨_, _, rfl⟩ rfl (by omega) (by omega) (by omega) rfl (Nat.le_of_ble_eq_true rfl) dX11_take_60 ?_
    intro r9 W2 hp9
    obtain ⟨ρ3, Z3, rfl, ts3⟩ := hp9
    obtain ⟨hF, qF⟩ := RM_bset h1 hP hb hj4 ts3
    have hM := ts3.1.lay h1.1
    refine a_iast K (by exact lm_kk hM (by decide) (by decide)) (by show vp_in _ (sN W2 (m 20)); exact lm_ix (z := 4) hM (by decide) (by decide) (show j < 4 by omega) (by decide)) dX11_take_63 ?_
    rw [nI_clamp (by omega)]
    have hM := hF.1
    first | refine a_aload_n K dX11_take_64 rfl ?_ | refine a_aload_nN K dX11_take_64 rfl ?_
    refine a_getI K fd_X11_190 (by exact lm_o hM) (Or.inl rfl) dX11_take_65 ?_
    rw [hF.N.2.2.2.2]
    refine a_iload K dX11_take_68 rfl ?_
    refine a_isub K dX11_take_70 ?_
    rw [show pMd (setT P j (takT (pW P) b.2.1 (pU P) k b.1) b.2.1 b.2.2) = pMd P + nI ((takT (pW P) b.2.1 (pU P) k b.1).2 - pU P) from rfl, md_sub]
    exact a_iret K EE rfl (by omega) (by omega) dX11_take_71 ⟨ρ3, Z3, by rw [hE], by rw [hE]; exact hF, mQ_tr q0 (mQ_tr q1 qF)⟩
