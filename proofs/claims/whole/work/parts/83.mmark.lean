set_option maxHeartbeats 4000000 in
set_option maxRecDepth 100000 in
theorem m_laysTree {S : aw_S} {m : Nat → Nat} (hM : LM S m) {ρ : Nat → Nat} {h : Nat} {t : Tr h} (rp : RepM S m ρ h t) (hk : (ent h t).length ≤ 140) (hn : (ndl h t).length ≤ 240) (hh : h < 900) : aw_M yX11_laysTree cX11_laysTree 2 (none : Option FieldType) (h + 2) 0 0 [.ref (m 33), .int (nI (ρ t.1))] S (fun r S2 => r = none ∧ LyM S2 m ρ (ent h t) (dpT h t 0) ∧ frM S S2 m ksL fsL) := by
  refine aw_enter (by decide +kernel) (Nat.le_of_ble_eq_true rfl) (fun g K EE => ?_)
  first | refine a_aload_n K dX11_laysTree_0 rfl ?_ | refine a_aload_nN K dX11_laysTree_0 rfl ?_
  refine a_iconst K dX11_laysTree_1 (v := 0) (by decide) ?_
  refine a_putI K fd_X11_249 (by exact lm_o hM) rfl dX11_laysTree_2 ?_
  first | refine a_aload_n K dX11_laysTree_5 rfl ?_ | refine a_aload_nN K dX11_laysTree_5 rfl ?_
  refine a_iconst K dX11_laysTree_6 (v := 0) (by decide) ?_
  refine a_putI K fd_X11_243 (by exact lm_o hM) rfl dX11_laysTree_7 ?_
  first | refine a_aload_n K dX11_laysTree_10 rfl ?_ | refine a_aload_nN K dX11_laysTree_10 rfl ?_
  refine a_iload_n K dX11_laysTree_11 rfl ?_
  refine a_iconst K dX11_laysTree_12 (v := 0) (by decide) ?_
  have f2 : frM S (wI (wI S 734 (m 33) 0) 735 (m 33) 0) m ksL fsL := (frM_wI (by decide) (by decide)).tr (frM_wI (by decide) (by decide))
  have hM2 := f2.lay hM
  have rp2 := f2.rep hM (by decide) (by decide) (by decide) (by decide) (by decide) (by decide) rp
  have l2 : LyM (wI (wI S 734 (m 33) 0) 735 (m 33) 0) m ρ [] [] := ⟨by rw [sI_wI, if_neg (fun z => absurd z.1 (by decide)), wI_at]; rfl, wI_at, fun i x hx => absurd hx (by simp), fun i x hx => absurd hx (by simp)⟩
  refine a_invV K (m_goesThrough h t (wI (wI S 734 (m 33) 0) 735 (m 33) 0) [] [] 0 hM2 rp2 l2 (by rw [List.length_nil]; omega) (by rw [List.length_nil]; omega) (by omega)) my_X11_goesThrough ml_X11_246 im_X11_goesThrough se_X11_goesThrough (ci := 11) (by exact lm_o hM) (by decide) ⟨_, _, rfl⟩ rfl (by omega) (by omega) (by omega) rfl (Nat.le_of_ble_eq_true rfl) dX11_laysTree_13 ?_
  intro r9 S9 hp9
  obtain ⟨rfl, hLy, f9⟩ := hp9
  rw [List.nil_append, List.nil_append] at hLy
  exact a_vret K EE (by omega) (by omega) dX11_laysTree_16 ⟨rfl, hLy, f2.tr f9⟩
set_option maxHeartbeats 4000000 in
set_option maxRecDepth 100000 in
theorem m_keysOf {S : aw_S} {m : Nat → Nat} (hM : LM S m) {ρ : Nat → Nat} {h : Nat} {t : Tr h} (rp : RepM S m ρ h t) (hk : (ent h t).length ≤ 140) (hn : (ndl h t).length ≤ 240) (hh : h < 900) : aw_M yX11_keysOf cX11_keysOf 2 (some FieldType.int) (h + 3) 0 0 [.ref (m 33), .int (nI (ρ t.1))] S (fun r S2 => r = some (.int (nI (ent h t).length)) ∧ LyM S2 m ρ (ent h t) (dpT h t 0) ∧ frM S S2 m ksL fsL) := by
  refine aw_enter (by decide +kernel) (Nat.le_of_ble_eq_true rfl) (fun g K EE => ?_)
  first | refine a_aload_n K dX11_keysOf_0 rfl ?_ | refine a_aload_nN K dX11_keysOf_0 rfl ?_
  refine a_iload_n K dX11_keysOf_1 rfl ?_
  refine a_invV K (m_laysTree hM rp hk hn hh) my_X11_laysTree ml_X11_252 im_X11_laysTree se_X11_laysTree (ci := 11) (by exact lm_o hM) (by decide) ⟨_, _, rfl⟩ rfl (by omega) (by omega) (by omega) rfl (Nat.le_of_ble_eq_true rfl) dX11_keysOf_2 ?_
  intro r9 S9 hp9
  obtain ⟨rfl, hLy, f9⟩ := hp9
  have hM9 := f9.lay hM
  first | refine a_aload_n K dX11_keysOf_5 rfl ?_ | refine a_aload_nN K dX11_keysOf_5 rfl ?_
  refine a_getI K fd_X11_249 (by exact lm_o hM9) (Or.inl rfl) dX11_keysOf_6 ?_
  rw [hLy.1]
  exact a_iret K EE rfl (by omega) (by omega) dX11_keysOf_9 ⟨rfl, hLy, f9⟩
/-- rows of a tree's nodes -/
def rwT (ρ : Nat → Nat) (h : Nat) (t : Tr h) : List Nat := (ndl h t).map (fun x => ρ x.1)
def mrM (mk : Nat → Bool) (l : List Nat) (r : Nat) : Bool := mk r || decide (r ∈ l)
def mrC (mk : Nat → Bool) : List Nat → Nat
  | [] => 0
  | r :: l => (if mk r = true then 0 else 1) + mrC (mrM mk [r]) l
theorem mrM_nil (mk : Nat → Bool) : mrM mk [] = mk := funext (fun r => by unfold mrM; simp)
theorem mrM_app (mk : Nat → Bool) (a b : List Nat) : mrM (mrM mk a) b = mrM mk (a ++ b) := funext (fun r => by unfold mrM; simp [List.mem_append, Bool.or_assoc])
theorem mrC_app : ∀ (a b : List Nat) (mk : Nat → Bool), mrC mk (a ++ b) = mrC mk a + mrC (mrM mk a) b
  | [], b, mq => by rw [mrM_nil, List.nil_append]; show _ = 0 + _; rw [Nat.zero_add]
  | r :: a, b, mq => by
    rw [List.cons_append, mrC, mrC, mrC_app a b, mrM_app, Nat.add_assoc]
    rfl
theorem rwT_s {ρ : Nat → Nat} {h : Nat} (t : Tr (h + 1)) : rwT ρ (h + 1) t = ρ t.1 :: (kds t).flatMap (rwT ρ h) := by
  show ((t.1, t.2.1) :: (kds t).flatMap (ndl h)).map (fun x => ρ x.1) = _
  rw [List.map_cons, List.map_flatMap]
  rfl
/-- the stamp, and which rows have it -/
def MkM (S : aw_S) (m : Nat → Nat) (st : Int32) (mk : Nat → Bool) : Prop := sI S 726 (m 33) = st ∧ ∀ r, r < 12000 → (sA S (m 7) r = st ↔ mk r = true)
theorem MkM.set {S : aw_S} {m : Nat → Nat} {st : Int32} {mk : Nat → Bool} {r : Nat} (h : MkM S m st mk) : MkM (wA S (m 7) r st) m st (mrM mk [r]) := ⟨h.1, fun q hq => by
  rw [sA_wA]
  unfold mrM
  by_cases e : q = r
  · rw [if_pos ⟨rfl, e⟩, e]
    simp
  · rw [if_neg (fun z => e z.2), h.2 q hq]
    simp [e]⟩
/-- marks alone are written, this stamp alone -/
def mkF (S S2 : aw_S) (m : Nat → Nat) (st : Int32) : Prop := frM S S2 m [7] [] ∧ ∀ r, r < 12000 → sA S2 (m 7) r = sA S (m 7) r ∨ sA S2 (m 7) r = st
theorem mkF.tr {S S2 S3 : aw_S} {m : Nat → Nat} {st : Int32} (h : mkF S S2 m st) (k : mkF S2 S3 m st) : mkF S S3 m st := ⟨h.1.tr k.1, fun r hr => (k.2 r hr).elim (fun z => by rw [z]; exact h.2 r hr) Or.inr⟩
theorem mkF.lay {S S2 : aw_S} {m : Nat → Nat} {st : Int32} (h : mkF S S2 m st) (hM : LM S m) : LM S2 m := h.1.lay hM
theorem mkF.rep {S S2 : aw_S} {m ρ : Nat → Nat} {st : Int32} (f : mkF S S2 m st) (hM : LM S m) (hk : ∀ k ∈ [7], k < 33) (n4 : 4 ∉ [7]) (n5 : 5 ∉ [7]) (n6 : 6 ∉ [7]) (n9 : 9 ∉ [7]) (n10 : 10 ∉ [7]) {h : Nat} {t : Tr h} (r : RepM S m ρ h t) : RepM S2 m ρ h t := f.1.rep hM hk n4 n5 n6 n9 n10 r
theorem mkF_wA {S : aw_S} {m : Nat → Nat} {st : Int32} {i : Nat} : mkF S (wA S (m 7) i st) m st := ⟨frM_wA (by decide), fun r _ => by
  rw [sA_wA]
  by_cases e : m 7 = m 7 ∧ r = i
  · rw [if_pos e]; exact Or.inr rfl
  · rw [if_neg e]; exact Or.inl rfl⟩
set_option maxHeartbeats 4000000 in
set_option maxRecDepth 100000 in
theorem m_marks {m ρ : Nat → Nat} : ∀ (h : Nat) (t : Tr h) (S : aw_S) (mk : Nat → Bool) (st : Int32), LM S m → RepM S m ρ h t → MkM S m st mk → aw_M yX11_marks cX11_marks 4 (some FieldType.int) (h + 1) 0 0 [.ref (m 33), .int (nI (ρ t.1))] S (fun r S2 => r = some (.int (nI (mrC mk (rwT ρ h t)))) ∧ MkM S2 m st (mrM mk (rwT ρ h t)) ∧ mkF S S2 m st) := by
  intro h
  induction h with
  | zero =>
    intro t S mk st hM0 rp hk0
    have h7 : (ets t).length ≤ 7 := rp.2.2.2.2.1
    have hr := rp.own.1
    refine aw_enter (by decide +kernel) (Nat.le_of_ble_eq_true rfl) (fun g K EE => ?_)
    have fin : ∀ (T : aw_S) (b : Int32), LM T m → mkF S T m st → (some (Value.int b) = some (.int (nI (mrC mk (rwT ρ 0 t)))) ∧ MkM T m st (mrM mk (rwT ρ 0 t)) ∧ mkF S T m st) → aw g 4 T 0 0 [(3, .int (nI 0)), (2, .int b), (1, .int (nI (ρ t.1))), (0, .ref (m 33))] [] 31 := by
      intro T b hM f hpo
      have rT := f.rep hM0 (by decide) (by decide) (by decide) (by decide) (by decide) (by decide) rp
      by_cases h0 : (ets t).length = 0
      · refine a_iload_n K dX11_marks_31 rfl ?_
        first | refine a_aload_n K dX11_marks_32 rfl ?_ | refine a_aload_nN K dX11_marks_32 rfl ?_
        refine a_getRs K fd_X11_26 (by exact lm_o hM) (Or.inr ⟨_, rfl⟩) (by exact lm_r715 hM) dX11_marks_33 ?_
        refine a_iload_n K dX11_marks_36 rfl ?_
        refine a_iald K (by exact lm_kk hM (by decide) (by decide)) (by show vp_in _ (sN T (m 5)); exact lm_ix (z := 12000) hM (by decide) (by decide) (show ρ t.1 < 12000 by omega) (by decide)) dX11_marks_37 ?_
        rw [nI_clamp (by omega)]
        rw [show sA T (m 5) (ρ t.1) = nI (ets t).length from rT.2.2.1]
        refine a_icmp_ge K dX11_marks_38 (tgt := 69) (by decide) (fun c_38 => ?_) (fun c_38 => absurd c_38 (fun z => z (nI_le (a := (ets t).length) (b := 0) (by omega) (by decide))))
        refine a_iload_n K dX11_marks_69 rfl ?_
        exact a_iret K EE rfl (by omega) (by omega) dX11_marks_70 hpo
      · refine a_iload_n K dX11_marks_31 rfl ?_
        first | refine a_aload_n K dX11_marks_32 rfl ?_ | refine a_aload_nN K dX11_marks_32 rfl ?_
        refine a_getRs K fd_X11_26 (by exact lm_o hM) (Or.inr ⟨_, rfl⟩) (by exact lm_r715 hM) dX11_marks_33 ?_
        refine a_iload_n K dX11_marks_36 rfl ?_
        refine a_iald K (by exact lm_kk hM (by decide) (by decide)) (by show vp_in _ (sN T (m 5)); exact lm_ix (z := 12000) hM (by decide) (by decide) (show ρ t.1 < 12000 by omega) (by decide)) dX11_marks_37 ?_
        rw [nI_clamp (by omega)]
        rw [show sA T (m 5) (ρ t.1) = nI (ets t).length from rT.2.2.1]
        refine a_icmp_ge K dX11_marks_38 (tgt := 69) (by decide) (fun c_38 => absurd c_38 (nI_ge (a := 0) (b := (ets t).length) (by omega) (by omega))) (fun c_38 => ?_)
        first | refine a_aload_n K dX11_marks_41 rfl ?_ | refine a_aload_nN K dX11_marks_41 rfl ?_
        refine a_getRs K fd_X11_23 (by exact lm_o hM) (Or.inr ⟨_, rfl⟩) (by exact lm_r714 hM) dX11_marks_42 ?_
        refine a_iload_n K dX11_marks_45 rfl ?_
        refine a_iald K (by exact lm_kk hM (by decide) (by decide)) (by show vp_in _ (sN T (m 4)); exact lm_ix (z := 12000) hM (by decide) (by decide) (show ρ t.1 < 12000 by omega) (by decide)) dX11_marks_46 ?_
        rw [nI_clamp (by omega)]
        rw [show sA T (m 4) (ρ t.1) = 1 from rT.2.1]
        refine a_if_ne K dX11_marks_47 (tgt := 69) (by decide) (fun c_47 => ?_) (fun c_47 => absurd c_47 (by decide))
        refine a_iload_n K dX11_marks_69 rfl ?_
        exact a_iret K EE rfl (by omega) (by omega) dX11_marks_70 hpo
    by_cases hm : mk (ρ t.1) = true
    · first | refine a_aload_n K dX11_marks_0 rfl ?_ | refine a_aload_nN K dX11_marks_0 rfl ?_
      refine a_getRs K fd_X11_32 (by exact lm_o hM0) (Or.inr ⟨_, rfl⟩) (by exact lm_r717 hM0) dX11_marks_1 ?_
      refine a_iload_n K dX11_marks_4 rfl ?_
      refine a_iald K (by exact lm_kk hM0 (by decide) (by decide)) (by show vp_in _ (sN S (m 7)); exact lm_ix (z := 12000) hM0 (by decide) (by decide) (show ρ t.1 < 12000 by omega) (by decide)) dX11_marks_5 ?_
      first | refine a_aload_n K dX11_marks_6 rfl ?_ | refine a_aload_nN K dX11_marks_6 rfl ?_
      refine a_getI K fd_X11_255 (by exact lm_o hM0) (Or.inl rfl) dX11_marks_7 ?_
      rw [nI_clamp (by omega)]
      rw [hk0.1]
      refine a_icmp_ne K dX11_marks_10 (tgt := 17) (by decide) (fun c_10 => absurd c_10 (fun z => z ((hk0.2 _ hr).mpr hm))) (fun c_10 => ?_)
      refine a_iconst K dX11_marks_13 (v := 0) (by decide) ?_
      refine a_goto K dX11_marks_14 (tgt := 18) (by decide) ?_
      refine a_istore_n K dX11_marks_18 (by decide) ?_
      first | refine a_aload_n K dX11_marks_19 rfl ?_ | refine a_aload_nN K dX11_marks_19 rfl ?_
      refine a_getRs K fd_X11_32 (by exact lm_o hM0) (Or.inr ⟨_, rfl⟩) (by exact lm_r717 hM0) dX11_marks_20 ?_
      refine a_iload_n K dX11_marks_23 rfl ?_
      first | refine a_aload_n K dX11_marks_24 rfl ?_ | refine a_aload_nN K dX11_marks_24 rfl ?_
      refine a_getI K fd_X11_255 (by exact lm_o hM0) (Or.inl rfl) dX11_marks_25 ?_
      rw [hk0.1]
      refine a_iast K (by exact lm_kk hM0 (by decide) (by decide)) (by show vp_in _ (sN S (m 7)); exact lm_ix (z := 12000) hM0 (by decide) (by decide) (show ρ t.1 < 12000 by omega) (by decide)) dX11_marks_28 ?_
      rw [nI_clamp (by omega)]
      refine a_iconst K dX11_marks_29 (v := 0) (by decide) ?_
      refine a_istore_n K dX11_marks_30 (by decide) ?_
      rw [show (0 : Int32) = nI 0 from rfl]
      exact aw_locl rfl (fin _ _ (LM.fr hM0 frS_wA) mkF_wA ⟨by show _ = some (Value.int (nI ((if mk (ρ t.1) = true then 0 else 1) + 0))); rw [if_pos hm] <;> rfl, hk0.set, mkF_wA⟩)
    · first | refine a_aload_n K dX11_marks_0 rfl ?_ | refine a_aload_nN K dX11_marks_0 rfl ?_
      refine a_getRs K fd_X11_32 (by exact lm_o hM0) (Or.inr ⟨_, rfl⟩) (by exact lm_r717 hM0) dX11_marks_1 ?_
      refine a_iload_n K dX11_marks_4 rfl ?_
      refine a_iald K (by exact lm_kk hM0 (by decide) (by decide)) (by show vp_in _ (sN S (m 7)); exact lm_ix (z := 12000) hM0 (by decide) (by decide) (show ρ t.1 < 12000 by omega) (by decide)) dX11_marks_5 ?_
      first | refine a_aload_n K dX11_marks_6 rfl ?_ | refine a_aload_nN K dX11_marks_6 rfl ?_
      refine a_getI K fd_X11_255 (by exact lm_o hM0) (Or.inl rfl) dX11_marks_7 ?_
      rw [nI_clamp (by omega)]
      rw [hk0.1]
      refine a_icmp_ne K dX11_marks_10 (tgt := 17) (by decide) (fun c_10 => ?_) (fun c_10 => absurd c_10 (fun z => (hk0.2 _ hr).mp z |> fun q => by rw [q] at hm; exact absurd hm (by decide)))
      refine a_iconst K dX11_marks_17 (v := 1) (by decide) ?_
      refine a_istore_n K dX11_marks_18 (by decide) ?_
      first | refine a_aload_n K dX11_marks_19 rfl ?_ | refine a_aload_nN K dX11_marks_19 rfl ?_
      refine a_getRs K fd_X11_32 (by exact lm_o hM0) (Or.inr ⟨_, rfl⟩) (by exact lm_r717 hM0) dX11_marks_20 ?_
      refine a_iload_n K dX11_marks_23 rfl ?_
      first | refine a_aload_n K dX11_marks_24 rfl ?_ | refine a_aload_nN K dX11_marks_24 rfl ?_
      refine a_getI K fd_X11_255 (by exact lm_o hM0) (Or.inl rfl) dX11_marks_25 ?_
      rw [hk0.1]
      refine a_iast K (by exact lm_kk hM0 (by decide) (by decide)) (by show vp_in _ (sN S (m 7)); exact lm_ix (z := 12000) hM0 (by decide) (by decide) (show ρ t.1 < 12000 by omega) (by decide)) dX11_marks_28 ?_
      rw [nI_clamp (by omega)]
      refine a_iconst K dX11_marks_29 (v := 0) (by decide) ?_
      refine a_istore_n K dX11_marks_30 (by decide) ?_
      rw [show (0 : Int32) = nI 0 from rfl]
      exact aw_locl rfl (fin _ _ (LM.fr hM0 frS_wA) mkF_wA ⟨by show _ = some (Value.int (nI ((if mk (ρ t.1) = true then 0 else 1) + 0))); rw [if_neg hm] <;> rfl, hk0.set, mkF_wA⟩)
  | succ h ihh =>
    intro t S mk st hM0 rp hk0
    have h7 : (kds t).length ≤ 7 := rp.1.2.2.2.2.1
    have hr := rp.own.1
    refine aw_enter (by decide +kernel) (Nat.le_of_ble_eq_true rfl) (fun g K EE => ?_)
    have loop : ∀ (n i : Nat) (x b : Int32) (T : aw_S), x = nI i → i + n = (kds t).length → LM T m → b = nI (mrC mk (ρ t.1 :: ((kds t).take i).flatMap (rwT ρ h))) → MkM T m st (mrM mk (ρ t.1 :: ((kds t).take i).flatMap (rwT ρ h))) → mkF S T m st → aw g 4 T 0 0 [(3, .int x), (2, .int b), (1, .int (nI (ρ t.1))), (0, .ref (m 33))] [] 31 := by
      intro n
      induction n with
      | zero =>
        intro i x b T hx hn hM hb hk f
        subst hx
        have rT := f.rep hM0 (by decide) (by decide) (by decide) (by decide) (by decide) (by decide) rp
        refine a_iload_n K dX11_marks_31 rfl ?_
        first | refine a_aload_n K dX11_marks_32 rfl ?_ | refine a_aload_nN K dX11_marks_32 rfl ?_
        refine a_getRs K fd_X11_26 (by exact lm_o hM) (Or.inr ⟨_, rfl⟩) (by exact lm_r715 hM) dX11_marks_33 ?_
        refine a_iload_n K dX11_marks_36 rfl ?_
        refine a_iald K (by exact lm_kk hM (by decide) (by decide)) (by show vp_in _ (sN T (m 5)); exact lm_ix (z := 12000) hM (by decide) (by decide) (show ρ t.1 < 12000 by omega) (by decide)) dX11_marks_37 ?_
        rw [nI_clamp (by omega)]
        rw [show sA T (m 5) (ρ t.1) = nI (kds t).length from rT.1.2.2.1]
        refine a_icmp_ge K dX11_marks_38 (tgt := 69) (by decide) (fun c_38 => ?_) (fun c_38 => absurd c_38 (fun z => z (nI_le (a := (kds t).length) (b := i) (by omega) (by omega))))
        refine a_iload_n K dX11_marks_69 rfl ?_
        exact a_iret K EE rfl (by omega) (by omega) dX11_marks_70 ⟨by rw [hb, rwT_s, show i = (kds t).length by omega, List.take_length], by rw [show i = (kds t).length by omega, List.take_length] at hk; rw [rwT_s]; exact hk, f⟩
      | succ n ih =>
        intro i x b T hx0 hn hM hb hk f
        subst hx0
        have rT := f.rep hM0 (by decide) (by decide) (by decide) (by decide) (by decide) (by decide) rp
        have hi : i < (kds t).length := by omega
        have hc := List.getElem?_eq_getElem hi
        generalize hcc : (kds t)[i] = c at hc
        refine a_iload_n K dX11_marks_31 rfl ?_
        first | refine a_aload_n K dX11_marks_32 rfl ?_ | refine a_aload_nN K dX11_marks_32 rfl ?_
        refine a_getRs K fd_X11_26 (by exact lm_o hM) (Or.inr ⟨_, rfl⟩) (by exact lm_r715 hM) dX11_marks_33 ?_
        refine a_iload_n K dX11_marks_36 rfl ?_
        refine a_iald K (by exact lm_kk hM (by decide) (by decide)) (by show vp_in _ (sN T (m 5)); exact lm_ix (z := 12000) hM (by decide) (by decide) (show ρ t.1 < 12000 by omega) (by decide)) dX11_marks_37 ?_
        rw [nI_clamp (by omega)]
        rw [show sA T (m 5) (ρ t.1) = nI (kds t).length from rT.1.2.2.1]
        refine a_icmp_ge K dX11_marks_38 (tgt := 69) (by decide) (fun c_38 => absurd c_38 (nI_ge (a := i) (b := (kds t).length) (by omega) (by omega))) (fun c_38 => ?_)
        first | refine a_aload_n K dX11_marks_41 rfl ?_ | refine a_aload_nN K dX11_marks_41 rfl ?_
        refine a_getRs K fd_X11_23 (by exact lm_o hM) (Or.inr ⟨_, rfl⟩) (by exact lm_r714 hM) dX11_marks_42 ?_
        refine a_iload_n K dX11_marks_45 rfl ?_
        refine a_iald K (by exact lm_kk hM (by decide) (by decide)) (by show vp_in _ (sN T (m 4)); exact lm_ix (z := 12000) hM (by decide) (by decide) (show ρ t.1 < 12000 by omega) (by decide)) dX11_marks_46 ?_
        rw [nI_clamp (by omega)]
        rw [show sA T (m 4) (ρ t.1) = 0 from rT.1.2.1]
        refine a_if_ne K dX11_marks_47 (tgt := 69) (by decide) (fun c_47 => absurd c_47 (fun z => z rfl)) (fun c_47 => ?_)
        refine a_iload_n K dX11_marks_50 rfl ?_
        first | refine a_aload_n K dX11_marks_51 rfl ?_ | refine a_aload_nN K dX11_marks_51 rfl ?_
        first | refine a_aload_n K dX11_marks_52 rfl ?_ | refine a_aload_nN K dX11_marks_52 rfl ?_
        refine a_iload_n K dX11_marks_53 rfl ?_
        refine a_iload_n K dX11_marks_54 rfl ?_
        refine a_invV K (m_child hM (r := ρ t.1) (k := i) hr (by omega)) my_X11_child ml_X11_197 im_X11_child se_X11_child (ci := 11) (by exact lm_o hM) (by decide) ⟨_, _, rfl⟩ rfl (by omega) (by omega) (by omega) rfl (Nat.le_of_ble_eq_true rfl) dX11_marks_55 ?_
        intro r9 S9 hp9
        obtain ⟨rfl, hS9⟩ := hp9
        obtain rfl := hS9.symm
        rw [(rT.kid hc).2.1]
        refine a_invV K (ihh c T _ st hM (rT.kid hc).1 hk) my_X11_marks ml_X11_258 im_X11_marks se_X11_marks (ci := 11) (by exact lm_o hM) (by decide) ⟨_, _, rfl⟩ rfl (by omega) (by omega) (by omega) rfl (Nat.le_of_ble_eq_true rfl) dX11_marks_58 ?_
        intro r9 T2 hp9
        obtain ⟨rfl, hk2, f2⟩ := hp9
        refine a_iadd K dX11_marks_61 ?_
        refine a_istore_n K dX11_marks_62 (by decide) ?_
        refine a_iinc K dX11_marks_63 (v := 1) rfl (by decide) (by decide) ?_
        refine a_goto K dX11_marks_66 (tgt := 31) (by decide) ?_
        exact aw_locl rfl (ih (i + 1) _ _ T2 (nI_1 i) (by omega) (f2.lay hM) (by rw [hb, nI_add, List.take_succ_eq_append_getElem hi, hcc, List.flatMap_append, List.flatMap_cons, List.flatMap_nil, List.append_nil, ← List.cons_append, mrC_app]) (by rw [List.take_succ_eq_append_getElem hi, hcc, List.flatMap_append, List.flatMap_cons, List.flatMap_nil, List.append_nil, ← List.cons_append, ← mrM_app]; exact hk2) (f.tr f2))
    by_cases hm : mk (ρ t.1) = true
    · first | refine a_aload_n K dX11_marks_0 rfl ?_ | refine a_aload_nN K dX11_marks_0 rfl ?_
      refine a_getRs K fd_X11_32 (by exact lm_o hM0) (Or.inr ⟨_, rfl⟩) (by exact lm_r717 hM0) dX11_marks_1 ?_
      refine a_iload_n K dX11_marks_4 rfl ?_
      refine a_iald K (by exact lm_kk hM0 (by decide) (by decide)) (by show vp_in _ (sN S (m 7)); exact lm_ix (z := 12000) hM0 (by decide) (by decide) (show ρ t.1 < 12000 by omega) (by decide)) dX11_marks_5 ?_
      first | refine a_aload_n K dX11_marks_6 rfl ?_ | refine a_aload_nN K dX11_marks_6 rfl ?_
      refine a_getI K fd_X11_255 (by exact lm_o hM0) (Or.inl rfl) dX11_marks_7 ?_
      rw [nI_clamp (by omega)]
      rw [hk0.1]
      refine a_icmp_ne K dX11_marks_10 (tgt := 17) (by decide) (fun c_10 => absurd c_10 (fun z => z ((hk0.2 _ hr).mpr hm))) (fun c_10 => ?_)
      refine a_iconst K dX11_marks_13 (v := 0) (by decide) ?_
      refine a_goto K dX11_marks_14 (tgt := 18) (by decide) ?_
      refine a_istore_n K dX11_marks_18 (by decide) ?_
      first | refine a_aload_n K dX11_marks_19 rfl ?_ | refine a_aload_nN K dX11_marks_19 rfl ?_
      refine a_getRs K fd_X11_32 (by exact lm_o hM0) (Or.inr ⟨_, rfl⟩) (by exact lm_r717 hM0) dX11_marks_20 ?_
      refine a_iload_n K dX11_marks_23 rfl ?_
      first | refine a_aload_n K dX11_marks_24 rfl ?_ | refine a_aload_nN K dX11_marks_24 rfl ?_
      refine a_getI K fd_X11_255 (by exact lm_o hM0) (Or.inl rfl) dX11_marks_25 ?_
      rw [hk0.1]
      refine a_iast K (by exact lm_kk hM0 (by decide) (by decide)) (by show vp_in _ (sN S (m 7)); exact lm_ix (z := 12000) hM0 (by decide) (by decide) (show ρ t.1 < 12000 by omega) (by decide)) dX11_marks_28 ?_
      rw [nI_clamp (by omega)]
      refine a_iconst K dX11_marks_29 (v := 0) (by decide) ?_
      refine a_istore_n K dX11_marks_30 (by decide) ?_
      exact aw_locl rfl (loop (kds t).length 0 _ _ _ nI_0.symm (by omega) (LM.fr hM0 frS_wA) (by rw [List.take_zero, List.flatMap_nil]; show _ = nI ((if mk (ρ t.1) = true then 0 else 1) + 0); rw [if_pos hm] <;> rfl) (by rw [List.take_zero, List.flatMap_nil]; exact hk0.set) mkF_wA)
    · first | refine a_aload_n K dX11_marks_0 rfl ?_ | refine a_aload_nN K dX11_marks_0 rfl ?_
      refine a_getRs K fd_X11_32 (by exact lm_o hM0) (Or.inr ⟨_, rfl⟩) (by exact lm_r717 hM0) dX11_marks_1 ?_
      refine a_iload_n K dX11_marks_4 rfl ?_
      refine a_iald K (by exact lm_kk hM0 (by decide) (by decide)) (by show vp_in _ (sN S (m 7)); exact lm_ix (z := 12000) hM0 (by decide) (by decide) (show ρ t.1 < 12000 by omega) (by decide)) dX11_marks_5 ?_
      first | refine a_aload_n K dX11_marks_6 rfl ?_ | refine a_aload_nN K dX11_marks_6 rfl ?_
      refine a_getI K fd_X11_255 (by exact lm_o hM0) (Or.inl rfl) dX11_marks_7 ?_
      rw [nI_clamp (by omega)]
      rw [hk0.1]
      refine a_icmp_ne K dX11_marks_10 (tgt := 17) (by decide) (fun c_10 => ?_) (fun c_10 => absurd c_10 (fun z => (hk0.2 _ hr).mp z |> fun q => by rw [q] at hm; exact absurd hm (by decide)))
      refine a_iconst K dX11_marks_17 (v := 1) (by decide) ?_
      refine a_istore_n K dX11_marks_18 (by decide) ?_
      first | refine a_aload_n K dX11_marks_19 rfl ?_ | refine a_aload_nN K dX11_marks_19 rfl ?_
      refine a_getRs K fd_X11_32 (by exact lm_o hM0) (Or.inr ⟨_, rfl⟩) (by exact lm_r717 hM0) dX11_marks_20 ?_
      refine a_iload_n K dX11_marks_23 rfl ?_
      first | refine a_aload_n K dX11_marks_24 rfl ?_ | refine a_aload_nN K dX11_marks_24 rfl ?_
      refine a_getI K fd_X11_255 (by exact lm_o hM0) (Or.inl rfl) dX11_marks_25 ?_
      rw [hk0.1]
      refine a_iast K (by exact lm_kk hM0 (by decide) (by decide)) (by show vp_in _ (sN S (m 7)); exact lm_ix (z := 12000) hM0 (by decide) (by decide) (show ρ t.1 < 12000 by omega) (by decide)) dX11_marks_28 ?_
      rw [nI_clamp (by omega)]
      refine a_iconst K dX11_marks_29 (v := 0) (by decide) ?_
      refine a_istore_n K dX11_marks_30 (by decide) ?_
      exact aw_locl rfl (loop (kds t).length 0 _ _ _ nI_0.symm (by omega) (LM.fr hM0 frS_wA) (by rw [List.take_zero, List.flatMap_nil]; show _ = nI ((if mk (ρ t.1) = true then 0 else 1) + 0); rw [if_neg hm] <;> rfl) (by rw [List.take_zero, List.flatMap_nil]; exact hk0.set) mkF_wA)
