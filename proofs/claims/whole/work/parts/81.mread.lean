set_option maxHeartbeats 4000000 in
set_option maxRecDepth 100000 in
theorem m_spotFor {S : aw_S} {m : Nat → Nat} (hM : LM S m) {ρ : Nat → Nat} {h : Nat} {t : Tr (h + 1)} (rp : RepM S m ρ (h + 1) t) (ne : NeT (h + 1) t) {key : Int32} : aw_M yX11_spotFor cX11_spotFor 5 (some FieldType.int) 2 0 0 [.ref (m 33), .int (nI (ρ t.1)), .int key] S (fun q S2 => q = some (.int (nI (place key (kds t)))) ∧ S2 = S) := by
  have hr := rp.1.1
  have h7 : (kds t).length ≤ 7 := rp.1.2.2.2.2.1
  have hl0 := List.length_pos_iff.mpr ne.1
  obtain ⟨R, hR⟩ : ∃ R, nI (place key (kds t)) = R := ⟨_, rfl⟩
  rw [hR]
  refine aw_enter (by decide +kernel) (Nat.le_of_ble_eq_true rfl) (fun g K EE => ?_)
  have loop : ∀ (n i : Nat) (x b : Int32), x = nI i → i + n = (kds t).length → 1 ≤ i → b = nI (plcN (lowL (kds t)) key i) → aw g 5 S 0 0 [(4, .int x), (3, .int b), (2, .int key), (1, .int (nI (ρ t.1))), (0, .ref (m 33))] [] 5 := by
    intro n
    induction n with
    | zero =>
      intro i x b hx hn h1 hB
      subst hx
      refine a_iload K dX11_spotFor_5 rfl ?_
      first | refine a_aload_n K dX11_spotFor_7 rfl ?_ | refine a_aload_nN K dX11_spotFor_7 rfl ?_
      refine a_getRs K fd_X11_26 (by exact lm_o hM) (Or.inr ⟨_, rfl⟩) (by exact lm_r715 hM) dX11_spotFor_8 ?_
      refine a_iload_n K dX11_spotFor_11 rfl ?_
      refine a_iald K (by exact lm_kk hM (by decide) (by decide)) (by show vp_in _ (sN S (m 5)); exact lm_ix (z := 12000) hM (by decide) (by decide) (show ρ t.1 < 12000 by omega) (by decide)) dX11_spotFor_12 ?_
      rw [nI_clamp (by omega)]
      rw [show sA S (m 5) (ρ t.1) = nI (kds t).length from rp.1.2.2.1]
      refine a_icmp_ge K dX11_spotFor_13 (tgt := 40) (by decide) (fun c_13 => ?_) (fun c_13 => absurd c_13 (fun z => z (nI_le (a := (kds t).length) (b := i) (by omega) (by omega))))
      refine a_iload_n K dX11_spotFor_40 rfl ?_
      exact a_iret K EE rfl (by omega) (by omega) dX11_spotFor_41 ⟨by rw [show i = (kds t).length by omega] at hB; rw [← hR, hB]; rfl, rfl⟩
    | succ n ih =>
      intro i x b hx hn h1 hB
      subst hx
      have hc := List.getElem?_eq_getElem (show i < (kds t).length by omega)
      generalize (kds t)[i]'(show i < (kds t).length by omega) = c at hc
      refine a_iload K dX11_spotFor_5 rfl ?_
      first | refine a_aload_n K dX11_spotFor_7 rfl ?_ | refine a_aload_nN K dX11_spotFor_7 rfl ?_
      refine a_getRs K fd_X11_26 (by exact lm_o hM) (Or.inr ⟨_, rfl⟩) (by exact lm_r715 hM) dX11_spotFor_8 ?_
      refine a_iload_n K dX11_spotFor_11 rfl ?_
      refine a_iald K (by exact lm_kk hM (by decide) (by decide)) (by show vp_in _ (sN S (m 5)); exact lm_ix (z := 12000) hM (by decide) (by decide) (show ρ t.1 < 12000 by omega) (by decide)) dX11_spotFor_12 ?_
      rw [nI_clamp (by omega)]
      rw [show sA S (m 5) (ρ t.1) = nI (kds t).length from rp.1.2.2.1]
      refine a_icmp_ge K dX11_spotFor_13 (tgt := 40) (by decide) (fun c_13 => absurd c_13 (nI_ge (a := i) (b := (kds t).length) (by omega) (by omega))) (fun c_13 => ?_)
      first | refine a_aload_n K dX11_spotFor_16 rfl ?_ | refine a_aload_nN K dX11_spotFor_16 rfl ?_
      first | refine a_aload_n K dX11_spotFor_17 rfl ?_ | refine a_aload_nN K dX11_spotFor_17 rfl ?_
      refine a_iload_n K dX11_spotFor_18 rfl ?_
      refine a_iload K dX11_spotFor_19 rfl ?_
      refine a_invV K (m_child hM (r := ρ t.1) (k := i) hr (by omega)) my_X11_child ml_X11_197 im_X11_child se_X11_child (ci := 11) (by exact lm_o hM) (by decide) ⟨_, _, rfl⟩ rfl (by omega) (by omega) (by omega) rfl (Nat.le_of_ble_eq_true rfl) dX11_spotFor_21 ?_
      intro r9 S9 hp9
      obtain ⟨rfl, hS9⟩ := hp9
      obtain rfl := hS9.symm
      rw [(rp.kid hc).2.1]
      refine a_invV K (m_lowest hM (rp.kid hc).1 (ne.2 c (List.mem_of_getElem? hc))) my_X11_lowest ml_X11_200 im_X11_lowest se_X11_lowest (ci := 11) (by exact lm_o hM) (by decide) ⟨_, _, rfl⟩ rfl (by omega) (by omega) (by omega) rfl (Nat.le_of_ble_eq_true rfl) dX11_spotFor_24 ?_
      intro r9 S9 hp9
      obtain ⟨rfl, hS9⟩ := hp9
      obtain rfl := hS9.symm
      refine a_iload_n K dX11_spotFor_27 rfl ?_
      refine a_icmp_gt K dX11_spotFor_28 (tgt := 34) (by decide) (fun c_28 => ?_) (fun c_28 => ?_)
      · have hs : ¬ lowL (kds t) i ≤ key := fun z => by rw [lowL_in hc] at z; exact absurd c_28 (Int32.not_lt.mpr z)
        refine a_iinc K dX11_spotFor_34 (v := 1) rfl (by decide) (by decide) ?_
        refine a_goto K dX11_spotFor_37 (tgt := 5) (by decide) ?_
        exact aw_locl rfl (ih (i + 1) _ _ (nI_1 i) (by omega) (by omega) (by rw [plcN_s h1]; first | (rw [if_pos hs]; done) | (rw [if_pos hs]) | (rw [if_neg hs]; exact hB)))
      · have hs : lowL (kds t) i ≤ key := by rw [lowL_in hc]; exact Int32.not_lt.mp c_28
        refine a_iload K dX11_spotFor_31 rfl ?_
        refine a_istore_n K dX11_spotFor_33 (by decide) ?_
        refine a_iinc K dX11_spotFor_34 (v := 1) rfl (by decide) (by decide) ?_
        refine a_goto K dX11_spotFor_37 (tgt := 5) (by decide) ?_
        exact aw_locl rfl (ih (i + 1) _ _ (nI_1 i) (by omega) (by omega) (by rw [plcN_s h1]; first | (rw [if_pos hs]; done) | (rw [if_pos hs]) | (rw [if_neg hs]; exact hB)))
  refine a_iconst K dX11_spotFor_0 (v := 0) (by decide) ?_
  refine a_istore_n K dX11_spotFor_1 (by decide) ?_
  refine a_iconst K dX11_spotFor_2 (v := 1) (by decide) ?_
  refine a_istore K dX11_spotFor_3 (by decide) ?_
  exact aw_locl rfl (loop ((kds t).length - 1) 1 _ _ (by decide) (by omega) (Nat.le_refl _) rfl)
/-- the leaf for a key -/
def lfT : (h : Nat) → Tr h → Int32 → Option (Tr 0)
  | 0, t, _ => some t
  | h + 1, t, key => match (kds t)[place key (kds t)]? with
    | some c => lfT h c key
    | none => none
theorem lfT_s {h : Nat} {t : Tr (h + 1)} {key : Int32} {c : Tr h} (hc : (kds t)[place key (kds t)]? = some c) : lfT (h + 1) t key = lfT h c key := by
  show (match (kds t)[place key (kds t)]? with | some c => lfT h c key | none => none) = _
  rw [hc]
theorem lfT_ok {S : aw_S} {m ρ : Nat → Nat} {key : Int32} : ∀ (h : Nat) (t : Tr h), RepM S m ρ h t → NeT h t → srt (ent h t) → ∃ l : Tr 0, lfT h t key = some l ∧ RepM S m ρ 0 l ∧ val h t key = valIn (ets l) key ∧ srt (ets l)
  | 0, t, rp, _, hs => ⟨t, rfl, rp, rfl, hs⟩
  | h + 1, t, rp, ne, hs => by
    have hc := List.getElem?_eq_getElem (place_lt (key := key) ne.1)
    generalize (kds t)[place key (kds t)]'(place_lt (key := key) ne.1) = c at hc
    rw [ent_kds (get_split hc)] at hs
    obtain ⟨l, h1, h2, h3, h4⟩ := lfT_ok (key := key) h c (rp.kid hc).1 (ne.2 c (List.mem_of_getElem? hc)) (srt_mid hs)
    exact ⟨l, by rw [lfT_s hc]; exact h1, h2, by rw [val_s hc]; exact h3, h4⟩
set_option maxHeartbeats 4000000 in
set_option maxRecDepth 100000 in
theorem m_leafFor {S : aw_S} {m : Nat → Nat} (hM : LM S m) {ρ : Nat → Nat} {h : Nat} {t : Tr h} (rp : RepM S m ρ h t) (ne : NeT h t) {key : Int32} {l : Tr 0} (hl : lfT h t key = some l) : aw_M yX11_leafFor cX11_leafFor 4 (some FieldType.int) 3 0 0 [.ref (m 33), .int (nI (ρ t.1)), .int key] S (fun q S2 => q = some (.int (nI (ρ l.1))) ∧ S2 = S) := by
  refine aw_enter (by decide +kernel) (Nat.le_of_ble_eq_true rfl) (fun g K EE => ?_)
  have loop : ∀ (h : Nat) (t : Tr h), RepM S m ρ h t → NeT h t → lfT h t key = some l → aw g 4 S 0 0 [(3, .int (nI (ρ t.1))), (2, .int key), (0, .ref (m 33))] [] 2 := by
    intro h
    induction h with
    | zero =>
      intro t rp ne hR
      have hr := rp.1
      first | refine a_aload_n K dX11_leafFor_2 rfl ?_ | refine a_aload_nN K dX11_leafFor_2 rfl ?_
      refine a_getRs K fd_X11_23 (by exact lm_o hM) (Or.inr ⟨_, rfl⟩) (by exact lm_r714 hM) dX11_leafFor_3 ?_
      refine a_iload_n K dX11_leafFor_6 rfl ?_
      refine a_iald K (by exact lm_kk hM (by decide) (by decide)) (by show vp_in _ (sN S (m 4)); exact lm_ix (z := 12000) hM (by decide) (by decide) (show ρ t.1 < 12000 by omega) (by decide)) dX11_leafFor_7 ?_
      rw [nI_clamp (by omega)]
      rw [show sA S (m 4) (ρ t.1) = 1 from rp.2.1]
      refine a_if_ne K dX11_leafFor_8 (tgt := 26) (by decide) (fun c_8 => ?_) (fun c_8 => absurd c_8 (by decide))
      refine a_iload_n K dX11_leafFor_26 rfl ?_
      exact a_iret K EE rfl (by omega) (by omega) dX11_leafFor_27 ⟨by have hR : some t = some l := hR; cases hR; rfl, rfl⟩
    | succ h ih =>
      intro t rp ne hR
      have hr := rp.1.1
      have hc := List.getElem?_eq_getElem (place_lt (key := key) ne.1)
      generalize (kds t)[place key (kds t)]'(place_lt (key := key) ne.1) = c at hc
      first | refine a_aload_n K dX11_leafFor_2 rfl ?_ | refine a_aload_nN K dX11_leafFor_2 rfl ?_
      refine a_getRs K fd_X11_23 (by exact lm_o hM) (Or.inr ⟨_, rfl⟩) (by exact lm_r714 hM) dX11_leafFor_3 ?_
      refine a_iload_n K dX11_leafFor_6 rfl ?_
      refine a_iald K (by exact lm_kk hM (by decide) (by decide)) (by show vp_in _ (sN S (m 4)); exact lm_ix (z := 12000) hM (by decide) (by decide) (show ρ t.1 < 12000 by omega) (by decide)) dX11_leafFor_7 ?_
      rw [nI_clamp (by omega)]
      rw [show sA S (m 4) (ρ t.1) = 0 from rp.1.2.1]
      refine a_if_ne K dX11_leafFor_8 (tgt := 26) (by decide) (fun c_8 => absurd c_8 (fun z => z rfl)) (fun c_8 => ?_)
      first | refine a_aload_n K dX11_leafFor_11 rfl ?_ | refine a_aload_nN K dX11_leafFor_11 rfl ?_
      refine a_iload_n K dX11_leafFor_12 rfl ?_
      first | refine a_aload_n K dX11_leafFor_13 rfl ?_ | refine a_aload_nN K dX11_leafFor_13 rfl ?_
      refine a_iload_n K dX11_leafFor_14 rfl ?_
      refine a_iload_n K dX11_leafFor_15 rfl ?_
      refine a_invV K (m_spotFor hM rp ne (key := key)) my_X11_spotFor ml_X11_203 im_X11_spotFor se_X11_spotFor (ci := 11) (by exact lm_o hM) (by decide) ⟨_, _, rfl⟩ rfl (by omega) (by omega) (by omega) rfl (Nat.le_of_ble_eq_true rfl) dX11_leafFor_16 ?_
      intro r9 S9 hp9
      obtain ⟨rfl, hS9⟩ := hp9
      obtain rfl := hS9.symm
      refine a_invV K (m_child hM (r := ρ t.1) (k := place key (kds t)) hr (rp.kid hc).2.2) my_X11_child ml_X11_197 im_X11_child se_X11_child (ci := 11) (by exact lm_o hM) (by decide) ⟨_, _, rfl⟩ rfl (by omega) (by omega) (by omega) rfl (Nat.le_of_ble_eq_true rfl) dX11_leafFor_19 ?_
      intro r9 S9 hp9
      obtain ⟨rfl, hS9⟩ := hp9
      obtain rfl := hS9.symm
      rw [(rp.kid hc).2.1]
      refine a_istore_n K dX11_leafFor_22 (by decide) ?_
      refine a_goto K dX11_leafFor_23 (tgt := 2) (by decide) ?_
      exact aw_locl rfl (ih c (rp.kid hc).1 (ne.2 c (List.mem_of_getElem? hc)) (by rw [← lfT_s hc]; exact hR))
  refine a_iload_n K dX11_leafFor_0 rfl ?_
  refine a_istore_n K dX11_leafFor_1 (by decide) ?_
  exact aw_locl rfl (loop h t rp ne hl)
/-- where a key is among entries, from a place on -/
def spI (key : Int32) : List KV → Nat → Int32
  | [], _ => -1
  | x :: l, j => if x.1 = key then nI j else spI key l (j + 1)
theorem spI_at {key : Int32} {E : List KV} {i j : Nat} (hi : i < E.length) : spI key (E.drop i) j = if E[i].1 = key then nI j else spI key (E.drop (i + 1)) (j + 1) := by rw [List.drop_eq_getElem_cons hi, spI]
theorem spI_val {key : Int32} : ∀ (E : List KV) (j : Nat), (spI key E j = -1 ∧ ∀ x ∈ E, ¬ x.1 = key) ∨ ∃ k x, E[k]? = some x ∧ x.1 = key ∧ spI key E j = nI (j + k)
  | [], j => Or.inl ⟨rfl, fun x hx => absurd hx (by simp)⟩
  | x :: l, j => by
    by_cases e : x.1 = key
    · exact Or.inr ⟨0, x, rfl, e, by rw [spI, if_pos e]; rfl⟩
    · rcases spI_val l (j + 1) with ⟨h1, h2⟩ | ⟨k, y, h1, h2, h3⟩
      · exact Or.inl ⟨by rw [spI, if_neg e]; exact h1, fun y hy => (List.mem_cons.mp hy).elim (fun z => by rw [z]; exact e) (h2 y)⟩
      · exact Or.inr ⟨k + 1, y, h1, h2, by rw [spI, if_neg e, h3, show j + 1 + k = j + (k + 1) by omega]⟩
set_option maxHeartbeats 4000000 in
set_option maxRecDepth 100000 in
theorem m_spotIn {S : aw_S} {m : Nat → Nat} (hM : LM S m) {ρ : Nat → Nat} {t : Tr 0} (rp : RepM S m ρ 0 t) {key : Int32} : aw_M yX11_spotIn cX11_spotIn 4 (some FieldType.int) 0 0 0 [.ref (m 33), .int (nI (ρ t.1)), .int key] S (fun q S2 => q = some (.int (spI key (ets t) 0)) ∧ S2 = S) := by
  have hr := rp.1
  have h7 : (ets t).length ≤ 7 := rp.2.2.2.2.1
  obtain ⟨R, hR⟩ : ∃ R, spI key (ets t) 0 = R := ⟨_, rfl⟩
  rw [hR]
  refine aw_enter (by decide +kernel) (Nat.le_of_ble_eq_true rfl) (fun g K EE => ?_)
  have loop : ∀ (n i : Nat) (x : Int32), x = nI i → i + n = (ets t).length → spI key ((ets t).drop i) i = R → aw g 4 S 0 0 [(3, .int x), (2, .int key), (1, .int (nI (ρ t.1))), (0, .ref (m 33))] [] 2 := by
    intro n
    induction n with
    | zero =>
      intro i x hx hn hB
      subst hx
      refine a_iload_n K dX11_spotIn_2 rfl ?_
      first | refine a_aload_n K dX11_spotIn_3 rfl ?_ | refine a_aload_nN K dX11_spotIn_3 rfl ?_
      refine a_getRs K fd_X11_26 (by exact lm_o hM) (Or.inr ⟨_, rfl⟩) (by exact lm_r715 hM) dX11_spotIn_4 ?_
      refine a_iload_n K dX11_spotIn_7 rfl ?_
      refine a_iald K (by exact lm_kk hM (by decide) (by decide)) (by show vp_in _ (sN S (m 5)); exact lm_ix (z := 12000) hM (by decide) (by decide) (show ρ t.1 < 12000 by omega) (by decide)) dX11_spotIn_8 ?_
      rw [nI_clamp (by omega)]
      rw [show sA S (m 5) (ρ t.1) = nI (ets t).length from rp.2.2.1]
      refine a_icmp_ge K dX11_spotIn_9 (tgt := 35) (by decide) (fun c_9 => ?_) (fun c_9 => absurd c_9 (fun z => z (nI_le (a := (ets t).length) (b := i) (by omega) (by omega))))
      refine a_iconst K dX11_spotIn_35 (v := -1) (by decide) ?_
      exact a_iret K EE rfl (by omega) (by omega) dX11_spotIn_36 ⟨by rw [show i = (ets t).length by omega, List.drop_length] at hB; rw [← hB]; rfl, rfl⟩
    | succ n ih =>
      intro i x hx0 hn hB
      subst hx0
      have hi : i < (ets t).length := by omega
      have hx := List.getElem?_eq_getElem hi
      by_cases he : (ets t)[i].1 = key
      · refine a_iload_n K dX11_spotIn_2 rfl ?_
        first | refine a_aload_n K dX11_spotIn_3 rfl ?_ | refine a_aload_nN K dX11_spotIn_3 rfl ?_
        refine a_getRs K fd_X11_26 (by exact lm_o hM) (Or.inr ⟨_, rfl⟩) (by exact lm_r715 hM) dX11_spotIn_4 ?_
        refine a_iload_n K dX11_spotIn_7 rfl ?_
        refine a_iald K (by exact lm_kk hM (by decide) (by decide)) (by show vp_in _ (sN S (m 5)); exact lm_ix (z := 12000) hM (by decide) (by decide) (show ρ t.1 < 12000 by omega) (by decide)) dX11_spotIn_8 ?_
        rw [nI_clamp (by omega)]
        rw [show sA S (m 5) (ρ t.1) = nI (ets t).length from rp.2.2.1]
        refine a_icmp_ge K dX11_spotIn_9 (tgt := 35) (by decide) (fun c_9 => absurd c_9 (nI_ge (a := i) (b := (ets t).length) (by omega) (by omega))) (fun c_9 => ?_)
        first | refine a_aload_n K dX11_spotIn_12 rfl ?_ | refine a_aload_nN K dX11_spotIn_12 rfl ?_
        refine a_getRs K fd_X11_39 (by exact lm_o hM) (Or.inr ⟨_, rfl⟩) (by exact lm_r719 hM) dX11_spotIn_13 ?_
        refine a_bipush K dX11_spotIn_16 (v := 7) (by decide) ?_
        refine a_iload_n K dX11_spotIn_18 rfl ?_
        refine a_imul K dX11_spotIn_19 ?_
        rw [nI_7]
        refine a_iload_n K dX11_spotIn_20 rfl ?_
        refine a_iadd K dX11_spotIn_21 ?_
        rw [nI_add]
        refine a_iald K (by exact lm_kk hM (by decide) (by decide)) (by show vp_in _ (sN S (m 9)); exact lm_ix (z := 84000) hM (by decide) (by decide) (show 7 * ρ t.1 + i < 84000 by omega) (by decide)) dX11_spotIn_22 ?_
        rw [nI_clamp (by omega)]
        rw [show sA S (m 9) (7 * ρ t.1 + i) = (ets t)[i].1 from (rp.ent hx).1]
        refine a_iload_n K dX11_spotIn_23 rfl ?_
        refine a_icmp_ne K dX11_spotIn_24 (tgt := 29) (by decide) (fun c_24 => absurd c_24 (fun z => z he)) (fun c_24 => ?_)
        refine a_iload_n K dX11_spotIn_27 rfl ?_
        exact a_iret K EE rfl (by omega) (by omega) dX11_spotIn_28 ⟨by rw [← hB, spI_at hi, if_pos he], rfl⟩
      · refine a_iload_n K dX11_spotIn_2 rfl ?_
        first | refine a_aload_n K dX11_spotIn_3 rfl ?_ | refine a_aload_nN K dX11_spotIn_3 rfl ?_
        refine a_getRs K fd_X11_26 (by exact lm_o hM) (Or.inr ⟨_, rfl⟩) (by exact lm_r715 hM) dX11_spotIn_4 ?_
        refine a_iload_n K dX11_spotIn_7 rfl ?_
        refine a_iald K (by exact lm_kk hM (by decide) (by decide)) (by show vp_in _ (sN S (m 5)); exact lm_ix (z := 12000) hM (by decide) (by decide) (show ρ t.1 < 12000 by omega) (by decide)) dX11_spotIn_8 ?_
        rw [nI_clamp (by omega)]
        rw [show sA S (m 5) (ρ t.1) = nI (ets t).length from rp.2.2.1]
        refine a_icmp_ge K dX11_spotIn_9 (tgt := 35) (by decide) (fun c_9 => absurd c_9 (nI_ge (a := i) (b := (ets t).length) (by omega) (by omega))) (fun c_9 => ?_)
        first | refine a_aload_n K dX11_spotIn_12 rfl ?_ | refine a_aload_nN K dX11_spotIn_12 rfl ?_
        refine a_getRs K fd_X11_39 (by exact lm_o hM) (Or.inr ⟨_, rfl⟩) (by exact lm_r719 hM) dX11_spotIn_13 ?_
        refine a_bipush K dX11_spotIn_16 (v := 7) (by decide) ?_
        refine a_iload_n K dX11_spotIn_18 rfl ?_
        refine a_imul K dX11_spotIn_19 ?_
        rw [nI_7]
        refine a_iload_n K dX11_spotIn_20 rfl ?_
        refine a_iadd K dX11_spotIn_21 ?_
        rw [nI_add]
        refine a_iald K (by exact lm_kk hM (by decide) (by decide)) (by show vp_in _ (sN S (m 9)); exact lm_ix (z := 84000) hM (by decide) (by decide) (show 7 * ρ t.1 + i < 84000 by omega) (by decide)) dX11_spotIn_22 ?_
        rw [nI_clamp (by omega)]
        rw [show sA S (m 9) (7 * ρ t.1 + i) = (ets t)[i].1 from (rp.ent hx).1]
        refine a_iload_n K dX11_spotIn_23 rfl ?_
        refine a_icmp_ne K dX11_spotIn_24 (tgt := 29) (by decide) (fun c_24 => ?_) (fun c_24 => absurd c_24 (he))
        refine a_iinc K dX11_spotIn_29 (v := 1) rfl (by decide) (by decide) ?_
        refine a_goto K dX11_spotIn_32 (tgt := 2) (by decide) ?_
        exact aw_locl rfl (ih (i + 1) _ (nI_1 i) (by omega) (by rw [spI_at hi, if_neg he] at hB; exact hB))
  refine a_iconst K dX11_spotIn_0 (v := 0) (by decide) ?_
  refine a_istore_n K dX11_spotIn_1 (by decide) ?_
  exact aw_locl rfl (loop (ets t).length 0 _ nI_0.symm (by omega) hR)
set_option maxHeartbeats 4000000 in
set_option maxRecDepth 100000 in
theorem m_valueAt {S : aw_S} {m : Nat → Nat} (hM : LM S m) {ρ : Nat → Nat} {h : Nat} {t : Tr h} (rp : RepM S m ρ h t) (ne : NeT h t) (hs : srt (ent h t)) {key : Int32} : aw_M yX11_valueAt cX11_valueAt 5 (some FieldType.int) 4 0 0 [.ref (m 33), .int (nI (ρ t.1)), .int key] S (fun q S2 => q = some (.int (val h t key)) ∧ S2 = S) := by
  refine aw_enter (by decide +kernel) (Nat.le_of_ble_eq_true rfl) (fun g K EE => ?_)
  obtain ⟨l, hl, rl, hv, hsl⟩ := lfT_ok (key := key) h t rp ne hs
  have hr := rl.1
  rcases spI_val (key := key) (ets l) 0 with ⟨h1, h2⟩ | ⟨k, x, hx, hxk, h3⟩
  · first | refine a_aload_n K dX11_valueAt_0 rfl ?_ | refine a_aload_nN K dX11_valueAt_0 rfl ?_
    refine a_iload_n K dX11_valueAt_1 rfl ?_
    refine a_iload_n K dX11_valueAt_2 rfl ?_
    refine a_invV K (m_leafFor hM rp ne hl) my_X11_leafFor ml_X11_206 im_X11_leafFor se_X11_leafFor (ci := 11) (by exact lm_o hM) (by decide) ⟨_, _, rfl⟩ rfl (by omega) (by omega) (by omega) rfl (Nat.le_of_ble_eq_true rfl) dX11_valueAt_3 ?_
    intro r9 S9 hp9
    obtain ⟨rfl, hS9⟩ := hp9
    obtain rfl := hS9.symm
    refine a_istore_n K dX11_valueAt_6 (by decide) ?_
    first | refine a_aload_n K dX11_valueAt_7 rfl ?_ | refine a_aload_nN K dX11_valueAt_7 rfl ?_
    refine a_iload_n K dX11_valueAt_8 rfl ?_
    refine a_iload_n K dX11_valueAt_9 rfl ?_
    refine a_invV K (m_spotIn hM rl (key := key)) my_X11_spotIn ml_X11_209 im_X11_spotIn se_X11_spotIn (ci := 11) (by exact lm_o hM) (by decide) ⟨_, _, rfl⟩ rfl (by omega) (by omega) (by omega) rfl (Nat.le_of_ble_eq_true rfl) dX11_valueAt_10 ?_
    intro r9 S9 hp9
    obtain ⟨rfl, hS9⟩ := hp9
    obtain rfl := hS9.symm
    rw [h1]
    refine a_istore K dX11_valueAt_13 (by decide) ?_
    refine a_iload K dX11_valueAt_15 rfl ?_
    refine a_iconst K dX11_valueAt_17 (v := -1) (by decide) ?_
    refine a_icmp_ne K dX11_valueAt_18 (tgt := 26) (by decide) (fun c_18 => absurd c_18 (fun z => z rfl)) (fun c_18 => ?_)
    refine a_ldc K kc_X11_170 dX11_valueAt_21 ?_
    refine a_goto K dX11_valueAt_23 (tgt := 38) (by decide) ?_
    exact a_iret K EE rfl (by omega) (by omega) dX11_valueAt_38 ⟨by rw [hv, valIn_none h2], rfl⟩
  · rw [Nat.zero_add] at h3
    have hk := rl.ent hx
    have h4 : valIn (ets l) key = x.2 := by rw [← hxk]; exact valIn_mem hsl (List.mem_of_getElem? hx)
    have hk7 := hk.2.2
    first | refine a_aload_n K dX11_valueAt_0 rfl ?_ | refine a_aload_nN K dX11_valueAt_0 rfl ?_
    refine a_iload_n K dX11_valueAt_1 rfl ?_
    refine a_iload_n K dX11_valueAt_2 rfl ?_
    refine a_invV K (m_leafFor hM rp ne hl) my_X11_leafFor ml_X11_206 im_X11_leafFor se_X11_leafFor (ci := 11) (by exact lm_o hM) (by decide) ⟨_, _, rfl⟩ rfl (by omega) (by omega) (by omega) rfl (Nat.le_of_ble_eq_true rfl) dX11_valueAt_3 ?_
    intro r9 S9 hp9
    obtain ⟨rfl, hS9⟩ := hp9
    obtain rfl := hS9.symm
    refine a_istore_n K dX11_valueAt_6 (by decide) ?_
    first | refine a_aload_n K dX11_valueAt_7 rfl ?_ | refine a_aload_nN K dX11_valueAt_7 rfl ?_
    refine a_iload_n K dX11_valueAt_8 rfl ?_
    refine a_iload_n K dX11_valueAt_9 rfl ?_
    refine a_invV K (m_spotIn hM rl (key := key)) my_X11_spotIn ml_X11_209 im_X11_spotIn se_X11_spotIn (ci := 11) (by exact lm_o hM) (by decide) ⟨_, _, rfl⟩ rfl (by omega) (by omega) (by omega) rfl (Nat.le_of_ble_eq_true rfl) dX11_valueAt_10 ?_
    intro r9 S9 hp9
    obtain ⟨rfl, hS9⟩ := hp9
    obtain rfl := hS9.symm
    rw [h3]
    refine a_istore K dX11_valueAt_13 (by decide) ?_
    refine a_iload K dX11_valueAt_15 rfl ?_
    refine a_iconst K dX11_valueAt_17 (v := -1) (by decide) ?_
    refine a_icmp_ne K dX11_valueAt_18 (tgt := 26) (by decide) (fun c_18 => ?_) (fun c_18 => absurd c_18 (nI_m1n (by omega)))
    first | refine a_aload_n K dX11_valueAt_26 rfl ?_ | refine a_aload_nN K dX11_valueAt_26 rfl ?_
    refine a_getRs K fd_X11_42 (by exact lm_o hM) (Or.inr ⟨_, rfl⟩) (by exact lm_r720 hM) dX11_valueAt_27 ?_
    refine a_bipush K dX11_valueAt_30 (v := 7) (by decide) ?_
    refine a_iload_n K dX11_valueAt_32 rfl ?_
    refine a_imul K dX11_valueAt_33 ?_
    rw [nI_7]
    refine a_iload K dX11_valueAt_34 rfl ?_
    refine a_iadd K dX11_valueAt_36 ?_
    rw [nI_add]
    refine a_iald K (by exact lm_kk hM (by decide) (by decide)) (by show vp_in _ (sN S (m 10)); exact lm_ix (z := 84000) hM (by decide) (by decide) (show 7 * ρ l.1 + k < 84000 by omega) (by decide)) dX11_valueAt_37 ?_
    rw [nI_clamp (by omega)]
    exact a_iret K EE rfl (by omega) (by omega) dX11_valueAt_38 ⟨by rw [hv, h4]; exact congrArg (fun q => some (Value.int q)) hk.2.1, rfl⟩
