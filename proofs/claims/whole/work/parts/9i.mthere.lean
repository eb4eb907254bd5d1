/-! the model: keys laid side by side -/
abbrev HID9 : Int32 := -1000000
def bt3 (a b c : Int32) : Int32 := (if a = -1000000 then 0 else 1) ||| (if b = -1000000 then 0 else 2) ||| (if c = -1000000 then 0 else 4)
/-- what is there of each key, and with which values -/
def ThS (S : aw_S) (m : Nat → Nat) (V : Nat → Nat → Int32) : Prop := (∀ k, k < 1000 → sA S (m 26) k = bt3 (V 0 k) (V 1 k) (V 2 k)) ∧ ∀ w, w < 3 → ∀ k, k < 1000 → ¬ V w k = -1000000 → sA S (m 27) (3 * k + w) = V w k
def thU (V : Nat → Nat → Int32) (w : Nat) (f : Nat → Int32) : Nat → Nat → Int32 := fun x k => if x = w then f k else V x k
abbrev ksT : List Nat := [13, 14, 15, 16, 26, 27]
theorem hb3 {V : Nat → Nat → Int32} {k : Nat} : ∀ w, w < 3 → (hasB (bt3 (V 0 k) (V 1 k) (V 2 k)) (nI w) ↔ ¬ V w k = -1000000) := by
  intro w hw
  have h3 : w = 0 ∨ w = 1 ∨ w = 2 := by omega
  unfold bt3
  rcases h3 with e | e | e
  · subst e
    by_cases a : V 0 k = -1000000 <;> by_cases b : V 1 k = -1000000 <;> by_cases c : V 2 k = -1000000 <;> simp only [a, b, c, if_pos, if_neg, not_true_eq_false, not_false_eq_true, if_true, if_false] <;> decide
  · subst e
    by_cases a : V 0 k = -1000000 <;> by_cases b : V 1 k = -1000000 <;> by_cases c : V 2 k = -1000000 <;> simp only [a, b, c, if_pos, if_neg, not_true_eq_false, not_false_eq_true, if_true, if_false] <;> decide
  · subst e
    by_cases a : V 0 k = -1000000 <;> by_cases b : V 1 k = -1000000 <;> by_cases c : V 2 k = -1000000 <;> simp only [a, b, c, if_pos, if_neg, not_true_eq_false, not_false_eq_true, if_true, if_false] <;> decide
theorem bt3_or {V : Nat → Nat → Int32} {k : Nat} {v : Int32} (hv : ¬ v = -1000000) : ∀ w, w < 3 → V w k = -1000000 → bt3 (V 0 k) (V 1 k) (V 2 k) ||| (1 : Int32) <<< (nI w &&& 31) = bt3 (if 0 = w then v else V 0 k) (if 1 = w then v else V 1 k) (if 2 = w then v else V 2 k) := by
  intro w hw h0
  have h3 : w = 0 ∨ w = 1 ∨ w = 2 := by omega
  unfold bt3
  rcases h3 with e | e | e
  · subst e
    rw [if_pos h0, if_pos rfl, if_neg hv, if_neg (show ¬ 1 = 0 by decide), if_neg (show ¬ 2 = 0 by decide)]
    by_cases b : V 1 k = -1000000 <;> by_cases c : V 2 k = -1000000 <;> simp only [b, c, if_true, if_false, not_true_eq_false, not_false_eq_true] <;> decide
  · subst e
    rw [if_neg (show ¬ 0 = 1 by decide), if_pos (show 1 = 1 from rfl), if_neg hv, if_neg (show ¬ 2 = 1 by decide)]
    by_cases b : V 0 k = -1000000 <;> by_cases c : V 2 k = -1000000 <;> simp only [b, c, h0, if_true, if_false, not_true_eq_false, not_false_eq_true] <;> decide
  · subst e
    rw [if_neg (show ¬ 0 = 2 by decide), if_neg (show ¬ 1 = 2 by decide), if_pos (show 2 = 2 from rfl), if_neg hv]
    by_cases b : V 0 k = -1000000 <;> by_cases c : V 1 k = -1000000 <;> simp only [b, c, h0, if_true, if_false, not_true_eq_false, not_false_eq_true] <;> decide
theorem srt_take {E : List KV} (hs : srt E) (i : Nat) : srt (E.take i) := List.Pairwise.sublist (List.take_sublist i E) hs
theorem val_take {E : List KV} (hs : srt E) {i : Nat} {x : KV} (hx : E[i]? = some x) (k : Int32) : valIn (E.take (i + 1)) k = if k = x.1 then x.2 else valIn (E.take i) k := by
  have hlt : ∀ y ∈ E.take i, y.1 < x.1 := fun y hy => by
    rw [get_split hx] at hs
    exact (List.pairwise_append.mp hs).2.2 y hy x List.mem_cons_self
  have e : E.take (i + 1) = setE (E.take i) x.1 x.2 := by
    rw [take_i hx]
    have h1 := setE_app_l (A := E.take i) [] (key := x.1) (v := x.2) hlt
    rw [List.append_nil] at h1
    rw [h1]
    rfl
  rw [e, valIn_setE x.1 x.2 k (srt_take hs i)]
theorem okE_ne {x : KV} (h : okE x) : ¬ x.2 = -1000000 := by
  obtain ⟨n, hn, e | ⟨h0, e⟩⟩ := h.2
  · rw [e]
    intro z
    have h9 := congrArg Int32.toInt z
    rw [nI_toInt (by omega)] at h9
    have h8 : ((-1000000 : Int32)).toInt = -1000000 := by decide
    omega
  · rw [e]
    intro z
    have h9 : -(-(nI n)) = -(-1000000 : Int32) := congrArg (fun q => -q) z
    rw [Int32.neg_neg] at h9
    have h7 : nI n = nI 1000000 := h9
    have := nI_inj (by omega) (by decide) h7
    omega
set_option maxHeartbeats 4000000 in
set_option maxRecDepth 100000 in
theorem q_laysThere {S : aw_S} {m ρ : Nat → Nat} (hM : LM S m) {h : Nat} {t : Tr h} {V : Nat → Nat → Int32} {w : Nat} (rp : RepM S m ρ h t) (h60 : (ent h t).length ≤ 60) (h61 : (ndl h t).length ≤ 61) (hh : h ≤ 4) (hs : srt (ent h t)) (ok : ∀ x ∈ ent h t, okE x) (hw3 : w < 3) (hTh : ThS S m V) (hV : ∀ k, V w k = -1000000) : aw_M yX11_laysThere cX11_laysThere 4 (none : Option FieldType) 7 0 0 [.ref (m 33), .int (nI (ρ t.1)), .int (nI w)] S (fun r S2 => r = none ∧ ThS S2 m (thU V w (fun k => valIn (ent h t) (nI k))) ∧ frM S S2 m ksT [734, 735]) := by
  refine aw_enter (by decide +kernel) (Nat.le_of_ble_eq_true rfl) (fun g K EE => ?_)
  first | refine a_aload_n K dX11_laysThere_0 rfl ?_ | refine a_aload_nN K dX11_laysThere_0 rfl ?_
  refine a_iload_n K dX11_laysThere_1 rfl ?_
  refine a_invV K (m_laysTree hM rp (by omega) (by omega) (by omega)) my_X11_laysTree ml_X11_252 im_X11_laysTree se_X11_laysTree (ci := 11) (by exact lm_o hM) (by decide) ⟨_, _, rfl⟩ rfl (by omega) (by omega) (by omega) rfl (Nat.le_of_ble_eq_true rfl) dX11_laysThere_2 ?_
  intro r9 T hp9
  obtain ⟨rfl, hLy, f9⟩ := hp9
  have hM0 := hM
  have hM := f9.lay hM0
  refine a_iconst K dX11_laysThere_5 (v := 0) (by decide) ?_
  refine a_istore_n K dX11_laysThere_6 (by decide) ?_
  have hM1 := hM
  have loop : ∀ (n i : Nat) (x : Int32) (T2 : aw_S), x = nI i → i + n = (ent h t).length → LM T2 m → frM T T2 m [26, 27] [] → ThS T2 m (thU V w (fun k => valIn ((ent h t).take i) (nI k))) → aw g 4 T2 0 0 [(3, .int x), (2, .int (nI w)), (0, .ref (m 33))] [] 7 := by
    intro n
    induction n with
    | zero =>
      intro i x T2 hx hn hM f2 hT
      subst hx
      refine a_iload_n K dX11_laysThere_7 rfl ?_
      first | refine a_aload_n K dX11_laysThere_8 rfl ?_ | refine a_aload_nN K dX11_laysThere_8 rfl ?_
      refine a_getI K fd_X11_249 (by exact lm_o hM) (Or.inl rfl) dX11_laysThere_9 ?_
      rw [show sI T2 734 (m 33) = nI (ent h t).length from (f2.2 734 (by decide)).trans hLy.1]
      refine a_icmp_ge K dX11_laysThere_12 (tgt := 59) (by decide) (fun c_12 => ?_) (fun c_12 => absurd c_12 (fun q => q (nI_le (a := (ent h t).length) (b := i) (by omega) (by omega))))
      exact a_vret K EE (by omega) (by omega) dX11_laysThere_59 ⟨rfl, by rw [show i = (ent h t).length by omega, List.take_length] at hT; exact hT, (f9.up (by decide) (by decide)).tr (f2.up (by decide) (by decide))⟩
    | succ n ih =>
      intro i x T2 hx hn hM f2 hT
      subst hx
      have hx := List.getElem?_eq_getElem (show i < (ent h t).length by omega)
      obtain ⟨⟨q, hq9, hq⟩, -⟩ := ok _ (List.mem_of_getElem? hx)
      have e13 : sA T2 (m 13) = sA T (m 13) := f2.A hM1 (by decide) (by decide) (by decide)
      have e14 : sA T2 (m 14) = sA T (m 14) := f2.A hM1 (by decide) (by decide) (by decide)
      refine a_iload_n K dX11_laysThere_7 rfl ?_
      first | refine a_aload_n K dX11_laysThere_8 rfl ?_ | refine a_aload_nN K dX11_laysThere_8 rfl ?_
      refine a_getI K fd_X11_249 (by exact lm_o hM) (Or.inl rfl) dX11_laysThere_9 ?_
      rw [show sI T2 734 (m 33) = nI (ent h t).length from (f2.2 734 (by decide)).trans hLy.1]
      refine a_icmp_ge K dX11_laysThere_12 (tgt := 59) (by decide) (fun c_12 => absurd c_12 (nI_ge (a := i) (b := (ent h t).length) (by omega) (by omega))) (fun c_12 => ?_)
      first | refine a_aload_n K dX11_laysThere_15 rfl ?_ | refine a_aload_nN K dX11_laysThere_15 rfl ?_
      refine a_getRs K fd_X11_95 (by exact lm_o hM) (Or.inr ⟨_, rfl⟩) (by exact lm_r749 hM) dX11_laysThere_16 ?_
      first | refine a_aload_n K dX11_laysThere_19 rfl ?_ | refine a_aload_nN K dX11_laysThere_19 rfl ?_
      refine a_getRs K fd_X11_55 (by exact lm_o hM) (Or.inr ⟨_, rfl⟩) (by exact lm_r730 hM) dX11_laysThere_20 ?_
      refine a_iload_n K dX11_laysThere_23 rfl ?_
      refine a_iald K (by exact lm_kk hM (by decide) (by decide)) (by show vp_in _ (sN T2 (m 13)); exact lm_ix (z := 140) hM (by decide) (by decide) (show i < 140 by omega) (by decide)) dX11_laysThere_24 ?_
      rw [nI_clamp (by omega)]
      rw [e13]
      rw [(hLy.2.2.1 i _ hx).1]
      rw [hq]
      refine a_dup2 K dX11_laysThere_25 rfl rfl ?_
      refine a_iald K (by exact lm_kk hM (by decide) (by decide)) (by show vp_in _ (sN T2 (m 26)); exact lm_ix (z := 1000) hM (by decide) (by decide) (show q < 1000 by omega) (by decide)) dX11_laysThere_26 ?_
      rw [nI_clamp (by omega)]
      rw [hT.1 q hq9]
      refine a_iconst K dX11_laysThere_27 (v := 1) (by decide) ?_
      refine a_iload_n K dX11_laysThere_28 rfl ?_
      refine a_ishl K dX11_laysThere_29 ?_
      refine a_ior K dX11_laysThere_30 ?_
      refine a_iast K (by exact lm_kk hM (by decide) (by decide)) (by show vp_in _ (sN T2 (m 26)); exact lm_ix (z := 1000) hM (by decide) (by decide) (show q < 1000 by omega) (by decide)) dX11_laysThere_31 ?_
      rw [nI_clamp (by omega)]
      first | refine a_aload_n K dX11_laysThere_32 rfl ?_ | refine a_aload_nN K dX11_laysThere_32 rfl ?_
      refine a_getRs K fd_X11_98 (by exact lm_o hM) (Or.inr ⟨_, rfl⟩) (by exact lm_r750 hM) dX11_laysThere_33 ?_
      refine a_iconst K dX11_laysThere_36 (v := 3) (by decide) ?_
      first | refine a_aload_n K dX11_laysThere_37 rfl ?_ | refine a_aload_nN K dX11_laysThere_37 rfl ?_
      refine a_getRs K fd_X11_55 (by exact lm_o hM) (Or.inr ⟨_, rfl⟩) (by exact lm_r730 hM) dX11_laysThere_38 ?_
      refine a_iload_n K dX11_laysThere_41 rfl ?_
      refine a_iald K (by exact lm_kk hM (by decide) (by decide)) (by show vp_in _ (sN T2 (m 13)); exact lm_ix (z := 140) hM (by decide) (by decide) (show i < 140 by omega) (by decide)) dX11_laysThere_42 ?_
      rw [nI_clamp (by omega)]
      rw [show sA (wA T2 (m 26) q (bt3 (thU V w (fun k => valIn ((ent h t).take i) (nI k)) 0 q) (thU V w (fun k => valIn ((ent h t).take i) (nI k)) 1 q) (thU V w (fun k => valIn ((ent h t).take i) (nI k)) 2 q) ||| (1 : Int32) <<< (nI w &&& 31))) (m 13) = sA T (m 13) from by funext z; rw [sA_wA, if_neg (fun y => lm_ne hM (i := 13) (j := 26) (by decide) (by decide) (by decide) y.1), e13]]
      rw [(hLy.2.2.1 i _ hx).1]
      rw [hq]
      refine a_imul K dX11_laysThere_43 ?_
      rw [nI_3]
      refine a_iload_n K dX11_laysThere_44 rfl ?_
      refine a_iadd K dX11_laysThere_45 ?_
      rw [nI_add]
      first | refine a_aload_n K dX11_laysThere_46 rfl ?_ | refine a_aload_nN K dX11_laysThere_46 rfl ?_
      refine a_getRs K fd_X11_58 (by exact lm_o hM) (Or.inr ⟨_, rfl⟩) (by exact lm_r731 hM) dX11_laysThere_47 ?_
      refine a_iload_n K dX11_laysThere_50 rfl ?_
      refine a_iald K (by exact lm_kk hM (by decide) (by decide)) (by show vp_in _ (sN T2 (m 14)); exact lm_ix (z := 140) hM (by decide) (by decide) (show i < 140 by omega) (by decide)) dX11_laysThere_51 ?_
      rw [nI_clamp (by omega)]
      rw [show sA (wA T2 (m 26) q (bt3 (thU V w (fun k => valIn ((ent h t).take i) (nI k)) 0 q) (thU V w (fun k => valIn ((ent h t).take i) (nI k)) 1 q) (thU V w (fun k => valIn ((ent h t).take i) (nI k)) 2 q) ||| (1 : Int32) <<< (nI w &&& 31))) (m 14) = sA T (m 14) from by funext z; rw [sA_wA, if_neg (fun y => lm_ne hM (i := 14) (j := 26) (by decide) (by decide) (by decide) y.1), e14]]
      rw [(hLy.2.2.1 i _ hx).2]
      refine a_iast K (by exact lm_kk hM (by decide) (by decide)) (by show vp_in _ (sN T2 (m 27)); exact lm_ix (z := 3000) hM (by decide) (by decide) (show 3 * q + w < 3000 by omega) (by decide)) dX11_laysThere_52 ?_
      rw [nI_clamp (by omega)]
      refine a_iinc K dX11_laysThere_53 (v := 1) rfl (by decide) (by decide) ?_
      refine a_goto K dX11_laysThere_56 (tgt := 7) (by decide) ?_
      obtain ⟨T3, hT3⟩ : ∃ T3, T3 = wA (wA T2 (m 26) q (bt3 (thU V w (fun k => valIn ((ent h t).take i) (nI k)) 0 q) (thU V w (fun k => valIn ((ent h t).take i) (nI k)) 1 q) (thU V w (fun k => valIn ((ent h t).take i) (nI k)) 2 q) ||| (1 : Int32) <<< (nI w &&& 31))) (m 27) (3 * q + w) (ent h t)[i].2 := ⟨_, rfl⟩
      rw [← hT3]
      have f3 : frM T2 T3 m [26, 27] [] := by rw [hT3]; exact (frM_wA (by decide)).tr (frM_wA (by decide))
      have e2627 : m 26 ≠ m 27 := lm_ne hM (by decide) (by decide) (by decide)
      have hvx := okE_ne (ok _ (List.mem_of_getElem? hx))
      have hnew : ∀ k, valIn ((ent h t).take (i + 1)) (nI k) = if nI k = nI q then (ent h t)[i].2 else valIn ((ent h t).take i) (nI k) := fun k => by rw [val_take hs hx, hq]
      have hold : valIn ((ent h t).take i) (nI q) = -1000000 := by
        refine valIn_none (fun y hy e => ?_)
        have hlt : y.1 < (ent h t)[i].1 := by
          rw [get_split hx] at hs
          exact (List.pairwise_append.mp hs).2.2 y hy _ List.mem_cons_self
        rw [e, hq] at hlt
        exact lt_ir _ hlt
      have hth : ∀ a k, k < 1000 → thU V w (fun k => valIn ((ent h t).take (i + 1)) (nI k)) a k = if k = q then (if a = w then (ent h t)[i].2 else V a q) else thU V w (fun k => valIn ((ent h t).take i) (nI k)) a k := fun a k hk => by
        unfold thU
        by_cases c : k = q
        · rw [if_pos c, c]
          by_cases d : a = w
          · rw [if_pos d, if_pos d]
            exact (hnew q).trans (if_pos rfl)
          · rw [if_neg d, if_neg d]
        · rw [if_neg c]
          by_cases d : a = w
          · rw [if_pos d, if_pos d]
            exact (hnew k).trans (if_neg (fun z => c (nI_inj (by omega) (by omega) z)))
          · rw [if_neg d, if_neg d]
      exact aw_locl rfl (ih (i + 1) _ T3 (nI_1 i) (by omega) (f3.lay hM) (f2.tr f3) ⟨fun k hk => by
        rw [hth 0 k hk, hth 1 k hk, hth 2 k hk, hT3, sA_wA, if_neg (fun z => e2627 z.1), sA_wA]
        by_cases c : k = q
        · rw [if_pos ⟨rfl, c⟩, if_pos c, if_pos c, if_pos c]
          have h9 := bt3_or (V := thU V w (fun k => valIn ((ent h t).take i) (nI k))) (k := q) hvx w hw3 (by unfold thU; rw [if_pos rfl]; exact hold)
          rw [h9]
          have hd : ∀ a, (if a = w then (ent h t)[i].2 else thU V w (fun k => valIn ((ent h t).take i) (nI k)) a q) = (if a = w then (ent h t)[i].2 else V a q) := fun a => by
            by_cases d : a = w
            · rw [if_pos d, if_pos d]
            · rw [if_neg d, if_neg d]
              unfold thU
              rw [if_neg d]
          rw [hd 0, hd 1, hd 2]
        · rw [if_neg (fun z => c z.2), if_neg c, if_neg c, if_neg c]
          exact hT.1 k hk, fun a ha k hk hn => by
        rw [hth a k hk] at hn ⊢
        rw [hT3, sA_wA]
        by_cases c : k = q
        · rw [if_pos c] at hn ⊢
          by_cases d : a = w
          · rw [if_pos d, if_pos ⟨rfl, by rw [c, d]⟩]
          · rw [if_neg d] at hn ⊢
            rw [if_neg (fun z => by have := z.2; omega), sA_wA, if_neg (fun z => e2627 z.1.symm)]
            have h8 := hT.2 a ha k hk (by unfold thU; rw [if_neg d, c]; exact hn)
            rw [h8]
            unfold thU
            rw [if_neg d, c]
        · rw [if_neg c] at hn ⊢
          rw [if_neg (fun z => by have := z.2; omega), sA_wA, if_neg (fun z => e2627 z.1.symm)]
          exact hT.2 a ha k hk hn⟩)
  have h0T : ThS T m V := by
    have e26 : sA T (m 26) = sA S (m 26) := f9.A hM0 (by decide) (by decide) (by decide)
    have e27 : sA T (m 27) = sA S (m 27) := f9.A hM0 (by decide) (by decide) (by decide)
    exact ⟨fun k hk => by rw [e26]; exact hTh.1 k hk, fun a ha k hk hn => by rw [e27]; exact hTh.2 a ha k hk hn⟩
  have eV : thU V w (fun k => valIn ((ent h t).take 0) (nI k)) = V := funext (fun a => funext (fun k => by
    unfold thU
    by_cases d : a = w
    · rw [if_pos d, d, hV k]; rfl
    · rw [if_neg d]))
  exact aw_locl rfl (loop (ent h t).length 0 _ T nI_0.symm (Nat.zero_add _) hM frM.rf (by rw [eV]; exact h0T))
set_option maxHeartbeats 4000000 in
set_option maxRecDepth 100000 in
theorem q_isUnlike {S : aw_S} {m : Nat → Nat} (hM : LM S m) {V : Nat → Nat → Int32} (hTh : ThS S m V) {q a b : Nat} (hq : q < 1000) (ha : a < 3) (hb : b < 3) : aw_M yX11_isUnlike cX11_isUnlike 4 (some FieldType.boolean) 1 0 0 [.ref (m 33), .int (nI q), .int (nI a), .int (nI b)] S (fun r S2 => S2 = S ∧ bR (¬ V a q = V b q) r) := by
  refine aw_enter (by decide +kernel) (Nat.le_of_ble_eq_true rfl) (fun g K EE => ?_)
  by_cases ea : V a q = -1000000
  · by_cases eb : V b q = -1000000
    · first | refine a_aload_n K dX11_isUnlike_0 rfl ?_ | refine a_aload_nN K dX11_isUnlike_0 rfl ?_
      refine a_getRs K fd_X11_95 (by exact lm_o hM) (Or.inr ⟨_, rfl⟩) (by exact lm_r749 hM) dX11_isUnlike_1 ?_
      refine a_iload_n K dX11_isUnlike_4 rfl ?_
      refine a_iald K (by exact lm_kk hM (by decide) (by decide)) (by show vp_in _ (sN S (m 26)); exact lm_ix (z := 1000) hM (by decide) (by decide) (show q < 1000 by omega) (by decide)) dX11_isUnlike_5 ?_
      rw [nI_clamp (by omega)]
      rw [hTh.1 q hq]
      refine a_iload_n K dX11_isUnlike_6 rfl ?_
      refine a_invS K ((q_has (s := bt3 (V 0 q) (V 1 q) (V 2 q)) (k := nI a)).post (fun r S2 hp => (⟨bR_n (fun z => (hb3 a ha).mp z ea) hp.2, hp.1⟩ : r = some (.int 0) ∧ S2 = S))) my_X11_has ml_X11_271 st_X11_has rfl (by omega) (by omega) (by omega) rfl (Nat.le_of_ble_eq_true rfl) dX11_isUnlike_7 ?_
      intro r9 S9 hp9
      obtain ⟨rfl, hS9⟩ := hp9
      obtain rfl := hS9.symm
      first | refine a_aload_n K dX11_isUnlike_10 rfl ?_ | refine a_aload_nN K dX11_isUnlike_10 rfl ?_
      refine a_getRs K fd_X11_95 (by exact lm_o hM) (Or.inr ⟨_, rfl⟩) (by exact lm_r749 hM) dX11_isUnlike_11 ?_
      refine a_iload_n K dX11_isUnlike_14 rfl ?_
      refine a_iald K (by exact lm_kk hM (by decide) (by decide)) (by show vp_in _ (sN S (m 26)); exact lm_ix (z := 1000) hM (by decide) (by decide) (show q < 1000 by omega) (by decide)) dX11_isUnlike_15 ?_
      rw [nI_clamp (by omega)]
      rw [hTh.1 q hq]
      refine a_iload_n K dX11_isUnlike_16 rfl ?_
      refine a_invS K ((q_has (s := bt3 (V 0 q) (V 1 q) (V 2 q)) (k := nI b)).post (fun r S2 hp => (⟨bR_n (fun z => (hb3 b hb).mp z eb) hp.2, hp.1⟩ : r = some (.int 0) ∧ S2 = S))) my_X11_has ml_X11_271 st_X11_has rfl (by omega) (by omega) (by omega) rfl (Nat.le_of_ble_eq_true rfl) dX11_isUnlike_17 ?_
      intro r9 S9 hp9
      obtain ⟨rfl, hS9⟩ := hp9
      obtain rfl := hS9.symm
      refine a_icmp_eq K dX11_isUnlike_20 (tgt := 25) (by decide) (fun c_20 => ?_) (fun c_20 => absurd c_20 (fun z => z rfl))
      first | refine a_aload_n K dX11_isUnlike_25 rfl ?_ | refine a_aload_nN K dX11_isUnlike_25 rfl ?_
      refine a_getRs K fd_X11_95 (by exact lm_o hM) (Or.inr ⟨_, rfl⟩) (by exact lm_r749 hM) dX11_isUnlike_26 ?_
      refine a_iload_n K dX11_isUnlike_29 rfl ?_
      refine a_iald K (by exact lm_kk hM (by decide) (by decide)) (by show vp_in _ (sN S (m 26)); exact lm_ix (z := 1000) hM (by decide) (by decide) (show q < 1000 by omega) (by decide)) dX11_isUnlike_30 ?_
      rw [nI_clamp (by omega)]
      rw [hTh.1 q hq]
      refine a_iload_n K dX11_isUnlike_31 rfl ?_
      refine a_invS K ((q_has (s := bt3 (V 0 q) (V 1 q) (V 2 q)) (k := nI a)).post (fun r S2 hp => (⟨bR_n (fun z => (hb3 a ha).mp z ea) hp.2, hp.1⟩ : r = some (.int 0) ∧ S2 = S))) my_X11_has ml_X11_271 st_X11_has rfl (by omega) (by omega) (by omega) rfl (Nat.le_of_ble_eq_true rfl) dX11_isUnlike_32 ?_
      intro r9 S9 hp9
      obtain ⟨rfl, hS9⟩ := hp9
      obtain rfl := hS9.symm
      refine a_if_eq K dX11_isUnlike_35 (tgt := 65) (by decide) (fun c_35 => ?_) (fun c_35 => absurd c_35 (fun z => z rfl))
      refine a_iconst K dX11_isUnlike_65 (v := 0) (by decide) ?_
      exact a_iret K EE rfl (by omega) (by omega) dX11_isUnlike_66 ⟨rfl, Or.inr ⟨fun z => z (by rw [ea, eb]), rfl⟩⟩
    · have nb := eb
      first | refine a_aload_n K dX11_isUnlike_0 rfl ?_ | refine a_aload_nN K dX11_isUnlike_0 rfl ?_
      refine a_getRs K fd_X11_95 (by exact lm_o hM) (Or.inr ⟨_, rfl⟩) (by exact lm_r749 hM) dX11_isUnlike_1 ?_
      refine a_iload_n K dX11_isUnlike_4 rfl ?_
      refine a_iald K (by exact lm_kk hM (by decide) (by decide)) (by show vp_in _ (sN S (m 26)); exact lm_ix (z := 1000) hM (by decide) (by decide) (show q < 1000 by omega) (by decide)) dX11_isUnlike_5 ?_
      rw [nI_clamp (by omega)]
      rw [hTh.1 q hq]
      refine a_iload_n K dX11_isUnlike_6 rfl ?_
      refine a_invS K ((q_has (s := bt3 (V 0 q) (V 1 q) (V 2 q)) (k := nI a)).post (fun r S2 hp => (⟨bR_n (fun z => (hb3 a ha).mp z ea) hp.2, hp.1⟩ : r = some (.int 0) ∧ S2 = S))) my_X11_has ml_X11_271 st_X11_has rfl (by omega) (by omega) (by omega) rfl (Nat.le_of_ble_eq_true rfl) dX11_isUnlike_7 ?_
      intro r9 S9 hp9
      obtain ⟨rfl, hS9⟩ := hp9
      obtain rfl := hS9.symm
      first | refine a_aload_n K dX11_isUnlike_10 rfl ?_ | refine a_aload_nN K dX11_isUnlike_10 rfl ?_
      refine a_getRs K fd_X11_95 (by exact lm_o hM) (Or.inr ⟨_, rfl⟩) (by exact lm_r749 hM) dX11_isUnlike_11 ?_
      refine a_iload_n K dX11_isUnlike_14 rfl ?_
      refine a_iald K (by exact lm_kk hM (by decide) (by decide)) (by show vp_in _ (sN S (m 26)); exact lm_ix (z := 1000) hM (by decide) (by decide) (show q < 1000 by omega) (by decide)) dX11_isUnlike_15 ?_
      rw [nI_clamp (by omega)]
      rw [hTh.1 q hq]
      refine a_iload_n K dX11_isUnlike_16 rfl ?_
      refine a_invS K ((q_has (s := bt3 (V 0 q) (V 1 q) (V 2 q)) (k := nI b)).post (fun r S2 hp => (⟨bR_y ((hb3 b hb).mpr nb) hp.2, hp.1⟩ : r = some (.int 1) ∧ S2 = S))) my_X11_has ml_X11_271 st_X11_has rfl (by omega) (by omega) (by omega) rfl (Nat.le_of_ble_eq_true rfl) dX11_isUnlike_17 ?_
      intro r9 S9 hp9
      obtain ⟨rfl, hS9⟩ := hp9
      obtain rfl := hS9.symm
      refine a_icmp_eq K dX11_isUnlike_20 (tgt := 25) (by decide) (fun c_20 => absurd c_20 (by decide)) (fun c_20 => ?_)
      refine a_iconst K dX11_isUnlike_23 (v := 1) (by decide) ?_
      exact a_iret K EE rfl (by omega) (by omega) dX11_isUnlike_24 ⟨rfl, Or.inl ⟨fun z => nb (by rw [← z, ea]), rfl⟩⟩
  · have na := ea
    by_cases eb : V b q = -1000000
    · first | refine a_aload_n K dX11_isUnlike_0 rfl ?_ | refine a_aload_nN K dX11_isUnlike_0 rfl ?_
      refine a_getRs K fd_X11_95 (by exact lm_o hM) (Or.inr ⟨_, rfl⟩) (by exact lm_r749 hM) dX11_isUnlike_1 ?_
      refine a_iload_n K dX11_isUnlike_4 rfl ?_
      refine a_iald K (by exact lm_kk hM (by decide) (by decide)) (by show vp_in _ (sN S (m 26)); exact lm_ix (z := 1000) hM (by decide) (by decide) (show q < 1000 by omega) (by decide)) dX11_isUnlike_5 ?_
      rw [nI_clamp (by omega)]
      rw [hTh.1 q hq]
      refine a_iload_n K dX11_isUnlike_6 rfl ?_
      refine a_invS K ((q_has (s := bt3 (V 0 q) (V 1 q) (V 2 q)) (k := nI a)).post (fun r S2 hp => (⟨bR_y ((hb3 a ha).mpr na) hp.2, hp.1⟩ : r = some (.int 1) ∧ S2 = S))) my_X11_has ml_X11_271 st_X11_has rfl (by omega) (by omega) (by omega) rfl (Nat.le_of_ble_eq_true rfl) dX11_isUnlike_7 ?_
      intro r9 S9 hp9
      obtain ⟨rfl, hS9⟩ := hp9
      obtain rfl := hS9.symm
      first | refine a_aload_n K dX11_isUnlike_10 rfl ?_ | refine a_aload_nN K dX11_isUnlike_10 rfl ?_
      refine a_getRs K fd_X11_95 (by exact lm_o hM) (Or.inr ⟨_, rfl⟩) (by exact lm_r749 hM) dX11_isUnlike_11 ?_
      refine a_iload_n K dX11_isUnlike_14 rfl ?_
      refine a_iald K (by exact lm_kk hM (by decide) (by decide)) (by show vp_in _ (sN S (m 26)); exact lm_ix (z := 1000) hM (by decide) (by decide) (show q < 1000 by omega) (by decide)) dX11_isUnlike_15 ?_
      rw [nI_clamp (by omega)]
      rw [hTh.1 q hq]
      refine a_iload_n K dX11_isUnlike_16 rfl ?_
      refine a_invS K ((q_has (s := bt3 (V 0 q) (V 1 q) (V 2 q)) (k := nI b)).post (fun r S2 hp => (⟨bR_n (fun z => (hb3 b hb).mp z eb) hp.2, hp.1⟩ : r = some (.int 0) ∧ S2 = S))) my_X11_has ml_X11_271 st_X11_has rfl (by omega) (by omega) (by omega) rfl (Nat.le_of_ble_eq_true rfl) dX11_isUnlike_17 ?_
      intro r9 S9 hp9
      obtain ⟨rfl, hS9⟩ := hp9
      obtain rfl := hS9.symm
      refine a_icmp_eq K dX11_isUnlike_20 (tgt := 25) (by decide) (fun c_20 => absurd c_20 (by decide)) (fun c_20 => ?_)
      refine a_iconst K dX11_isUnlike_23 (v := 1) (by decide) ?_
      exact a_iret K EE rfl (by omega) (by omega) dX11_isUnlike_24 ⟨rfl, Or.inl ⟨fun z => na (by rw [z, eb]), rfl⟩⟩
    · have nb := eb
      by_cases e : V a q = V b q
      · first | refine a_aload_n K dX11_isUnlike_0 rfl ?_ | refine a_aload_nN K dX11_isUnlike_0 rfl ?_
        refine a_getRs K fd_X11_95 (by exact lm_o hM) (Or.inr ⟨_, rfl⟩) (by exact lm_r749 hM) dX11_isUnlike_1 ?_
        refine a_iload_n K dX11_isUnlike_4 rfl ?_
        refine a_iald K (by exact lm_kk hM (by decide) (by decide)) (by show vp_in _ (sN S (m 26)); exact lm_ix (z := 1000) hM (by decide) (by decide) (show q < 1000 by omega) (by decide)) dX11_isUnlike_5 ?_
        rw [nI_clamp (by omega)]
        rw [hTh.1 q hq]
        refine a_iload_n K dX11_isUnlike_6 rfl ?_
        refine a_invS K ((q_has (s := bt3 (V 0 q) (V 1 q) (V 2 q)) (k := nI a)).post (fun r S2 hp => (⟨bR_y ((hb3 a ha).mpr na) hp.2, hp.1⟩ : r = some (.int 1) ∧ S2 = S))) my_X11_has ml_X11_271 st_X11_has rfl (by omega) (by omega) (by omega) rfl (Nat.le_of_ble_eq_true rfl) dX11_isUnlike_7 ?_
        intro r9 S9 hp9
        obtain ⟨rfl, hS9⟩ := hp9
        obtain rfl := hS9.symm
        first | refine a_aload_n K dX11_isUnlike_10 rfl ?_ | refine a_aload_nN K dX11_isUnlike_10 rfl ?_
        refine a_getRs K fd_X11_95 (by exact lm_o hM) (Or.inr ⟨_, rfl⟩) (by exact lm_r749 hM) dX11_isUnlike_11 ?_
        refine a_iload_n K dX11_isUnlike_14 rfl ?_
        refine a_iald K (by exact lm_kk hM (by decide) (by decide)) (by show vp_in _ (sN S (m 26)); exact lm_ix (z := 1000) hM (by decide) (by decide) (show q < 1000 by omega) (by decide)) dX11_isUnlike_15 ?_
        rw [nI_clamp (by omega)]
        rw [hTh.1 q hq]
        refine a_iload_n K dX11_isUnlike_16 rfl ?_
        refine a_invS K ((q_has (s := bt3 (V 0 q) (V 1 q) (V 2 q)) (k := nI b)).post (fun r S2 hp => (⟨bR_y ((hb3 b hb).mpr nb) hp.2, hp.1⟩ : r = some (.int 1) ∧ S2 = S))) my_X11_has ml_X11_271 st_X11_has rfl (by omega) (by omega) (by omega) rfl (Nat.le_of_ble_eq_true rfl) dX11_isUnlike_17 ?_
        intro r9 S9 hp9
        obtain ⟨rfl, hS9⟩ := hp9
        obtain rfl := hS9.symm
        refine a_icmp_eq K dX11_isUnlike_20 (tgt := 25) (by decide) (fun c_20 => ?_) (fun c_20 => absurd c_20 (fun z => z rfl))
        first | refine a_aload_n K dX11_isUnlike_25 rfl ?_ | refine a_aload_nN K dX11_isUnlike_25 rfl ?_
        refine a_getRs K fd_X11_95 (by exact lm_o hM) (Or.inr ⟨_, rfl⟩) (by exact lm_r749 hM) dX11_isUnlike_26 ?_
        refine a_iload_n K dX11_isUnlike_29 rfl ?_
        refine a_iald K (by exact lm_kk hM (by decide) (by decide)) (by show vp_in _ (sN S (m 26)); exact lm_ix (z := 1000) hM (by decide) (by decide) (show q < 1000 by omega) (by decide)) dX11_isUnlike_30 ?_
        rw [nI_clamp (by omega)]
        rw [hTh.1 q hq]
        refine a_iload_n K dX11_isUnlike_31 rfl ?_
        refine a_invS K ((q_has (s := bt3 (V 0 q) (V 1 q) (V 2 q)) (k := nI a)).post (fun r S2 hp => (⟨bR_y ((hb3 a ha).mpr na) hp.2, hp.1⟩ : r = some (.int 1) ∧ S2 = S))) my_X11_has ml_X11_271 st_X11_has rfl (by omega) (by omega) (by omega) rfl (Nat.le_of_ble_eq_true rfl) dX11_isUnlike_32 ?_
        intro r9 S9 hp9
        obtain ⟨rfl, hS9⟩ := hp9
        obtain rfl := hS9.symm
        refine a_if_eq K dX11_isUnlike_35 (tgt := 65) (by decide) (fun c_35 => absurd c_35 (by decide)) (fun c_35 => ?_)
        first | refine a_aload_n K dX11_isUnlike_38 rfl ?_ | refine a_aload_nN K dX11_isUnlike_38 rfl ?_
        refine a_getRs K fd_X11_98 (by exact lm_o hM) (Or.inr ⟨_, rfl⟩) (by exact lm_r750 hM) dX11_isUnlike_39 ?_
        refine a_iconst K dX11_isUnlike_42 (v := 3) (by decide) ?_
        refine a_iload_n K dX11_isUnlike_43 rfl ?_
        refine a_imul K dX11_isUnlike_44 ?_
        rw [nI_3]
        refine a_iload_n K dX11_isUnlike_45 rfl ?_
        refine a_iadd K dX11_isUnlike_46 ?_
        rw [nI_add]
        refine a_iald K (by exact lm_kk hM (by decide) (by decide)) (by show vp_in _ (sN S (m 27)); exact lm_ix (z := 3000) hM (by decide) (by decide) (show 3 * q + a < 3000 by omega) (by decide)) dX11_isUnlike_47 ?_
        rw [nI_clamp (by omega)]
        rw [hTh.2 a ha q hq na]
        first | refine a_aload_n K dX11_isUnlike_48 rfl ?_ | refine a_aload_nN K dX11_isUnlike_48 rfl ?_
        refine a_getRs K fd_X11_98 (by exact lm_o hM) (Or.inr ⟨_, rfl⟩) (by exact lm_r750 hM) dX11_isUnlike_49 ?_
        refine a_iconst K dX11_isUnlike_52 (v := 3) (by decide) ?_
        refine a_iload_n K dX11_isUnlike_53 rfl ?_
        refine a_imul K dX11_isUnlike_54 ?_
        rw [nI_3]
        refine a_iload_n K dX11_isUnlike_55 rfl ?_
        refine a_iadd K dX11_isUnlike_56 ?_
        rw [nI_add]
        refine a_iald K (by exact lm_kk hM (by decide) (by decide)) (by show vp_in _ (sN S (m 27)); exact lm_ix (z := 3000) hM (by decide) (by decide) (show 3 * q + b < 3000 by omega) (by decide)) dX11_isUnlike_57 ?_
        rw [nI_clamp (by omega)]
        rw [hTh.2 b hb q hq nb]
        refine a_icmp_eq K dX11_isUnlike_58 (tgt := 65) (by decide) (fun c_58 => ?_) (fun c_58 => absurd c_58 (fun z => z e))
        refine a_iconst K dX11_isUnlike_65 (v := 0) (by decide) ?_
        exact a_iret K EE rfl (by omega) (by omega) dX11_isUnlike_66 ⟨rfl, Or.inr ⟨fun z => z e, rfl⟩⟩
      · first | refine a_aload_n K dX11_isUnlike_0 rfl ?_ | refine a_aload_nN K dX11_isUnlike_0 rfl ?_
        refine a_getRs K fd_X11_95 (by exact lm_o hM) (Or.inr ⟨_, rfl⟩) (by exact lm_r749 hM) dX11_isUnlike_1 ?_
        refine a_iload_n K dX11_isUnlike_4 rfl ?_
        refine a_iald K (by exact lm_kk hM (by decide) (by decide)) (by show vp_in _ (sN S (m 26)); exact lm_ix (z := 1000) hM (by decide) (by decide) (show q < 1000 by omega) (by decide)) dX11_isUnlike_5 ?_
        rw [nI_clamp (by omega)]
        rw [hTh.1 q hq]
        refine a_iload_n K dX11_isUnlike_6 rfl ?_
        refine a_invS K ((q_has (s := bt3 (V 0 q) (V 1 q) (V 2 q)) (k := nI a)).post (fun r S2 hp => (⟨bR_y ((hb3 a ha).mpr na) hp.2, hp.1⟩ : r = some (.int 1) ∧ S2 = S))) my_X11_has ml_X11_271 st_X11_has rfl (by omega) (by omega) (by omega) rfl (Nat.le_of_ble_eq_true rfl) dX11_isUnlike_7 ?_
        intro r9 S9 hp9
        obtain ⟨rfl, hS9⟩ := hp9
        obtain rfl := hS9.symm
        first | refine a_aload_n K dX11_isUnlike_10 rfl ?_ | refine a_aload_nN K dX11_isUnlike_10 rfl ?_
        refine a_getRs K fd_X11_95 (by exact lm_o hM) (Or.inr ⟨_, rfl⟩) (by exact lm_r749 hM) dX11_isUnlike_11 ?_
        refine a_iload_n K dX11_isUnlike_14 rfl ?_
        refine a_iald K (by exact lm_kk hM (by decide) (by decide)) (by show vp_in _ (sN S (m 26)); exact lm_ix (z := 1000) hM (by decide) (by decide) (show q < 1000 by omega) (by decide)) dX11_isUnlike_15 ?_
        rw [nI_clamp (by omega)]
        rw [hTh.1 q hq]
        refine a_iload_n K dX11_isUnlike_16 rfl ?_
        refine a_invS K ((q_has (s := bt3 (V 0 q) (V 1 q) (V 2 q)) (k := nI b)).post (fun r S2 hp => (⟨bR_y ((hb3 b hb).mpr nb) hp.2, hp.1⟩ : r = some (.int 1) ∧ S2 = S))) my_X11_has ml_X11_271 st_X11_has rfl (by omega) (by omega) (by omega) rfl (Nat.le_of_ble_eq_true rfl) dX11_isUnlike_17 ?_
        intro r9 S9 hp9
        obtain ⟨rfl, hS9⟩ := hp9
        obtain rfl := hS9.symm
        refine a_icmp_eq K dX11_isUnlike_20 (tgt := 25) (by decide) (fun c_20 => ?_) (fun c_20 => absurd c_20 (fun z => z rfl))
        first | refine a_aload_n K dX11_isUnlike_25 rfl ?_ | refine a_aload_nN K dX11_isUnlike_25 rfl ?_
        refine a_getRs K fd_X11_95 (by exact lm_o hM) (Or.inr ⟨_, rfl⟩) (by exact lm_r749 hM) dX11_isUnlike_26 ?_
        refine a_iload_n K dX11_isUnlike_29 rfl ?_
        refine a_iald K (by exact lm_kk hM (by decide) (by decide)) (by show vp_in _ (sN S (m 26)); exact lm_ix (z := 1000) hM (by decide) (by decide) (show q < 1000 by omega) (by decide)) dX11_isUnlike_30 ?_
        rw [nI_clamp (by omega)]
        rw [hTh.1 q hq]
        refine a_iload_n K dX11_isUnlike_31 rfl ?_
        refine a_invS K ((q_has (s := bt3 (V 0 q) (V 1 q) (V 2 q)) (k := nI a)).post (fun r S2 hp => (⟨bR_y ((hb3 a ha).mpr na) hp.2, hp.1⟩ : r = some (.int 1) ∧ S2 = S))) my_X11_has ml_X11_271 st_X11_has rfl (by omega) (by omega) (by omega) rfl (Nat.le_of_ble_eq_true rfl) dX11_isUnlike_32 ?_
        intro r9 S9 hp9
        obtain ⟨rfl, hS9⟩ := hp9
        obtain rfl := hS9.symm
        refine a_if_eq K dX11_isUnlike_35 (tgt := 65) (by decide) (fun c_35 => absurd c_35 (by decide)) (fun c_35 => ?_)
        first | refine a_aload_n K dX11_isUnlike_38 rfl ?_ | refine a_aload_nN K dX11_isUnlike_38 rfl ?_
        refine a_getRs K fd_X11_98 (by exact lm_o hM) (Or.inr ⟨_, rfl⟩) (by exact lm_r750 hM) dX11_isUnlike_39 ?_
        refine a_iconst K dX11_isUnlike_42 (v := 3) (by decide) ?_
        refine a_iload_n K dX11_isUnlike_43 rfl ?_
        refine a_imul K dX11_isUnlike_44 ?_
        rw [nI_3]
        refine a_iload_n K dX11_isUnlike_45 rfl ?_
        refine a_iadd K dX11_isUnlike_46 ?_
        rw [nI_add]
        refine a_iald K (by exact lm_kk hM (by decide) (by decide)) (by show vp_in _ (sN S (m 27)); exact lm_ix (z := 3000) hM (by decide) (by decide) (show 3 * q + a < 3000 by omega) (by decide)) dX11_isUnlike_47 ?_
        rw [nI_clamp (by omega)]
        rw [hTh.2 a ha q hq na]
        first | refine a_aload_n K dX11_isUnlike_48 rfl ?_ | refine a_aload_nN K dX11_isUnlike_48 rfl ?_
        refine a_getRs K fd_X11_98 (by exact lm_o hM) (Or.inr ⟨_, rfl⟩) (by exact lm_r750 hM) dX11_isUnlike_49 ?_
        refine a_iconst K dX11_isUnlike_52 (v := 3) (by decide) ?_
        refine a_iload_n K dX11_isUnlike_53 rfl ?_
        refine a_imul K dX11_isUnlike_54 ?_
        rw [nI_3]
        refine a_iload_n K dX11_isUnlike_55 rfl ?_
        refine a_iadd K dX11_isUnlike_56 ?_
        rw [nI_add]
        refine a_iald K (by exact lm_kk hM (by decide) (by decide)) (by show vp_in _ (sN S (m 27)); exact lm_ix (z := 3000) hM (by decide) (by decide) (show 3 * q + b < 3000 by omega) (by decide)) dX11_isUnlike_57 ?_
        rw [nI_clamp (by omega)]
        rw [hTh.2 b hb q hq nb]
        refine a_icmp_eq K dX11_isUnlike_58 (tgt := 65) (by decide) (fun c_58 => absurd c_58 (e)) (fun c_58 => ?_)
        refine a_iconst K dX11_isUnlike_61 (v := 1) (by decide) ?_
        refine a_goto K dX11_isUnlike_62 (tgt := 66) (by decide) ?_
        exact a_iret K EE rfl (by omega) (by omega) dX11_isUnlike_66 ⟨rfl, Or.inl ⟨e, rfl⟩⟩
