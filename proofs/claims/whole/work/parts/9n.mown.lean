/-! the model: what is shared stays shared below -/
theorem sub_in {k : Nat} {wt : Tr (k + 1)} : ∀ (h : Nat) (t : Tr h), (⟨k + 1, wt⟩ : Tz) ∈ sub h t → ∀ c ∈ kds wt, (⟨k, c⟩ : Tz) ∈ sub h t
  | 0, t, hm, c, hc => by
    have e : (⟨k + 1, wt⟩ : Tz) = ⟨0, t⟩ := List.mem_singleton.mp hm
    exact absurd (congrArg Sigma.fst e) (by show ¬ k + 1 = 0; omega)
  | h + 1, t, hm, c, hc => by
    have hm : (⟨k + 1, wt⟩ : Tz) ∈ (⟨h + 1, t⟩ : Tz) :: (kds t).flatMap (sub h) := hm
    show (⟨k, c⟩ : Tz) ∈ (⟨h + 1, t⟩ : Tz) :: (kds t).flatMap (sub h)
    refine List.mem_cons_of_mem _ ?_
    rcases List.mem_cons.mp hm with e | hm
    · cases e
      exact List.mem_flatMap.mpr ⟨c, hc, by rw [sub_top]; exact List.mem_cons_self⟩
    · obtain ⟨d, hd, hx⟩ := List.mem_flatMap.mp hm
      exact List.mem_flatMap.mpr ⟨d, hd, sub_in h d hx c hc⟩
theorem sub_ets {wt : Tr 0} : ∀ (h : Nat) (t : Tr h), (⟨0, wt⟩ : Tz) ∈ sub h t → ∀ x ∈ ets wt, x ∈ ent h t
  | 0, t, hm, x, hx => by
    have e : (⟨0, wt⟩ : Tz) = ⟨0, t⟩ := List.mem_singleton.mp hm
    cases e
    exact hx
  | h + 1, t, hm, x, hx => by
    have hm : (⟨0, wt⟩ : Tz) ∈ (⟨h + 1, t⟩ : Tz) :: (kds t).flatMap (sub h) := hm
    rcases List.mem_cons.mp hm with e | hm
    · exact absurd (congrArg Sigma.fst e) (by show ¬ 0 = h + 1; omega)
    · obtain ⟨d, hd, hy⟩ := List.mem_flatMap.mp hm
      exact List.mem_flatMap.mpr ⟨d, hd, sub_ets h d hy x hx⟩
theorem sub_id {h : Nat} {t : Tr h} {w : Tz} (hw : w ∈ sub h t) : (w.2.1, w.2.2.1) ∈ ndl h t := by
  rw [← sub_ndl]
  exact List.mem_map.mpr ⟨w, hw, rfl⟩
theorem id_sub {h : Nat} {t : Tr h} {x : Nat × Nat} (hx : x ∈ ndl h t) : ∃ w ∈ sub h t, w.2.1 = x.1 := by
  rw [← sub_ndl] at hx
  obtain ⟨w, hw, e⟩ := List.mem_map.mp hx
  exact ⟨w, hw, by rw [← e]⟩
theorem ndl_kids {h : Nat} {t : Tr (h + 1)} {Q : Nat → Prop} (Qt : ∀ x ∈ ndl (h + 1) t, Q x.1) : ∀ c ∈ kds t, ∀ x ∈ ndl h c, Q x.1 := fun c hc x hx => Qt x (by
  show x ∈ _ :: (kds t).flatMap (ndl h)
  exact List.mem_cons_of_mem _ (List.mem_flatMap.mpr ⟨c, hc, hx⟩))
/-- a shared node that is no leaf: what is below it is shared -/
theorem shr_kid {S : aw_S} {m ρ : Nat → Nat} {Q : Nat → Prop} {z : Tz} (rz : RepM S m ρ z.1 z.2) {h : Nat} {t : Tr (h + 1)} (rt : RepM S m ρ (h + 1) t) (inj : ∀ i j, Q i → Q j → ρ i = ρ j → i = j) (Qz : ∀ x ∈ ndl z.1 z.2, Q x.1) (Qt : ∀ x ∈ ndl (h + 1) t, Q x.1) (ht : ∃ w ∈ sub z.1 z.2, w.2.1 = t.1) : ∀ c ∈ kds t, ∃ w ∈ sub z.1 z.2, w.2.1 = c.1 := by
  intro c hc
  obtain ⟨⟨wh, wt⟩, hw, e⟩ := ht
  have e : wt.1 = t.1 := e
  have rw9 : RepM S m ρ wh wt := sub_repM z.1 rz _ hw
  have l1 : gL S m (ρ t.1) = 0 := rt.1.2.1
  cases wh with
  | zero =>
    have l2 : gL S m (ρ wt.1) = 1 := rw9.2.1
    rw [e, l1] at l2
    exact absurd l2 (by decide)
  | succ k =>
    have n1 : gN S m (ρ t.1) = nI (kds t).length := rt.1.2.2.1
    have n2 : gN S m (ρ wt.1) = nI (kds wt).length := rw9.1.2.2.1
    have s1 : (kds t).length ≤ 7 := rt.1.2.2.2.2.1
    have s2 : (kds wt).length ≤ 7 := rw9.1.2.2.2.2.1
    rw [e, n1] at n2
    have hl := nI_inj (by omega) (by omega) n2
    obtain ⟨i, hi, hic⟩ := List.getElem_of_mem hc
    have hci : (kds t)[i]? = some c := by rw [List.getElem?_eq_getElem hi, hic]
    have hcj : (kds wt)[i]? = some ((kds wt)[i]'(by omega)) := List.getElem?_eq_getElem (by omega)
    generalize (kds wt)[i]'(by omega) = d at hcj
    have g1a := (rt.kid hci).2.1
    have g1b := (rw9.kid hcj).2.1
    rw [e, g1a] at g1b
    have r1 := (rt.kid hci).1.own.1
    have r2 := (rw9.kid hcj).1.own.1
    have hin := sub_in z.1 z.2 hw d (List.mem_of_getElem? hcj)
    have hd9 := sub_id hin
    refine ⟨⟨k, d⟩, hin, ?_⟩
    have r2 : ρ d.1 < 12000 := r2
    exact inj d.1 c.1 (Qz _ hd9) (ndl_kids Qt c hc (c.1, c.2.1) (ndl_top c)) (nI_inj (by omega) (by omega) g1b.symm)
theorem shr_leaf {S : aw_S} {m ρ : Nat → Nat} {z : Tz} (rz : RepM S m ρ z.1 z.2) {t : Tr 0} (rt : RepM S m ρ 0 t) (ht : ∃ w ∈ sub z.1 z.2, w.2.1 = t.1) : ∀ x ∈ ets t, x ∈ ent z.1 z.2 := by
  intro x hx
  obtain ⟨⟨wh, wt⟩, hw, e⟩ := ht
  have e : wt.1 = t.1 := e
  have rw9 : RepM S m ρ wh wt := sub_repM z.1 rz _ hw
  have l1 : gL S m (ρ t.1) = 1 := rt.2.1
  cases wh with
  | succ k =>
    have l2 : gL S m (ρ wt.1) = 0 := rw9.1.2.1
    rw [e, l1] at l2
    exact absurd l2 (by decide)
  | zero =>
    have n1 : gN S m (ρ t.1) = nI (ets t).length := rt.2.2.1
    have n2 : gN S m (ρ wt.1) = nI (ets wt).length := rw9.2.2.1
    have s1 : (ets t).length ≤ 7 := rt.2.2.2.2.1
    have s2 : (ets wt).length ≤ 7 := rw9.2.2.2.2.1
    rw [e, n1] at n2
    have hl := nI_inj (by omega) (by omega) n2
    refine sub_ets z.1 z.2 hw x ?_
    obtain ⟨i, hi, hix⟩ := List.getElem_of_mem hx
    have hxi : (ets t)[i]? = some x := by rw [List.getElem?_eq_getElem hi, hix]
    have hxj : (ets wt)[i]? = some ((ets wt)[i]'(by omega)) := List.getElem?_eq_getElem (by omega)
    generalize (ets wt)[i]'(by omega) = y at hxj
    have a := rt.ent hxi
    have b := rw9.ent hxj
    rw [e, a.1, a.2.1] at b
    have : x = y := Prod.ext b.1 b.2.1
    rw [this]
    exact List.mem_of_getElem? hxj
/-- entries below nodes without the mark -/
def ewV (mk : Nat → Bool) : (h : Nat) → Tr h → List KV
  | 0, t => if mk t.1 then [] else ets t
  | h + 1, t => if mk t.1 then [] else (kds t).flatMap (ewV mk h)
theorem ewV_sub (mk : Nat → Bool) : ∀ (h : Nat) (t : Tr h), (ewV mk h t).length ≤ (ent h t).length
  | 0, t => by
    unfold ewV
    split
    · exact Nat.zero_le _
    · exact Nat.le_refl _
  | h + 1, t => by
    unfold ewV
    split
    · exact Nat.zero_le _
    · show ((kds t).flatMap (ewV mk h)).length ≤ ((kds t).flatMap (ent h)).length
      have hh := ewV_sub mk h
      generalize kds t = l
      induction l with
      | nil => exact Nat.le_refl _
      | cons c l ih =>
        rw [List.flatMap_cons, List.flatMap_cons, List.length_append, List.length_append]
        exact Nat.add_le_add (hh c) ih
theorem fmap_nil {α β : Type} {f : α → List β} : ∀ {l : List α}, (∀ c ∈ l, f c = []) → l.flatMap f = []
  | [], _ => rfl
  | c :: l, h => by rw [List.flatMap_cons, h c List.mem_cons_self, fmap_nil (fun d hd => h d (List.mem_cons_of_mem _ hd))]; rfl
theorem fmap_eq {α β : Type} {f g : α → List β} : ∀ {l : List α}, (∀ c ∈ l, f c = g c) → l.flatMap f = l.flatMap g
  | [], _ => rfl
  | c :: l, h => by rw [List.flatMap_cons, List.flatMap_cons, h c List.mem_cons_self, fmap_eq (fun d hd => h d (List.mem_cons_of_mem _ hd))]
theorem mkS_is {L : List Tz} {i : Nat} : mkS (fun _ => false) L i = true ↔ ∃ w ∈ L, w.2.1 = i := by
  unfold mkS
  rw [Bool.false_or, List.any_eq_true]
  exact ⟨fun ⟨w, hw, e⟩ => ⟨w, hw, (eq_of_beq e).symm⟩, fun ⟨w, hw, e⟩ => ⟨w, hw, by rw [e]; exact beq_self_eq_true i⟩⟩
theorem shr_none {S : aw_S} {m ρ : Nat → Nat} {Q : Nat → Prop} {z : Tz} (rz : RepM S m ρ z.1 z.2) (inj : ∀ i j, Q i → Q j → ρ i = ρ j → i = j) (Qz : ∀ x ∈ ndl z.1 z.2, Q x.1) : ∀ (h : Nat) (t : Tr h), RepM S m ρ h t → (∀ x ∈ ndl h t, Q x.1) → mkS (fun _ => false) (sub z.1 z.2) t.1 = true → entU (mkS (fun _ => false) (sub z.1 z.2)) h t = []
  | 0, t, _, _, e => by
    unfold entU
    exact if_pos e
  | h + 1, t, rt, Qt, e => by
    show (kds t).flatMap (entU _ h) = []
    exact fmap_nil (fun c hc => shr_none rz inj Qz h c (rt.2 c hc) (ndl_kids Qt c hc) (mkS_is.mpr (shr_kid rz rt inj Qz Qt (mkS_is.mp e) c hc)))
theorem ewV_U {S : aw_S} {m ρ : Nat → Nat} {Q : Nat → Prop} {z : Tz} (rz : RepM S m ρ z.1 z.2) (inj : ∀ i j, Q i → Q j → ρ i = ρ j → i = j) (Qz : ∀ x ∈ ndl z.1 z.2, Q x.1) : ∀ (h : Nat) (t : Tr h), RepM S m ρ h t → (∀ x ∈ ndl h t, Q x.1) → ewV (mkS (fun _ => false) (sub z.1 z.2)) h t = entU (mkS (fun _ => false) (sub z.1 z.2)) h t
  | 0, t, _, _ => rfl
  | h + 1, t, rt, Qt => by
    by_cases e : mkS (fun _ => false) (sub z.1 z.2) t.1 = true
    · rw [shr_none rz inj Qz (h + 1) t rt Qt e]
      unfold ewV
      exact if_pos e
    · unfold ewV
      rw [if_neg e]
      show _ = (kds t).flatMap (entU _ h)
      exact fmap_eq (fun c hc => ewV_U rz inj Qz h c (rt.2 c hc) (ndl_kids Qt c hc))
theorem ewV_mk {f g : Nat → Bool} : ∀ (h : Nat) (t : Tr h), (∀ x ∈ ndl h t, f x.1 = g x.1) → ewV f h t = ewV g h t
  | 0, t, e => by
    have e1 := e (t.1, t.2.1) (ndl_top t)
    unfold ewV
    rw [show f t.1 = g t.1 from e1]
  | h + 1, t, e => by
    have e1 := e (t.1, t.2.1) (ndl_top t)
    unfold ewV
    rw [show f t.1 = g t.1 from e1, fmap_eq (fun c hc => ewV_mk h c (fun x hx => e x (by
      show x ∈ _ :: (kds t).flatMap (ndl h)
      exact List.mem_cons_of_mem _ (List.mem_flatMap.mpr ⟨c, hc, hx⟩))))]
/-- what isn't one's own is the other's too -/
theorem shr_ent {S : aw_S} {m ρ : Nat → Nat} {z : Tz} (rz : RepM S m ρ z.1 z.2) : ∀ (h : Nat) (t : Tr h), RepM S m ρ h t → ∀ x ∈ ent h t, x ∈ entU (mkS (fun _ => false) (sub z.1 z.2)) h t ∨ x ∈ ent z.1 z.2
  | 0, t, rt, x, hx => by
    by_cases e : mkS (fun _ => false) (sub z.1 z.2) t.1 = true
    · exact Or.inr (shr_leaf rz rt (mkS_is.mp e) x hx)
    · refine Or.inl ?_
      unfold entU
      rw [if_neg e]
      exact hx
  | h + 1, t, rt, x, hx => by
    obtain ⟨c, hc, hx⟩ := List.mem_flatMap.mp (show x ∈ (kds t).flatMap (ent h) from hx)
    refine (shr_ent rz h c (rt.2 c hc) x hx).imp (fun y => ?_) id
    show x ∈ (kds t).flatMap (entU _ h)
    exact List.mem_flatMap.mpr ⟨c, hc, y⟩
theorem swE_add {E : List KV} : ∀ (O : List KV) (n : Nat), swE E O n = n + swE E O 0
  | [], n => rfl
  | x :: l, n => by
    rw [swE, swE, swE_add l _, swE_add l (if valIn E x.1 = -1000000 then 0 + 1 else 0)]
    split
    · omega
    · omega
theorem cntU_congr {U W : Nat → Bool} (h : ∀ k, k < 1000 → U k = W k) : ∀ n f, n ≤ 1000 → cntU U n f = cntU W n f
  | 0, f, _ => rfl
  | n + 1, f, hn => by
    rw [cntU, cntU, h _ (by omega), cntU_congr h n (f + 1) (by omega), cntU_congr h n f (by omega)]
/-- how many keys two maps have, counted by key or by what is one's own -/
theorem cnt_sw {E : List KV} (sE : srt E) (oE : ∀ x ∈ E, okE x) : ∀ (O : List KV), srt O → (∀ x ∈ O, okE x) → cntU (fun k => hsU E k || hsU O k) 1000 0 = swE E O E.length
  | [], _, _ => by
    rw [cntU_congr (W := hsU E) (fun k _ => by
      show (hsU E k || hsU [] k) = hsU E k
      rw [show hsU [] k = false from by unfold hsU; rw [valIn_nil]; decide, Bool.or_false]) 1000 0 (Nat.le_refl _), cnt_len sE oE]
    rfl
  | x :: l, sO, oO => by
    have sl : srt l := (List.pairwise_cons.mp sO).2
    have hgt : ∀ y ∈ l, x.1 < y.1 := (List.pairwise_cons.mp sO).1
    have ih := cnt_sw sE oE l sl (fun y hy => oO y (List.mem_cons_of_mem _ hy))
    obtain ⟨a, ha, e⟩ := okE_key (oO x List.mem_cons_self)
    have hx : ¬ x.2 = -1000000 := okV.ne (oO x List.mem_cons_self).2
    have hU : ∀ k, k < 1000 → hsU (x :: l) k = (k == a || hsU l k) := fun k hk => by
      unfold hsU
      by_cases e2 : k = a
      · rw [e2, valIn_at e, decide_eq_true hx]
        simp
      · rw [show (k == a) = false from by simp [e2], Bool.false_or]
        by_cases h1 : x.1 < nI k
        · rw [valIn_skip h1]
        · have h2 : nI k < x.1 := lt_3 h1 (fun z => e2 (nI_inj (by omega) (by omega) (z.symm.trans e)))
          rw [valIn_over h2, valIn_hi (fun y hy => lt_tr h2 (hgt y hy))]
    have hl0 : hsU l a = false := by
      unfold hsU
      rw [valIn_hi (fun y hy => by rw [← e]; exact hgt y hy)]
      decide
    rw [swE]
    by_cases c : valIn E x.1 = -1000000
    · rw [if_pos c]
      have hE0 : hsU E a = false := by
        unfold hsU
        rw [← e, c]
        decide
      rw [cntU_cons (W := fun k => hsU E k || hsU l k) (a := a) (by show (hsU E a || hsU l a) = false; rw [hE0, hl0]; rfl) (fun k hk => by
        show (hsU E k || hsU (x :: l) k) = (k == a || (hsU E k || hsU l k))
        rw [hU k hk]
        cases hsU E k <;> cases (k == a) <;> rfl) 1000 (Nat.le_refl _), ih, if_pos (by omega), swE_add l (E.length + 1), swE_add l E.length]
      omega
    · rw [if_neg c, ← ih]
      refine cntU_congr (fun k hk => ?_) 1000 0 (Nat.le_refl _)
      show (hsU E k || hsU (x :: l) k) = (hsU E k || hsU l k)
      rw [hU k hk]
      by_cases e2 : k = a
      · have hE1 : hsU E k = true := by
          unfold hsU
          rw [e2, ← e]
          exact decide_eq_true c
        rw [hE1]
        rfl
      · rw [show (k == a) = false from by simp [e2], Bool.false_or]
/-- what is laid as one's own -/
def OwM (S : aw_S) (m : Nat → Nat) (E : List KV) : Prop := sI S 753 (m 33) = nI E.length ∧ ∀ i x, E[i]? = some x → sA S (m 28) i = x.1 ∧ sA S (m 29) i = x.2
def owS (S : aw_S) (m : Nat → Nat) (n : Nat) (x : KV) : aw_S := wI (wA (wA S (m 28) n x.1) (m 29) n x.2) 753 (m 33) (nI (n + 1))
abbrev ksO : List Nat := [28, 29]
abbrev fsO : List Nat := [753]
theorem owS_fr {S : aw_S} {m : Nat → Nat} {n : Nat} {x : KV} : frM S (owS S m n x) m ksO fsO := ((frM_wA (by decide)).tr (frM_wA (by decide))).tr (frM_wI (by decide) (by decide))
theorem OwM.key {S : aw_S} {m : Nat → Nat} {K : List KV} (hM : LM S m) (h : OwM S m K) {x : KV} : OwM (owS S m K.length x) m (K ++ [x]) := by
  unfold owS
  refine ⟨by rw [wI_at, List.length_append]; rfl, fun j y hy => ?_⟩
  rw [sA_wI, sA_wA, sA_wA, sA_wA, sA_wA, if_neg (fun z => lm_ne hM (by decide) (by decide) (by decide) z.1)]
  rcases get_app1 hy with ⟨a, b⟩ | ⟨rfl, rfl⟩
  · rw [if_neg (by omega), if_neg (by omega), if_neg (fun z => lm_ne hM (by decide) (by decide) (by decide) z.1)]
    exact h.2 j y b
  · rw [if_pos ⟨rfl, rfl⟩, if_pos ⟨rfl, rfl⟩]
    exact ⟨rfl, rfl⟩
theorem MkM.fr {S S2 : aw_S} {m : Nat → Nat} {st : Int32} {mk : Nat → Bool} {ks Fs : List Nat} (h : MkM S m st mk) (hM : LM S m) (f : frM S S2 m ks Fs) (hk3 : ∀ k ∈ ks, k < 33) (n7 : 7 ∉ ks) (nF : 726 ∉ Fs) : MkM S2 m st mk := ⟨(f.2 726 nF).trans h.1, by rw [f.A hM hk3 (by decide) n7]; exact h.2⟩
set_option maxHeartbeats 4000000 in
set_option maxRecDepth 100000 in
theorem m_laysOwn {m ρ : Nat → Nat} {mk : Nat → Bool} {st : Int32} : ∀ (h : Nat) (t : Tr h) (S : aw_S) (E : List KV), LM S m → RepM S m ρ h t → MkM S m st mk → OwM S m E → E.length + (ewV (fun i => mk (ρ i)) h t).length ≤ 60 → aw_M yX11_laysOwn cX11_laysOwn 3 (none : Option FieldType) (h + 1) 0 0 [.ref (m 33), .int (nI (ρ t.1))] S (fun r S2 => r = none ∧ OwM S2 m (E ++ ewV (fun i => mk (ρ i)) h t) ∧ frM S S2 m ksO fsO) := by
  intro h
  induction h with
  | zero =>
    intro t S E hM0 rp hk0 hO0 hl
    have h7 : (ets t).length ≤ 7 := rp.2.2.2.2.1
    have hr := rp.own.1
    refine aw_enter (by decide +kernel) (Nat.le_of_ble_eq_true rfl) (fun g K EE => ?_)
    by_cases hm : mk (ρ t.1) = true
    · first | refine a_aload_n K dX11_laysOwn_0 rfl ?_ | refine a_aload_nN K dX11_laysOwn_0 rfl ?_
      refine a_getRs K fd_X11_32 (by exact lm_o hM0) (Or.inr ⟨_, rfl⟩) (by exact lm_r717 hM0) dX11_laysOwn_1 ?_
      refine a_iload_n K dX11_laysOwn_4 rfl ?_
      refine a_iald K (by exact lm_kk hM0 (by decide) (by decide)) (by show vp_in _ (sN S (m 7)); exact lm_ix (z := 12000) hM0 (by decide) (by decide) (show ρ t.1 < 12000 by omega) (by decide)) dX11_laysOwn_5 ?_
      rw [nI_clamp (by omega)]
      first | refine a_aload_n K dX11_laysOwn_6 rfl ?_ | refine a_aload_nN K dX11_laysOwn_6 rfl ?_
      refine a_getI K fd_X11_255 (by exact lm_o hM0) (Or.inl rfl) dX11_laysOwn_7 ?_
      rw [hk0.1]
      refine a_icmp_ne K dX11_laysOwn_10 (tgt := 14) (by decide) (fun c_10 => absurd c_10 (fun z => z ((hk0.2 _ hr).mpr hm))) (fun c_10 => ?_)
      exact a_vret K EE (by omega) (by omega) dX11_laysOwn_13 ⟨rfl, by rw [show ewV (fun i => mk (ρ i)) 0 t = [] from by unfold ewV; exact if_pos hm, List.append_nil]; exact hO0, frM.rf⟩
    · have hev : ewV (fun i => mk (ρ i)) 0 t = ets t := by unfold ewV; exact if_neg hm
      rw [hev] at hl
      have loop : ∀ (n i : Nat) (x : Int32) (T : aw_S), x = nI i → i + n = (ets t).length → LM T m → OwM T m (E ++ (ets t).take i) → frM S T m ksO fsO → aw g 3 T 0 0 [(2, .int x), (1, .int (nI (ρ t.1))), (0, .ref (m 33))] [] 16 := by
        intro n
        induction n with
        | zero =>
          intro i x T hx hn hM hO f
          subst hx
          have rT := f.rep hM0 (by decide) (by decide) (by decide) (by decide) (by decide) (by decide) rp
          refine a_iload_n K dX11_laysOwn_16 rfl ?_
          first | refine a_aload_n K dX11_laysOwn_17 rfl ?_ | refine a_aload_nN K dX11_laysOwn_17 rfl ?_
          refine a_getRs K fd_X11_26 (by exact lm_o hM) (Or.inr ⟨_, rfl⟩) (by exact lm_r715 hM) dX11_laysOwn_18 ?_
          refine a_iload_n K dX11_laysOwn_21 rfl ?_
          refine a_iald K (by exact lm_kk hM (by decide) (by decide)) (by show vp_in _ (sN T (m 5)); exact lm_ix (z := 12000) hM (by decide) (by decide) (show ρ t.1 < 12000 by omega) (by decide)) dX11_laysOwn_22 ?_
          rw [nI_clamp (by omega)]
          rw [show sA T (m 5) (ρ t.1) = nI (ets t).length from rT.2.2.1]
          refine a_icmp_ge K dX11_laysOwn_23 (tgt := 104) (by decide) (fun c_23 => ?_) (fun c_23 => absurd c_23 (fun z => z (nI_le (a := (ets t).length) (b := i) (by omega) (by omega))))
          exact a_vret K EE (by omega) (by omega) dX11_laysOwn_104 ⟨rfl, by rw [hev]; rw [show i = (ets t).length by omega, List.take_length] at hO; exact hO, f⟩
        | succ n ih =>
          intro i x T hx0 hn hM hO f
          subst hx0
          have rT := f.rep hM0 (by decide) (by decide) (by decide) (by decide) (by decide) (by decide) rp
          have hi : i < (ets t).length := by omega
          have hx := List.getElem?_eq_getElem hi
          have hKl : (E ++ (ets t).take i).length = E.length + i := by rw [List.length_append, List.length_take]; omega
          refine a_iload_n K dX11_laysOwn_16 rfl ?_
          first | refine a_aload_n K dX11_laysOwn_17 rfl ?_ | refine a_aload_nN K dX11_laysOwn_17 rfl ?_
          refine a_getRs K fd_X11_26 (by exact lm_o hM) (Or.inr ⟨_, rfl⟩) (by exact lm_r715 hM) dX11_laysOwn_18 ?_
          refine a_iload_n K dX11_laysOwn_21 rfl ?_
          refine a_iald K (by exact lm_kk hM (by decide) (by decide)) (by show vp_in _ (sN T (m 5)); exact lm_ix (z := 12000) hM (by decide) (by decide) (show ρ t.1 < 12000 by omega) (by decide)) dX11_laysOwn_22 ?_
          rw [nI_clamp (by omega)]
          rw [show sA T (m 5) (ρ t.1) = nI (ets t).length from rT.2.2.1]
          refine a_icmp_ge K dX11_laysOwn_23 (tgt := 104) (by decide) (fun c_23 => absurd c_23 (nI_ge (a := i) (b := (ets t).length) (by omega) (by omega))) (fun c_23 => ?_)
          first | refine a_aload_n K dX11_laysOwn_26 rfl ?_ | refine a_aload_nN K dX11_laysOwn_26 rfl ?_
          refine a_getRs K fd_X11_23 (by exact lm_o hM) (Or.inr ⟨_, rfl⟩) (by exact lm_r714 hM) dX11_laysOwn_27 ?_
          refine a_iload_n K dX11_laysOwn_30 rfl ?_
          refine a_iald K (by exact lm_kk hM (by decide) (by decide)) (by show vp_in _ (sN T (m 4)); exact lm_ix (z := 12000) hM (by decide) (by decide) (show ρ t.1 < 12000 by omega) (by decide)) dX11_laysOwn_31 ?_
          rw [nI_clamp (by omega)]
          rw [show sA T (m 4) (ρ t.1) = 1 from rT.2.1]
          refine a_if_ne K dX11_laysOwn_32 (tgt := 48) (by decide) (fun c_32 => ?_) (fun c_32 => absurd c_32 (by decide))
          first | refine a_aload_n K dX11_laysOwn_48 rfl ?_ | refine a_aload_nN K dX11_laysOwn_48 rfl ?_
          refine a_getRs K fd_X11_101 (by exact lm_o hM) (Or.inr ⟨_, rfl⟩) (by exact lm_r751 hM) dX11_laysOwn_49 ?_
          first | refine a_aload_n K dX11_laysOwn_52 rfl ?_ | refine a_aload_nN K dX11_laysOwn_52 rfl ?_
          refine a_getI K fd_X11_353 (by exact lm_o hM) (Or.inl rfl) dX11_laysOwn_53 ?_
          rw [hO.1]
          first | refine a_aload_n K dX11_laysOwn_56 rfl ?_ | refine a_aload_nN K dX11_laysOwn_56 rfl ?_
          refine a_getRs K fd_X11_39 (by exact lm_o hM) (Or.inr ⟨_, rfl⟩) (by exact lm_r719 hM) dX11_laysOwn_57 ?_
          refine a_bipush K dX11_laysOwn_60 (v := 7) (by decide) ?_
          refine a_iload_n K dX11_laysOwn_62 rfl ?_
          refine a_imul K dX11_laysOwn_63 ?_
          rw [nI_7]
          refine a_iload_n K dX11_laysOwn_64 rfl ?_
          refine a_iadd K dX11_laysOwn_65 ?_
          rw [nI_add]
          refine a_iald K (by exact lm_kk hM (by decide) (by decide)) (by show vp_in _ (sN T (m 9)); exact lm_ix (z := 84000) hM (by decide) (by decide) (show 7 * ρ t.1 + i < 84000 by omega) (by decide)) dX11_laysOwn_66 ?_
          rw [nI_clamp (by omega)]
          rw [show sA T (m 9) (7 * ρ t.1 + i) = ((ets t)[i]).1 from (rT.ent hx).1]
          refine a_iast K (by exact lm_kk hM (by decide) (by decide)) (by show vp_in _ (sN T (m 28)); exact lm_ix (z := 60) hM (by decide) (by decide) (show (E ++ (ets t).take i).length < 60 by omega) (by decide)) dX11_laysOwn_67 ?_
          rw [nI_clamp (by omega)]
          first | refine a_aload_n K dX11_laysOwn_68 rfl ?_ | refine a_aload_nN K dX11_laysOwn_68 rfl ?_
          refine a_getRs K fd_X11_104 (by exact lm_o hM) (Or.inr ⟨_, rfl⟩) (by exact lm_r752 hM) dX11_laysOwn_69 ?_
          first | refine a_aload_n K dX11_laysOwn_72 rfl ?_ | refine a_aload_nN K dX11_laysOwn_72 rfl ?_
          refine a_getI K fd_X11_353 (by exact lm_o hM) (Or.inl rfl) dX11_laysOwn_73 ?_
          rw [show sI (wA T (m 28) (E ++ (ets t).take i).length ((ets t)[i]).1) 753 (m 33) = nI (E ++ (ets t).take i).length from hO.1]
          first | refine a_aload_n K dX11_laysOwn_76 rfl ?_ | refine a_aload_nN K dX11_laysOwn_76 rfl ?_
          refine a_getRs K fd_X11_42 (by exact lm_o hM) (Or.inr ⟨_, rfl⟩) (by exact lm_r720 hM) dX11_laysOwn_77 ?_
          refine a_bipush K dX11_laysOwn_80 (v := 7) (by decide) ?_
          refine a_iload_n K dX11_laysOwn_82 rfl ?_
          refine a_imul K dX11_laysOwn_83 ?_
          rw [nI_7]
          refine a_iload_n K dX11_laysOwn_84 rfl ?_
          refine a_iadd K dX11_laysOwn_85 ?_
          rw [nI_add]
          refine a_iald K (by exact lm_kk hM (by decide) (by decide)) (by show vp_in _ (sN T (m 10)); exact lm_ix (z := 84000) hM (by decide) (by decide) (show 7 * ρ t.1 + i < 84000 by omega) (by decide)) dX11_laysOwn_86 ?_
          rw [nI_clamp (by omega)]
          rw [show sA (wA T (m 28) (E ++ (ets t).take i).length ((ets t)[i]).1) (m 10) (7 * ρ t.1 + i) = ((ets t)[i]).2 from by rw [sA_wA, if_neg (fun z => lm_ne hM (by decide) (by decide) (by decide) z.1)]; exact (rT.ent hx).2.1]
          refine a_iast K (by exact lm_kk hM (by decide) (by decide)) (by show vp_in _ (sN T (m 29)); exact lm_ix (z := 60) hM (by decide) (by decide) (show (E ++ (ets t).take i).length < 60 by omega) (by decide)) dX11_laysOwn_87 ?_
          rw [nI_clamp (by omega)]
          first | refine a_aload_n K dX11_laysOwn_88 rfl ?_ | refine a_aload_nN K dX11_laysOwn_88 rfl ?_
          refine a_dup K dX11_laysOwn_89 rfl ?_
          refine a_getI K fd_X11_353 (by exact lm_o hM) (Or.inl rfl) dX11_laysOwn_90 ?_
          rw [show sI (wA (wA T (m 28) (E ++ (ets t).take i).length ((ets t)[i]).1) (m 29) (E ++ (ets t).take i).length ((ets t)[i]).2) 753 (m 33) = nI (E ++ (ets t).take i).length from hO.1]
          refine a_iconst K dX11_laysOwn_93 (v := 1) (by decide) ?_
          refine a_iadd K dX11_laysOwn_94 ?_
          rw [nI_1]
          refine a_putI K fd_X11_353 (by exact lm_o hM) rfl dX11_laysOwn_95 ?_
          refine a_iinc K dX11_laysOwn_98 (v := 1) rfl (by decide) (by decide) ?_
          refine a_goto K dX11_laysOwn_101 (tgt := 16) (by decide) ?_
          exact aw_locl rfl (ih (i + 1) _ (owS T m (E ++ (ets t).take i).length (ets t)[i]) (nI_1 i) (by omega) (owS_fr.lay hM) (by have k := OwM.key hM hO (x := (ets t)[i]); rw [List.take_succ_eq_append_getElem hi, ← List.append_assoc]; exact k) (f.tr owS_fr))
      first | refine a_aload_n K dX11_laysOwn_0 rfl ?_ | refine a_aload_nN K dX11_laysOwn_0 rfl ?_
      refine a_getRs K fd_X11_32 (by exact lm_o hM0) (Or.inr ⟨_, rfl⟩) (by exact lm_r717 hM0) dX11_laysOwn_1 ?_
      refine a_iload_n K dX11_laysOwn_4 rfl ?_
      refine a_iald K (by exact lm_kk hM0 (by decide) (by decide)) (by show vp_in _ (sN S (m 7)); exact lm_ix (z := 12000) hM0 (by decide) (by decide) (show ρ t.1 < 12000 by omega) (by decide)) dX11_laysOwn_5 ?_
      rw [nI_clamp (by omega)]
      first | refine a_aload_n K dX11_laysOwn_6 rfl ?_ | refine a_aload_nN K dX11_laysOwn_6 rfl ?_
      refine a_getI K fd_X11_255 (by exact lm_o hM0) (Or.inl rfl) dX11_laysOwn_7 ?_
      rw [hk0.1]
      refine a_icmp_ne K dX11_laysOwn_10 (tgt := 14) (by decide) (fun c_10 => ?_) (fun c_10 => absurd c_10 (fun z => hm ((hk0.2 _ hr).mp z)))
      refine a_iconst K dX11_laysOwn_14 (v := 0) (by decide) ?_
      refine a_istore_n K dX11_laysOwn_15 (by decide) ?_
      exact aw_locl rfl (loop (ets t).length 0 _ S nI_0.symm (by omega) hM0 (by rw [List.take_zero, List.append_nil]; exact hO0) frM.rf)
  | succ h ihh =>
    intro t S E hM0 rp hk0 hO0 hl
    have h7 : (kds t).length ≤ 7 := rp.1.2.2.2.2.1
    have hr := rp.own.1
    refine aw_enter (by decide +kernel) (Nat.le_of_ble_eq_true rfl) (fun g K EE => ?_)
    by_cases hm : mk (ρ t.1) = true
    · first | refine a_aload_n K dX11_laysOwn_0 rfl ?_ | refine a_aload_nN K dX11_laysOwn_0 rfl ?_
      refine a_getRs K fd_X11_32 (by exact lm_o hM0) (Or.inr ⟨_, rfl⟩) (by exact lm_r717 hM0) dX11_laysOwn_1 ?_
      refine a_iload_n K dX11_laysOwn_4 rfl ?_
      refine a_iald K (by exact lm_kk hM0 (by decide) (by decide)) (by show vp_in _ (sN S (m 7)); exact lm_ix (z := 12000) hM0 (by decide) (by decide) (show ρ t.1 < 12000 by omega) (by decide)) dX11_laysOwn_5 ?_
      rw [nI_clamp (by omega)]
      first | refine a_aload_n K dX11_laysOwn_6 rfl ?_ | refine a_aload_nN K dX11_laysOwn_6 rfl ?_
      refine a_getI K fd_X11_255 (by exact lm_o hM0) (Or.inl rfl) dX11_laysOwn_7 ?_
      rw [hk0.1]
      refine a_icmp_ne K dX11_laysOwn_10 (tgt := 14) (by decide) (fun c_10 => absurd c_10 (fun z => z ((hk0.2 _ hr).mpr hm))) (fun c_10 => ?_)
      exact a_vret K EE (by omega) (by omega) dX11_laysOwn_13 ⟨rfl, by rw [show ewV (fun i => mk (ρ i)) (h + 1) t = [] from by unfold ewV; exact if_pos hm, List.append_nil]; exact hO0, frM.rf⟩
    · have hev : ewV (fun i => mk (ρ i)) (h + 1) t = (kds t).flatMap (ewV (fun i => mk (ρ i)) h) := by unfold ewV; exact if_neg hm
      rw [hev] at hl
      have loop : ∀ (n i : Nat) (x : Int32) (T : aw_S), x = nI i → i + n = (kds t).length → LM T m → OwM T m (E ++ ((kds t).take i).flatMap (ewV (fun i => mk (ρ i)) h)) → frM S T m ksO fsO → aw g 3 T 0 0 [(2, .int x), (1, .int (nI (ρ t.1))), (0, .ref (m 33))] [] 16 := by
        intro n
        induction n with
        | zero =>
          intro i x T hx hn hM hO f
          subst hx
          have rT := f.rep hM0 (by decide) (by decide) (by decide) (by decide) (by decide) (by decide) rp
          refine a_iload_n K dX11_laysOwn_16 rfl ?_
          first | refine a_aload_n K dX11_laysOwn_17 rfl ?_ | refine a_aload_nN K dX11_laysOwn_17 rfl ?_
          refine a_getRs K fd_X11_26 (by exact lm_o hM) (Or.inr ⟨_, rfl⟩) (by exact lm_r715 hM) dX11_laysOwn_18 ?_
          refine a_iload_n K dX11_laysOwn_21 rfl ?_
          refine a_iald K (by exact lm_kk hM (by decide) (by decide)) (by show vp_in _ (sN T (m 5)); exact lm_ix (z := 12000) hM (by decide) (by decide) (show ρ t.1 < 12000 by omega) (by decide)) dX11_laysOwn_22 ?_
          rw [nI_clamp (by omega)]
          rw [show sA T (m 5) (ρ t.1) = nI (kds t).length from rT.1.2.2.1]
          refine a_icmp_ge K dX11_laysOwn_23 (tgt := 104) (by decide) (fun c_23 => ?_) (fun c_23 => absurd c_23 (fun z => z (nI_le (a := (kds t).length) (b := i) (by omega) (by omega))))
          exact a_vret K EE (by omega) (by omega) dX11_laysOwn_104 ⟨rfl, by rw [hev]; rw [show i = (kds t).length by omega, List.take_length] at hO; exact hO, f⟩
        | succ n ih =>
          intro i x T hx0 hn hM hO f
          subst hx0
          have rT := f.rep hM0 (by decide) (by decide) (by decide) (by decide) (by decide) (by decide) rp
          have hi : i < (kds t).length := by omega
          have hc := List.getElem?_eq_getElem hi
          have hsp := get_split hc
          generalize hcc : (kds t)[i] = c at hc hsp
          have hk1 : (E ++ ((kds t).take i).flatMap (ewV (fun i => mk (ρ i)) h)).length + (ewV (fun i => mk (ρ i)) h c).length ≤ 60 := by
            have e := congrArg (fun l : List (Tr h) => (l.flatMap (ewV (fun i => mk (ρ i)) h)).length) hsp
            have e : ((kds t).flatMap (ewV (fun i => mk (ρ i)) h)).length = (((kds t).take i ++ c :: (kds t).drop (i + 1)).flatMap (ewV (fun i => mk (ρ i)) h)).length := e
            rw [List.flatMap_append, List.flatMap_cons, List.length_append, List.length_append] at e
            rw [List.length_append]
            omega
          refine a_iload_n K dX11_laysOwn_16 rfl ?_
          first | refine a_aload_n K dX11_laysOwn_17 rfl ?_ | refine a_aload_nN K dX11_laysOwn_17 rfl ?_
          refine a_getRs K fd_X11_26 (by exact lm_o hM) (Or.inr ⟨_, rfl⟩) (by exact lm_r715 hM) dX11_laysOwn_18 ?_
          refine a_iload_n K dX11_laysOwn_21 rfl ?_
          refine a_iald K (by exact lm_kk hM (by decide) (by decide)) (by show vp_in _ (sN T (m 5)); exact lm_ix (z := 12000) hM (by decide) (by decide) (show ρ t.1 < 12000 by omega) (by decide)) dX11_laysOwn_22 ?_
          rw [nI_clamp (by omega)]
          rw [show sA T (m 5) (ρ t.1) = nI (kds t).length from rT.1.2.2.1]
          refine a_icmp_ge K dX11_laysOwn_23 (tgt := 104) (by decide) (fun c_23 => absurd c_23 (nI_ge (a := i) (b := (kds t).length) (by omega) (by omega))) (fun c_23 => ?_)
          first | refine a_aload_n K dX11_laysOwn_26 rfl ?_ | refine a_aload_nN K dX11_laysOwn_26 rfl ?_
          refine a_getRs K fd_X11_23 (by exact lm_o hM) (Or.inr ⟨_, rfl⟩) (by exact lm_r714 hM) dX11_laysOwn_27 ?_
          refine a_iload_n K dX11_laysOwn_30 rfl ?_
          refine a_iald K (by exact lm_kk hM (by decide) (by decide)) (by show vp_in _ (sN T (m 4)); exact lm_ix (z := 12000) hM (by decide) (by decide) (show ρ t.1 < 12000 by omega) (by decide)) dX11_laysOwn_31 ?_
          rw [nI_clamp (by omega)]
          rw [show sA T (m 4) (ρ t.1) = 0 from rT.1.2.1]
          refine a_if_ne K dX11_laysOwn_32 (tgt := 48) (by decide) (fun c_32 => absurd c_32 (fun z => z rfl)) (fun c_32 => ?_)
          first | refine a_aload_n K dX11_laysOwn_35 rfl ?_ | refine a_aload_nN K dX11_laysOwn_35 rfl ?_
          first | refine a_aload_n K dX11_laysOwn_36 rfl ?_ | refine a_aload_nN K dX11_laysOwn_36 rfl ?_
          refine a_iload_n K dX11_laysOwn_37 rfl ?_
          refine a_iload_n K dX11_laysOwn_38 rfl ?_
          refine a_invV K (m_child hM (r := ρ t.1) (k := i) hr (by omega)) my_X11_child ml_X11_197 im_X11_child se_X11_child (ci := 11) (by exact lm_o hM) (by decide) ⟨_, _, rfl⟩ rfl (by omega) (by omega) (by omega) rfl (Nat.le_of_ble_eq_true rfl) dX11_laysOwn_39 ?_
          intro r9 S9 hp9
          obtain ⟨rfl, hS9⟩ := hp9
          obtain rfl := hS9.symm
          rw [(rT.kid hc).2.1]
          refine a_invV K (ihh c T (E ++ ((kds t).take i).flatMap (ewV (fun i => mk (ρ i)) h)) hM (rT.kid hc).1 (hk0.fr hM0 f (by decide) (by decide) (by decide)) hO hk1) my_X11_laysOwn ml_X11_350 im_X11_laysOwn se_X11_laysOwn (ci := 11) (by exact lm_o hM) (by decide) ⟨_, _, rfl⟩ rfl (by omega) (by omega) (by omega) rfl (Nat.le_of_ble_eq_true rfl) dX11_laysOwn_42 ?_
          intro r9 T2 hp9
          obtain ⟨rfl, hO2, f2⟩ := hp9
          refine a_goto K dX11_laysOwn_45 (tgt := 98) (by decide) ?_
          refine a_iinc K dX11_laysOwn_98 (v := 1) rfl (by decide) (by decide) ?_
          refine a_goto K dX11_laysOwn_101 (tgt := 16) (by decide) ?_
          exact aw_locl rfl (ih (i + 1) _ T2 (nI_1 i) (by omega) (f2.lay hM) (by rw [List.take_succ_eq_append_getElem hi, hcc, List.flatMap_append, List.flatMap_cons, List.flatMap_nil, List.append_nil, ← List.append_assoc]; exact hO2) (f.tr f2))
      first | refine a_aload_n K dX11_laysOwn_0 rfl ?_ | refine a_aload_nN K dX11_laysOwn_0 rfl ?_
      refine a_getRs K fd_X11_32 (by exact lm_o hM0) (Or.inr ⟨_, rfl⟩) (by exact lm_r717 hM0) dX11_laysOwn_1 ?_
      refine a_iload_n K dX11_laysOwn_4 rfl ?_
      refine a_iald K (by exact lm_kk hM0 (by decide) (by decide)) (by show vp_in _ (sN S (m 7)); exact lm_ix (z := 12000) hM0 (by decide) (by decide) (show ρ t.1 < 12000 by omega) (by decide)) dX11_laysOwn_5 ?_
      rw [nI_clamp (by omega)]
      first | refine a_aload_n K dX11_laysOwn_6 rfl ?_ | refine a_aload_nN K dX11_laysOwn_6 rfl ?_
      refine a_getI K fd_X11_255 (by exact lm_o hM0) (Or.inl rfl) dX11_laysOwn_7 ?_
      rw [hk0.1]
      refine a_icmp_ne K dX11_laysOwn_10 (tgt := 14) (by decide) (fun c_10 => ?_) (fun c_10 => absurd c_10 (fun z => hm ((hk0.2 _ hr).mp z)))
      refine a_iconst K dX11_laysOwn_14 (v := 0) (by decide) ?_
      refine a_istore_n K dX11_laysOwn_15 (by decide) ?_
      exact aw_locl rfl (loop (kds t).length 0 _ S nI_0.symm (by omega) hM0 (by rw [List.take_zero, List.flatMap_nil, List.append_nil]; exact hO0) frM.rf)
set_option maxHeartbeats 4000000 in
set_option maxRecDepth 100000 in
theorem q_ruled {S : aw_S} {a b r : Int32} (ha : ¬ a = -1000000) : aw_M yX11_ruled cX11_ruled 3 (some FieldType.int) 2 0 0 [.int a, .int b, .int r] S (fun q S2 => q = some (.int (rulV a b r)) ∧ S2 = S) := by
  refine aw_enter (by decide +kernel) (Nat.le_of_ble_eq_true rfl) (fun g K EE => ?_)
  by_cases r0 : r = 0
  · refine a_iload_n K dX11_ruled_0 rfl ?_
    refine a_if_ne K dX11_ruled_1 (tgt := 8) (by decide) (fun c_1 => absurd c_1 (fun z => z r0)) (fun c_1 => ?_)
    refine a_iload_n K dX11_ruled_4 rfl ?_
    refine a_goto K dX11_ruled_5 (tgt := 36) (by decide) ?_
    exact a_iret K EE rfl (by omega) (by omega) dX11_ruled_36 ⟨by refine congrArg (fun q => some (Value.int q)) ?_; symm; unfold rulV; rw [if_neg (fun e => e.elim ha (fun e1 => by rw [r0] at e1; revert e1; decide)), if_pos r0], rfl⟩
  by_cases r1 : r = 1
  · refine a_iload_n K dX11_ruled_0 rfl ?_
    refine a_if_ne K dX11_ruled_1 (tgt := 8) (by decide) (fun c_1 => ?_) (fun c_1 => absurd c_1 (r0))
    refine a_iload_n K dX11_ruled_8 rfl ?_
    refine a_iconst K dX11_ruled_9 (v := 1) (by decide) ?_
    refine a_icmp_ne K dX11_ruled_10 (tgt := 17) (by decide) (fun c_10 => absurd c_10 (fun z => z r1)) (fun c_10 => ?_)
    refine a_iload_n K dX11_ruled_13 rfl ?_
    refine a_goto K dX11_ruled_14 (tgt := 36) (by decide) ?_
    exact a_iret K EE rfl (by omega) (by omega) dX11_ruled_36 ⟨by refine congrArg (fun q => some (Value.int q)) ?_; symm; unfold rulV; rw [if_pos (Or.inr r1)], rfl⟩
  by_cases r2 : r = 2
  · refine a_iload_n K dX11_ruled_0 rfl ?_
    refine a_if_ne K dX11_ruled_1 (tgt := 8) (by decide) (fun c_1 => ?_) (fun c_1 => absurd c_1 (r0))
    refine a_iload_n K dX11_ruled_8 rfl ?_
    refine a_iconst K dX11_ruled_9 (v := 1) (by decide) ?_
    refine a_icmp_ne K dX11_ruled_10 (tgt := 17) (by decide) (fun c_10 => ?_) (fun c_10 => absurd c_10 (r1))
    refine a_iload_n K dX11_ruled_17 rfl ?_
    refine a_iconst K dX11_ruled_18 (v := 2) (by decide) ?_
    refine a_icmp_ne K dX11_ruled_19 (tgt := 30) (by decide) (fun c_19 => absurd c_19 (fun z => z r2)) (fun c_19 => ?_)
    refine a_iload_n K dX11_ruled_22 rfl ?_
    refine a_iload_n K dX11_ruled_23 rfl ?_
    refine a_mmax K ml_X11_313 (by omega) (Nat.le_of_ble_eq_true rfl) (by omega) (by omega) dX11_ruled_24 ?_
    refine a_goto K dX11_ruled_27 (tgt := 36) (by decide) ?_
    exact a_iret K EE rfl (by omega) (by omega) dX11_ruled_36 ⟨by refine congrArg (fun q => some (Value.int q)) ?_; symm; unfold rulV; rw [if_neg (fun e => e.elim ha r1), if_neg r0, if_pos r2], rfl⟩
  · refine a_iload_n K dX11_ruled_0 rfl ?_
    refine a_if_ne K dX11_ruled_1 (tgt := 8) (by decide) (fun c_1 => ?_) (fun c_1 => absurd c_1 (r0))
    refine a_iload_n K dX11_ruled_8 rfl ?_
    refine a_iconst K dX11_ruled_9 (v := 1) (by decide) ?_
    refine a_icmp_ne K dX11_ruled_10 (tgt := 17) (by decide) (fun c_10 => ?_) (fun c_10 => absurd c_10 (r1))
    refine a_iload_n K dX11_ruled_17 rfl ?_
    refine a_iconst K dX11_ruled_18 (v := 2) (by decide) ?_
    refine a_icmp_ne K dX11_ruled_19 (tgt := 30) (by decide) (fun c_19 => ?_) (fun c_19 => absurd c_19 (r2))
    refine a_iload_n K dX11_ruled_30 rfl ?_
    refine a_iload_n K dX11_ruled_31 rfl ?_
    refine a_iadd K dX11_ruled_32 ?_
    refine a_invS K (q_held) my_X11_held ml_X11_348 st_X11_held rfl (by omega) (by omega) (by omega) rfl (Nat.le_of_ble_eq_true rfl) dX11_ruled_33 ?_
    intro r9 S9 hp9
    obtain ⟨rfl, hS9⟩ := hp9
    obtain rfl := hS9.symm
    exact a_iret K EE rfl (by omega) (by omega) dX11_ruled_36 ⟨by refine congrArg (fun q => some (Value.int q)) ?_; symm; unfold rulV; rw [if_neg (fun e => e.elim ha r1), if_neg r0, if_neg r2], rfl⟩
