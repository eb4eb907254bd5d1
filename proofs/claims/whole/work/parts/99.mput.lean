/-! the model: puts -/
theorem spl_no {w tk u h : Nat} {t : Tr h} (n : ¬ w < t.2.2.length) : spl w tk u t = (t, none, u) := if_neg n
theorem spl_yes {w tk u h : Nat} {t : Tr h} (n : w < t.2.2.length) : spl w tk u t = ((t.1, t.2.1, t.2.2.take (t.2.2.length - lea w)), some (u, tk, t.2.2.drop (t.2.2.length - lea w)), u + 1) := if_pos n
/-- put below a node whose way is edited, itself not parted yet -/
def insR (w tk : Nat) (key v : Int32) : (h : Nat) → Nat → Tr h → Tr h × Nat
  | 0, u, t => ((t.1, t.2.1, setE (ets t) key v), u)
  | h + 1, u, t => match (kds t)[place key (kds t)]? with
    | none => (t, u)
    | some c => (nod t.1 t.2.1 ((kds t).take (place key (kds t)) ++ ((insB w tk key v h u c).1 :: (insB w tk key v h u c).2.1.toList ++ (kds t).drop (place key (kds t) + 1))), (insB w tk key v h u c).2.2)
theorem insR_s {w tk : Nat} {key v : Int32} {h u : Nat} {t : Tr (h + 1)} {c : Tr h} (hc : (kds t)[place key (kds t)]? = some c) : insR w tk key v (h + 1) u t = (nod t.1 t.2.1 ((kds t).take (place key (kds t)) ++ ((insB w tk key v h u c).1 :: (insB w tk key v h u c).2.1.toList ++ (kds t).drop (place key (kds t) + 1))), (insB w tk key v h u c).2.2) := by rw [insR, hc]
theorem insB_R {w tk : Nat} {key v : Int32} {h u : Nat} {t : Tr h} (o : OwT tk key h t) (ne : NeT h t) : insB w tk key v h u t = spl w tk (insR w tk key v h u t).2 (insR w tk key v h u t).1 := by
  cases h with
  | zero => rfl
  | succ h =>
    have hc := List.getElem?_eq_getElem (place_lt (key := key) ne.1)
    generalize (kds t)[place key (kds t)]'(place_lt (key := key) ne.1) = c at hc
    rw [insB_s hc, edt_own (o.2 c hc).tk, insR_s hc]
theorem insR_id {w tk : Nat} {key v : Int32} {h u : Nat} {t : Tr h} (ne : NeT h t) : (insR w tk key v h u t).1.1 = t.1 ∧ (insR w tk key v h u t).1.2.1 = t.2.1 := by
  cases h with
  | zero => exact ⟨rfl, rfl⟩
  | succ h =>
    have hc := List.getElem?_eq_getElem (place_lt (key := key) ne.1)
    generalize (kds t)[place key (kds t)]'(place_lt (key := key) ne.1) = c at hc
    rw [insR_s hc]
    exact ⟨rfl, rfl⟩
theorem insR_grw {w tk : Nat} {key v : Int32} {h u : Nat} {t : Tr h} (o : OwT tk key h t) (ne : NeT h t) (b : bdd u (ndl h t)) : grw u (insR w tk key v h u t).2 tk (ndl h t) (ndl h (insR w tk key v h u t).1) := by
  cases h with
  | zero => exact grw.rf b
  | succ h =>
    have hc := List.getElem?_eq_getElem (place_lt (key := key) ne.1)
    generalize (kds t)[place key (kds t)]'(place_lt (key := key) ne.1) = c at hc
    have hd := get_split hc
    rw [insR_s hc]
    rw [ndl_kds hd] at b
    obtain ⟨-, g2⟩ := insB_grw (w := w) (tk := tk) (key := key) (v := v) h (u := u) (t := c) b.tl.mid
    have g3 := grw.con _ b (grw.ctx _ _ b.tl g2)
    have e : ndl (h + 1) (nod t.1 t.2.1 ((kds t).take (place key (kds t)) ++ ((insB w tk key v h u c).1 :: (insB w tk key v h u c).2.1.toList ++ (kds t).drop (place key (kds t) + 1)))) = (t.1, t.2.1) :: (((kds t).take (place key (kds t))).flatMap (ndl h) ++ ((ndl h (insB w tk key v h u c).1 ++ (insB w tk key v h u c).2.1.toList.flatMap (ndl h)) ++ ((kds t).drop (place key (kds t) + 1)).flatMap (ndl h))) := by
      rw [ndl_nod, List.flatMap_append, List.flatMap_append, List.flatMap_cons]
    show grw u (insB w tk key v h u c).2.2 tk (ndl (h + 1) t) (ndl (h + 1) (nod t.1 t.2.1 ((kds t).take (place key (kds t)) ++ ((insB w tk key v h u c).1 :: (insB w tk key v h u c).2.1.toList ++ (kds t).drop (place key (kds t) + 1)))))
    rw [e, ndl_kds hd]
    exact g3
theorem ins_td {α : Type} : ∀ (l : List α) (k : Nat) (x : α), k ≤ l.length → l.insertIdx k x = l.take k ++ x :: l.drop k
  | l, 0, x, _ => by rw [List.insertIdx_zero, List.take_zero, List.drop_zero, List.nil_append]
  | [], k + 1, x, h => absurd h (by simp)
  | a :: l, k + 1, x, h => by
    rw [List.insertIdx_succ_cons, List.take_succ_cons, List.drop_succ_cons, List.cons_append, ins_td l k x (Nat.le_of_succ_le_succ h)]
theorem setE_no {es : List KV} {key v : Int32} (h : ∀ x ∈ es, ¬ x.1 = key) : setE es key v = es.take (kpl es key) ++ (key, v) :: es.drop (kpl es key) := by
  rw [← ins_td es _ _ (kpl_le key es)]
  by_cases hl : kpl es key < es.length
  · exact setE_new2 hl (h _ (List.getElem_mem hl))
  · exact setE_new (Nat.le_of_not_lt hl)
theorem kpl_is {es : List KV} {key : Int32} {k : Nat} {x : KV} (hs : srt es) (hx : es[k]? = some x) (e : x.1 = key) : kpl es key = k := by
  have hk := (List.getElem?_eq_some_iff.mp hx).1
  refine kpl_at (fun j y hj hy => ?_) (fun y hy => ?_) (Nat.le_of_lt hk)
  · obtain ⟨h1, h2⟩ := List.getElem?_eq_some_iff.mp hy
    obtain ⟨h3, h4⟩ := List.getElem?_eq_some_iff.mp hx
    rw [← e, ← h2, ← h4]
    exact List.pairwise_iff_getElem.mp hs j k h1 h3 hj
  · rw [hx] at hy
    rw [← Option.some.inj hy, e]
    exact lt_ir key
theorem setE_is {es : List KV} {key v : Int32} {k : Nat} {x : KV} (hs : srt es) (hx : es[k]? = some x) (e : x.1 = key) : setE es key v = es.set k (key, v) := by
  have h1 := kpl_is hs hx e
  have hk := (List.getElem?_eq_some_iff.mp hx)
  rw [setE_old (by rw [h1]; exact hk.1) (by
    have h2 : es[kpl es key]? = some x := by rw [h1]; exact hx
    obtain ⟨h3, h4⟩ := List.getElem?_eq_some_iff.mp h2
    rw [h4]; exact e), h1]
/-- a value written -/
theorem tv_fr {T : aw_S} {m : Nat → Nat} (hM : LM T m) {r i : Nat} {v : Int32} (hi : i < 7) : frR T (wA T (m 10) (7 * r + i) v) m (fun q => q = r) [] ∧ (∀ q, gL (wA T (m 10) (7 * r + i) v) m q = gL T m q ∧ gN (wA T (m 10) (7 * r + i) v) m q = gN T m q ∧ gT (wA T (m 10) (7 * r + i) v) m q = gT T m q) ∧ ∀ q k, k < 7 → eM (wA T (m 10) (7 * r + i) v) m q k = if q = r ∧ k = i then (g1 T m q k, v) else eM T m q k := by
  have n : ∀ j, j < 34 → j ≠ 10 → sA (wA T (m 10) (7 * r + i) v) (m j) = sA T (m j) := fun j hj h9 => by
    funext k
    rw [sA_wA, if_neg (fun z => lm_ne hM hj (by decide) h9 z.1)]
  have hg : ∀ q, gL (wA T (m 10) (7 * r + i) v) m q = gL T m q ∧ gN (wA T (m 10) (7 * r + i) v) m q = gN T m q ∧ gT (wA T (m 10) (7 * r + i) v) m q = gT T m q := fun q => ⟨congrFun (n 4 (by decide) (by decide)) q, congrFun (n 5 (by decide) (by decide)) q, congrFun (n 6 (by decide) (by decide)) q⟩
  have h1 : ∀ q k, k < 7 → eM (wA T (m 10) (7 * r + i) v) m q k = if q = r ∧ k = i then (g1 T m q k, v) else eM T m q k := fun q k hk => by
    unfold eM g1 g2
    rw [n 9 (by decide) (by decide), sA_wA]
    by_cases e : q = r ∧ k = i
    · rw [if_pos e, if_pos ⟨rfl, by rw [e.1, e.2]⟩]
    · rw [if_neg e, if_neg (fun z => e (by have := z.2; omega))]
  exact ⟨⟨frM_wA (by decide), fun q hq hR => ⟨(hg q).1, (hg q).2.1, (hg q).2.2, fun k hk => by rw [h1 q k hk, if_neg (fun z => hR z.1)]⟩⟩, hg, h1⟩
/-- a leaf's value written, over trees -/
theorem val_row {S : aw_S} {m ρ : Nat → Nat} {u tk k : Nat} {t : Tr 0} {Z : List Nat × Nat} {key v : Int32} {x : KV} (hM : LM S m) (rp : RepM S m ρ 0 t) (hF : FrM S m Z.1 Z.2) (nd : Z.1.Nodup) (hs : srt (ets t)) (hx : (ets t)[k]? = some x) (e : x.1 = key) : RepM (wA S (m 10) (7 * ρ t.1 + k) v) m ρ 0 (t.1, t.2.1, setE (ets t) key v) ∧ GM S (wA S (m 10) (7 * ρ t.1 + k) v) m ρ ρ u u Z Z tk [(t.1, tk)] := by
  have n : NdM S m ρ 0 t := rp
  obtain ⟨l, rl, w⟩ := n.raw
  have w : l = ets t := w
  have hk := (List.getElem?_eq_some_iff.mp hx).1
  have h7 : (ets t).length ≤ 7 := n.2.2.2.2.1
  obtain ⟨f1, f2, f3⟩   := tv_fr (T := S) (r := ρ t.1) (i := k) (v := v) hM (by omega)
  have es := setE_is (v := v) hs hx e
  refine ⟨RepM_row (l2 := setE (ets t) key v) n f1 (f2 _).1 (f2 _).2.2 ⟨?_, fun j y hy => ?_⟩ rfl ?_ trivial (fun x hx => absurd hx (by simp [blw])), GM_row hM hF nd f1 List.mem_cons_self⟩
  · rw [(f2 _).2.1, rl.1, w, es, List.length_set]
  · rw [es] at hy
    have hj : j < ((ets t).set k (key, v)).length := (List.getElem?_eq_some_iff.mp hy).1
    rw [List.length_set] at hj
    rw [f3 _ j (by omega)]
    rw [List.getElem?_set] at hy
    by_cases z : k = j
    · rw [if_pos z, if_pos hk] at hy
      rw [if_pos ⟨rfl, z.symm⟩, ← Option.some.inj hy, ← z, ← e]
      have h9 := rl.2 k x (by rw [w]; exact hx)
      have h10 : g1 S m (ρ t.1) k = x.1 := congrArg Prod.fst h9
      rw [h10]
    · rw [if_neg z] at hy
      rw [if_neg (fun y => z y.2.symm)]
      exact rl.2 j y (by rw [w]; exact hy)
  · show (setE (ets t) key v).length ≤ 7
    rw [es, List.length_set]
    exact h7
theorem set_td {α : Type} {l : List α} {p : Nat} {x b : α} (h : p < l.length) : (l.set p x).take (p + 1) ++ b :: (l.set p x).drop (p + 1) = l.take p ++ (x :: [b] ++ l.drop (p + 1)) := by
  rw [List.drop_set_of_lt (Nat.lt_succ_self _), set_split h, List.take_append, List.take_of_length_le (by rw [List.length_take]; omega), List.length_take, show p + 1 - min p l.length = 1 by omega, List.take_succ_cons, List.take_zero, List.append_assoc]
  rfl
theorem fan_kid {lo hi h p : Nat} {t : Tr (h + 1)} {c : Tr h} (hl : 1 ≤ lo) (o : okT lo hi (h + 1) t) (hc : (kds t)[p]? = some c) : okT lo hi h c ∧ c.2.2.length ≤ hi ∧ lo ≤ c.2.2.length := by
  have f := okT_k o c (List.mem_of_getElem? hc)
  exact ⟨okT_fan hl f, (fan_L.mp f).1.2, (fan_L.mp f).1.1⟩
theorem sub_td {h : Nat} {t : Tr h} (n : Nat) : (∀ x ∈ ndl h (t.1, t.2.1, t.2.2.take n), x ∈ ndl h t) := fun x hx => by
  rw [ndl_L] at hx ⊢
  exact (List.mem_cons.mp hx).elim (fun z => by rw [z]; exact List.mem_cons_self) (fun z => List.mem_cons_of_mem _ ((blw_td n).1 x z))
theorem setg_grw {u u1 tk h p : Nat} {t : Tr (h + 1)} {c c1 : Tr h} (hc : (kds t)[p]? = some c) (b : bdd u (ndl (h + 1) t)) (g : grw u u1 tk (ndl h c) (ndl h c1)) : grw u u1 tk (ndl (h + 1) t) (ndl (h + 1) (nod t.1 t.2.1 ((kds t).set p c1))) := by
  have hd := get_split hc
  show grw u u1 tk (ndl (h + 1) t) ((t.1, t.2.1) :: ((kds t).set p c1).flatMap (ndl h))
  rw [set_split (List.getElem?_eq_some_iff.mp hc).1, List.flatMap_append, List.flatMap_cons, ndl_kds hd]
  rw [ndl_kds hd] at b
  exact grw.con _ b (grw.ctx _ _ b.tl g)
/-- how many are made below -/
theorem insB_mk {w tk : Nat} {key v : Int32} : ∀ (h u : Nat) (t : Tr h), OwT tk key h t → NeT h t → (insB w tk key v h u t).2.2 ≤ u + h + 1
  | 0, u, t, _, _ => by
    show (spl (h := 0) w tk u (t.1, t.2.1, setE (ets t) key v)).2.2 ≤ _
    unfold spl
    split
    · exact Nat.le_refl _
    · exact Nat.le_succ _
  | h + 1, u, t, ow, ne => by
    have hc := List.getElem?_eq_getElem (place_lt (key := key) ne.1)
    generalize (kds t)[place key (kds t)]'(place_lt (key := key) ne.1) = c at hc
    rw [insB_R ow ne, insR_s hc]
    have h1 := insB_mk (w := w) (v := v) h u c (ow.2 c hc) (ne.2 c (List.mem_of_getElem? hc))
    unfold spl
    split
    · show (insB w tk key v h u c).2.2 + 1 ≤ _
      omega
    · show (insB w tk key v h u c).2.2 ≤ _
      omega
theorem insR_mk {w tk : Nat} {key v : Int32} {h u : Nat} {t : Tr h} (ow : OwT tk key h t) (ne : NeT h t) : (insR w tk key v h u t).2 ≤ u + h := by
  cases h with
  | zero => exact Nat.le_refl _
  | succ h =>
    have hc := List.getElem?_eq_getElem (place_lt (key := key) ne.1)
    generalize (kds t)[place key (kds t)]'(place_lt (key := key) ne.1) = c at hc
    rw [insR_s hc]
    exact insB_mk h u c (ow.2 c hc) (ne.2 c (List.mem_of_getElem? hc))
theorem dnT_mk {tk : Nat} {key : Int32} : ∀ (h u : Nat) (t : Tr h), (dnT tk key h u t).2 ≤ u + h ∧ u ≤ (dnT tk key h u t).2
  | 0, _, _ => ⟨Nat.le_refl _, Nat.le_refl _⟩
  | h + 1, u, t => by
    cases hc : (kds t)[place key (kds t)]? with
    | none => rw [dnT_n hc]; exact ⟨Nat.le_add_right _ _, Nat.le_refl _⟩
    | some c =>
      rw [dnT_s hc]
      have h1 := dnT_mk (tk := tk) (key := key) h (edt tk u c).2 (edt tk u c).1
      have h2 := edt_1 (tk := tk) (u := u) (t := c)
      show (dnT tk key h (edt tk u c).2 (edt tk u c).1).2 ≤ _ ∧ _ ≤ (dnT tk key h (edt tk u c).2 (edt tk u c).1).2
      omega
theorem dnT_ne {tk : Nat} {key : Int32} : ∀ (h u : Nat) (t : Tr h), NeT h t → NeT h (dnT tk key h u t).1
  | 0, _, _, _ => trivial
  | h + 1, u, t, ne => by
    cases hc : (kds t)[place key (kds t)]? with
    | none => rw [dnT_n hc]; exact ne
    | some c =>
      rw [dnT_s hc]
      refine ⟨fun z => ?_, fun d hd => ?_⟩
      · have h1 : ((kds t).set (place key (kds t)) (dnT tk key h (edt tk u c).2 (edt tk u c).1).1).length = 0 := congrArg List.length z
        rw [List.length_set] at h1
        exact ne.1 (List.eq_nil_of_length_eq_zero h1)
      · rcases List.mem_or_eq_of_mem_set (show d ∈ (kds t).set (place key (kds t)) (dnT tk key h (edt tk u c).2 (edt tk u c).1).1 from hd) with z | z
        · exact ne.2 d z
        · rw [z]
          exact dnT_ne h _ _ (edt_ne (ne.2 c (List.mem_of_getElem? hc)))
theorem one_blw {h : Nat} {x : Tr h} : blw (h + 1) (([] : List (Ct (h + 1))).take 0 ++ (show Ct (h + 1) from x) :: ([] : List (Ct (h + 1))).drop 0) = ndl h x := by
  show List.flatMap (fun c : Tr h => ndl h c) [x] = ndl h x
  rw [List.flatMap_cons, List.flatMap_nil, List.append_nil]
theorem two_blw {h i tk : Nat} {x y : Tr h} : blw (h + 1) ((nod i tk [x]).2.2.take 1 ++ (show Ct (h + 1) from y) :: (nod i tk [x]).2.2.drop 1) = ndl h x ++ ndl h y := by
  show List.flatMap (fun c : Tr h => ndl h c) [x, y] = ndl h x ++ ndl h y
  rw [List.flatMap_cons, List.flatMap_cons, List.flatMap_nil, List.append_nil]
set_option maxHeartbeats 4000000 in
set_option maxRecDepth 100000 in
theorem m_puts {S0 : aw_S} {m : Nat → Nat} (hM0 : LM S0 m) {ρ0 : Nat → Nat} {u0 tk h0 w : Nat} {t0 : Tr h0} {Z0 : List Nat × Nat} {P0 : Nat → Prop} {key v : Int32} (hw0 : sI S0 723 (m 33) = nI w) (hw3 : 3 ≤ w) (hw6 : w ≤ 6) (rp0 : RepM S0 m ρ0 h0 t0) (ro : rok w ⟨h0, t0⟩) (hF0 : FrM S0 m Z0.1 Z0.2) (nd0 : Z0.1.Nodup) (hrm0 : 2 * h0 + 5 ≤ rmM Z0) (a0 : AL ρ0 u0 Z0 P0) (ht0 : ∀ x ∈ ndl h0 t0, P0 x.1) (b0 : bdd u0 (ndl h0 t0)) (htk : tk < 2147483000) (ht9 : ∀ x ∈ ndl h0 t0, x.2 < 2147483000) (h9 : h0 ≤ 9) : aw_M yX11_puts cX11_puts 11 (some FieldType.int) 5 0 0 [.ref (m 33), .int (nI (ρ0 t0.1)), .int key, .int v, .int (nI (tk + 1))] S0 (fun q S2 => ∃ ρ2 Z2, q = some (.int (nI (ρ2 (putT w tk u0 key v ⟨h0, t0⟩).1.2.1))) ∧ GM S0 S2 m ρ0 ρ2 u0 (putT w tk u0 key v ⟨h0, t0⟩).2 Z0 Z2 tk (ndl h0 t0) ∧ RepM S2 m ρ2 (putT w tk u0 key v ⟨h0, t0⟩).1.1 (putT w tk u0 key v ⟨h0, t0⟩).1.2) := by
  have hlea : 1 ≤ lea w := by unfold lea; omega
  have ne0 := ro.ne hw3
  have hs0 := ro.2.2.2.1
  obtain ⟨PO, hPO⟩ : ∃ PO : Option Value → aw_S → Prop, PO = (fun q S2 => ∃ ρ2 Z2, q = some (.int (nI (ρ2 (putT w tk u0 key v ⟨h0, t0⟩).1.2.1))) ∧ GM S0 S2 m ρ0 ρ2 u0 (putT w tk u0 key v ⟨h0, t0⟩).2 Z0 Z2 tk (ndl h0 t0) ∧ RepM S2 m ρ2 (putT w tk u0 key v ⟨h0, t0⟩).1.1 (putT w tk u0 key v ⟨h0, t0⟩).1.2) := ⟨_, rfl⟩
  rw [← hPO]
  refine aw_enter (by decide +kernel) (Nat.le_of_ble_eq_true rfl) (fun g K EE => ?_)
  have quit : ∀ (h : Nat) (X : Tr h) (j : Nat) (R : Int32) (S2 : aw_S) (ρ2 : Nat → Nat), LM S2 m → RepM S2 m ρ2 h X → sA S2 (m 11) j = nI (ρ2 X.1) → j < 10 → ¬ w < X.2.2.length → sI S2 723 (m 33) = nI w → PO (some (.int R)) S2 → aw g 11 S2 0 0 [(8, .int (nI j)), (5, .int R), (4, .int (nI (tk + 1))), (0, .ref (m 33))] [] 119 := by
    intro h X j R S2 ρ2 hM rp hj hj10 hn hw2 hpo
    have hr := rp.own.1
    have h7 := rp.own.2.2.2.2.1
    refine a_iload K dX11_puts_119 rfl ?_
    refine a_if_lt K dX11_puts_121 (tgt := 236) (by decide) (fun c_121 => absurd c_121 (nI_pos (by omega))) (fun c_121 => ?_)
    first | refine a_aload_n K dX11_puts_124 rfl ?_ | refine a_aload_nN K dX11_puts_124 rfl ?_
    refine a_getRs K fd_X11_26 (by exact lm_o hM) (Or.inr ⟨_, rfl⟩) (by exact lm_r715 hM) dX11_puts_125 ?_
    first | refine a_aload_n K dX11_puts_128 rfl ?_ | refine a_aload_nN K dX11_puts_128 rfl ?_
    refine a_getRs K fd_X11_49 (by exact lm_o hM) (Or.inr ⟨_, rfl⟩) (by exact lm_r727 hM) dX11_puts_129 ?_
    refine a_iload K dX11_puts_132 rfl ?_
    refine a_iald K (by exact lm_kk hM (by decide) (by decide)) (by show vp_in _ (sN S2 (m 11)); exact lm_ix (z := 10) hM (by decide) (by decide) (show j < 10 by omega) (by decide)) dX11_puts_134 ?_
    rw [nI_clamp (by omega)]
    rw [show sA S2 (m 11) j = nI (ρ2 X.1) from hj]
    refine a_iald K (by exact lm_kk hM (by decide) (by decide)) (by show vp_in _ (sN S2 (m 5)); exact lm_ix (z := 12000) hM (by decide) (by decide) (show ρ2 X.1 < 12000 by omega) (by decide)) dX11_puts_135 ?_
    rw [nI_clamp (by omega)]
    rw [show sA S2 (m 5) (ρ2 X.1) = nI X.2.2.length from rp.own.2.2.1]
    first | refine a_aload_n K dX11_puts_136 rfl ?_ | refine a_aload_nN K dX11_puts_136 rfl ?_
    refine a_getI K fd_X11_45 (by exact lm_o hM) (Or.inl rfl) dX11_puts_137 ?_
    rw [hw2]
    refine a_icmp_le K dX11_puts_140 (tgt := 236) (by decide) (fun c_140 => ?_) (fun c_140 => absurd c_140 (fun z => z (nI_le (a := X.2.2.length) (b := w) (by omega) (by omega))))
    refine a_iload K dX11_puts_236 rfl ?_
    exact a_iret K EE rfl (by omega) (by omega) dX11_puts_238 hpo
  have part : ∀ (h : Nat) (X : Tr h) (j : Nat) (R : Int32) (S2 : aw_S) (ρ2 : Nat → Nat) (u2 : Nat) (Z2 : List Nat × Nat) (P2 : Nat → Prop), LM S2 m → RepM S2 m ρ2 h X → sA S2 (m 11) j = nI (ρ2 X.1) → j < 10 → w < X.2.2.length → sI S2 723 (m 33) = nI w → FrM S2 m Z2.1 Z2.2 → Z2.1.Nodup → 1 ≤ rmM Z2 → AL ρ2 u2 Z2 P2 → (∀ x ∈ ndl h X, P2 x.1) → bdd u2 (ndl h X) → (∀ (ρ3 : Nat → Nat) (Z3 : List Nat × Nat) (S3 : aw_S), GM S2 S3 m ρ2 ρ3 u2 (u2 + 1) Z2 Z3 tk [(X.1, tk)] → RepM S3 m ρ3 h (X.1, X.2.1, X.2.2.take (X.2.2.length - lea w)) → RepM S3 m ρ3 h (u2, tk, X.2.2.drop (X.2.2.length - lea w)) → wyS S2 S3 m → aw g 11 S3 0 0 [(9, .int (nI (ρ3 u2))), (8, .int (nI j)), (5, .int R), (4, .int (nI (tk + 1))), (0, .ref (m 33))] [] 158) → aw g 11 S2 0 0 [(8, .int (nI j)), (5, .int R), (4, .int (nI (tk + 1))), (0, .ref (m 33))] [] 119 := by
    intro h X j R S2 ρ2 u2 Z2 P2 hM rp hj hj10 hn hw2 hF nd hrm a ht b fin
    have hr := rp.own.1
    have h7 := rp.own.2.2.2.2.1
    refine a_iload K dX11_puts_119 rfl ?_
    refine a_if_lt K dX11_puts_121 (tgt := 236) (by decide) (fun c_121 => absurd c_121 (nI_pos (by omega))) (fun c_121 => ?_)
    first | refine a_aload_n K dX11_puts_124 rfl ?_ | refine a_aload_nN K dX11_puts_124 rfl ?_
    refine a_getRs K fd_X11_26 (by exact lm_o hM) (Or.inr ⟨_, rfl⟩) (by exact lm_r715 hM) dX11_puts_125 ?_
    first | refine a_aload_n K dX11_puts_128 rfl ?_ | refine a_aload_nN K dX11_puts_128 rfl ?_
    refine a_getRs K fd_X11_49 (by exact lm_o hM) (Or.inr ⟨_, rfl⟩) (by exact lm_r727 hM) dX11_puts_129 ?_
    refine a_iload K dX11_puts_132 rfl ?_
    refine a_iald K (by exact lm_kk hM (by decide) (by decide)) (by show vp_in _ (sN S2 (m 11)); exact lm_ix (z := 10) hM (by decide) (by decide) (show j < 10 by omega) (by decide)) dX11_puts_134 ?_
    rw [nI_clamp (by omega)]
    rw [show sA S2 (m 11) j = nI (ρ2 X.1) from hj]
    refine a_iald K (by exact lm_kk hM (by decide) (by decide)) (by show vp_in _ (sN S2 (m 5)); exact lm_ix (z := 12000) hM (by decide) (by decide) (show ρ2 X.1 < 12000 by omega) (by decide)) dX11_puts_135 ?_
    rw [nI_clamp (by omega)]
    rw [show sA S2 (m 5) (ρ2 X.1) = nI X.2.2.length from rp.own.2.2.1]
    first | refine a_aload_n K dX11_puts_136 rfl ?_ | refine a_aload_nN K dX11_puts_136 rfl ?_
    refine a_getI K fd_X11_45 (by exact lm_o hM) (Or.inl rfl) dX11_puts_137 ?_
    rw [hw2]
    refine a_icmp_le K dX11_puts_140 (tgt := 236) (by decide) (fun c_140 => absurd c_140 (nI_ge (a := w) (b := X.2.2.length) (by omega) (by omega))) (fun c_140 => ?_)
    first | refine a_aload_n K dX11_puts_143 rfl ?_ | refine a_aload_nN K dX11_puts_143 rfl ?_
    first | refine a_aload_n K dX11_puts_144 rfl ?_ | refine a_aload_nN K dX11_puts_144 rfl ?_
    refine a_getRs K fd_X11_49 (by exact lm_o hM) (Or.inr ⟨_, rfl⟩) (by exact lm_r727 hM) dX11_puts_145 ?_
    refine a_iload K dX11_puts_148 rfl ?_
    refine a_iald K (by exact lm_kk hM (by decide) (by decide)) (by show vp_in _ (sN S2 (m 11)); exact lm_ix (z := 10) hM (by decide) (by decide) (show j < 10 by omega) (by decide)) dX11_puts_150 ?_
    rw [nI_clamp (by omega)]
    rw [show sA S2 (m 11) j = nI (ρ2 X.1) from hj]
    refine a_iload K dX11_puts_151 rfl ?_
    refine a_invV K (q_partedT hM hw2 hw3 hw6 rp hF nd hrm a ht b hn (tk := tk) (u := u2)) my_X11_parted ml_X11_229 im_X11_parted se_X11_parted (ci := 11) (by exact lm_o hM) (by decide) ⟨_, _, rfl⟩ rfl (by omega) (by omega) (by omega) rfl (Nat.le_of_ble_eq_true rfl) dX11_puts_153 ?_
    intro r9 S9 hp9
    obtain ⟨ρ3, Z3, rfl, g9, rA, rB, w9⟩ := hp9
    refine a_istore K dX11_puts_156 (by decide) ?_
    exact aw_locl rfl (fin ρ3 Z3 S9 g9 rA rB w9)
  have loop : ∀ (L : Nat) (S : aw_S) (ρ : Nat → Nat) (u : Nat) (Z : List Nat × Nat) (P : Nat → Prop) (hM : LM S m) (hF : FrM S m Z.1 Z.2) (nd : Z.1.Nodup) (hrm : L + 2 ≤ rmM Z) (a : AL ρ u Z P) (hL : sI S 729 (m 33) = nI L) (hL9 : L ≤ 9) (hw : sI S 723 (m 33) = nI w), ∀ (R : Int32) (h : Nat) (t : Tr h) (j : Nat), RepM S m ρ h t → NeT h t → srt (ent h t) → (∀ x ∈ ndl h t, P x.1) → bdd u (ndl h t) → OwT tk key h t → WyM S m ρ key h j t → okT (lea w) w h t → t.2.2.length ≤ w → j + h = L → (∀ (ρ2 : Nat → Nat) (Z2 : List Nat × Nat) (S2 : aw_S), GM S S2 m ρ ρ2 u (insB w tk key v h u t).2.2 Z Z2 tk (ndl h t) → RepM S2 m ρ2 h (insB w tk key v h u t).1 → (insB w tk key v h u t).2.1 = none → PO (some (.int R)) S2) → (∀ (x : Int32) (ρ2 : Nat → Nat) (Z2 : List Nat × Nat) (S2 : aw_S), x = nI j → GM S S2 m ρ ρ2 u (insR w tk key v h u t).2 Z Z2 tk (ndl h t) → RepM S2 m ρ2 h (insR w tk key v h u t).1 → w < (insR w tk key v h u t).1.2.2.length → wyS S S2 m → aw g 11 S2 0 0 [(8, .int x), (5, .int R), (4, .int (nI (tk + 1))), (0, .ref (m 33))] [] 119) → aw g 11 S 0 0 [(5, .int R), (4, .int (nI (tk + 1))), (3, .int v), (2, .int key), (0, .ref (m 33))] [] 22 := by
    intro L S ρ u Z P hM hF nd hrm a hL hL9 hw R h
    induction h with
    | zero =>
      intro t j rp ne hs ht b ow wy ok hlen hjL stop over
      have hr := rp.1
      have own : t.2.1 = tk := ow
      have hlen : (ets t).length ≤ w := hlen
      have hs : srt (ets t) := hs
      have wy : sA S (m 11) j = nI (ρ t.1) := wy
      rcases spI_val (key := key) (ets t) 0 with ⟨h1, h2⟩ | ⟨k, x, hx, hxk, h3⟩
      · have hkl := kpl_le key (ets t)
        have inl : ∀ (n i : Nat) (x : Int32), x = nI i → i + n = kpl (ets t) key → aw g 11 S 0 0 [(7, .int x), (6, .int (nI (ρ t.1))), (5, .int R), (4, .int (nI (tk + 1))), (3, .int v), (2, .int key), (0, .ref (m 33))] [] 68 := by
          intro n
          induction n with
          | zero =>
            intro i x hx9 hn
            subst hx9
            have hn : i = kpl (ets t) key := hn
            by_cases hil : i < (ets t).length
            · have hx := List.getElem?_eq_getElem hil
              have hge : ¬ (ets t)[i].1 < key := kpl_ge key (ets t) _ (by rw [← hn]; exact hx)
              refine a_iload K dX11_puts_68 rfl ?_
              first | refine a_aload_n K dX11_puts_70 rfl ?_ | refine a_aload_nN K dX11_puts_70 rfl ?_
              refine a_getRs K fd_X11_26 (by exact lm_o hM) (Or.inr ⟨_, rfl⟩) (by exact lm_r715 hM) dX11_puts_71 ?_
              refine a_iload K dX11_puts_74 rfl ?_
              refine a_iald K (by exact lm_kk hM (by decide) (by decide)) (by show vp_in _ (sN S (m 5)); exact lm_ix (z := 12000) hM (by decide) (by decide) (show ρ t.1 < 12000 by omega) (by decide)) dX11_puts_76 ?_
              rw [nI_clamp (by omega)]
              rw [show sA S (m 5) (ρ t.1) = nI (ets t).length from rp.2.2.1]
              refine a_icmp_ge K dX11_puts_77 (tgt := 103) (by decide) (fun c_77 => absurd c_77 (nI_ge (a := i) (b := (ets t).length) (by omega) (by omega))) (fun c_77 => ?_)
              first | refine a_aload_n K dX11_puts_80 rfl ?_ | refine a_aload_nN K dX11_puts_80 rfl ?_
              refine a_getRs K fd_X11_39 (by exact lm_o hM) (Or.inr ⟨_, rfl⟩) (by exact lm_r719 hM) dX11_puts_81 ?_
              refine a_bipush K dX11_puts_84 (v := 7) (by decide) ?_
              refine a_iload K dX11_puts_86 rfl ?_
              refine a_imul K dX11_puts_88 ?_
              rw [nI_7]
              refine a_iload K dX11_puts_89 rfl ?_
              refine a_iadd K dX11_puts_91 ?_
              rw [nI_add]
              refine a_iald K (by exact lm_kk hM (by decide) (by decide)) (by show vp_in _ (sN S (m 9)); exact lm_ix (z := 84000) hM (by decide) (by decide) (show 7 * ρ t.1 + i < 84000 by omega) (by decide)) dX11_puts_92 ?_
              rw [nI_clamp (by omega)]
              rw [show sA S (m 9) (7 * ρ t.1 + i) = (ets t)[i].1 from (rp.ent hx).1]
              refine a_iload_n K dX11_puts_93 rfl ?_
              refine a_icmp_ge K dX11_puts_94 (tgt := 103) (by decide) (fun c_94 => ?_) (fun c_94 => absurd c_94 (fun z => z (Int32.not_lt.mp hge)))
              first | refine a_aload_n K dX11_puts_103 rfl ?_ | refine a_aload_nN K dX11_puts_103 rfl ?_
              refine a_iload K dX11_puts_104 rfl ?_
              refine a_iload K dX11_puts_106 rfl ?_
              refine a_iload_n K dX11_puts_108 rfl ?_
              refine a_iload_n K dX11_puts_109 rfl ?_
              refine a_invV K (q_putsIn hM (u := u) (tk := tk) (t := t) (k := i) (x := (key, v)) rp hF nd rfl trivial (fun y hy => absurd hy (by simp [blw])) (by show (ets t).length ≤ 6; omega) (by show i ≤ (ets t).length; omega)) my_X11_putsIn ml_X11_225 im_X11_putsIn se_X11_putsIn (ci := 11) (by exact lm_o hM) (by decide) ⟨_, _, rfl⟩ rfl (by omega) (by omega) (by omega) rfl (Nat.le_of_ble_eq_true rfl) dX11_puts_110 ?_
              intro r9 S2 hp9
              obtain ⟨rfl, r2, g2, w2⟩ := hp9
              have r2 : RepM S2 m ρ 0 (t.1, t.2.1, setE (ets t) key v) := by rw [setE_no h2, ← hn]; exact r2
              have gL2 := g2.mono (L2 := ndl 0 t) (fun x hx _ => by rw [List.mem_singleton.mp hx, ← own]; exact ndl_top t)
              have hM0 := hM
              have hM := g2.lay hM
              first | refine a_aload_n K dX11_puts_113 rfl ?_ | refine a_aload_nN K dX11_puts_113 rfl ?_
              refine a_getI K fd_X11_215 (by exact lm_o hM) (Or.inl rfl) dX11_puts_114 ?_
              rw [show sI S2 729 (m 33) = nI j from w2.2.2.trans (hL.trans (congrArg nI hjL.symm))]
              refine a_istore K dX11_puts_117 (by decide) ?_
              by_cases ov : w < (setE (ets t) key v).length
              · exact aw_locl rfl (over _ ρ Z S2 rfl gL2 r2 ov w2)
              · have eI : insB w tk key v 0 u t = ((t.1, t.2.1, setE (ets t) key v), none, u) := spl_no (h := 0) (t := (t.1, t.2.1, setE (ets t) key v)) ov
                exact aw_locl rfl (quit 0 (t.1, t.2.1, setE (ets t) key v) j R S2 ρ hM r2 (by rw [w2.1]; exact wy) (by omega) ov (g2.wid.trans hw) (stop ρ Z S2 (by rw [eI]; exact gL2) (by rw [eI]; exact r2) (by rw [eI])))
            · refine a_iload K dX11_puts_68 rfl ?_
              first | refine a_aload_n K dX11_puts_70 rfl ?_ | refine a_aload_nN K dX11_puts_70 rfl ?_
              refine a_getRs K fd_X11_26 (by exact lm_o hM) (Or.inr ⟨_, rfl⟩) (by exact lm_r715 hM) dX11_puts_71 ?_
              refine a_iload K dX11_puts_74 rfl ?_
              refine a_iald K (by exact lm_kk hM (by decide) (by decide)) (by show vp_in _ (sN S (m 5)); exact lm_ix (z := 12000) hM (by decide) (by decide) (show ρ t.1 < 12000 by omega) (by decide)) dX11_puts_76 ?_
              rw [nI_clamp (by omega)]
              rw [show sA S (m 5) (ρ t.1) = nI (ets t).length from rp.2.2.1]
              refine a_icmp_ge K dX11_puts_77 (tgt := 103) (by decide) (fun c_77 => ?_) (fun c_77 => absurd c_77 (fun z => z (nI_le (a := (ets t).length) (b := i) (by omega) (by omega))))
              first | refine a_aload_n K dX11_puts_103 rfl ?_ | refine a_aload_nN K dX11_puts_103 rfl ?_
              refine a_iload K dX11_puts_104 rfl ?_
              refine a_iload K dX11_puts_106 rfl ?_
              refine a_iload_n K dX11_puts_108 rfl ?_
              refine a_iload_n K dX11_puts_109 rfl ?_
              refine a_invV K (q_putsIn hM (u := u) (tk := tk) (t := t) (k := i) (x := (key, v)) rp hF nd rfl trivial (fun y hy => absurd hy (by simp [blw])) (by show (ets t).length ≤ 6; omega) (by show i ≤ (ets t).length; omega)) my_X11_putsIn ml_X11_225 im_X11_putsIn se_X11_putsIn (ci := 11) (by exact lm_o hM) (by decide) ⟨_, _, rfl⟩ rfl (by omega) (by omega) (by omega) rfl (Nat.le_of_ble_eq_true rfl) dX11_puts_110 ?_
              intro r9 S2 hp9
              obtain ⟨rfl, r2, g2, w2⟩ := hp9
              have r2 : RepM S2 m ρ 0 (t.1, t.2.1, setE (ets t) key v) := by rw [setE_no h2, ← hn]; exact r2
              have gL2 := g2.mono (L2 := ndl 0 t) (fun x hx _ => by rw [List.mem_singleton.mp hx, ← own]; exact ndl_top t)
              have hM0 := hM
              have hM := g2.lay hM
              first | refine a_aload_n K dX11_puts_113 rfl ?_ | refine a_aload_nN K dX11_puts_113 rfl ?_
              refine a_getI K fd_X11_215 (by exact lm_o hM) (Or.inl rfl) dX11_puts_114 ?_
              rw [show sI S2 729 (m 33) = nI j from w2.2.2.trans (hL.trans (congrArg nI hjL.symm))]
              refine a_istore K dX11_puts_117 (by decide) ?_
              by_cases ov : w < (setE (ets t) key v).length
              · exact aw_locl rfl (over _ ρ Z S2 rfl gL2 r2 ov w2)
              · have eI : insB w tk key v 0 u t = ((t.1, t.2.1, setE (ets t) key v), none, u) := spl_no (h := 0) (t := (t.1, t.2.1, setE (ets t) key v)) ov
                exact aw_locl rfl (quit 0 (t.1, t.2.1, setE (ets t) key v) j R S2 ρ hM r2 (by rw [w2.1]; exact wy) (by omega) ov (g2.wid.trans hw) (stop ρ Z S2 (by rw [eI]; exact gL2) (by rw [eI]; exact r2) (by rw [eI])))
          | succ n ih =>
            intro i x hx9 hn
            subst hx9
            have hil : i < (ets t).length := by omega
            have hx := List.getElem?_eq_getElem hil
            have hlt : (ets t)[i].1 < key := kpl_lt key (ets t) i _ (by omega) hx
            refine a_iload K dX11_puts_68 rfl ?_
            first | refine a_aload_n K dX11_puts_70 rfl ?_ | refine a_aload_nN K dX11_puts_70 rfl ?_
            refine a_getRs K fd_X11_26 (by exact lm_o hM) (Or.inr ⟨_, rfl⟩) (by exact lm_r715 hM) dX11_puts_71 ?_
            refine a_iload K dX11_puts_74 rfl ?_
            refine a_iald K (by exact lm_kk hM (by decide) (by decide)) (by show vp_in _ (sN S (m 5)); exact lm_ix (z := 12000) hM (by decide) (by decide) (show ρ t.1 < 12000 by omega) (by decide)) dX11_puts_76 ?_
            rw [nI_clamp (by omega)]
            rw [show sA S (m 5) (ρ t.1) = nI (ets t).length from rp.2.2.1]
            refine a_icmp_ge K dX11_puts_77 (tgt := 103) (by decide) (fun c_77 => absurd c_77 (nI_ge (a := i) (b := (ets t).length) (by omega) (by omega))) (fun c_77 => ?_)
            first | refine a_aload_n K dX11_puts_80 rfl ?_ | refine a_aload_nN K dX11_puts_80 rfl ?_
            refine a_getRs K fd_X11_39 (by exact lm_o hM) (Or.inr ⟨_, rfl⟩) (by exact lm_r719 hM) dX11_puts_81 ?_
            refine a_bipush K dX11_puts_84 (v := 7) (by decide) ?_
            refine a_iload K dX11_puts_86 rfl ?_
            refine a_imul K dX11_puts_88 ?_
            rw [nI_7]
            refine a_iload K dX11_puts_89 rfl ?_
            refine a_iadd K dX11_puts_91 ?_
            rw [nI_add]
            refine a_iald K (by exact lm_kk hM (by decide) (by decide)) (by show vp_in _ (sN S (m 9)); exact lm_ix (z := 84000) hM (by decide) (by decide) (show 7 * ρ t.1 + i < 84000 by omega) (by decide)) dX11_puts_92 ?_
            rw [nI_clamp (by omega)]
            rw [show sA S (m 9) (7 * ρ t.1 + i) = (ets t)[i].1 from (rp.ent hx).1]
            refine a_iload_n K dX11_puts_93 rfl ?_
            refine a_icmp_ge K dX11_puts_94 (tgt := 103) (by decide) (fun c_94 => absurd c_94 (fun z => absurd hlt (Int32.not_lt.mpr z))) (fun c_94 => ?_)
            refine a_iinc K dX11_puts_97 (v := 1) rfl (by decide) (by decide) ?_
            refine a_goto K dX11_puts_100 (tgt := 68) (by decide) ?_
            exact aw_locl rfl (ih (i + 1) _ (nI_1 i) (by omega))
        first | refine a_aload_n K dX11_puts_22 rfl ?_ | refine a_aload_nN K dX11_puts_22 rfl ?_
        refine a_getRs K fd_X11_49 (by exact lm_o hM) (Or.inr ⟨_, rfl⟩) (by exact lm_r727 hM) dX11_puts_23 ?_
        first | refine a_aload_n K dX11_puts_26 rfl ?_ | refine a_aload_nN K dX11_puts_26 rfl ?_
        refine a_getI K fd_X11_215 (by exact lm_o hM) (Or.inl rfl) dX11_puts_27 ?_
        rw [hL, show L = j from hjL.symm]
        refine a_iald K (by exact lm_kk hM (by decide) (by decide)) (by show vp_in _ (sN S (m 11)); exact lm_ix (z := 10) hM (by decide) (by decide) (show j < 10 by omega) (by decide)) dX11_puts_30 ?_
        rw [nI_clamp (by omega)]
        rw [show sA S (m 11) j = nI (ρ t.1) from wy]
        refine a_istore K dX11_puts_31 (by decide) ?_
        first | refine a_aload_n K dX11_puts_33 rfl ?_ | refine a_aload_nN K dX11_puts_33 rfl ?_
        refine a_iload K dX11_puts_34 rfl ?_
        refine a_iload_n K dX11_puts_36 rfl ?_
        refine a_invV K (m_spotIn hM rp (key := key)) my_X11_spotIn ml_X11_209 im_X11_spotIn se_X11_spotIn (ci := 11) (by exact lm_o hM) (by decide) ⟨_, _, rfl⟩ rfl (by omega) (by omega) (by omega) rfl (Nat.le_of_ble_eq_true rfl) dX11_puts_37 ?_
        intro r9 S9 hp9
        obtain ⟨rfl, hS9⟩ := hp9
        obtain rfl := hS9.symm
        rw [h1]
        refine a_istore K dX11_puts_40 (by decide) ?_
        refine a_iload K dX11_puts_42 rfl ?_
        refine a_iconst K dX11_puts_44 (v := -1) (by decide) ?_
        refine a_icmp_eq K dX11_puts_45 (tgt := 65) (by decide) (fun c_45 => ?_) (fun c_45 => absurd c_45 (by decide))
        refine a_iconst K dX11_puts_65 (v := 0) (by decide) ?_
        refine a_istore K dX11_puts_66 (by decide) ?_
        exact aw_locl rfl (inl (kpl (ets t) key) 0 _ nI_0.symm (by omega))
      · rw [Nat.zero_add] at h3
        have hk := (List.getElem?_eq_some_iff.mp hx).1
        have vr := val_row (u := u) (tk := tk) (v := v) hM rp hF nd hs hx hxk
        have eI : insB w tk key v 0 u t = ((t.1, t.2.1, setE (ets t) key v), none, u) := spl_no (h := 0) (t := (t.1, t.2.1, setE (ets t) key v)) (by show ¬ w < (setE (ets t) key v).length; rw [setE_is hs hx hxk, List.length_set]; exact Nat.not_lt.mpr hlen)
        first | refine a_aload_n K dX11_puts_22 rfl ?_ | refine a_aload_nN K dX11_puts_22 rfl ?_
        refine a_getRs K fd_X11_49 (by exact lm_o hM) (Or.inr ⟨_, rfl⟩) (by exact lm_r727 hM) dX11_puts_23 ?_
        first | refine a_aload_n K dX11_puts_26 rfl ?_ | refine a_aload_nN K dX11_puts_26 rfl ?_
        refine a_getI K fd_X11_215 (by exact lm_o hM) (Or.inl rfl) dX11_puts_27 ?_
        rw [hL, show L = j from hjL.symm]
        refine a_iald K (by exact lm_kk hM (by decide) (by decide)) (by show vp_in _ (sN S (m 11)); exact lm_ix (z := 10) hM (by decide) (by decide) (show j < 10 by omega) (by decide)) dX11_puts_30 ?_
        rw [nI_clamp (by omega)]
        rw [show sA S (m 11) j = nI (ρ t.1) from wy]
        refine a_istore K dX11_puts_31 (by decide) ?_
        first | refine a_aload_n K dX11_puts_33 rfl ?_ | refine a_aload_nN K dX11_puts_33 rfl ?_
        refine a_iload K dX11_puts_34 rfl ?_
        refine a_iload_n K dX11_puts_36 rfl ?_
        refine a_invV K (m_spotIn hM rp (key := key)) my_X11_spotIn ml_X11_209 im_X11_spotIn se_X11_spotIn (ci := 11) (by exact lm_o hM) (by decide) ⟨_, _, rfl⟩ rfl (by omega) (by omega) (by omega) rfl (Nat.le_of_ble_eq_true rfl) dX11_puts_37 ?_
        intro r9 S9 hp9
        obtain ⟨rfl, hS9⟩ := hp9
        obtain rfl := hS9.symm
        rw [h3]
        refine a_istore K dX11_puts_40 (by decide) ?_
        refine a_iload K dX11_puts_42 rfl ?_
        refine a_iconst K dX11_puts_44 (v := -1) (by decide) ?_
        refine a_icmp_eq K dX11_puts_45 (tgt := 65) (by decide) (fun c_45 => absurd c_45 (nI_m1n (by omega))) (fun c_45 => ?_)
        first | refine a_aload_n K dX11_puts_48 rfl ?_ | refine a_aload_nN K dX11_puts_48 rfl ?_
        refine a_getRs K fd_X11_42 (by exact lm_o hM) (Or.inr ⟨_, rfl⟩) (by exact lm_r720 hM) dX11_puts_49 ?_
        refine a_bipush K dX11_puts_52 (v := 7) (by decide) ?_
        refine a_iload K dX11_puts_54 rfl ?_
        refine a_imul K dX11_puts_56 ?_
        rw [nI_7]
        refine a_iload K dX11_puts_57 rfl ?_
        refine a_iadd K dX11_puts_59 ?_
        rw [nI_add]
        refine a_iload_n K dX11_puts_60 rfl ?_
        refine a_iast K (by exact lm_kk hM (by decide) (by decide)) (by show vp_in _ (sN S (m 10)); exact lm_ix (z := 84000) hM (by decide) (by decide) (show 7 * ρ t.1 + k < 84000 by omega) (by decide)) dX11_puts_61 ?_
        rw [nI_clamp (by omega)]
        refine a_iload K dX11_puts_62 rfl ?_
        exact a_iret K EE rfl (by omega) (by omega) dX11_puts_64 (stop ρ Z _ (by rw [eI]; exact vr.2.mono (fun x hx _ => by rw [List.mem_singleton.mp hx, ← own]; exact ndl_top t)) (by rw [eI]; exact vr.1) (by rw [eI]))
    | succ h ih =>
      intro t j rp ne hs ht b ow wy ok hlen hjL stop over
      have hr := rp.1.1
      have hc := List.getElem?_eq_getElem (place_lt (key := key) ne.1)
      generalize (kds t)[place key (kds t)]'(place_lt (key := key) ne.1) = c at hc
      have hp := (List.getElem?_eq_some_iff.mp hc).1
      obtain ⟨oc, lc, lc2⟩ := fan_kid hlea ok hc
      have owc := ow.2 c hc
      have nec := ne.2 c (List.mem_of_getElem? hc)
      have sc : srt (ent h c) := by
        rw [ent_kds (get_split hc)] at hs
        exact srt_mid hs
      have bc := kid_bdd hc b
      have htc : ∀ x ∈ ndl h c, P x.1 := fun x hx => ht x (ndl_kid (List.mem_of_getElem? hc) hx)
      have sub : ∀ x ∈ ndl h c, x.2 = tk → x ∈ ndl (h + 1) t := fun x hx _ => ndl_kid (List.mem_of_getElem? hc) hx
      have eR := insR_s (w := w) (tk := tk) (v := v) (u := u) hc
      have eB := insB_R (w := w) (v := v) (u := u) ow ne
      have eC := insB_R (w := w) (v := v) (u := u) owc nec
      have idc := insR_id (w := w) (tk := tk) (key := key) (v := v) (u := u) nec
      refine ih c (j + 1) (rp.kid hc).1 nec sc htc bc owc (wy.2.2 c hc) oc lc (by omega) (fun ρ2 Z2 S2 g2 r2 e2 => ?_) (fun x ρ2 Z2 S2 hx g2 r2 ov2 w2 => ?_)
      · have idB := (insB_grw (w := w) (tk := tk) (key := key) (v := v) h (u := u) (t := c) bc).1
        have rC := RepM_ctx g2 a rp ht b hc r2 idB.1
        have hn9 : ¬ w < (insR w tk key v (h + 1) u t).1.2.2.length := by
          rw [eR, e2]
          show ¬ w < ((kds t).take (place key (kds t)) ++ ((insB w tk key v h u c).1 :: ([] : List (Tr h)) ++ (kds t).drop (place key (kds t) + 1))).length
          rw [List.length_append, List.length_append, List.length_cons, List.length_take, List.length_drop, List.length_nil]
          have h9 : (kds t).length ≤ w := hlen
          omega
        have eB2 : insB w tk key v (h + 1) u t = (nod t.1 t.2.1 ((kds t).set (place key (kds t)) (insB w tk key v h u c).1), none, (insB w tk key v h u c).2.2) := by
          rw [eB, spl_no hn9, eR, e2, set_split hp]
          rfl
        exact stop ρ2 Z2 S2 (by rw [eB2]; exact g2.mono sub) (by rw [eB2]; exact rC) (by rw [eB2])
      · subst hx
        have gR := insR_grw (w := w) (tk := tk) (key := key) (v := v) (u := u) owc nec bc
        have a2 := g2.al a
        have hT2 : ∀ x ∈ ndl h (insR w tk key v h u c).1, PN P u (insR w tk key v h u c).2 x.1 := fun x hx => (gR.2.1 x hx).imp (htc x) (fun z => ⟨z.1, z.2.1⟩)
        have b2 := gR.bd bc
        have rP := RepM_ctx g2 a rp ht b hc r2 idc.1
        have hup : u ≤ (insR w tk key v h u c).2 := g2.F.2.2.2
        have hun := insR_mk (w := w) (v := v) (u := u) owc nec
        refine aw_locl rfl (part h (insR w tk key v h u c).1 (j + 1) R S2 ρ2 (insR w tk key v h u c).2 Z2 (PN P u (insR w tk key v h u c).2) (g2.lay hM) r2 (by rw [w2.1, idc.1, g2.2.1 _ (a.1 _ (htc _ (ndl_top c))).1]; exact (wy.2.2 c hc).top) (by omega) ov2 (g2.wid.trans hw) g2.F.1 g2.F.2.1 (by have := g2.F.2.2.1; omega) a2 hT2 b2 (fun ρ3 Z3 S3 g3 rA rB w3 => ?_))
        have hTP : ∀ x ∈ ndl (h + 1) (nod t.1 t.2.1 ((kds t).set (place key (kds t)) (insR w tk key v h u c).1)), PN P u (insR w tk key v h u c).2 x.1 := fun x hx => ((setg_grw hc b gR).2.1 x hx).imp (ht x) (fun z => ⟨z.1, z.2.1⟩)
        have bP := (setg_grw hc b gR).bd b
        have hcP := set_at (x := (insR w tk key v h u c).1) hc
        have a3 := g3.al a2
        have gP := RepM_ctx (g3.mono (L2 := ndl h (insR w tk key v h u c).1) (fun x hx _ => by rw [List.mem_singleton.mp hx, show ((insR w tk key v h u c).1.1, tk) = ((insR w tk key v h u c).1.1, (insR w tk key v h u c).1.2.1) from by rw [idc.2, owc.tk]]; exact ndl_top _)) a2 rP hTP bP hcP rA rfl
        obtain ⟨X1, hX1⟩ : ∃ X1 : Tr h, X1 = ((insR w tk key v h u c).1.1, (insR w tk key v h u c).1.2.1, (insR w tk key v h u c).1.2.2.take ((insR w tk key v h u c).1.2.2.length - lea w)) := ⟨_, rfl⟩
        obtain ⟨B, hB⟩ : ∃ B : Tr h, B = ((insR w tk key v h u c).2, tk, (insR w tk key v h u c).1.2.2.drop ((insR w tk key v h u c).1.2.2.length - lea w)) := ⟨_, rfl⟩
        rw [← hX1] at gP rA
        rw [← hB] at rB
        have gP : RepM S3 m ρ3 (h + 1) (nod t.1 t.2.1 (((kds t).set (place key (kds t)) (insR w tk key v h u c).1).set (place key (kds t)) X1)) := gP
        rw [List.set_set] at gP
        have eB9 : insB w tk key v h u c = (X1, some B, (insR w tk key v h u c).2 + 1) := by rw [eC, spl_yes ov2, hX1, hB]
        have eR9 : insR w tk key v (h + 1) u t = (nod t.1 t.2.1 ((kds t).take (place key (kds t)) ++ (X1 :: [B] ++ (kds t).drop (place key (kds t) + 1))), (insR w tk key v h u c).2 + 1) := by rw [eR, eB9]; rfl
        have gB9 := insR_grw (w := w) (tk := tk) (key := key) (v := v) (u := u) ow ne b
        rw [eR9] at gB9
        obtain ⟨T1, hT1⟩ : ∃ T1 : Tr (h + 1), T1 = nod t.1 t.2.1 ((kds t).set (place key (kds t)) X1) := ⟨_, rfl⟩
        have r1 : RepM S3 m ρ3 (h + 1) T1 := by rw [hT1]; exact gP
        have g13 : GM S S3 m ρ ρ3 u ((insR w tk key v h u c).2 + 1) Z Z3 tk (ndl (h + 1) t) := (g2.mono sub).tr g3 (fun x hx _ => by
          rw [List.mem_singleton.mp hx]
          rcases gR.2.1 _ (ndl_top (insR w tk key v h u c).1) with z | z
          · refine Or.inl (ndl_kid (List.mem_of_getElem? hc) ?_)
            rw [(idc.2.trans owc.tk)] at z
            exact z
          · exact Or.inr ⟨z.1, z.2.1⟩) (fun x hx => (a.1 _ (ht x hx)).1)
        have a13 := g13.al a
        have hall : ∀ y ∈ ndl (h + 1) (nod t.1 t.2.1 ((kds t).take (place key (kds t)) ++ (X1 :: [B] ++ (kds t).drop (place key (kds t) + 1)))), PN P u ((insR w tk key v h u c).2 + 1) y.1 := fun y hy => (gB9.2.1 y hy).imp (ht y) (fun z => ⟨z.1, z.2.1⟩)
        have e13 : T1.1 = t.1 := by rw [hT1]; rfl
        have ek : (kds T1).take (place key (kds t) + 1) ++ B :: (kds T1).drop (place key (kds t) + 1) = (kds t).take (place key (kds t)) ++ (X1 :: [B] ++ (kds t).drop (place key (kds t) + 1)) := by
          rw [hT1]
          exact set_td hp
        have djB : ∀ y ∈ ((kds T1).take (place key (kds t) + 1) ++ B :: (kds T1).drop (place key (kds t) + 1)).flatMap (ndl h), ρ3 y.1 ≠ ρ3 T1.1 := by
          rw [e13, ek]
          have b9 := gB9.bd b
          exact a13.dj (fun y hy => hall y (List.mem_cons_of_mem _ hy)) (Or.inl (ht _ (ndl_top t))) (bdd.ne (n := (t.1, t.2.1)) b9)
        have er3 : ρ3 t.1 = ρ t.1 := g13.2.1 _ (a.1 _ (ht _ (ndl_top t))).1
        have hM0 := hM
        have hM := g13.lay hM
        refine a_iload K dX11_puts_158 rfl ?_
        refine a_if_le K dX11_puts_160 (tgt := 193) (by decide) (fun c_160 => absurd c_160 (nI_nle (by omega) (by omega))) (fun c_160 => ?_)
        first | refine a_aload_n K dX11_puts_163 rfl ?_ | refine a_aload_nN K dX11_puts_163 rfl ?_
        first | refine a_aload_n K dX11_puts_164 rfl ?_ | refine a_aload_nN K dX11_puts_164 rfl ?_
        refine a_getRs K fd_X11_49 (by exact lm_o hM) (Or.inr ⟨_, rfl⟩) (by exact lm_r727 hM) dX11_puts_165 ?_
        refine a_iload K dX11_puts_168 rfl ?_
        refine a_iconst K dX11_puts_170 (v := 1) (by decide) ?_
        refine a_isub K dX11_puts_171 ?_
        rw [nI_pred]
        refine a_iald K (by exact lm_kk hM (by decide) (by decide)) (by show vp_in _ (sN S3 (m 11)); exact lm_ix (z := 10) hM (by decide) (by decide) (show j < 10 by omega) (by decide)) dX11_puts_172 ?_
        rw [nI_clamp (by omega)]
        rw [show sA S3 (m 11) j = nI (ρ3 T1.1) from (congrFun (w2.tr w3).1 j).trans (wy.1.trans (by rw [e13, er3]))]
        first | refine a_aload_n K dX11_puts_173 rfl ?_ | refine a_aload_nN K dX11_puts_173 rfl ?_
        refine a_getRs K fd_X11_52 (by exact lm_o hM) (Or.inr ⟨_, rfl⟩) (by exact lm_r728 hM) dX11_puts_174 ?_
        refine a_iload K dX11_puts_177 rfl ?_
        refine a_iconst K dX11_puts_179 (v := 1) (by decide) ?_
        refine a_isub K dX11_puts_180 ?_
        rw [nI_pred]
        refine a_iald K (by exact lm_kk hM (by decide) (by decide)) (by show vp_in _ (sN S3 (m 12)); exact lm_ix (z := 10) hM (by decide) (by decide) (show j < 10 by omega) (by decide)) dX11_puts_181 ?_
        rw [nI_clamp (by omega)]
        rw [show sA S3 (m 12) j = nI (place key (kds t)) from (congrFun (w2.tr w3).2.1 j).trans wy.2.1]
        refine a_iconst K dX11_puts_182 (v := 1) (by decide) ?_
        refine a_iadd K dX11_puts_183 ?_
        rw [nI_1]
        refine a_iload K dX11_puts_184 rfl ?_
        refine a_iconst K dX11_puts_186 (v := 0) (by decide) ?_
        refine a_invV K (q_putsIn hM (u := (insR w tk key v h u c).2 + 1) (tk := tk) (t := T1) (k := place key (kds t) + 1) (x := B) r1 g13.F.1 g13.F.2.1 (a := nI (ρ3 (insR w tk key v h u c).2)) (b := 0) (by show [nI (ρ3 (insR w tk key v h u c).2)] = [nI (ρ3 B.1)]; rw [hB]) (fun d hd => by rw [List.mem_singleton.mp hd]; exact rB) djB (by rw [hT1]; show ((kds t).set (place key (kds t)) X1).length ≤ 6; rw [List.length_set]; have h9 : (kds t).length ≤ w := hlen; omega) (by rw [hT1]; show place key (kds t) + 1 ≤ ((kds t).set (place key (kds t)) X1).length; rw [List.length_set]; omega)) my_X11_putsIn ml_X11_225 im_X11_putsIn se_X11_putsIn (ci := 11) (by exact lm_o hM) (by decide) ⟨_, _, rfl⟩ rfl (by omega) (by omega) (by omega) rfl (Nat.le_of_ble_eq_true rfl) dX11_puts_187 ?_
        intro r9 S4 hp9
        obtain ⟨rfl, r4, g4, w4⟩ := hp9
        refine a_goto K dX11_puts_190 (tgt := 230) (by decide) ?_
        refine a_iinc K dX11_puts_230 (v := -1) rfl (by decide) (by decide) ?_
        refine a_goto K dX11_puts_233 (tgt := 119) (by decide) ?_
        have g14 : GM S S4 m ρ ρ3 u ((insR w tk key v h u c).2 + 1) Z Z3 tk (ndl (h + 1) t) := g13.tr g4 (fun x hx _ => by rw [List.mem_singleton.mp hx, e13, ← ow.1]; exact Or.inl (ndl_top t)) (fun x hx => (a.1 _ (ht x hx)).1)
        have r4 : RepM S4 m ρ3 (h + 1) (insR w tk key v (h + 1) u t).1 := by
          rw [eR9]
          have e9 : nod T1.1 T1.2.1 ((kds T1).take (place key (kds t) + 1) ++ B :: (kds T1).drop (place key (kds t) + 1)) = nod t.1 t.2.1 ((kds t).take (place key (kds t)) ++ (X1 :: [B] ++ (kds t).drop (place key (kds t) + 1))) := by
            rw [hT1]
            exact congrArg (nod t.1 t.2.1) (set_td hp)
          exact e9 ▸ r4
        have w14 := (w2.tr w3).tr w4
        have e1 : nI (j + 1) + -1 = nI j := nI_m1 j
        by_cases ov : w < (insR w tk key v (h + 1) u t).1.2.2.length
        · exact aw_locl rfl (over _ ρ3 Z3 S4 e1 (by rw [eR9]; exact g14) r4 ov w14)
        · have eB8 : insB w tk key v (h + 1) u t = ((insR w tk key v (h + 1) u t).1, none, (insR w tk key v (h + 1) u t).2) := by rw [eB, spl_no ov]
          rw [e1]
          exact aw_locl rfl (quit (h + 1) (insR w tk key v (h + 1) u t).1 j R S4 ρ3 (g14.lay hM0) r4 (by rw [w14.1, eR9]; exact wy.1.trans (congrArg nI er3.symm)) (by omega) ov (g14.wid.trans hw) (stop ρ3 Z3 S4 (by rw [eB8, eR9]; exact g14) (by rw [eB8]; exact r4) (by rw [eB8])))
  by_cases hv : val h0 t0 key = v
  · first | refine a_aload_n K dX11_puts_0 rfl ?_ | refine a_aload_nN K dX11_puts_0 rfl ?_
    refine a_iload_n K dX11_puts_1 rfl ?_
    refine a_iload_n K dX11_puts_2 rfl ?_
    refine a_invV K (m_valueAt hM0 rp0 ne0 hs0 (key := key)) my_X11_valueAt ml_X11_218 im_X11_valueAt se_X11_valueAt (ci := 11) (by exact lm_o hM0) (by decide) ⟨_, _, rfl⟩ rfl (by omega) (by omega) (by omega) rfl (Nat.le_of_ble_eq_true rfl) dX11_puts_3 ?_
    intro r9 S9 hp9
    obtain ⟨rfl, hS9⟩ := hp9
    obtain rfl := hS9.symm
    refine a_iload_n K dX11_puts_6 rfl ?_
    refine a_icmp_ne K dX11_puts_7 (tgt := 12) (by decide) (fun c_7 => absurd c_7 (fun z => z hv)) (fun c_7 => ?_)
    refine a_iload_n K dX11_puts_10 rfl ?_
    exact a_iret K EE rfl (by omega) (by omega) dX11_puts_11 (by rw [hPO, putT_same (z := ⟨h0, t0⟩) hv]; exact ⟨ρ0, Z0, rfl, GM.rf hF0 nd0, rp0⟩)
  first | refine a_aload_n K dX11_puts_0 rfl ?_ | refine a_aload_nN K dX11_puts_0 rfl ?_
  refine a_iload_n K dX11_puts_1 rfl ?_
  refine a_iload_n K dX11_puts_2 rfl ?_
  refine a_invV K (m_valueAt hM0 rp0 ne0 hs0 (key := key)) my_X11_valueAt ml_X11_218 im_X11_valueAt se_X11_valueAt (ci := 11) (by exact lm_o hM0) (by decide) ⟨_, _, rfl⟩ rfl (by omega) (by omega) (by omega) rfl (Nat.le_of_ble_eq_true rfl) dX11_puts_3 ?_
  intro r9 S9 hp9
  obtain ⟨rfl, hS9⟩ := hp9
  obtain rfl := hS9.symm
  refine a_iload_n K dX11_puts_6 rfl ?_
  refine a_icmp_ne K dX11_puts_7 (tgt := 12) (by decide) (fun c_7 => ?_) (fun c_7 => absurd c_7 (hv))
  first | refine a_aload_n K dX11_puts_12 rfl ?_ | refine a_aload_nN K dX11_puts_12 rfl ?_
  refine a_iload_n K dX11_puts_13 rfl ?_
  refine a_iload_n K dX11_puts_14 rfl ?_
  refine a_iload K dX11_puts_15 rfl ?_
  refine a_invV K (m_goesDown hM0 rp0 ne0 hF0 nd0 (tk := tk) (key := key) (by omega) a0 ht0 b0 htk ht9 h9) my_X11_goesDown ml_X11_221 im_X11_goesDown se_X11_goesDown (ci := 11) (by exact lm_o hM0) (by decide) ⟨_, _, rfl⟩ rfl (by omega) (by omega) (by omega) rfl (Nat.le_of_ble_eq_true rfl) dX11_puts_17 ?_
  intro r9 S9 hp9
  obtain ⟨ρ2, Z2, rfl, g1, r1, wy1, hl1⟩ := hp9
  refine a_istore K dX11_puts_20 (by decide) ?_
  have uD := dnT_mk (tk := tk) (key := key) h0 (edt tk u0 t0).2 (edt tk u0 t0).1
  have uE := edt_1 (tk := tk) (u := u0) (t := t0)
  have gr := (edt_gru (tk := tk) b0).tr (dnT_gru (tk := tk) (key := key) h0 ((edt_gru (tk := tk) b0).1.bd b0))
  have idT := dnT_id (tk := tk) (key := key) h0 (edt tk u0 t0).2 (edt tk u0 t0).1
  have owT := dnT_ow (key := key) h0 (edt tk u0 t0).2 (edt tk u0 t0).1 (edt_tk tk u0 t0)
  have neT := dnT_ne (tk := tk) (key := key) h0 (edt tk u0 t0).2 (edt tk u0 t0).1 (edt_ne ne0)
  have enT := (dnT_ent (tk := tk) (key := key) h0 (edt tk u0 t0).2 (edt tk u0 t0).1).trans (edt_ent tk u0 t0)
  have faT := dnT_fanL (tk := tk) (key := key) (lo := lea w) (hi := w) h0 (edt tk u0 t0).2 (edt tk u0 t0).1 (by rw [edt_it]; exact ro.2.1)
  have eIB := insB_dn (w := w) (tk := tk) (key := key) (v := v) h0 (edt tk u0 t0).2 (edt tk u0 t0).1
  have leT : (dnT tk key h0 (edt tk u0 t0).2 (edt tk u0 t0).1).1.2.2.length = t0.2.2.length := by rw [idT.2.2, edt_it]
  have hpc := putT_cases (w := w) (tk := tk) (u := u0) (key := key) (v := v) (z := ⟨h0, t0⟩)
  rw [eIB] at hpc
  have gF := g1.F
  have a1 := g1.al a0
  generalize dnT tk key h0 (edt tk u0 t0).2 (edt tk u0 t0).1 = D at *
  obtain ⟨T, U⟩ := D
  simp only at g1 r1 wy1 uD gr idT owT neT enT faT eIB leT gF a1 hpc
  have htT : ∀ x ∈ ndl h0 T, PN P0 u0 U x.1 := fun x hx => (gr.1.2.1 x hx).imp (ht0 x) (fun z => ⟨z.1, z.2.1⟩)
  have bT := gr.1.bd b0
  have okT9 : okT (lea w) w h0 T := ⟨faT, fun z => by rw [leT]; have h9 : 2 ≤ t0.2.2.length := ro.2.2.1 z; omega⟩
  have hL0 : ∀ x ∈ ndl h0 t0, x.1 < u0 := fun x hx => (a0.1 _ (ht0 x hx)).1
  have hLT : ∀ x ∈ ndl h0 T, x.2 = tk → x ∈ ndl h0 t0 ∨ (u0 ≤ x.1 ∧ x.1 < U) := fun x hx _ => (gr.1.2.1 x hx).imp id (fun z => ⟨z.1, z.2.1⟩)
  rcases hpc with ⟨hv9, -⟩ | ⟨-, hpc⟩
  · exact absurd hv9 hv
  refine aw_locl rfl (loop h0 S9 ρ2 U Z2 (PN P0 u0 U) (g1.lay hM0) gF.1 gF.2.1 (by omega) a1 hl1 h9 (g1.wid.trans hw0) (nI (ρ2 T.1)) h0 T 0 r1 neT (by rw [enT]; exact hs0) htT bT owT wy1 okT9 (by rw [leT]; exact ro.1) (Nat.zero_add _) (fun ρ3 Z3 S3 g3 r3 e3 => ?_) (fun x ρ3 Z3 S3 hx g3 r3 ov3 w3 => ?_))
  · rcases hpc with ⟨h1, h2⟩ | ⟨bb, h1, -⟩
    · have idB := (insB_grw (w := w) (tk := tk) (key := key) (v := v) h0 (u := U) (t := T) bT).1
      rw [hPO, h2]
      exact ⟨ρ3, Z3, by show _ = some (Value.int (nI (ρ3 (insB w tk key v h0 U T).1.1))); rw [idB.1, g3.2.1 _ (a1.1 _ (htT _ (ndl_top T))).1], g1.tr g3 hLT hL0, r3⟩
    · rw [h1] at e3
      exact absurd e3 (by simp)
  · subst hx
    have eB := insB_R (w := w) (v := v) (u := U) owT neT
    have idR := insR_id (w := w) (tk := tk) (key := key) (v := v) (u := U) neT
    have gR := insR_grw (w := w) (tk := tk) (key := key) (v := v) (u := U) owT neT bT
    have mkR := insR_mk (w := w) (v := v) (u := U) owT neT
    have a3 := g3.al a1
    have hT3 : ∀ x ∈ ndl h0 (insR w tk key v h0 U T).1, PN (PN P0 u0 U) U (insR w tk key v h0 U T).2 x.1 := fun x hx => (gR.2.1 x hx).imp (htT x) (fun z => ⟨z.1, z.2.1⟩)
    have b3 := gR.bd bT
    rw [spl_yes ov3] at eB
    have h3F := g3.F
    rcases hpc with ⟨h1, -⟩ | ⟨bb, h1, h2⟩
    · rw [eB] at h1
      exact absurd h1 (by simp)
    have hw39 : sI S3 723 (m 33) = nI w := g3.wid.trans (g1.wid.trans hw0)
    have hT11 : sA S3 (m 11) 0 = nI (ρ3 (insR w tk key v h0 U T).1.1) := by
      rw [w3.1, idR.1, g3.2.1 _ (a1.1 _ (htT _ (ndl_top T))).1]
      exact wy1.top
    refine aw_locl rfl (part h0 (insR w tk key v h0 U T).1 0 _ S3 ρ3 (insR w tk key v h0 U T).2 Z3 (PN (PN P0 u0 U) U (insR w tk key v h0 U T).2) (g3.lay (g1.lay hM0)) r3 hT11 (by decide) ov3 hw39 h3F.1 h3F.2.1 (by omega) a3 hT3 b3 (fun ρ4 Z4 S4 g4 rA rB w4 => ?_))
    have h4F := g4.F
    have hM := g4.lay (g3.lay (g1.lay hM0))
    have a4 := g4.al a3
    have g14 := (g1.tr g3 hLT hL0).tr g4 (fun x hx _ => by
      rw [List.mem_singleton.mp hx, idR.1]
      rcases gr.1.2.1 _ (ndl_top T) with z | z
      · rw [owT.tk] at z; exact Or.inl z
      · exact Or.inr ⟨z.1, by have h9 := z.2.1; have := h3F.2.2.2; show T.1 < (insR w tk key v h0 U T).2; omega⟩) hL0
    obtain ⟨X1, hX1⟩ : ∃ X1 : Tr h0, X1 = ((insR w tk key v h0 U T).1.1, (insR w tk key v h0 U T).1.2.1, (insR w tk key v h0 U T).1.2.2.take ((insR w tk key v h0 U T).1.2.2.length - lea w)) := ⟨_, rfl⟩
    obtain ⟨B, hB⟩ : ∃ B : Tr h0, B = ((insR w tk key v h0 U T).2, tk, (insR w tk key v h0 U T).1.2.2.drop ((insR w tk key v h0 U T).1.2.2.length - lea w)) := ⟨_, rfl⟩
    have gS := spl_grw (w := w) (tk := tk) b3
    rw [spl_yes ov3, ← hX1, ← hB] at gS
    rw [← hX1] at rA eB
    rw [← hB] at rB eB
    have eX : X1.1 = T.1 := by rw [hX1]; exact idR.1
    have h11 : sA S4 (m 11) 0 = nI (ρ4 X1.1) := by
      rw [w4.1, hT11, eX, idR.1, g4.2.1 _ (a3.1 _ (idR.1 ▸ hT3 _ (ndl_top _))).1]
    have hNw : ∀ x ∈ ndl h0 X1 ++ ([B] : List (Tr h0)).flatMap (ndl h0), PN (PN (PN P0 u0 U) U (insR w tk key v h0 U T).2) (insR w tk key v h0 U T).2 ((insR w tk key v h0 U T).2 + 1) x.1 := fun x hx => (gS.2.1 x hx).imp (hT3 x) (fun z => ⟨z.1, z.2.1⟩)
    have hNX : ∀ x ∈ ndl h0 X1, PN (PN (PN P0 u0 U) U (insR w tk key v h0 U T).2) (insR w tk key v h0 U T).2 ((insR w tk key v h0 U T).2 + 1) x.1 := fun x hx => hNw x (List.mem_append_left _ hx)
    have hNB : ∀ x ∈ ndl h0 B, PN (PN (PN P0 u0 U) U (insR w tk key v h0 U T).2) (insR w tk key v h0 U T).2 ((insR w tk key v h0 U T).2 + 1) x.1 := fun x hx => hNw x (List.mem_append_right _ (by rw [List.flatMap_cons, List.flatMap_nil, List.append_nil]; exact hx))
    refine a_iload K dX11_puts_158 rfl ?_
    refine a_if_le K dX11_puts_160 (tgt := 193) (by decide) (fun c_160 => ?_) (fun c_160 => absurd c_160 (fun z => z (by decide)))
    first | refine a_aload_n K dX11_puts_193 rfl ?_ | refine a_aload_nN K dX11_puts_193 rfl ?_
    refine a_iconst K dX11_puts_194 (v := 0) (by decide) ?_
    refine a_iload K dX11_puts_195 rfl ?_
    refine a_invV K (q_fresh hM (ρ := ρ4) (u := (insR w tk key v h0 U T).2 + 1) (tk := tk) (h := h0 + 1) (by rw [if_neg (Nat.succ_ne_zero h0)]) h4F.1 h4F.2.1 (by omega)) my_X11_fresh ml_X11_193 im_X11_fresh se_X11_fresh (ci := 11) (by exact lm_o hM) (by decide) ⟨_, _, rfl⟩ rfl (by omega) (by omega) (by omega) rfl (Nat.le_of_ble_eq_true rfl) dX11_puts_197 ?_
    intro r9 S5 hp9
    obtain ⟨ρ5, Z5, rfl, g5, r5, w5⟩ := hp9
    have hM := g5.lay hM
    have a5 := g5.al a4
    have h5F := g5.F
    have rX5 : RepM S5 m ρ5 h0 X1 := g5.rp a4 rA hNX (fun y hy => absurd hy (by simp)) (fun x _ y hy => absurd hy (by simp))
    have rB5 : RepM S5 m ρ5 h0 B := g5.rp a4 rB hNB (fun y hy => absurd hy (by simp)) (fun x _ y hy => absurd hy (by simp))
    have hu5 : PN (PN (PN (PN P0 u0 U) U (insR w tk key v h0 U T).2) (insR w tk key v h0 U T).2 ((insR w tk key v h0 U T).2 + 1)) ((insR w tk key v h0 U T).2 + 1) ((insR w tk key v h0 U T).2 + 1 + 1) ((insR w tk key v h0 U T).2 + 1) := Or.inr ⟨Nat.le_refl _, Nat.lt_succ_self _⟩
    have dX : ∀ x ∈ ndl h0 X1, ρ5 x.1 ≠ ρ5 ((insR w tk key v h0 U T).2 + 1) := a5.dj (fun x hx => Or.inl (hNX x hx)) hu5 (fun x hx e => by have h8 := (a4.1 _ (hNX x hx)).1; omega)
    have dB : ∀ x ∈ ndl h0 B, ρ5 x.1 ≠ ρ5 ((insR w tk key v h0 U T).2 + 1) := a5.dj (fun x hx => Or.inl (hNB x hx)) hu5 (fun x hx e => by have h8 := (a4.1 _ (hNB x hx)).1; omega)
    have eX5 : ρ5 X1.1 = ρ4 X1.1 := g5.2.1 _ (a4.1 _ (hNX _ (ndl_top X1))).1
    have eB5 : ρ5 (insR w tk key v h0 U T).2 = ρ4 (insR w tk key v h0 U T).2 := g5.2.1 _ (Nat.lt_succ_self _)
    refine a_istore K dX11_puts_200 (by decide) ?_
    first | refine a_aload_n K dX11_puts_202 rfl ?_ | refine a_aload_nN K dX11_puts_202 rfl ?_
    refine a_iload K dX11_puts_203 rfl ?_
    refine a_iconst K dX11_puts_205 (v := 0) (by decide) ?_
    first | refine a_aload_n K dX11_puts_206 rfl ?_ | refine a_aload_nN K dX11_puts_206 rfl ?_
    refine a_getRs K fd_X11_49 (by exact lm_o hM) (Or.inr ⟨_, rfl⟩) (by exact lm_r727 hM) dX11_puts_207 ?_
    refine a_iconst K dX11_puts_210 (v := 0) (by decide) ?_
    refine a_iald K (by exact lm_kk hM (by decide) (by decide)) (by show vp_in _ (sN S5 (m 11)); rw [show (0 : Int32) = nI 0 from nI_0.symm]; exact lm_ix (z := 10) hM (by decide) (by decide) (show 0 < 10 by omega) (by decide)) dX11_puts_211 ?_
    rw [show (0 : Int32) = nI 0 from nI_0.symm]
    rw [nI_clamp (by decide)]
    rw [show sA S5 (m 11) 0 = nI (ρ5 X1.1) from (congrFun w5.1 0).trans (h11.trans (congrArg nI eX5.symm))]
    refine a_iconst K dX11_puts_212 (v := 0) (by decide) ?_
    refine a_invV K (q_putsIn hM (u := (insR w tk key v h0 U T).2 + 1 + 1) (tk := tk) (h := h0 + 1) (t := ((insR w tk key v h0 U T).2 + 1, tk, [])) (k := 0) (x := X1) (a := nI (ρ5 X1.1)) (b := 0) r5 h5F.1 h5F.2.1 rfl (fun d hd => by rw [List.mem_singleton.mp hd]; exact rX5) (fun y hy => dX y (by rw [one_blw] at hy; exact hy)) (Nat.zero_le _) (Nat.zero_le _)) my_X11_putsIn ml_X11_225 im_X11_putsIn se_X11_putsIn (ci := 11) (by exact lm_o hM) (by decide) ⟨_, _, rfl⟩ rfl (by omega) (by omega) (by omega) rfl (Nat.le_of_ble_eq_true rfl) dX11_puts_213 ?_
    intro r9 S6 hp9
    obtain ⟨rfl, r6, g6, w6⟩ := hp9
    have hM := g6.lay hM
    have r6 : RepM S6 m ρ5 (h0 + 1) (nod ((insR w tk key v h0 U T).2 + 1) tk [X1]) := r6
    have rB6 : RepM S6 m ρ5 h0 B := g6.rp a5 rB5 (fun x hx => Or.inl (hNB x hx)) (fun y hy _ => by rw [List.mem_singleton.mp hy]; exact hu5) (fun x hx y hy _ e => by rw [List.mem_singleton.mp hy] at e; have h8 := (a4.1 _ (hNB x hx)).1; have e : x.1 = (insR w tk key v h0 U T).2 + 1 := e; omega)
    first | refine a_aload_n K dX11_puts_216 rfl ?_ | refine a_aload_nN K dX11_puts_216 rfl ?_
    refine a_iload K dX11_puts_217 rfl ?_
    refine a_iconst K dX11_puts_219 (v := 1) (by decide) ?_
    refine a_iload K dX11_puts_220 rfl ?_
    rw [show nI (ρ4 (insR w tk key v h0 U T).2) = nI (ρ5 B.1) from by rw [hB]; exact congrArg nI eB5.symm]
    rw [show (1 : Int32) = nI 1 from rfl]
    refine a_iconst K dX11_puts_222 (v := 0) (by decide) ?_
    refine a_invV K (q_putsIn hM (u := (insR w tk key v h0 U T).2 + 1 + 1) (tk := tk) (h := h0 + 1) (t := nod ((insR w tk key v h0 U T).2 + 1) tk [X1]) (k := 1) (x := B) (a := nI (ρ5 B.1)) (b := 0) r6 g6.F.1 g6.F.2.1 rfl (fun d hd => by rw [List.mem_singleton.mp hd]; exact rB6) (fun y hy => (List.mem_append.mp (by rw [two_blw] at hy; exact hy)).elim (dX y) (dB y)) (show 1 ≤ 6 by decide) (Nat.le_refl 1)) my_X11_putsIn ml_X11_225 im_X11_putsIn se_X11_putsIn (ci := 11) (by exact lm_o hM) (by decide) ⟨_, _, rfl⟩ rfl (by omega) (by omega) (by omega) rfl (Nat.le_of_ble_eq_true rfl) dX11_puts_223 ?_
    intro r9 S7 hp9
    obtain ⟨rfl, r7, g7, w7⟩ := hp9
    have hM := g7.lay hM
    have r7 : RepM S7 m ρ5 (h0 + 1) (nod ((insR w tk key v h0 U T).2 + 1) tk [X1, B]) := r7
    refine a_iload K dX11_puts_226 rfl ?_
    refine a_istore K dX11_puts_228 (by decide) ?_
    refine a_iinc K dX11_puts_230 (v := -1) rfl (by decide) (by decide) ?_
    refine a_goto K dX11_puts_233 (tgt := 119) (by decide) ?_
    refine a_iload K dX11_puts_119 rfl ?_
    refine a_if_lt K dX11_puts_121 (tgt := 236) (by decide) (fun c_121 => ?_) (fun c_121 => absurd c_121 (fun z => z (by decide)))
    refine a_iload K dX11_puts_236 rfl ?_
    exact a_iret K EE rfl (by omega) (by omega) dX11_puts_238 (by
    have e9 : putT w tk u0 key v ⟨h0, t0⟩ = (⟨h0 + 1, nod ((insR w tk key v h0 U T).2 + 1) tk [X1, B]⟩, (insR w tk key v h0 U T).2 + 1 + 1) := by
      rw [h2, eB]
      have h1 : (insB w tk key v h0 U T).2.1 = some bb := h1
      rw [eB] at h1
      rw [Option.some.inj h1]
    rw [hPO, e9]
    exact ⟨ρ5, Z5, rfl, ((g14.tr g5 (fun x hx => absurd hx (by simp)) hL0).tr g6 (fun x hx _ => by rw [List.mem_singleton.mp hx]; exact Or.inr ⟨by show u0 ≤ (insR w tk key v h0 U T).2 + 1; have := h3F.2.2.2; omega, Nat.lt_succ_self _⟩) hL0).tr g7 (fun x hx _ => by rw [List.mem_singleton.mp hx]; exact Or.inr ⟨by show u0 ≤ (insR w tk key v h0 U T).2 + 1; have := h3F.2.2.2; omega, Nat.lt_succ_self _⟩) hL0, r7⟩)
