/-! the model: goesDown -/
/-- one place of a node written -/
theorem o_fr {T : aw_S} {m : Nat → Nat} (hM : LM T m) {r i : Nat} {v : Int32} (hi : i < 7) : frR T (wA T (m 9) (7 * r + i) v) m (fun q => q = r) [] ∧ (∀ q, gL (wA T (m 9) (7 * r + i) v) m q = gL T m q ∧ gN (wA T (m 9) (7 * r + i) v) m q = gN T m q ∧ gT (wA T (m 9) (7 * r + i) v) m q = gT T m q) ∧ ∀ q k, k < 7 → g1 (wA T (m 9) (7 * r + i) v) m q k = (if q = r ∧ k = i then v else g1 T m q k) ∧ g2 (wA T (m 9) (7 * r + i) v) m q k = g2 T m q k := by
  have n : ∀ j, j < 34 → j ≠ 9 → sA (wA T (m 9) (7 * r + i) v) (m j) = sA T (m j) := fun j hj h9 => by
    funext k
    rw [sA_wA, if_neg (fun z => lm_ne hM hj (by decide) h9 z.1)]
  have hg : ∀ q, gL (wA T (m 9) (7 * r + i) v) m q = gL T m q ∧ gN (wA T (m 9) (7 * r + i) v) m q = gN T m q ∧ gT (wA T (m 9) (7 * r + i) v) m q = gT T m q := fun q => ⟨congrFun (n 4 (by decide) (by decide)) q, congrFun (n 5 (by decide) (by decide)) q, congrFun (n 6 (by decide) (by decide)) q⟩
  have h1 : ∀ q k, k < 7 → g1 (wA T (m 9) (7 * r + i) v) m q k = (if q = r ∧ k = i then v else g1 T m q k) ∧ g2 (wA T (m 9) (7 * r + i) v) m q k = g2 T m q k := fun q k hk => by
    refine ⟨?_, congrFun (n 10 (by decide) (by decide)) (7 * q + k)⟩
    unfold g1
    rw [sA_wA]
    by_cases e : q = r ∧ k = i
    · rw [if_pos e, if_pos ⟨rfl, by rw [e.1, e.2]⟩]
    · rw [if_neg e, if_neg (fun z => e (by have := z.2; omega))]
  exact ⟨⟨frM_wA (by decide), fun q hq hR => ⟨(hg q).1, (hg q).2.1, (hg q).2.2, fun k hk => Prod.ext ((h1 q k hk).1.trans (if_neg (fun z => hR z.1))) (h1 q k hk).2⟩⟩, hg, h1⟩
theorem NdM_set {S : aw_S} {m ρ : Nat → Nat} {h p : Nat} {t : Tr (h + 1)} {c : Tr h} (hM : LM S m) (n : NdM S m ρ (h + 1) t) (hp : p < (kds t).length) : NdM (wA S (m 9) (7 * ρ t.1 + p) (nI (ρ c.1))) m ρ (h + 1) (nod t.1 t.2.1 ((kds t).set p c)) := by
  obtain ⟨n1, n2, n3, n4, n5, n6⟩ := n
  have n5 : (kds t).length ≤ 7 := n5
  obtain ⟨-, f2, f3⟩ := o_fr (T := S) (r := ρ t.1) (i := p) (v := nI (ρ c.1)) hM (by omega)
  refine ⟨n1, ((f2 _).1).trans n2, ((f2 _).2.1).trans (n3.trans (by show nI (kds t).length = nI ((kds t).set p c).length; rw [List.length_set])), ((f2 _).2.2).trans n4, by show ((kds t).set p c).length ≤ 7; rw [List.length_set]; exact n5, fun k d hd => ?_⟩
  have hd : ((kds t).set p c)[k]? = some d := hd
  have hk : k < ((kds t).set p c).length := (List.getElem?_eq_some_iff.mp hd).1
  rw [List.length_set] at hk
  show g1 _ m (ρ t.1) k = nI (ρ d.1)
  rw [(f3 (ρ t.1) k (by omega)).1]
  rw [List.getElem?_set] at hd
  by_cases e : p = k
  · rw [if_pos e, if_pos hp] at hd
    rw [if_pos ⟨rfl, e.symm⟩, Option.some.inj hd]
  · rw [if_neg e] at hd
    rw [if_neg (fun z => e z.2.symm)]
    exact n6 k d hd
theorem RepM_set {S : aw_S} {m ρ : Nat → Nat} {h p : Nat} {t : Tr (h + 1)} {c : Tr h} (hM : LM S m) (n : NdM S m ρ (h + 1) t) (hp : p < (kds t).length) (hk : ∀ d ∈ (kds t).set p c, RepM S m ρ h d) (hd : ∀ d ∈ (kds t).set p c, ∀ x ∈ ndl h d, ρ x.1 ≠ ρ t.1) : RepM (wA S (m 9) (7 * ρ t.1 + p) (nI (ρ c.1))) m ρ (h + 1) (nod t.1 t.2.1 ((kds t).set p c)) := by
  have h5 : (kds t).length ≤ 7 := n.2.2.2.2.1
  exact ⟨NdM_set hM n hp, fun d hd2 => RepM_g (o_fr (T := S) (r := ρ t.1) (i := p) (v := nI (ρ c.1)) hM (by omega)).1.2 h d (hk d hd2) (fun x hx => ⟨hd d hd2 x hx, rfl⟩)⟩
theorem set_gru {u u1 tk h p : Nat} {t : Tr (h + 1)} {c c1 : Tr h} (hc : (kds t)[p]? = some c) (b : bdd u (ndl (h + 1) t)) (g : gru u u1 tk (ndl h c) (ndl h c1)) : gru u u1 tk (ndl (h + 1) t) (ndl (h + 1) (nod t.1 t.2.1 ((kds t).set p c1))) := by
  have hd := get_split hc
  show gru u u1 tk (ndl (h + 1) t) ((t.1, t.2.1) :: ((kds t).set p c1).flatMap (ndl h))
  rw [set_split (List.getElem?_eq_some_iff.mp hc).1, List.flatMap_append, List.flatMap_cons, ndl_kds hd]
  rw [ndl_kds hd] at b
  exact gru.con _ b (gru.ctx _ _ b.tl g)
theorem edt_ne {h : Nat} {tk u : Nat} {t : Tr h} (ne : NeT h t) : NeT h (edt tk u t).1 := by
  unfold edt
  split
  · exact ne
  · cases h with
    | zero => trivial
    | succ h => exact ne
theorem edt_1 {h tk u : Nat} {t : Tr h} : (edt tk u t).2 ≤ u + 1 ∧ u ≤ (edt tk u t).2 := by
  unfold edt
  split
  · exact ⟨Nat.le_succ u, Nat.le_refl u⟩
  · exact ⟨Nat.le_refl _, Nat.le_succ u⟩
theorem kid_bdd {h u : Nat} {t : Tr (h + 1)} {p : Nat} {c : Tr h} (hc : (kds t)[p]? = some c) (b : bdd u (ndl (h + 1) t)) : bdd u (ndl h c) := by
  rw [ndl_kds (get_split hc)] at b
  exact b.tl.mid
/-- one step of the way down: the kid edited, put in its place, the way's rows written -/
theorem dn_step {S S9 : aw_S} {m ρ ρ2 : Nat → Nat} {u tk h p j : Nat} {Z Z2 : List Nat × Nat} {P : Nat → Prop} {t : Tr (h + 1)} {c : Tr h} (hM : LM S m) (hM9 : LM S9 m) (rp : RepM S m ρ (h + 1) t) (a : AL ρ u Z P) (ht : ∀ x ∈ ndl (h + 1) t, P x.1) (b : bdd u (ndl (h + 1) t)) (htk : t.2.1 = tk) (hc : (kds t)[p]? = some c) (g1 : GM S S9 m ρ ρ2 u (edt tk u c).2 Z Z2 tk []) (r1 : RepM S9 m ρ2 h (edt tk u c).1) {x : Int32} {T : aw_S} (hT : T = wI (wA (wA (wA S9 (m 9) (7 * ρ t.1 + p) (nI (ρ2 (edt tk u c).1.1))) (m 11) j (nI (ρ t.1))) (m 12) j (nI p)) 729 (m 33) x) : RepM T m ρ2 (h + 1) (nod t.1 t.2.1 ((kds t).set p (edt tk u c).1)) ∧ GM S T m ρ ρ2 u (edt tk u c).2 Z Z2 tk (ndl (h + 1) t) ∧ bdd (edt tk u c).2 (ndl (h + 1) (nod t.1 t.2.1 ((kds t).set p (edt tk u c).1))) ∧ (∀ x ∈ ndl (h + 1) (nod t.1 t.2.1 ((kds t).set p (edt tk u c).1)), PN P u (edt tk u c).2 x.1) ∧ sA T (m 11) j = nI (ρ t.1) ∧ sA T (m 12) j = nI p ∧ sI T 729 (m 33) = x ∧ ∀ i, i ≠ j → sA T (m 11) i = sA S9 (m 11) i ∧ sA T (m 12) i = sA S9 (m 12) i := by
  have hp := (List.getElem?_eq_some_iff.mp hc).1
  have a1 := g1.al a
  have gg := set_gru hc b (edt_gru (tk := tk) (kid_bdd hc b))
  have b1 := gg.1.bd b
  have hin : ∀ x ∈ ndl (h + 1) (nod t.1 t.2.1 ((kds t).set p (edt tk u c).1)), PN P u (edt tk u c).2 x.1 := fun x hx => (gg.1.2.1 x hx).imp (ht x) (fun z => ⟨z.1, z.2.1⟩)
  have htop := ht _ (ndl_top t)
  have hu := (a.1 _ htop).1
  have er : ρ2 t.1 = ρ t.1 := g1.2.1 _ hu
  have nz : ∀ q, US Z q → ¬ ((∃ x ∈ ([] : List (Nat × Nat)), x.2 = tk ∧ q = ρ x.1) ∨ ¬ US Z q) := fun q hq z => z.elim (fun ⟨_, hx, _⟩ => absurd hx (by simp)) (fun y => y hq)
  have n9 : NdM S9 m ρ2 (h + 1) t := NdM_g g1.2.2.2.2.2.2.2.2.2.2 rp.1 (nz _ (a.1 _ htop).2) er (fun d hd => g1.2.1 _ (a.1 _ (ht _ (ndl_kid hd (ndl_top d)))).1)
  have nd1 : (((t.1, t.2.1) :: ((kds t).set p (edt tk u c).1).flatMap (ndl h)).map Prod.fst).Nodup := b1.2
  rw [List.map_cons, List.nodup_cons] at nd1
  have rT1 := RepM_set (c := (edt tk u c).1) hM9 n9 hp (fun d hd => (List.mem_or_eq_of_mem_set hd).elim (fun z => g1.rp a (rp.2 d z) (fun x hx => ht x (ndl_kid z hx)) (fun y hy => absurd hy (by simp)) (fun x _ y hy => absurd hy (by simp))) (fun z => by rw [z]; exact r1)) (fun d hd x hx e => by
    have e9 := a1.2 _ _ (hin x (List.mem_cons_of_mem _ (List.mem_flatMap.mpr ⟨d, hd, hx⟩))) (Or.inl htop) e
    exact nd1.1 (List.mem_map.mpr ⟨x, List.mem_flatMap.mpr ⟨d, hd, hx⟩, e9⟩))
  rw [er] at rT1
  obtain ⟨f1, f2, f3, f4⟩ := g1.F
  have h7 : (kds t).length ≤ 7 := rp.1.2.2.2.2.1
  have fo := (o_fr (T := S9) (r := ρ t.1) (i := p) (v := nI (ρ2 (edt tk u c).1.1)) hM9 (by omega)).1
  obtain ⟨T1, hT1⟩ : ∃ T1, T1 = wA S9 (m 9) (7 * ρ t.1 + p) (nI (ρ2 (edt tk u c).1.1)) := ⟨_, rfl⟩
  rw [← hT1] at rT1 fo hT
  have hMT : LM T1 m := hM9.fr fo.1.1
  have gT : GM S9 T1 m ρ2 ρ2 (edt tk u c).2 (edt tk u c).2 Z2 Z2 tk [(t.1, tk)] := GM_row hM9 f1 f2 (by rw [er]; exact fo) List.mem_cons_self
  have fw : frM T1 T m [11, 12] [729] := by rw [hT]; exact ((frM_wA (by decide)).tr (frM_wA (by decide))).tr (frM_wI (by decide) (by decide))
  have gW : GM T1 T m ρ2 ρ2 (edt tk u c).2 (edt tk u c).2 Z2 Z2 tk [] := GM_way hMT gT.F.1 f2 fw
  have gA := (g1.mono (L2 := ndl (h + 1) t) (fun x hx => absurd hx (by simp))).tr gT (fun x hx _ => Or.inl (by rw [List.mem_singleton.mp hx, ← htk]; exact ndl_top t)) (fun x hx => (a.1 _ (ht x hx)).1)
  have e9 : m 11 ≠ m 9 := lm_ne hM9 (by decide) (by decide) (by decide)
  have e12 : m 12 ≠ m 9 := lm_ne hM9 (by decide) (by decide) (by decide)
  have ew : m 11 ≠ m 12 := lm_ne hM9 (by decide) (by decide) (by decide)
  refine ⟨fw.rep hMT (by decide) (by decide) (by decide) (by decide) (by decide) (by decide) rT1, gA.tr gW (fun x hx => absurd hx (by simp)) (fun x hx => (a.1 _ (ht x hx)).1), b1, hin, ?_, ?_, by rw [hT]; exact wI_at, fun i hi => ⟨?_, ?_⟩⟩
  · rw [hT]
    show sA (wA (wA T1 (m 11) j (nI (ρ t.1))) (m 12) j (nI p)) (m 11) j = _
    rw [sA_wA, if_neg (fun z => ew z.1), sA_wA, if_pos ⟨rfl, rfl⟩]
  · rw [hT]
    show sA (wA (wA T1 (m 11) j (nI (ρ t.1))) (m 12) j (nI p)) (m 12) j = _
    rw [sA_wA, if_pos ⟨rfl, rfl⟩]
  · rw [hT]
    show sA (wA (wA T1 (m 11) j (nI (ρ t.1))) (m 12) j (nI p)) (m 11) i = _
    rw [sA_wA, if_neg (fun z => ew z.1), sA_wA, if_neg (fun z => hi z.2), hT1, sA_wA, if_neg (fun z => e9 z.1)]
  · rw [hT]
    show sA (wA (wA T1 (m 11) j (nI (ρ t.1))) (m 12) j (nI p)) (m 12) i = _
    rw [sA_wA, if_neg (fun z => hi z.2), sA_wA, if_neg (fun z => ew z.1.symm), hT1, sA_wA, if_neg (fun z => e12 z.1)]
set_option maxHeartbeats 4000000 in
set_option maxRecDepth 100000 in
theorem m_goesDown {S : aw_S} {m : Nat → Nat} (hM : LM S m) {ρ : Nat → Nat} {u tk h : Nat} {t : Tr h} {Z : List Nat × Nat} {P : Nat → Prop} {key : Int32} (rp : RepM S m ρ h t) (ne : NeT h t) (hF : FrM S m Z.1 Z.2) (nd : Z.1.Nodup) (hrm : h + 1 ≤ rmM Z) (a : AL ρ u Z P) (ht : ∀ x ∈ ndl h t, P x.1) (b : bdd u (ndl h t)) (htk : tk < 2147483000) (ht9 : ∀ x ∈ ndl h t, x.2 < 2147483000) (h9 : h ≤ 9) : aw_M yX11_goesDown cX11_goesDown 8 (some FieldType.int) 3 0 0 [.ref (m 33), .int (nI (ρ t.1)), .int key, .int (nI (tk + 1))] S (fun q S2 => ∃ ρ2 Z2, q = some (.int (nI (ρ2 (dnT tk key h (edt tk u t).2 (edt tk u t).1).1.1))) ∧ GM S S2 m ρ ρ2 u (dnT tk key h (edt tk u t).2 (edt tk u t).1).2 Z Z2 tk (ndl h t) ∧ RepM S2 m ρ2 h (dnT tk key h (edt tk u t).2 (edt tk u t).1).1 ∧ WyM S2 m ρ2 key h 0 (dnT tk key h (edt tk u t).2 (edt tk u t).1).1 ∧ sI S2 729 (m 33) = nI h) := by
  refine aw_enter (by decide +kernel) (Nat.le_of_ble_eq_true rfl) (fun g K EE => ?_)
  have loop : ∀ (R : Int32) (h : Nat) (t : Tr h) (S : aw_S) (ρ : Nat → Nat) (u j : Nat) (Z : List Nat × Nat) (P : Nat → Prop), LM S m → RepM S m ρ h t → NeT h t → FrM S m Z.1 Z.2 → Z.1.Nodup → h ≤ rmM Z → AL ρ u Z P → (∀ x ∈ ndl h t, P x.1) → bdd u (ndl h t) → (∀ x ∈ ndl h t, x.2 < 2147483000) → t.2.1 = tk → j + h ≤ 9 → sI S 729 (m 33) = nI j → (∀ (ρ2 : Nat → Nat) (Z2 : List Nat × Nat) (S2 : aw_S), GM S S2 m ρ ρ2 u (dnT tk key h u t).2 Z Z2 tk (ndl h t) → RepM S2 m ρ2 h (dnT tk key h u t).1 → WyM S2 m ρ2 key h j (dnT tk key h u t).1 → (∀ i, i < j → sA S2 (m 11) i = sA S (m 11) i ∧ sA S2 (m 12) i = sA S (m 12) i) → sI S2 729 (m 33) = nI (j + h) → aw g 8 S2 0 0 [(5, .int R), (0, .ref (m 33))] [] 116) → aw g 8 S 0 0 [(5, .int R), (4, .int (nI (ρ t.1))), (3, .int (nI (tk + 1))), (2, .int key), (0, .ref (m 33))] [] 17 := by
    intro R h
    induction h with
    | zero =>
      intro t S ρ u j Z P hM rp ne hF nd hrm a ht b ht9 htk2 h9 hj fin
      have hr := rp.1
      first | refine a_aload_n K dX11_goesDown_17 rfl ?_ | refine a_aload_nN K dX11_goesDown_17 rfl ?_
      refine a_getRs K fd_X11_23 (by exact lm_o hM) (Or.inr ⟨_, rfl⟩) (by exact lm_r714 hM) dX11_goesDown_18 ?_
      refine a_iload K dX11_goesDown_21 rfl ?_
      refine a_iald K (by exact lm_kk hM (by decide) (by decide)) (by show vp_in _ (sN S (m 4)); exact lm_ix (z := 12000) hM (by decide) (by decide) (show ρ t.1 < 12000 by omega) (by decide)) dX11_goesDown_23 ?_
      rw [nI_clamp (by omega)]
      rw [show sA S (m 4) (ρ t.1) = 1 from rp.2.1]
      refine a_if_ne K dX11_goesDown_24 (tgt := 105) (by decide) (fun c_24 => ?_) (fun c_24 => absurd c_24 (by decide))
      first | refine a_aload_n K dX11_goesDown_105 rfl ?_ | refine a_aload_nN K dX11_goesDown_105 rfl ?_
      refine a_getRs K fd_X11_49 (by exact lm_o hM) (Or.inr ⟨_, rfl⟩) (by exact lm_r727 hM) dX11_goesDown_106 ?_
      first | refine a_aload_n K dX11_goesDown_109 rfl ?_ | refine a_aload_nN K dX11_goesDown_109 rfl ?_
      refine a_getI K fd_X11_215 (by exact lm_o hM) (Or.inl rfl) dX11_goesDown_110 ?_
      rw [hj]
      refine a_iload K dX11_goesDown_113 rfl ?_
      refine a_iast K (by exact lm_kk hM (by decide) (by decide)) (by show vp_in _ (sN S (m 11)); exact lm_ix (z := 10) hM (by decide) (by decide) (show j < 10 by omega) (by decide)) dX11_goesDown_115 ?_
      rw [nI_clamp (by omega)]
      have fw : frM S (wA S (m 11) j (nI (ρ t.1))) m [11, 12] [729] := frM_wA (by decide)
      exact aw_locl rfl (fin ρ Z _ (GM_way hM hF nd fw) (fw.rep hM (by decide) (by decide) (by decide) (by decide) (by decide) (by decide) rp) (by show sA (wA S (m 11) j (nI (ρ t.1))) (m 11) j = _; rw [sA_wA, if_pos ⟨rfl, rfl⟩]; rfl) (fun i hi => ⟨by rw [sA_wA, if_neg (fun z => absurd z.2 (by omega))], by rw [sA_wA, if_neg (fun z => lm_ne hM (by decide) (by decide) (by decide) z.1)]⟩) hj)
    | succ h ih =>
      intro t S ρ u j Z P hM rp ne hF nd hrm a ht b ht9 htk2 h9 hj fin
      have hr := rp.1.1
      have hc := List.getElem?_eq_getElem (place_lt (key := key) ne.1)
      generalize (kds t)[place key (kds t)]'(place_lt (key := key) ne.1) = c at hc
      have hk7 := (rp.kid hc).2.2
      first | refine a_aload_n K dX11_goesDown_17 rfl ?_ | refine a_aload_nN K dX11_goesDown_17 rfl ?_
      refine a_getRs K fd_X11_23 (by exact lm_o hM) (Or.inr ⟨_, rfl⟩) (by exact lm_r714 hM) dX11_goesDown_18 ?_
      refine a_iload K dX11_goesDown_21 rfl ?_
      refine a_iald K (by exact lm_kk hM (by decide) (by decide)) (by show vp_in _ (sN S (m 4)); exact lm_ix (z := 12000) hM (by decide) (by decide) (show ρ t.1 < 12000 by omega) (by decide)) dX11_goesDown_23 ?_
      rw [nI_clamp (by omega)]
      rw [show sA S (m 4) (ρ t.1) = 0 from rp.1.2.1]
      refine a_if_ne K dX11_goesDown_24 (tgt := 105) (by decide) (fun c_24 => absurd c_24 (fun z => z rfl)) (fun c_24 => ?_)
      first | refine a_aload_n K dX11_goesDown_27 rfl ?_ | refine a_aload_nN K dX11_goesDown_27 rfl ?_
      refine a_iload K dX11_goesDown_28 rfl ?_
      refine a_iload_n K dX11_goesDown_30 rfl ?_
      refine a_invV K (m_spotFor hM rp ne (key := key)) my_X11_spotFor ml_X11_203 im_X11_spotFor se_X11_spotFor (ci := 11) (by exact lm_o hM) (by decide) ⟨_, _, rfl⟩ rfl (by omega) (by omega) (by omega) rfl (Nat.le_of_ble_eq_true rfl) dX11_goesDown_31 ?_
      intro r9 S9 hp9
      obtain ⟨rfl, hS9⟩ := hp9
      obtain rfl := hS9.symm
      refine a_istore K dX11_goesDown_34 (by decide) ?_
      first | refine a_aload_n K dX11_goesDown_36 rfl ?_ | refine a_aload_nN K dX11_goesDown_36 rfl ?_
      first | refine a_aload_n K dX11_goesDown_37 rfl ?_ | refine a_aload_nN K dX11_goesDown_37 rfl ?_
      refine a_iload K dX11_goesDown_38 rfl ?_
      refine a_iload K dX11_goesDown_40 rfl ?_
      refine a_invV K (m_child hM (r := ρ t.1) (k := place key (kds t)) hr (rp.kid hc).2.2) my_X11_child ml_X11_197 im_X11_child se_X11_child (ci := 11) (by exact lm_o hM) (by decide) ⟨_, _, rfl⟩ rfl (by omega) (by omega) (by omega) rfl (Nat.le_of_ble_eq_true rfl) dX11_goesDown_42 ?_
      intro r9 S9 hp9
      obtain ⟨rfl, hS9⟩ := hp9
      obtain rfl := hS9.symm
      rw [(rp.kid hc).2.1]
      refine a_iload_n K dX11_goesDown_45 rfl ?_
      refine a_invV K (q_edited hM (rp.kid hc).1 hF nd (tk := tk) (u := u) (by omega) (fun x hx => a.1 _ (ht x (ndl_kid (List.mem_of_getElem? hc) hx))) htk (ht9 _ (ndl_kid (List.mem_of_getElem? hc) (ndl_top c)))) my_X11_edited ml_X11_212 im_X11_edited se_X11_edited (ci := 11) (by exact lm_o hM) (by decide) ⟨_, _, rfl⟩ rfl (by omega) (by omega) (by omega) rfl (Nat.le_of_ble_eq_true rfl) dX11_goesDown_46 ?_
      intro r9 S9 hp9
      obtain ⟨ρ2, Z2, rfl, g1, r1, w1⟩ := hp9
      have hM9 := g1.lay hM
      refine a_istore K dX11_goesDown_49 (by decide) ?_
      have hM0 := hM
      have hM := hM9
      have hj9 := w1.2.2.trans hj
      first | refine a_aload_n K dX11_goesDown_51 rfl ?_ | refine a_aload_nN K dX11_goesDown_51 rfl ?_
      refine a_getRs K fd_X11_39 (by exact lm_o hM) (Or.inr ⟨_, rfl⟩) (by exact lm_r719 hM) dX11_goesDown_52 ?_
      refine a_bipush K dX11_goesDown_55 (v := 7) (by decide) ?_
      refine a_iload K dX11_goesDown_57 rfl ?_
      refine a_imul K dX11_goesDown_59 ?_
      rw [nI_7]
      refine a_iload K dX11_goesDown_60 rfl ?_
      refine a_iadd K dX11_goesDown_62 ?_
      rw [nI_add]
      refine a_iload K dX11_goesDown_63 rfl ?_
      refine a_iast K (by exact lm_kk hM (by decide) (by decide)) (by show vp_in _ (sN S9 (m 9)); exact lm_ix (z := 84000) hM (by decide) (by decide) (show 7 * ρ t.1 + place key (kds t) < 84000 by omega) (by decide)) dX11_goesDown_65 ?_
      rw [nI_clamp (by omega)]
      first | refine a_aload_n K dX11_goesDown_66 rfl ?_ | refine a_aload_nN K dX11_goesDown_66 rfl ?_
      refine a_getRs K fd_X11_49 (by exact lm_o hM) (Or.inr ⟨_, rfl⟩) (by exact lm_r727 hM) dX11_goesDown_67 ?_
      first | refine a_aload_n K dX11_goesDown_70 rfl ?_ | refine a_aload_nN K dX11_goesDown_70 rfl ?_
      refine a_getI K fd_X11_215 (by exact lm_o hM) (Or.inl rfl) dX11_goesDown_71 ?_
      rw [show sI (wA S9 (m 9) (7 * ρ t.1 + place key (kds t)) (nI (ρ2 (edt tk u c).1.1))) 729 (m 33) = nI j from hj9]
      refine a_iload K dX11_goesDown_74 rfl ?_
      refine a_iast K (by exact lm_kk hM (by decide) (by decide)) (by show vp_in _ (sN S9 (m 11)); exact lm_ix (z := 10) hM (by decide) (by decide) (show j < 10 by omega) (by decide)) dX11_goesDown_76 ?_
      rw [nI_clamp (by omega)]
      first | refine a_aload_n K dX11_goesDown_77 rfl ?_ | refine a_aload_nN K dX11_goesDown_77 rfl ?_
      refine a_getRs K fd_X11_52 (by exact lm_o hM) (Or.inr ⟨_, rfl⟩) (by exact lm_r728 hM) dX11_goesDown_78 ?_
      first | refine a_aload_n K dX11_goesDown_81 rfl ?_ | refine a_aload_nN K dX11_goesDown_81 rfl ?_
      refine a_getI K fd_X11_215 (by exact lm_o hM) (Or.inl rfl) dX11_goesDown_82 ?_
      rw [show sI (wA (wA S9 (m 9) (7 * ρ t.1 + place key (kds t)) (nI (ρ2 (edt tk u c).1.1))) (m 11) j (nI (ρ t.1))) 729 (m 33) = nI j from hj9]
      refine a_iload K dX11_goesDown_85 rfl ?_
      refine a_iast K (by exact lm_kk hM (by decide) (by decide)) (by show vp_in _ (sN S9 (m 12)); exact lm_ix (z := 10) hM (by decide) (by decide) (show j < 10 by omega) (by decide)) dX11_goesDown_87 ?_
      rw [nI_clamp (by omega)]
      first | refine a_aload_n K dX11_goesDown_88 rfl ?_ | refine a_aload_nN K dX11_goesDown_88 rfl ?_
      refine a_dup K dX11_goesDown_89 rfl ?_
      refine a_getI K fd_X11_215 (by exact lm_o hM) (Or.inl rfl) dX11_goesDown_90 ?_
      rw [show sI (wA (wA (wA S9 (m 9) (7 * ρ t.1 + place key (kds t)) (nI (ρ2 (edt tk u c).1.1))) (m 11) j (nI (ρ t.1))) (m 12) j (nI (place key (kds t)))) 729 (m 33) = nI j from hj9]
      refine a_iconst K dX11_goesDown_93 (v := 1) (by decide) ?_
      refine a_iadd K dX11_goesDown_94 ?_
      rw [nI_1]
      refine a_putI K fd_X11_215 (by exact lm_o hM) rfl dX11_goesDown_95 ?_
      refine a_iload K dX11_goesDown_98 rfl ?_
      refine a_istore K dX11_goesDown_100 (by decide) ?_
      refine a_goto K dX11_goesDown_102 (tgt := 17) (by decide) ?_
      obtain ⟨T, hT⟩ : ∃ T, T = wI (wA (wA (wA S9 (m 9) (7 * ρ t.1 + place key (kds t)) (nI (ρ2 (edt tk u c).1.1))) (m 11) j (nI (ρ t.1))) (m 12) j (nI (place key (kds t)))) 729 (m 33) (nI (j + 1)) := ⟨_, rfl⟩
      rw [← hT]
      have q4d : ∀ x ∈ ndl h (edt tk u c).1, x ∈ ndl (h + 1) t ∨ (u ≤ x.1 ∧ x.1 < (edt tk u c).2) := fun x hx => ((edt_gru (tk := tk) (kid_bdd hc b)).1.2.1 x hx).imp (fun z => ndl_kid (List.mem_of_getElem? hc) z) (fun z => ⟨z.1, z.2.1⟩)
      obtain ⟨q1, q2, q3, q4, q5, q6, q7, q8⟩ := dn_step hM0 hM9 rp a ht b htk2 hc g1 r1 hT
      have hg := g1.F
      have he := edt_1 (tk := tk) (u := u) (t := c)
      have a1 := g1.al a
      have hpl := place_set (key := key) (c2 := (edt tk u c).1) hc (edt_low tk u c)
      have hc1 := set_at (x := (edt tk u c).1) hc
      have hks : kds (nod t.1 t.2.1 ((kds t).set (place key (kds t)) (edt tk u c).1)) = (kds t).set (place key (kds t)) (edt tk u c).1 := rfl
      refine aw_locl rfl (ih (edt tk u c).1 T ρ2 (edt tk u c).2 (j + 1) Z2 (PN P u (edt tk u c).2) (q2.lay hM0) (q1.kid hc1).1 (edt_ne (ne.2 c (List.mem_of_getElem? hc))) q2.F.1 q2.F.2.1 (by omega) a1 (fun x hx => q4 x (ndl_kid (List.mem_of_getElem? hc1) hx)) (kid_bdd hc1 q3) (fun x hx => ?_) (edt_tk tk u c) (by omega) q7 (fun ρ3 Z3 S3 g3 r3 w3 e3 e4 => ?_))
      · rcases (edt_gru (tk := tk) (kid_bdd hc b)).1.2.1 x hx with z | z
        · exact ht9 x (ndl_kid (List.mem_of_getElem? hc) z)
        · rw [z.2.2]; exact htk
      have ed := dnT_s (tk := tk) (u := u) hc
      have id3 := dnT_id (tk := tk) (key := key) h (edt tk u c).2 (edt tk u c).1
      have rC := RepM_ctx g3 a1 q1 q4 q3 hc1 r3 id3.1
      rw [hks, List.set_set] at rC
      have er2 : ρ2 t.1 = ρ t.1 := g1.2.1 _ (a.1 _ (ht _ (ndl_top t))).1
      have er3 : ρ3 t.1 = ρ2 t.1 := g3.2.1 _ (by have := (a.1 _ (ht _ (ndl_top t))).1; omega)
      have hpl3 := place_set (key := key) (c2 := (dnT tk key h (edt tk u c).2 (edt tk u c).1).1) hc ((dnT_low h _ _).trans (edt_low tk u c))
      refine fin ρ3 Z3 S3 ?_ ?_ ?_ (fun i hi => ?_) (by rw [e4]; congr 1; omega)
      · rw [ed]
        exact q2.tr g3 (fun x hx _ => (q4d x hx)) (fun x hx => (a.1 _ (ht x hx)).1)
      · rw [ed]; exact rC
      · rw [ed]
        refine ⟨?_, ?_, fun d hd => ?_⟩
        · show sA S3 (m 11) j = nI (ρ3 t.1)
          rw [(e3 j (Nat.lt_succ_self j)).1, q5, er3, er2]
        · show sA S3 (m 12) j = nI (place key ((kds t).set (place key (kds t)) (dnT tk key h (edt tk u c).2 (edt tk u c).1).1))
          rw [(e3 j (Nat.lt_succ_self j)).2, q6, hpl3]
        · have hd : ((kds t).set (place key (kds t)) (dnT tk key h (edt tk u c).2 (edt tk u c).1).1)[place key ((kds t).set (place key (kds t)) (dnT tk key h (edt tk u c).2 (edt tk u c).1).1)]? = some d := hd
          rw [hpl3, set_at hc] at hd
          rw [← Option.some.inj hd]
          exact w3
      · obtain ⟨y1, y2⟩ := e3 i (by omega)
        obtain ⟨y3, y4⟩ := q8 i (by omega)
        rw [y1, y2, y3, y4, w1.1, w1.2.1]
        exact ⟨rfl, rfl⟩
  first | refine a_aload_n K dX11_goesDown_0 rfl ?_ | refine a_aload_nN K dX11_goesDown_0 rfl ?_
  refine a_iload_n K dX11_goesDown_1 rfl ?_
  refine a_iload_n K dX11_goesDown_2 rfl ?_
  refine a_invV K (q_edited hM rp hF nd (tk := tk) (u := u) (by omega) (fun x hx => a.1 _ (ht x hx)) htk (ht9 _ (ndl_top t))) my_X11_edited ml_X11_212 im_X11_edited se_X11_edited (ci := 11) (by exact lm_o hM) (by decide) ⟨_, _, rfl⟩ rfl (by omega) (by omega) (by omega) rfl (Nat.le_of_ble_eq_true rfl) dX11_goesDown_3 ?_
  intro r9 S9 hp9
  obtain ⟨ρ2, Z2, rfl, g1, r1, w1⟩ := hp9
  have hM9 := g1.lay hM
  have hM0 := hM
  have hM := hM9
  refine a_istore K dX11_goesDown_6 (by decide) ?_
  refine a_iload K dX11_goesDown_8 rfl ?_
  refine a_istore K dX11_goesDown_10 (by decide) ?_
  first | refine a_aload_n K dX11_goesDown_12 rfl ?_ | refine a_aload_nN K dX11_goesDown_12 rfl ?_
  refine a_iconst K dX11_goesDown_13 (v := 0) (by decide) ?_
  refine a_putI K fd_X11_215 (by exact lm_o hM) rfl dX11_goesDown_14 ?_
  have a1 := g1.al a
  have ge := edt_gru (tk := tk) b
  have he := edt_1 (tk := tk) (u := u) (t := t)
  have hg := g1.F
  have f0 : frM S9 (wI S9 729 (m 33) 0) m [11, 12] [729] := frM_wI (by decide) (by decide)
  have g0 : GM S9 (wI S9 729 (m 33) 0) m ρ2 ρ2 (edt tk u t).2 (edt tk u t).2 Z2 Z2 tk [] := GM_way hM9 hg.1 hg.2.1 f0
  have gA := (g1.mono (L2 := ndl h t) (fun x hx => absurd hx (by simp))).tr g0 (fun x hx => absurd hx (by simp)) (fun x hx => (a.1 _ (ht x hx)).1)
  have id3 := dnT_id (tk := tk) (key := key) h (edt tk u t).2 (edt tk u t).1
  refine aw_locl rfl (loop (nI (ρ2 (edt tk u t).1.1)) h (edt tk u t).1 (wI S9 729 (m 33) 0) ρ2 (edt tk u t).2 0 Z2 (PN P u (edt tk u t).2) (f0.lay hM9) (f0.rep hM9 (by decide) (by decide) (by decide) (by decide) (by decide) (by decide) r1) (edt_ne ne) g0.F.1 hg.2.1 (by omega) a1 (fun x hx => (ge.1.2.1 x hx).imp (ht x) (fun z => ⟨z.1, z.2.1⟩)) (ge.1.bd b) (fun x hx => ?_) (edt_tk tk u t) (by omega) wI_at (fun ρ3 Z3 S3 g3 r3 w3 e3 e4 => ?_))
  · rcases ge.1.2.1 x hx with z | z
    · exact ht9 x z
    · rw [z.2.2]; exact htk
  have hM := g3.lay (f0.lay hM9)
  
  refine a_iload K dX11_goesDown_116 rfl ?_
  exact a_iret K EE rfl (by omega) (by omega) dX11_goesDown_118 ⟨ρ3, Z3, by rw [id3.1, g3.2.1 _ (a1.1 _ ((ge.1.2.1 _ (ndl_top (edt tk u t).1)).imp (ht _) (fun z => ⟨z.1, z.2.1⟩))).1], gA.tr g3 (fun x hx _ => (ge.1.2.1 x hx).imp id (fun z => ⟨z.1, z.2.1⟩)) (fun x hx => (a.1 _ (ht x hx)).1), r3, w3, by rw [e4, Nat.zero_add]⟩
