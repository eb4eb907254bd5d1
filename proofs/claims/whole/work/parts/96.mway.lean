/-! the model: rows that live; a kid changed; the way down -/
/-- numbers that live: below u, their rows used and unlike -/
def AL (ρ : Nat → Nat) (u : Nat) (Z : List Nat × Nat) (P : Nat → Prop) : Prop := (∀ i, P i → i < u ∧ US Z (ρ i)) ∧ ∀ i j, P i → P j → ρ i = ρ j → i = j
/-- those that lived and those made -/
def PN (P : Nat → Prop) (u u2 i : Nat) : Prop := P i ∨ (u ≤ i ∧ i < u2)
theorem AL.sub {ρ : Nat → Nat} {u : Nat} {Z : List Nat × Nat} {P Q : Nat → Prop} (a : AL ρ u Z P) (h : ∀ i, Q i → P i) : AL ρ u Z Q := ⟨fun i z => a.1 i (h i z), fun i j x y => a.2 i j (h i x) (h j y)⟩
theorem GM.al {S S2 : aw_S} {m ρ ρ2 : Nat → Nat} {u u2 tk : Nat} {Z Z2 : List Nat × Nat} {L : List (Nat × Nat)} {P : Nat → Prop} (g : GM S S2 m ρ ρ2 u u2 Z Z2 tk L) (a : AL ρ u Z P) : AL ρ2 u2 Z2 (PN P u u2) := by
  obtain ⟨g1, g2, g3, g4, g5, g6, g7, g8, -⟩ := g
  refine ⟨fun i hi => ?_, fun i j hi hj e => ?_⟩
  · rcases hi with hi | ⟨h1, h2⟩
    · obtain ⟨b1, b2⟩ := a.1 i hi
      exact ⟨by omega, by rw [g2 i b1]; exact g6 _ b2⟩
    · exact ⟨h2, (g7 i h1 h2).2.1⟩
  · rcases hi with hi | ⟨h1, h2⟩
    · obtain ⟨b1, b2⟩ := a.1 i hi
      rw [g2 i b1] at e
      rcases hj with hj | ⟨h3, h4⟩
      · rw [g2 j (a.1 j hj).1] at e
        exact a.2 i j hi hj e
      · rw [e] at b2
        exact absurd b2 (g7 j h3 h4).1
    · rcases hj with hj | ⟨h3, h4⟩
      · have b2 := (a.1 j hj).2
        rw [g2 j (a.1 j hj).1] at e
        rw [← e] at b2
        exact absurd b2 (g7 i h1 h2).1
      · exact g8 i j h1 h2 h3 h4 e
theorem GM.rp {S S2 : aw_S} {m ρ ρ2 : Nat → Nat} {u u2 tk h : Nat} {Z Z2 : List Nat × Nat} {L : List (Nat × Nat)} {P : Nat → Prop} {t : Tr h} (g : GM S S2 m ρ ρ2 u u2 Z Z2 tk L) (a : AL ρ u Z P) (r : RepM S m ρ h t) (ht : ∀ x ∈ ndl h t, P x.1) (hL : ∀ y ∈ L, y.2 = tk → P y.1) (hd : ∀ x ∈ ndl h t, ∀ y ∈ L, y.2 = tk → x.1 ≠ y.1) : RepM S2 m ρ2 h t := g.rep r (fun x hx => ⟨(a.1 _ (ht x hx)).1, (a.1 _ (ht x hx)).2, fun y hy hk e => hd x hx y hy hk (a.2 _ _ (ht x hx) (hL y hy hk) e)⟩)
theorem NdM_g {S S2 : aw_S} {m ρ ρ2 : Nat → Nat} {R : Nat → Prop} (f : RoF S S2 m R) {h : Nat} {t : Tr (h + 1)} (n : NdM S m ρ (h + 1) t) (h0 : ¬ R (ρ t.1)) (e : ρ2 t.1 = ρ t.1) (ek : ∀ c ∈ kds t, ρ2 c.1 = ρ c.1) : NdM S2 m ρ2 (h + 1) t := by
  obtain ⟨l, r, w⟩ := n.raw
  obtain ⟨n1, n2, n3, n4, n5, n6⟩ := n
  obtain ⟨a1, a2, a3, a4⟩ := f _ n1 h0
  have w2 : rawM ρ2 (h + 1) t.2.2 l := by
    show l.map Prod.fst = (kds t).map (fun c => nI (ρ2 c.1))
    refine (show l.map Prod.fst = (kds t).map (fun c => nI (ρ c.1)) from w).trans (List.map_congr_left (fun c hc => ?_))
    rw [ek c hc]
  have hl7 := rawM_len w
  exact NdM_of (by rw [e]; exact n1) (by rw [e, a1]; exact n2) (by rw [e, a3]; exact n4) ⟨by rw [e, a2]; exact r.1, fun k x hk => by
    have h9 := (List.getElem?_eq_some_iff.mp hk).1
    rw [e, a4 k (by omega)]
    exact r.2 k x hk⟩ w2 n5
theorem NdM_ids {S : aw_S} {m ρ : Nat → Nat} {h i tk : Nat} {ks ks2 : List (Tr h)} (n : NdM S m ρ (h + 1) (nod i tk ks)) (e : ks2.map (fun c : Tr h => c.1) = ks.map (fun c : Tr h => c.1)) : NdM S m ρ (h + 1) (nod i tk ks2) := by
  obtain ⟨l, r, w⟩ := n.raw
  have hlen : ks2.length = ks.length := by
    have e9 := congrArg List.length e
    rwa [List.length_map, List.length_map] at e9
  refine NdM_of n.1 n.2.1 n.2.2.2.1 r ?_ (by show ks2.length ≤ 7; rw [hlen]; exact n.2.2.2.2.1)
  show l.map Prod.fst = ks2.map (fun c => nI (ρ c.1))
  have w : l.map Prod.fst = ks.map (fun c => nI (ρ c.1)) := w
  have e2 := congrArg (List.map (fun i => nI (ρ i))) e
  rw [List.map_map, List.map_map] at e2
  exact w.trans e2.symm
theorem set_split {α : Type} {l : List α} {p : Nat} {x : α} (h : p < l.length) : l.set p x = l.take p ++ x :: l.drop (p + 1) := by rw [List.set_eq_take_append_cons_drop, if_pos h]
theorem flatMap_set {α β : Type} {f : α → List β} {l : List α} {p : Nat} {c x : α} (hc : l[p]? = some c) (e : f x = f c) : (l.set p x).flatMap f = l.flatMap f := by
  rw [set_split (List.getElem?_eq_some_iff.mp hc).1]
  conv => rhs; rw [get_split hc]
  rw [List.flatMap_append, List.flatMap_append, List.flatMap_cons, List.flatMap_cons, e]
theorem map_set_same {α β : Type} {f : α → β} {l : List α} {p : Nat} {c x : α} (hc : l[p]? = some c) (e : f x = f c) : (l.set p x).map f = l.map f := by
  rw [set_split (List.getElem?_eq_some_iff.mp hc).1]
  conv => rhs; rw [get_split hc]
  rw [List.map_append, List.map_append, List.map_cons, List.map_cons, e]
theorem kid_dis {h : Nat} {l : List (Tr h)} {p k : Nat} {c d : Tr h} (nd : ((l.flatMap (ndl h)).map Prod.fst).Nodup) (hc : l[p]? = some c) (hd : l[k]? = some d) (n : k ≠ p) : ∀ x ∈ ndl h d, ∀ y ∈ ndl h c, x.1 ≠ y.1 := by
  intro x hx y hy e
  rw [get_split hc, List.flatMap_append, List.flatMap_cons, List.map_append, List.map_append] at nd
  obtain ⟨n1, n2, n3⟩ := List.nodup_append.mp nd
  obtain ⟨m1, m2, m3⟩ := List.nodup_append.mp n2
  have hy2 : y.1 ∈ (ndl h c).map Prod.fst := List.mem_map.mpr ⟨y, hy, rfl⟩
  rcases Nat.lt_or_gt_of_ne n with z | z
  · have h1 : d ∈ l.take p := List.mem_of_getElem? (i := k) (by rw [List.getElem?_take, if_pos z]; exact hd)
    exact n3 x.1 (List.mem_map.mpr ⟨x, List.mem_flatMap.mpr ⟨d, h1, hx⟩, rfl⟩) y.1 (List.mem_append_left _ hy2) e
  · have h1 : d ∈ l.drop (p + 1) := List.mem_of_getElem? (i := k - (p + 1)) (by rw [List.getElem?_drop, show p + 1 + (k - (p + 1)) = k by omega]; exact hd)
    exact m3 y.1 hy2 x.1 (List.mem_map.mpr ⟨x, List.mem_flatMap.mpr ⟨d, h1, hx⟩, rfl⟩) e.symm
theorem ndl_top {h : Nat} (t : Tr h) : (t.1, t.2.1) ∈ ndl h t := by rw [ndl_L]; exact List.mem_cons_self
theorem ndl_kid {h : Nat} {t : Tr (h + 1)} {c : Tr h} (hc : c ∈ kds t) {x : Nat × Nat} (hx : x ∈ ndl h c) : x ∈ ndl (h + 1) t := List.mem_cons_of_mem _ (List.mem_flatMap.mpr ⟨c, hc, hx⟩)
/-- a kid changed: the node above as it is -/
theorem RepM_ctx {S S2 : aw_S} {m ρ ρ2 : Nat → Nat} {u u2 tk h p : Nat} {Z Z2 : List Nat × Nat} {P : Nat → Prop} {t : Tr (h + 1)} {c c2 : Tr h} (g : GM S S2 m ρ ρ2 u u2 Z Z2 tk (ndl h c)) (a : AL ρ u Z P) (r : RepM S m ρ (h + 1) t) (ht : ∀ x ∈ ndl (h + 1) t, P x.1) (b : bdd u (ndl (h + 1) t)) (hc : (kds t)[p]? = some c) (r2 : RepM S2 m ρ2 h c2) (e2 : c2.1 = c.1) : RepM S2 m ρ2 (h + 1) (nod t.1 t.2.1 ((kds t).set p c2)) := by
  have hcm := List.mem_of_getElem? hc
  have nd : (((t.1, t.2.1) :: (kds t).flatMap (ndl h)).map Prod.fst).Nodup := b.2
  rw [List.map_cons, List.nodup_cons] at nd
  have htop := ht _ (ndl_top t)
  have own : NdM S2 m ρ2 (h + 1) t := by
    refine NdM_g g.2.2.2.2.2.2.2.2.2.2 r.1 (fun z => ?_) (g.2.1 _ (a.1 _ htop).1) (fun d hd => g.2.1 _ (a.1 _ (ht _ (ndl_kid hd (ndl_top d)))).1)
    rcases z with ⟨x, hx, hk, e⟩ | z
    · have e9 := a.2 _ _ htop (ht x (ndl_kid hcm hx)) e
      exact nd.1 (List.mem_map.mpr ⟨x, List.mem_flatMap.mpr ⟨c, hcm, hx⟩, e9.symm⟩)
    · exact z (a.1 _ htop).2
  refine ⟨NdM_ids (ks := kds t) own (map_set_same hc e2), fun d hd => ?_⟩
  obtain ⟨k, hk⟩ := List.mem_iff_getElem?.mp (show d ∈ (kds t).set p c2 from hd)
  rw [List.getElem?_set] at hk
  by_cases e : p = k
  · rw [if_pos e, if_pos (List.getElem?_eq_some_iff.mp hc).1] at hk
    rw [← Option.some.inj hk]
    exact r2
  · rw [if_neg e] at hk
    have hdm := List.mem_of_getElem? hk
    exact g.rp a (r.2 d hdm) (fun x hx => ht x (ndl_kid hdm hx)) (fun y hy _ => ht y (ndl_kid hcm hy)) (fun x hx y hy _ => kid_dis nd.2 hc hk (fun z => e z.symm) x hx y hy)
/-- a row of a node of this token written -/
theorem GM_row {S S2 : aw_S} {m ρ : Nat → Nat} {u tk i : Nat} {Z : List Nat × Nat} {L : List (Nat × Nat)} (hM : LM S m) (hF : FrM S m Z.1 Z.2) (nd : Z.1.Nodup) (f : frR S S2 m (fun q => q = ρ i) []) (hi : (i, tk) ∈ L) : GM S S2 m ρ ρ u u Z Z tk L := ⟨Nat.le_refl _, fun _ _ => rfl, hF.fr hM f.1 (by decide) (by decide) (by decide) (by decide), nd, by rw [Nat.sub_self, Nat.add_zero], fun _ z => z, fun i h1 h2 => absurd h2 (by omega), fun i j h1 h2 => absurd h2 (by omega), by rw [Nat.sub_self, show nI 0 = 0 from rfl, Int32.add_zero]; exact f.1.2 724 (by decide), f.g (fun q e => Or.inl ⟨(i, tk), hi, rfl, e⟩) (by decide)⟩
/-- the way written -/
theorem GM_way {S S2 : aw_S} {m ρ : Nat → Nat} {u tk : Nat} {Z : List Nat × Nat} {L : List (Nat × Nat)} (hM : LM S m) (hF : FrM S m Z.1 Z.2) (nd : Z.1.Nodup) (f : frM S S2 m [11, 12] [729]) : GM S S2 m ρ ρ u u Z Z tk L := ⟨Nat.le_refl _, fun _ _ => rfl, hF.fr hM f (by decide) (by decide) (by decide) (by decide), nd, by rw [Nat.sub_self, Nat.add_zero], fun _ z => z, fun i h1 h2 => absurd h2 (by omega), fun i j h1 h2 => absurd h2 (by omega), by rw [Nat.sub_self, show nI 0 = 0 from rfl, Int32.add_zero]; exact f.2 724 (by decide), ⟨f.up (by decide) (by decide), fun q _ _ => ⟨congrFun (f.A hM (by decide) (by decide) (by decide)) q, congrFun (f.A hM (by decide) (by decide) (by decide)) q, congrFun (f.A hM (by decide) (by decide) (by decide)) q, fun k _ => Prod.ext (congrFun (f.A hM (by decide) (by decide) (by decide)) (7 * q + k)) (congrFun (f.A hM (by decide) (by decide) (by decide)) (7 * q + k))⟩⟩⟩
theorem GM.lay {S S2 : aw_S} {m ρ ρ2 : Nat → Nat} {u u2 tk : Nat} {Z Z2 : List Nat × Nat} {L : List (Nat × Nat)} (g : GM S S2 m ρ ρ2 u u2 Z Z2 tk L) (hM : LM S m) : LM S2 m := g.2.2.2.2.2.2.2.2.2.1.lay hM
theorem GM.F {S S2 : aw_S} {m ρ ρ2 : Nat → Nat} {u u2 tk : Nat} {Z Z2 : List Nat × Nat} {L : List (Nat × Nat)} (g : GM S S2 m ρ ρ2 u u2 Z Z2 tk L) : FrM S2 m Z2.1 Z2.2 ∧ Z2.1.Nodup ∧ rmM Z2 + (u2 - u) = rmM Z ∧ u ≤ u2 := ⟨g.2.2.1, g.2.2.2.1, g.2.2.2.2.1, g.1⟩
theorem low_L {h : Nat} (t : Tr (h + 1)) : low (h + 1) t = lowL (kds t) 0 := by
  show (match (kds t)[0]? with | some c => low h c | none => -1) = _
  unfold lowL
  cases (kds t)[0]? <;> rfl
theorem lowL_set {h p : Nat} {ks : List (Tr h)} {c c2 : Tr h} (hc : ks[p]? = some c) (e : low h c2 = low h c) : lowL (ks.set p c2) = lowL ks := funext (fun k => by
  by_cases z : p = k
  · rw [← z, lowL_in hc, lowL_in (c := c2) (by rw [List.getElem?_set, if_pos rfl, if_pos (List.getElem?_eq_some_iff.mp hc).1]), e]
  · unfold lowL
    rw [List.getElem?_set, if_neg z])
theorem place_set {h p : Nat} {ks : List (Tr h)} {c c2 : Tr h} {key : Int32} (hc : ks[p]? = some c) (e : low h c2 = low h c) : place key (ks.set p c2) = place key ks := by
  unfold place
  rw [lowL_set hc e, List.length_set]
theorem edt_low {h : Nat} (tk u : Nat) (t : Tr h) : low h (edt tk u t).1 = low h t := by
  unfold edt
  split
  · rfl
  · cases h <;> rfl
theorem set_at {α : Type} {l : List α} {p : Nat} {c x : α} (hc : l[p]? = some c) : (l.set p x)[p]? = some x := by rw [List.getElem?_set, if_pos rfl, if_pos (List.getElem?_eq_some_iff.mp hc).1]
/-- a tree, its way to a key edited -/
def dnT (tk : Nat) (key : Int32) : (h : Nat) → Nat → Tr h → Tr h × Nat
  | 0, u, t => (t, u)
  | h + 1, u, t => match (kds t)[place key (kds t)]? with
    | none => (t, u)
    | some c => (nod t.1 t.2.1 ((kds t).set (place key (kds t)) (dnT tk key h (edt tk u c).2 (edt tk u c).1).1), (dnT tk key h (edt tk u c).2 (edt tk u c).1).2)
theorem dnT_s {tk : Nat} {key : Int32} {h u : Nat} {t : Tr (h + 1)} {c : Tr h} (hc : (kds t)[place key (kds t)]? = some c) : dnT tk key (h + 1) u t = (nod t.1 t.2.1 ((kds t).set (place key (kds t)) (dnT tk key h (edt tk u c).2 (edt tk u c).1).1), (dnT tk key h (edt tk u c).2 (edt tk u c).1).2) := by rw [dnT, hc]
theorem dnT_n {tk : Nat} {key : Int32} {h u : Nat} {t : Tr (h + 1)} (hc : (kds t)[place key (kds t)]? = none) : dnT tk key (h + 1) u t = (t, u) := by rw [dnT, hc]
theorem dnT_id {tk : Nat} {key : Int32} : ∀ (h u : Nat) (t : Tr h), (dnT tk key h u t).1.1 = t.1 ∧ (dnT tk key h u t).1.2.1 = t.2.1 ∧ (dnT tk key h u t).1.2.2.length = t.2.2.length
  | 0, _, _ => ⟨rfl, rfl, rfl⟩
  | h + 1, u, t => by
    cases hc : (kds t)[place key (kds t)]? with
    | none => rw [dnT_n hc]; exact ⟨rfl, rfl, rfl⟩
    | some c => rw [dnT_s hc]; exact ⟨rfl, rfl, List.length_set ..⟩
theorem dnT_low {tk : Nat} {key : Int32} : ∀ (h u : Nat) (t : Tr h), low h (dnT tk key h u t).1 = low h t
  | 0, _, _ => rfl
  | h + 1, u, t => by
    cases hc : (kds t)[place key (kds t)]? with
    | none => rw [dnT_n hc]
    | some c =>
      rw [dnT_s hc, low_L, low_L]
      exact congrFun (lowL_set hc ((dnT_low h _ _).trans (edt_low tk u c))) 0
theorem dnT_ent {tk : Nat} {key : Int32} : ∀ (h u : Nat) (t : Tr h), ent h (dnT tk key h u t).1 = ent h t
  | 0, _, _ => rfl
  | h + 1, u, t => by
    cases hc : (kds t)[place key (kds t)]? with
    | none => rw [dnT_n hc]
    | some c =>
      rw [dnT_s hc]
      exact flatMap_set hc ((dnT_ent h _ _).trans (edt_ent tk u c))
theorem dnT_gru {tk : Nat} {key : Int32} : ∀ (h : Nat) {u : Nat} {t : Tr h}, bdd u (ndl h t) → gru u (dnT tk key h u t).2 tk (ndl h t) (ndl h (dnT tk key h u t).1)
  | 0, _, _, b => gru.rf b
  | h + 1, u, t, b => by
    cases hc : (kds t)[place key (kds t)]? with
    | none => rw [dnT_n hc]; exact gru.rf b
    | some c =>
      rw [dnT_s hc]
      have hd := get_split hc
      show gru u (dnT tk key h (edt tk u c).2 (edt tk u c).1).2 tk (ndl (h + 1) t) ((t.1, t.2.1) :: ((kds t).set (place key (kds t)) (dnT tk key h (edt tk u c).2 (edt tk u c).1).1).flatMap (ndl h))
      rw [set_split (List.getElem?_eq_some_iff.mp hc).1, List.flatMap_append, List.flatMap_cons, ndl_kds hd]
      rw [ndl_kds hd] at b
      have b1 := b.tl.mid
      have g1 := edt_gru (tk := tk) b1
      exact gru.con _ b (gru.ctx _ _ b.tl (g1.tr (dnT_gru h (g1.1.bd b1))))
theorem dnT_fanL {lo hi tk : Nat} {key : Int32} : ∀ (h u : Nat) (t : Tr h), fanL lo hi h t.2.2 → fanL lo hi h (dnT tk key h u t).1.2.2
  | 0, _, _, _ => trivial
  | h + 1, u, t, f => by
    cases hc : (kds t)[place key (kds t)]? with
    | none => rw [dnT_n hc]; exact f
    | some c =>
      rw [dnT_s hc]
      have f : ∀ d : Tr h, d ∈ kds t → fan lo hi h d := f
      show ∀ d : Tr h, d ∈ (kds t).set (place key (kds t)) (dnT tk key h (edt tk u c).2 (edt tk u c).1).1 → fan lo hi h d
      intro d hd
      rcases List.mem_or_eq_of_mem_set hd with z | z
      · exact f d z
      · have fc := fan_L.mp (f c (List.mem_of_getElem? hc))
        rw [z]
        refine fan_L.mpr ⟨?_, dnT_fanL h _ _ (by rw [edt_it]; exact fc.2)⟩
        rw [(dnT_id h _ _).2.2, edt_it]
        exact fc.1
theorem edt_own {h : Nat} {tk u : Nat} {t : Tr h} (e : t.2.1 = tk) : edt tk u t = (t, u) := by unfold edt; rw [if_pos e]
/-- put below a node whose way is edited already -/
theorem insB_dn {w tk : Nat} {key v : Int32} : ∀ (h u : Nat) (t : Tr h), insB w tk key v h u t = insB w tk key v h (dnT tk key h u t).2 (dnT tk key h u t).1
  | 0, _, _ => rfl
  | h + 1, u, t => by
    cases hc : (kds t)[place key (kds t)]? with
    | none => rw [dnT_n hc]
    | some c =>
      have ih := insB_dn (w := w) (tk := tk) (key := key) (v := v) h (edt tk u c).2 (edt tk u c).1
      have hi := dnT_id (tk := tk) (key := key) h (edt tk u c).2 (edt tk u c).1
      have hp := place_set (key := key) (c2 := (dnT tk key h (edt tk u c).2 (edt tk u c).1).1) hc ((dnT_low h _ _).trans (edt_low tk u c))
      rw [dnT_s hc, insB_s hc]
      generalize dnT tk key h (edt tk u c).2 (edt tk u c).1 = D at ih hi hp
      have ho := edt_own (u := D.2) (hi.2.1.trans (edt_tk tk u c))
      have hc2 : (kds (nod t.1 t.2.1 ((kds t).set (place key (kds t)) D.1)))[place key (kds (nod t.1 t.2.1 ((kds t).set (place key (kds t)) D.1)))]? = some D.1 := by
        show ((kds t).set (place key (kds t)) D.1)[place key ((kds t).set (place key (kds t)) D.1)]? = some D.1
        rw [hp]
        exact set_at hc
      rw [insB_s hc2, ho, ih]
      show _ = spl w tk _ (nod t.1 t.2.1 (((kds t).set (place key (kds t)) D.1).take (place key ((kds t).set (place key (kds t)) D.1)) ++ (_ :: _ ++ ((kds t).set (place key (kds t)) D.1).drop (place key ((kds t).set (place key (kds t)) D.1) + 1))))
      rw [hp, List.take_set_of_le (Nat.le_refl _), List.drop_set_of_lt (Nat.lt_succ_self _)]
theorem remB_dn {w tk : Nat} {key : Int32} : ∀ (h u : Nat) (t : Tr h), remB w tk key h u t = remB w tk key h (dnT tk key h u t).2 (dnT tk key h u t).1
  | 0, _, _ => rfl
  | h + 1, u, t => by
    cases hc : (kds t)[place key (kds t)]? with
    | none => rw [dnT_n hc]
    | some c =>
      have ih := remB_dn (w := w) (tk := tk) (key := key) h (edt tk u c).2 (edt tk u c).1
      have hi := dnT_id (tk := tk) (key := key) h (edt tk u c).2 (edt tk u c).1
      have hp := place_set (key := key) (c2 := (dnT tk key h (edt tk u c).2 (edt tk u c).1).1) hc ((dnT_low h _ _).trans (edt_low tk u c))
      rw [dnT_s hc]
      generalize dnT tk key h (edt tk u c).2 (edt tk u c).1 = D at ih hi hp
      have ho := edt_own (u := D.2) (hi.2.1.trans (edt_tk tk u c))
      have hc2 : (kds (nod t.1 t.2.1 ((kds t).set (place key (kds t)) D.1)))[place key (kds (nod t.1 t.2.1 ((kds t).set (place key (kds t)) D.1)))]? = some D.1 := by
        show ((kds t).set (place key (kds t)) D.1)[place key ((kds t).set (place key (kds t)) D.1)]? = some D.1
        rw [hp]
        exact set_at hc
      have e1 : (kds (nod t.1 t.2.1 ((kds t).set (place key (kds t)) D.1))).take (place key (kds (nod t.1 t.2.1 ((kds t).set (place key (kds t)) D.1)))) = (kds t).take (place key (kds t)) := by
        show ((kds t).set (place key (kds t)) D.1).take (place key ((kds t).set (place key (kds t)) D.1)) = _
        rw [hp, List.take_set_of_le (Nat.le_refl _)]
      have e2 : (kds (nod t.1 t.2.1 ((kds t).set (place key (kds t)) D.1))).drop (place key (kds (nod t.1 t.2.1 ((kds t).set (place key (kds t)) D.1))) + 1) = (kds t).drop (place key (kds t) + 1) := by
        show ((kds t).set (place key (kds t)) D.1).drop (place key ((kds t).set (place key (kds t)) D.1) + 1) = _
        rw [hp, List.drop_set_of_lt (Nat.lt_succ_self _)]
      by_cases hl : (remB w tk key h (edt tk u c).2 (edt tk u c).1).1.2.2.length < lea w
      · rw [remB_lt hc hl, remB_lt hc2 (by rw [ho, ← ih]; exact hl), ho, e1, e2, ← ih]
        rfl
      · rw [remB_ge hc hl, remB_ge hc2 (by rw [ho, ← ih]; exact hl), ho, e1, e2, ← ih]
        rfl
/-- the nodes on the way have this token -/
def OwT (tk : Nat) (key : Int32) : (h : Nat) → Tr h → Prop
  | 0, t => t.2.1 = tk
  | h + 1, t => t.2.1 = tk ∧ ∀ c : Tr h, (kds t)[place key (kds t)]? = some c → OwT tk key h c
theorem OwT.tk {tk : Nat} {key : Int32} {h : Nat} {t : Tr h} (o : OwT tk key h t) : t.2.1 = tk := by
  cases h with
  | zero => exact o
  | succ h => exact o.1
theorem dnT_ow {tk : Nat} {key : Int32} : ∀ (h u : Nat) (t : Tr h), t.2.1 = tk → OwT tk key h (dnT tk key h u t).1
  | 0, _, _, e => e
  | h + 1, u, t, e => by
    cases hc : (kds t)[place key (kds t)]? with
    | none =>
      rw [dnT_n hc]
      exact ⟨e, fun c hc2 => by rw [hc] at hc2; exact absurd hc2 (by simp)⟩
    | some c =>
      rw [dnT_s hc]
      refine ⟨e, fun d hd => ?_⟩
      have hd : ((kds t).set (place key (kds t)) (dnT tk key h (edt tk u c).2 (edt tk u c).1).1)[place key ((kds t).set (place key (kds t)) (dnT tk key h (edt tk u c).2 (edt tk u c).1).1)]? = some d := hd
      rw [place_set (key := key) hc ((dnT_low h _ _).trans (edt_low tk u c)), set_at hc] at hd
      rw [← Option.some.inj hd]
      exact dnT_ow h _ _ (edt_tk tk u c)
/-- the way's rows: the nodes from a level on, and where each goes on -/
def WyM (S : aw_S) (m ρ : Nat → Nat) (key : Int32) : (h : Nat) → Nat → Tr h → Prop
  | 0, j, t => sA S (m 11) j = nI (ρ t.1)
  | h + 1, j, t => sA S (m 11) j = nI (ρ t.1) ∧ sA S (m 12) j = nI (place key (kds t)) ∧ ∀ c : Tr h, (kds t)[place key (kds t)]? = some c → WyM S m ρ key h (j + 1) c
theorem WyM.top {S : aw_S} {m ρ : Nat → Nat} {key : Int32} {h j : Nat} {t : Tr h} (w : WyM S m ρ key h j t) : sA S (m 11) j = nI (ρ t.1) := by
  cases h with
  | zero => exact w
  | succ h => exact w.1
/-- the way stays where its rows do, and the nodes' rows -/
theorem WyM.mono {S S2 : aw_S} {m ρ ρ2 : Nat → Nat} {key : Int32} (e1 : sA S2 (m 11) = sA S (m 11)) (e2 : sA S2 (m 12) = sA S (m 12)) : ∀ (h j : Nat) (t : Tr h), (∀ x ∈ ndl h t, ρ2 x.1 = ρ x.1) → WyM S m ρ key h j t → WyM S2 m ρ2 key h j t
  | 0, j, t, er, w => by
    show sA S2 (m 11) j = nI (ρ2 t.1)
    rw [e1, er _ (ndl_top t)]
    exact w
  | h + 1, j, t, er, w => ⟨by rw [e1, er _ (ndl_top t)]; exact w.1, by rw [e2]; exact w.2.1, fun c hc => WyM.mono e1 e2 h (j + 1) c (fun x hx => er x (ndl_kid (List.mem_of_getElem? hc) hx)) (w.2.2 c hc)⟩
