/-! trees as values: entries, nodes, put, taken out -/
abbrev Tz : Type := (h : Nat) × Tr h
def ent : (h : Nat) → Tr h → List KV
  | 0, t => ets t
  | h + 1, t => (kds t).flatMap (ent h)
/-- numbers and tokens of the nodes, as they are shown -/
def ndl : (h : Nat) → Tr h → List (Nat × Nat)
  | 0, t => [(t.1, t.2.1)]
  | h + 1, t => (t.1, t.2.1) :: (kds t).flatMap (ndl h)
def entL : (h : Nat) → List (Ct h) → List KV
  | 0, l => l
  | h + 1, l => List.flatMap (fun c : Tr h => ent h c) l
def blw : (h : Nat) → List (Ct h) → List (Nat × Nat)
  | 0, _ => []
  | h + 1, l => List.flatMap (fun c : Tr h => ndl h c) l
theorem ent_L {h : Nat} (t : Tr h) : ent h t = entL h t.2.2 := by cases h <;> rfl
theorem ndl_L {h : Nat} (t : Tr h) : ndl h t = (t.1, t.2.1) :: blw h t.2.2 := by cases h <;> rfl
theorem entL_app {h : Nat} (a b : List (Ct h)) : entL h (a ++ b) = entL h a ++ entL h b := by
  cases h with
  | zero => rfl
  | succ h => exact List.flatMap_append
theorem blw_app {h : Nat} (a b : List (Ct h)) : blw h (a ++ b) = blw h a ++ blw h b := by
  cases h with
  | zero => rfl
  | succ h => exact List.flatMap_append
/-- every node below has from lo to hi -/
def fan (lo hi : Nat) : (h : Nat) → Tr h → Prop
  | 0, t => lo ≤ t.2.2.length ∧ t.2.2.length ≤ hi
  | h + 1, t => (lo ≤ t.2.2.length ∧ t.2.2.length ≤ hi) ∧ ∀ c ∈ kds t, fan lo hi h c
def fanL (lo hi : Nat) : (h : Nat) → List (Ct h) → Prop
  | 0, _ => True
  | h + 1, l => ∀ c : Tr h, c ∈ (show List (Tr h) from l) → fan lo hi h c
theorem fan_L {lo hi h : Nat} {t : Tr h} : fan lo hi h t ↔ (lo ≤ t.2.2.length ∧ t.2.2.length ≤ hi) ∧ fanL lo hi h t.2.2 := by
  cases h with
  | zero => exact ⟨fun z => ⟨z, trivial⟩, fun z => z.1⟩
  | succ h => exact Iff.rfl
theorem fanL_app {lo hi h : Nat} {a b : List (Ct h)} : fanL lo hi h (a ++ b) ↔ fanL lo hi h a ∧ fanL lo hi h b := by
  cases h with
  | zero => exact ⟨fun _ => ⟨trivial, trivial⟩, fun _ => trivial⟩
  | succ h => exact ⟨fun z => ⟨fun c hc => z c (List.mem_append_left _ hc), fun c hc => z c (List.mem_append_right _ hc)⟩, fun z c hc => (List.mem_append.mp hc).elim (z.1 c) (z.2 c)⟩
/-- a node whose children are full enough; one that isn't a leaf has some -/
def okT (lo hi h : Nat) (t : Tr h) : Prop := fanL lo hi h t.2.2 ∧ (0 < h → 0 < t.2.2.length)
theorem okT_fan {lo hi h : Nat} {t : Tr h} (hl : 1 ≤ lo) (f : fan lo hi h t) : okT lo hi h t := ⟨(fan_L.mp f).2, fun _ => by have := (fan_L.mp f).1.1; omega⟩
theorem okT_ne {lo hi h : Nat} {t : Tr (h + 1)} (o : okT lo hi (h + 1) t) : kds t ≠ [] := List.length_pos_iff.mp (o.2 (Nat.succ_pos h))
theorem okT_k {lo hi h : Nat} {t : Tr (h + 1)} (o : okT lo hi (h + 1) t) : ∀ c ∈ kds t, fan lo hi h c := o.1
theorem NeT_fan {lo hi : Nat} (hl : 1 ≤ lo) : ∀ (h : Nat) {t : Tr h}, okT lo hi h t → NeT h t
  | 0, _, _ => trivial
  | h + 1, _, o => ⟨okT_ne o, fun c hc => NeT_fan hl h (okT_fan hl (okT_k o c hc))⟩
theorem fan_ent {lo hi : Nat} (hl : 1 ≤ lo) : ∀ (h : Nat) {t : Tr h}, fan lo hi h t → ∃ x r, ent h t = x :: r ∧ low h t = x.1 := by
  intro h
  induction h with
  | zero =>
    intro t f
    have f1 : lo ≤ (ets t).length := f.1
    cases hq : ets t with
    | nil => rw [hq] at f1; exact absurd f1 (by simp; omega)
    | cons x r => exact ⟨x, r, hq, by show keyAtL (ets t) 0 = _; rw [hq]; rfl⟩
  | succ h ih =>
    intro t f
    have f1 : lo ≤ (kds t).length := f.1.1
    cases hq : kds t with
    | nil => rw [hq] at f1; exact absurd f1 (by simp; omega)
    | cons c r =>
      obtain ⟨x, r2, e1, e2⟩ := ih (f.2 c (by rw [hq]; exact List.mem_cons_self))
      refine ⟨x, r2 ++ r.flatMap (ent h), ?_, ?_⟩
      · show (kds t).flatMap (ent h) = _
        rw [hq, List.flatMap_cons, e1, List.cons_append]
      · rw [low_s (t := t) (c := c) (by rw [hq]; rfl)]
        exact e2
theorem plcN_spec (f : Nat → Int32) (key : Int32) : ∀ n, (plcN f key n = 0 ∨ f (plcN f key n) ≤ key) ∧ ∀ j, plcN f key n < j → j < n → key < f j
  | 0 => ⟨Or.inl rfl, fun j _ h => absurd h (by omega)⟩
  | 1 => ⟨Or.inl rfl, fun j h1 h => absurd h (by omega)⟩
  | k + 2 => by
    obtain ⟨a, b⟩ := plcN_spec f key (k + 1)
    have e : plcN f key (k + 2) = if f (k + 1) ≤ key then k + 1 else plcN f key (k + 1) := rfl
    rw [e]
    split
    · rename_i h
      exact ⟨Or.inr h, fun j h1 h2 => absurd h2 (by omega)⟩
    · rename_i h
      refine ⟨a, fun j h1 h2 => ?_⟩
      by_cases hj : j = k + 1
      · rw [hj]; exact Int32.not_le.mp h
      · exact b j h1 (by omega)
theorem get_split {α : Type} {l : List α} {i : Nat} {c : α} (h : l[i]? = some c) : l = l.take i ++ c :: l.drop (i + 1) := by
  obtain ⟨hi, e⟩ := List.getElem?_eq_some_iff.mp h
  rw [← e, ← List.drop_eq_getElem_cons hi, List.take_append_drop]
theorem place_split {lo hi h : Nat} {ks : List (Tr h)} {key : Int32} (hl : 1 ≤ lo) (hf : ∀ c ∈ ks, fan lo hi h c) (hne : ks ≠ []) (hs : srt (ks.flatMap (ent h))) : ∃ c, ks[place key ks]? = some c ∧ ks = ks.take (place key ks) ++ c :: ks.drop (place key ks + 1) ∧ (∀ x ∈ (ks.take (place key ks)).flatMap (ent h), x.1 < key) ∧ ∀ x ∈ (ks.drop (place key ks + 1)).flatMap (ent h), key < x.1 := by
  have hp : place key ks < ks.length := place_lt hne
  have hc := List.getElem?_eq_getElem hp
  have hd := get_split hc
  obtain ⟨p1, p2⟩ := plcN_spec (lowL ks) key ks.length
  refine ⟨ks[place key ks], hc, hd, fun x hx => ?_, fun x hx => ?_⟩
  · rcases p1 with p1 | p1
    · have e : place key ks = 0 := p1
      rw [e] at hx
      exact absurd hx (by simp)
    · have p3 : lowL ks (place key ks) ≤ key := p1
      obtain ⟨y, r, e1, e2⟩ := fan_ent hl h (hf _ (List.getElem_mem hp))
      rw [lowL_in hc, e2] at p3
      rw [hd, List.flatMap_append, List.flatMap_cons, e1] at hs
      have h3 := (List.pairwise_append.mp hs).2.2 x hx y (by simp)
      rw [i32_lt] at h3 ⊢
      rw [i32_le] at p3
      omega
  · cases hB : ks.drop (place key ks + 1) with
    | nil => rw [hB] at hx; exact absurd hx (by simp)
    | cons b B =>
      have hb : ks[place key ks + 1]? = some b := by
        have h1 : (ks.drop (place key ks + 1))[0]? = some b := by rw [hB]; rfl
        rw [List.getElem?_drop] at h1
        exact h1
      obtain ⟨hb2, -⟩ := List.getElem?_eq_some_iff.mp hb
      have p3 : key < lowL ks (place key ks + 1) := p2 _ (Nat.lt_succ_self _) hb2
      have hbm : b ∈ ks := by
        have h1 : b ∈ ks.drop (place key ks + 1) := by rw [hB]; exact List.mem_cons_self
        exact List.mem_of_mem_drop h1
      obtain ⟨y, r, e1, e2⟩ := fan_ent hl h (hf b hbm)
      rw [lowL_in hb, e2] at p3
      rw [hd, hB, List.flatMap_append, List.flatMap_cons, List.flatMap_cons, e1] at hs
      have h4 := (List.pairwise_append.mp (List.pairwise_append.mp hs).2.1).2.1
      rw [List.cons_append] at h4
      have h5 := (List.pairwise_cons.mp h4).1
      rw [hB, List.flatMap_cons, e1, List.cons_append] at hx
      rcases List.mem_cons.mp hx with rfl | hx
      · exact p3
      · exact lt_tr p3 (h5 x hx)
theorem ent_kds {h : Nat} {t : Tr (h + 1)} {c : Tr h} {A B : List (Tr h)} (e : kds t = A ++ c :: B) : ent (h + 1) t = A.flatMap (ent h) ++ (ent h c ++ B.flatMap (ent h)) := by
  show (kds t).flatMap (ent h) = _
  rw [e, List.flatMap_append, List.flatMap_cons]
theorem ndl_kds {h : Nat} {t : Tr (h + 1)} {c : Tr h} {A B : List (Tr h)} (e : kds t = A ++ c :: B) : ndl (h + 1) t = (t.1, t.2.1) :: (A.flatMap (ndl h) ++ (ndl h c ++ B.flatMap (ndl h))) := by
  show _ :: (kds t).flatMap (ndl h) = _
  rw [e, List.flatMap_append, List.flatMap_cons]
theorem srt_mid {A M B : List KV} (h : srt (A ++ (M ++ B))) : srt M := (List.pairwise_append.mp (List.pairwise_append.mp h).2.1).1
/-- a tree's value for a key is its entries' -/
theorem val_ent {lo hi : Nat} (hl : 1 ≤ lo) {key : Int32} : ∀ (h : Nat) {t : Tr h}, okT lo hi h t → srt (ent h t) → val h t key = valIn (ent h t) key := by
  intro h
  induction h with
  | zero => intro t _ _; rfl
  | succ h ih =>
    intro t o hs
    obtain ⟨c, hc, hd, hA, hB⟩ := place_split (key := key) hl (okT_k o) (okT_ne o) hs
    rw [val_s hc, ent_kds hd, valIn_app_l _ hA, valIn_app_r _ hB]
    rw [ent_kds hd] at hs
    exact ih (okT_fan hl (okT_k o c (List.mem_of_getElem? hc))) (srt_mid hs)
/-- a node of children -/
def nod {h : Nat} (id tk : Nat) (ks : List (Tr h)) : Tr (h + 1) := (id, tk, ks)
theorem kds_nod {h : Nat} (id tk : Nat) (ks : List (Tr h)) : kds (nod id tk ks) = ks := rfl
theorem ent_nod {h : Nat} (id tk : Nat) (ks : List (Tr h)) : ent (h + 1) (nod id tk ks) = ks.flatMap (ent h) := rfl
theorem ndl_nod {h : Nat} (id tk : Nat) (ks : List (Tr h)) : ndl (h + 1) (nod id tk ks) = (id, tk) :: ks.flatMap (ndl h) := rfl
theorem len_nod {h : Nat} (id tk : Nat) (ks : List (Tr h)) : (nod id tk ks).2.2.length = ks.length := rfl
def lea (w : Nat) : Nat := (w + 1) / 2
def edt {h : Nat} (tk u : Nat) (t : Tr h) : Tr h × Nat := if t.2.1 = tk then (t, u) else ((u, tk, t.2.2), u + 1)
def spl {h : Nat} (w tk u : Nat) (t : Tr h) : Tr h × Option (Tr h) × Nat := if w < t.2.2.length then ((t.1, t.2.1, t.2.2.take (t.2.2.length - lea w)), some (u, tk, t.2.2.drop (t.2.2.length - lea w)), u + 1) else (t, none, u)
/-- put below a node that is edited -/
def insB (w tk : Nat) (key v : Int32) : (h : Nat) → Nat → Tr h → Tr h × Option (Tr h) × Nat
  | 0, u, t => spl (h := 0) w tk u (t.1, t.2.1, setE (ets t) key v)
  | h + 1, u, t => match (kds t)[place key (kds t)]? with
    | none => (t, none, u)
    | some c => spl (h := h + 1) w tk (insB w tk key v h (edt tk u c).2 (edt tk u c).1).2.2 (nod t.1 t.2.1 ((kds t).take (place key (kds t)) ++ ((insB w tk key v h (edt tk u c).2 (edt tk u c).1).1 :: (insB w tk key v h (edt tk u c).2 (edt tk u c).1).2.1.toList ++ (kds t).drop (place key (kds t) + 1))))
/-- a child with too few: filled from beside, or one with one beside; A: those ahead, the next first -/
def refZ {h : Nat} (w tk u : Nat) : List (Tr h) → Tr h → List (Tr h) → List (Tr h) × Nat
  | a :: A, k, B =>
    if lea w < a.2.2.length then (A.reverse ++ ((edt tk u a).1.1, tk, a.2.2.take (a.2.2.length - 1)) :: (k.1, k.2.1, a.2.2.drop (a.2.2.length - 1) ++ k.2.2) :: B, (edt tk u a).2)
    else match B with
    | b :: B2 => if lea w < b.2.2.length then (A.reverse ++ a :: (k.1, k.2.1, k.2.2 ++ b.2.2.take 1) :: ((edt tk u b).1.1, tk, b.2.2.drop 1) :: B2, (edt tk u b).2)
      else (A.reverse ++ ((edt tk u a).1.1, tk, a.2.2 ++ k.2.2) :: b :: B2, (edt tk u a).2)
    | [] => (A.reverse ++ [((edt tk u a).1.1, tk, a.2.2 ++ k.2.2)], (edt tk u a).2)
  | [], k, b :: B2 => if lea w < b.2.2.length then ((k.1, k.2.1, k.2.2 ++ b.2.2.take 1) :: ((edt tk u b).1.1, tk, b.2.2.drop 1) :: B2, (edt tk u b).2) else ((k.1, k.2.1, k.2.2 ++ b.2.2) :: B2, u)
  | [], k, [] => ([k], u)
def remB (w tk : Nat) (key : Int32) : (h : Nat) → Nat → Tr h → Tr h × Nat
  | 0, u, t => ((t.1, t.2.1, remE (ets t) key), u)
  | h + 1, u, t => match (kds t)[place key (kds t)]? with
    | none => (t, u)
    | some c => if (remB w tk key h (edt tk u c).2 (edt tk u c).1).1.2.2.length < lea w
      then ((nod t.1 t.2.1 ((refZ w tk (remB w tk key h (edt tk u c).2 (edt tk u c).1).2 ((kds t).take (place key (kds t))).reverse (remB w tk key h (edt tk u c).2 (edt tk u c).1).1 ((kds t).drop (place key (kds t) + 1))).1)), (refZ w tk (remB w tk key h (edt tk u c).2 (edt tk u c).1).2 ((kds t).take (place key (kds t))).reverse (remB w tk key h (edt tk u c).2 (edt tk u c).1).1 ((kds t).drop (place key (kds t) + 1))).2)
      else ((nod t.1 t.2.1 ((kds t).take (place key (kds t)) ++ (remB w tk key h (edt tk u c).2 (edt tk u c).1).1 :: (kds t).drop (place key (kds t) + 1))), (remB w tk key h (edt tk u c).2 (edt tk u c).1).2)
/-- a root that isn't a leaf and has one child is the root no more -/
def dwn : Tz → Tz
  | ⟨0, t⟩ => ⟨0, t⟩
  | ⟨h + 1, t⟩ => match kds t with
    | [c] => ⟨h, c⟩
    | _ => ⟨h + 1, t⟩
def putT (w tk u : Nat) (key v : Int32) (z : Tz) : Tz × Nat :=
  if val z.1 z.2 key = v then (z, u) else
  match (insB w tk key v z.1 (edt tk u z.2).2 (edt tk u z.2).1).2.1 with
  | none => (⟨z.1, (insB w tk key v z.1 (edt tk u z.2).2 (edt tk u z.2).1).1⟩, (insB w tk key v z.1 (edt tk u z.2).2 (edt tk u z.2).1).2.2)
  | some b => (⟨z.1 + 1, nod (insB w tk key v z.1 (edt tk u z.2).2 (edt tk u z.2).1).2.2 tk [(insB w tk key v z.1 (edt tk u z.2).2 (edt tk u z.2).1).1, b]⟩, (insB w tk key v z.1 (edt tk u z.2).2 (edt tk u z.2).1).2.2 + 1)
def takT (w tk u : Nat) (key : Int32) (z : Tz) : Tz × Nat :=
  if val z.1 z.2 key = -1000000 then (z, u) else (dwn ⟨z.1, (remB w tk key z.1 (edt tk u z.2).2 (edt tk u z.2).1).1⟩, (remB w tk key z.1 (edt tk u z.2).2 (edt tk u z.2).1).2)
