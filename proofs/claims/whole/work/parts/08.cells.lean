/-- all that the heap says of one address -/
abbrev aw_C : Type := Nat × (Nat → Int32) × (Nat → Option Nat) × (Nat → Int64) × Nat × (Nat → Int32) × (Nat → Option Nat) × (Nat → Int64)
def cell (S : aw_S) (b : Nat) : aw_C := (sK S b, fun F => sI S F b, fun F => sR S F b, fun F => sJ S F b, sN S b, sA S b, sQ S b, sB S b)
def cK (c : aw_C) : Nat := c.1
def cI (c : aw_C) : Nat → Int32 := c.2.1
def cR (c : aw_C) : Nat → Option Nat := c.2.2.1
def cN (c : aw_C) : Nat := c.2.2.2.2.1
def cA (c : aw_C) : Nat → Int32 := c.2.2.2.2.2.1
def cQ (c : aw_C) : Nat → Option Nat := c.2.2.2.2.2.2.1
/-- addresses stay, and the cells that P doesn't name -/
def keeps (S S2 : aw_S) (P : Nat → Prop) : Prop := ∀ b, b ∈ sL S → b ∈ sL S2 ∧ (¬ P b → cell S2 b = cell S b)
theorem keeps.rf {S : aw_S} {P : Nat → Prop} : keeps S S P := fun b h => ⟨h, fun _ => rfl⟩
theorem keeps.tr {S S2 S3 : aw_S} {P Q T : Nat → Prop} (h : keeps S S2 P) (h2 : keeps S2 S3 Q) (hP : ∀ b, b ∈ sL S → P b → T b) (hQ : ∀ b, b ∈ sL S → Q b → T b) : keeps S S3 T := fun b hb => ⟨(h2 b (h b hb).1).1, fun n => ((h2 b (h b hb).1).2 (fun z => n (hQ b hb z))).trans ((h b hb).2 (fun z => n (hP b hb z)))⟩
theorem keeps_wI {S : aw_S} {F a : Nat} {v : Int32} : keeps S (wI S F a v) (fun b => b = a) := fun b hb => ⟨hb, fun n => by
  have h : (fun G => sI (wI S F a v) G b) = fun G => sI S G b := funext fun G => by rw [sI_wI, if_neg (fun z => n z.2)]
  show (_, _, _) = (_, _, _)
  rw [h]; rfl⟩
theorem keeps_wR {S : aw_S} {F a : Nat} {v : Option Nat} : keeps S (wR S F a v) (fun b => b = a) := fun b hb => ⟨hb, fun n => by
  have h : (fun G => sR (wR S F a v) G b) = fun G => sR S G b := funext fun G => by rw [sR_wR, if_neg (fun z => n z.2)]
  show (_, _, _, _) = (_, _, _, _)
  rw [h]; rfl⟩
theorem keeps_wA {S : aw_S} {a k : Nat} {v : Int32} : keeps S (wA S a k v) (fun b => b = a) := fun b hb => ⟨hb, fun n => by
  have h : sA (wA S a k v) b = sA S b := va_up_ne _ _ n
  show (_, _, _, _, _, _, _) = (_, _, _, _, _, _, _)
  rw [h]; rfl⟩
theorem keeps_wQ {S : aw_S} {a k : Nat} {v : Option Nat} : keeps S (wQ S a k v) (fun b => b = a) := fun b hb => ⟨hb, fun n => by
  have h : sQ (wQ S a k v) b = sQ S b := va_up_ne _ _ n
  show (_, _, _, _, _, _, _, _) = (_, _, _, _, _, _, _, _)
  rw [h]; rfl⟩
theorem keeps_nO {S : aw_S} {q ci : Nat} (f : q ∉ sL S) : keeps S (nO S q ci) (fun _ => False) := fun b hb => ⟨List.mem_append_left _ hb, fun _ => by
  have n : b ≠ q := fun z => f (z ▸ hb)
  have h0 : sK (nO S q ci) b = sK S b := va_up_ne _ _ n
  have h1 : (fun G => sI (nO S q ci) G b) = fun G => sI S G b := funext fun G => if_neg n
  have h2 : (fun G => sR (nO S q ci) G b) = fun G => sR S G b := funext fun G => if_neg n
  have h3 : (fun G => sJ (nO S q ci) G b) = fun G => sJ S G b := funext fun G => if_neg n
  show (_, _, _, _, _) = (_, _, _, _, _)
  rw [h0, h1, h2, h3]; rfl⟩
theorem keeps_nA {S : aw_S} {q kd N : Nat} (f : q ∉ sL S) : keeps S (nA S q kd N) (fun _ => False) := fun b hb => ⟨List.mem_append_left _ hb, fun _ => by
  have n : b ≠ q := fun z => f (z ▸ hb)
  have h0 : sK (nA S q kd N) b = sK S b := va_up_ne _ _ n
  have h1 : sN (nA S q kd N) b = sN S b := va_up_ne _ _ n
  have h2 : sA (nA S q kd N) b = sA S b := va_up_ne _ _ n
  have h3 : sQ (nA S q kd N) b = sQ S b := va_up_ne _ _ n
  have h4 : sB (nA S q kd N) b = sB S b := va_up_ne _ _ n
  show (_, _, _, _, _, _, _, _) = (_, _, _, _, _, _, _, _)
  rw [h0, h1, h2, h3, h4]; rfl⟩
theorem cell_nO {S : aw_S} {q ci : Nat} : cell (nO S q ci) q = (ci, (fun _ => 0), (fun _ => none), (fun _ => 0), sN S q, sA S q, sQ S q, sB S q) := by
  have h0 : sK (nO S q ci) q = ci := va_up_self _ _ _
  have h1 : (fun G => sI (nO S q ci) G q) = fun _ => 0 := funext fun G => if_pos rfl
  have h2 : (fun G => sR (nO S q ci) G q) = fun _ => none := funext fun G => if_pos rfl
  have h3 : (fun G => sJ (nO S q ci) G q) = fun _ => 0 := funext fun G => if_pos rfl
  show (_, _, _, _, _) = (_, _, _, _, _)
  rw [h0, h1, h2, h3]; rfl
/-- known cells: there, all apart, each with what is said of it -/
abbrev aw_FC : Type := List (Nat × (aw_C → Prop))
def kn (S : aw_S) (FC : aw_FC) : Prop := (FC.map Prod.fst).Nodup ∧ ∀ e ∈ FC, e.1 ∈ sL S ∧ e.2 (cell S e.1)
theorem kn.keep {S S2 : aw_S} {P : Nat → Prop} {FC : aw_FC} (h : kn S FC) (k : keeps S S2 P) (n : ∀ e ∈ FC, ¬ P e.1) : kn S2 FC := ⟨h.1, fun e he => ⟨(k e.1 (h.2 e he).1).1, by rw [(k e.1 (h.2 e he).1).2 (n e he)]; exact (h.2 e he).2⟩⟩
/-- new cells beside the known ones -/
theorem kn.app {S S2 : aw_S} {FC F2 : aw_FC} (h : kn S2 FC) (h2 : kn S2 F2) (old : ∀ e ∈ FC, e.1 ∈ sL S) (new : ∀ e ∈ F2, e.1 ∉ sL S) : kn S2 (FC ++ F2) := by
  refine ⟨?_, fun e he => ?_⟩
  · rw [List.map_append]
    refine List.nodup_append.mpr ⟨h.1, h2.1, fun a ha b hb hab => ?_⟩
    obtain ⟨e1, h3, rfl⟩ := List.mem_map.mp ha
    obtain ⟨e2, h4, rfl⟩ := List.mem_map.mp hb
    exact new e2 h4 (hab ▸ old e1 h3)
  · rcases List.mem_append.mp he with z | z
    · exact h.2 e z
    · exact h2.2 e z
theorem kn.in {S : aw_S} {FC : aw_FC} (h : kn S FC) {a : Nat} {p : aw_C → Prop} (hm : (a, p) ∈ FC) : a ∈ sL S ∧ p (cell S a) := h.2 (a, p) hm
/-- a known cell said otherwise -/
theorem kn.re {S S2 : aw_S} {FC : aw_FC} {a : Nat} {p p2 : aw_C → Prop} (h : kn S ((a, p) :: FC)) (k : keeps S S2 (fun b => b = a)) (hp : p (cell S a) → p2 (cell S2 a)) : kn S2 ((a, p2) :: FC) := by
  have ha := h.2 (a, p) List.mem_cons_self
  refine ⟨h.1, fun e he => ?_⟩
  rcases List.mem_cons.mp he with z | z
  · subst z
    exact ⟨(k a ha.1).1, hp ha.2⟩
  · have h1 := h.2 e (List.mem_cons_of_mem _ z)
    have hne : ¬ e.1 = a := fun y => by
      have h3 := (List.nodup_cons.mp h.1).1
      exact h3 (y ▸ List.mem_map.mpr ⟨e, z, rfl⟩)
    exact ⟨(k e.1 h1.1).1, by rw [(k e.1 h1.1).2 hne]; exact h1.2⟩
/-- a step of a constructor of a: a new object or row at q, further cells, then a field of a -/
theorem kn.grow {S S1 S2 S3 : aw_S} {FC F2 : aw_FC} {a : Nat} {p p2 : aw_C → Prop} (h : kn S ((a, p) :: FC)) (k1 : keeps S S1 (fun _ => False)) (k2 : keeps S1 S2 (fun b => b ∉ sL S)) (h2 : kn S2 F2) (new : ∀ e ∈ F2, e.1 ∉ sL S) (k3 : keeps S2 S3 (fun b => b = a)) (hp : p (cell S a) → p2 (cell S3 a)) : kn S3 ((a, p2) :: (FC ++ F2)) := by
  have k12 : keeps S S2 (fun _ => False) := k1.tr k2 (fun _ _ z => z) (fun b hb z => z hb)
  have h3 : kn S2 ((a, p) :: FC) := h.keep k12 (fun _ _ z => z)
  have h4 : kn S2 (((a, p) :: FC) ++ F2) := h3.app h2 (fun e he => (h.2 e he).1) new
  have ha := h.2 (a, p) List.mem_cons_self
  refine kn.re (p := p) h4 k3 (fun z => ?_)
  rw [(k12 a ha.1).2 (fun z => z)] at z
  exact hp z
theorem kn.one {S : aw_S} {a : Nat} {p : aw_C → Prop} (h : a ∈ sL S) (hp : p (cell S a)) : kn S [(a, p)] := ⟨by simp, fun e he => by
  rcases List.mem_singleton.mp he with rfl
  exact ⟨h, hp⟩⟩
theorem cR_wR (S : aw_S) (F a : Nat) (v : Option Nat) (G : Nat) : cR (cell (wR S F a v) a) G = if G = F then v else cR (cell S a) G := by
  show sR (wR S F a v) G a = _
  rw [sR_wR]
  by_cases h : G = F <;> simp [h, cR, cell]
theorem cK_wR (S : aw_S) (F a : Nat) (v : Option Nat) (b : Nat) : cK (cell (wR S F a v) b) = cK (cell S b) := rfl
theorem cI_wR (S : aw_S) (F a : Nat) (v : Option Nat) (b G : Nat) : cI (cell (wR S F a v) b) G = cI (cell S b) G := rfl
theorem cI_wI (S : aw_S) (F a : Nat) (v : Int32) (G : Nat) : cI (cell (wI S F a v) a) G = if G = F then v else cI (cell S a) G := by
  show sI (wI S F a v) G a = _
  rw [sI_wI]
  by_cases h : G = F <;> simp [h, cI, cell]
theorem cK_wI (S : aw_S) (F a : Nat) (v : Int32) (b : Nat) : cK (cell (wI S F a v) b) = cK (cell S b) := rfl
theorem cR_wI (S : aw_S) (F a : Nat) (v : Int32) (b G : Nat) : cR (cell (wI S F a v) b) G = cR (cell S b) G := rfl
theorem cK_nA {S : aw_S} {q kd N : Nat} : cK (cell (nA S q kd N) q) = kd := va_up_self _ _ _
theorem cN_nA {S : aw_S} {q kd N : Nat} : cN (cell (nA S q kd N) q) = N := va_up_self _ _ _
theorem cA_nA {S : aw_S} {q kd N : Nat} : cA (cell (nA S q kd N) q) = fun _ => 0 := va_up_self _ _ _
theorem cQ_nA {S : aw_S} {q kd N : Nat} : cQ (cell (nA S q kd N) q) = fun _ => none := va_up_self _ _ _
theorem in_nA {S : aw_S} {q kd N : Nat} : q ∈ sL (nA S q kd N) := List.mem_append_right _ List.mem_cons_self
theorem in_nO {S : aw_S} {q ci : Nat} : q ∈ sL (nO S q ci) := List.mem_append_right _ List.mem_cons_self
/-- a row of kind kd, N places, all 0 -/
def pA (kd N : Nat) : aw_C → Prop := fun c => cK c = kd ∧ cN c = N ∧ cA c = (fun _ => 0) ∧ cQ c = (fun _ => none)
theorem kn_nA {S : aw_S} {q kd N : Nat} : kn (nA S q kd N) [(q, pA kd N)] := kn.one in_nA ⟨cK_nA, cN_nA, cA_nA, cQ_nA⟩
/-- a step of a constructor of a: a new row into field F -/
theorem kn.row {S : aw_S} {FC : aw_FC} {a q kd N F : Nat} {p : aw_C → Prop} (p2 : aw_C → Prop) (h : kn S ((a, p) :: FC)) (f : q ∉ sL S) (hp : ∀ c c2 : aw_C, p c → cK c2 = cK c → cI c2 = cI c → (∀ G, cR c2 G = if G = F then some q else cR c G) → p2 c2) : kn (wR (nA S q kd N) F a (some q)) ((a, p2) :: (FC ++ [(q, pA kd N)])) := by
  have ha := (h.2 (a, p) List.mem_cons_self).1
  refine h.grow (keeps_nA f) keeps.rf kn_nA (fun e he => by rcases List.mem_singleton.mp he with rfl; exact f) keeps_wR (fun z => ?_)
  have hc : cell (nA S q kd N) a = cell S a := ((keeps_nA f) a ha).2 (fun z => z)
  refine hp _ _ z ?_ ?_ ?_
  · rw [cK_wR, hc]
  · funext G
    rw [cI_wR, hc]
  · intro G
    rw [cR_wR, hc]
/-- what a constructor of an object at a does: further cells, all new -/
def made (S S2 : aw_S) (a : Nat) (F2 : aw_FC) : Prop := keeps S S2 (fun b => b = a) ∧ kn S2 F2 ∧ ∀ e ∈ F2, e.1 = a ∨ e.1 ∉ sL S
/-- a step of a constructor of a: a new object, made, into field F -/
theorem kn.obj {S S2 : aw_S} {FC F2 : aw_FC} {a q ci F : Nat} {p : aw_C → Prop} (p2 : aw_C → Prop) (h : kn S ((a, p) :: FC)) (f : q ∉ sL S) (m : made (nO S q ci) S2 q F2) (hp : ∀ c c2 : aw_C, p c → cK c2 = cK c → cI c2 = cI c → (∀ G, cR c2 G = if G = F then some q else cR c G) → p2 c2) : kn (wR S2 F a (some q)) ((a, p2) :: (FC ++ F2)) := by
  have ha := (h.2 (a, p) List.mem_cons_self).1
  have k2 : keeps (nO S q ci) S2 (fun b => b ∉ sL S) := fun b hb => ⟨(m.1 b hb).1, fun n => (m.1 b hb).2 (fun z => n (z ▸ f))⟩
  refine h.grow (keeps_nO f) k2 m.2.1 (fun e he => ?_) keeps_wR (fun z => ?_)
  · rcases m.2.2 e he with z | z
    · rw [z]; exact f
    · exact fun y => z (List.mem_append_left _ y)
  · have hne : a ≠ q := fun y => f (y ▸ ha)
    have hc : cell S2 a = cell S a := ((m.1 a (List.mem_append_left _ ha)).2 hne).trans (((keeps_nO f) a ha).2 (fun z => z))
    refine hp _ _ z ?_ ?_ ?_
    · rw [cK_wR, hc]
    · funext G
      rw [cI_wR, hc]
    · intro G
      rw [cR_wR, hc]
theorem kn.is {S : aw_S} {FC : aw_FC} {a : Nat} {p : aw_C → Prop} (h : kn S ((a, p) :: FC)) {ci : Nat} (hp : ∀ c, p c → cK c = ci) : aw_is S a ci := ⟨(h.2 _ List.mem_cons_self).1, hp _ (h.2 _ List.mem_cons_self).2⟩
theorem a_invIN {g : aw_G} {y : MethodName} {cc : ByteArray} {mL : Nat} {ret : Option FieldType} {d mc ms : Nat} (K : aw_K g y cc mL ret d mc ms) {S : aw_S} {k n : Nat} {lv : List (Nat × Value)} {st stk : List Value} {pc : Nat} {y2 : MethodName} {cc2 : ByteArray} {mL2 : Nat} {d2 mc2 ms2 idx na b : Nat} {host : String} {av : List Value} {post : Option Value → aw_S → Prop}
    (M : aw_M y2 cc2 mL2 none d2 mc2 ms2 (.ref b :: av) S post) (Y : aw_Y y2 cc2 mL2 none na) (hy : y2.name = "<init>") (w1 : ∀ (A : Nat → Prop) (U : State) (H : Heap), aw_env A U H → va_Nw (.methodLinkNest y.cls idx y2 host) U) (w2 : Cond.instanceMethod y2 ∈ TT) (ha : av.length = na) (hd : d2 + 1 ≤ d) (hk : k + mc2 ≤ mc) (hn : n + ms2 ≤ ms) (hs : stk = av.reverse ++ .ref b :: st) (h8 : (st.map fun v => v.category).sum ≤ 8) (dg : decode cc pc = .ok (.invokespecial idx, 3))
    (q : ∀ (r : Option Value) (S2 : aw_S), post r S2 → aw g mL S2 (k + mc2) (n + ms2) lv (r.toList ++ st) (pc + 3)) : aw g mL S k n lv stk pc := by
  subst hs
  refine aw_back K (mc2 := mc2) (ms2 := ms2) (st := st) (post := post) (a := (.ref b :: av : List Value).toArray) ?_ q
  obtain ⟨p, l, e, R, s, m, args, below, meth, c, D, cy, A, Q⟩ := g
  obtain ⟨hx, hb, hml, hrr, hown, hnm, hts, hlk, hK, hA, hE, hfr, hlo, hce, hsl⟩ := K
  intro H locs ls hP hD hS hl
  have hp := aw_pre (p := p) (av := .ref b :: av) hK hE hA hP hD hS
  exact va_runIN (host := host) (As := av) (rest := st) (nL := mL) (Ts := TT) ⟨hx, hb, hml, hown, hts⟩ (M l D cy H.size) ⟨va_cnB na hts (aw_goodIn Y) rfl rfl rfl (w1 _ _ _ hE) (hts _ Y.2.1) Y.2.2.1 ⟨Nat.le_trans hd hfr, by show 8 + (mL2 + 11) + 48 * d2 ≤ R.locals; have := Y.2.2.2; omega⟩, hy, hts _ w2⟩ ⟨aw_blind, hp.2⟩ rfl ha hl.1 rfl (lv_room h8) dg ⟨Nat.le_trans hk hce, Nat.le_trans hn hsl⟩
theorem a_invSN {g : aw_G} {y : MethodName} {cc : ByteArray} {mL : Nat} {ret : Option FieldType} {d mc ms : Nat} (K : aw_K g y cc mL ret d mc ms) {S : aw_S} {k n : Nat} {lv : List (Nat × Value)} {st stk : List Value} {pc : Nat} {y2 : MethodName} {cc2 : ByteArray} {mL2 : Nat} {ret2 : Option FieldType} {d2 mc2 ms2 idx na : Nat} {host : String} {av : List Value} {post : Option Value → aw_S → Prop}
    (M : aw_M y2 cc2 mL2 ret2 d2 mc2 ms2 av S post) (Y : aw_Y y2 cc2 mL2 ret2 na) (w1 : ∀ (A : Nat → Prop) (U : State) (H : Heap), aw_env A U H → va_Nw (.methodLinkNest y.cls idx y2 host) U) (w2 : Cond.static y2 ∈ TT) (ha : av.length = na) (hd : d2 + 1 ≤ d) (hk : k + mc2 ≤ mc) (hn : n + ms2 ≤ ms) (hs : stk = av.reverse ++ st) (h8 : (st.map fun v => v.category).sum ≤ 8) (dg : decode cc pc = .ok (.invokestatic idx, 3))
    (q : ∀ (r : Option Value) (S2 : aw_S), post r S2 → aw g mL S2 (k + mc2) (n + ms2) lv (r.toList ++ st) (pc + 3)) : aw g mL S k n lv stk pc := by
  subst hs
  refine aw_back K (mc2 := mc2) (ms2 := ms2) (st := st) (post := post) (a := av.toArray) ?_ q
  obtain ⟨p, l, e, R, s, m, args, below, meth, c, D, cy, A, Q⟩ := g
  obtain ⟨hx, hb, hml, hrr, hown, hnm, hts, hlk, hK, hA, hE, hfr, hlo, hce, hsl⟩ := K
  intro H locs ls hP hD hS hl
  have hp := aw_pre (p := p) (av := av) hK hE hA hP hD hS
  exact va_runSN (host := host) (As := av) (rest := st) (nL := mL) (Ts := TT) ⟨hx, hb, hml, hown, hts⟩ (M l D cy H.size) ⟨va_cnB na hts (aw_goodIn Y) rfl rfl rfl (w1 _ _ _ hE) (hts _ Y.2.1) Y.2.2.1 ⟨Nat.le_trans hd hfr, by show 8 + (mL2 + 11) + 48 * d2 ≤ R.locals; have := Y.2.2.2; omega⟩, hts _ w2, trivial⟩ ⟨aw_blind, hp.2⟩ rfl ha hl.1 rfl (lv_room h8) dg ⟨Nat.le_trans hk hce, Nat.le_trans hn hsl⟩
