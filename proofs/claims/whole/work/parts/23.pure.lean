/-! entries in their order: put, taken out, asked, as lists -/
theorem setE_nil (key v : Int32) : setE [] key v = [(key, v)] := rfl
theorem setE_cons (x : KV) (r : List KV) (key v : Int32) : setE (x :: r) key v = if x.1 < key then x :: setE r key v else if x.1 = key then (key, v) :: r else (key, v) :: x :: r := by
  by_cases h : x.1 < key
  · rw [if_pos h]
    have hk : kpl (x :: r) key = kpl r key + 1 := if_pos h
    unfold setE
    rw [hk, List.getElem?_cons_succ]
    cases hq : r[kpl r key]? with
    | none => rfl
    | some y =>
      show (if y.1 = key then _ else _) = x :: (if y.1 = key then _ else _)
      by_cases hy : y.1 = key
      · rw [if_pos hy, if_pos hy]; rfl
      · rw [if_neg hy, if_neg hy]; rfl
  · rw [if_neg h]
    have hk : kpl (x :: r) key = 0 := if_neg h
    unfold setE
    rw [hk]
    rfl
theorem remE_nil (key : Int32) : remE [] key = [] := rfl
theorem remE_cons (x : KV) (r : List KV) (key : Int32) : remE (x :: r) key = if x.1 < key then x :: remE r key else if x.1 = key then r else x :: r := by
  by_cases h : x.1 < key
  · rw [if_pos h]
    have hk : kpl (x :: r) key = kpl r key + 1 := if_pos h
    unfold remE
    rw [hk, List.getElem?_cons_succ]
    cases hq : r[kpl r key]? with
    | none => rfl
    | some y =>
      show (if y.1 = key then _ else _) = x :: (if y.1 = key then _ else _)
      by_cases hy : y.1 = key
      · rw [if_pos hy, if_pos hy]; rfl
      · rw [if_neg hy, if_neg hy]
  · rw [if_neg h]
    have hk : kpl (x :: r) key = 0 := if_neg h
    unfold remE
    rw [hk]
    rfl
theorem valIn_nil (key : Int32) : valIn [] key = -1000000 := rfl
theorem valIn_cons (x : KV) (r : List KV) (key : Int32) : valIn (x :: r) key = if x.1 < key then valIn r key else if x.1 = key then x.2 else -1000000 := by
  by_cases h : x.1 < key
  · rw [if_pos h]
    have hk : kpl (x :: r) key = kpl r key + 1 := if_pos h
    unfold valIn
    rw [hk, List.getElem?_cons_succ]
  · rw [if_neg h]
    have hk : kpl (x :: r) key = 0 := if_neg h
    unfold valIn
    rw [hk]
    rfl
theorem lt_no {a b : Int32} (h : b < a) : ¬ a < b := fun z => by
  have h1 := i32_lt.mp h
  have h2 := i32_lt.mp z
  omega
theorem lt_ne {a b : Int32} (h : b < a) : ¬ a = b := fun z => by
  have h1 := i32_lt.mp h
  rw [z] at h1
  omega
theorem lt_tr {a b c : Int32} (h : a < b) (h2 : b < c) : a < c := by
  have h1 := i32_lt.mp h
  have h3 := i32_lt.mp h2
  exact i32_lt.mpr (by omega)
theorem lt_3 {a b : Int32} (h : ¬ a < b) (h2 : ¬ a = b) : b < a := by
  rw [i32_lt] at h ⊢
  rw [i32_eq] at h2
  omega
theorem setE_app_l {A : List KV} (B : List KV) {key v : Int32} (h : ∀ x ∈ A, x.1 < key) : setE (A ++ B) key v = A ++ setE B key v := by
  induction A with
  | nil => rfl
  | cons x r ih => rw [List.cons_append, setE_cons, if_pos (h x List.mem_cons_self), ih (fun y hy => h y (List.mem_cons_of_mem _ hy)), List.cons_append]
theorem remE_app_l {A : List KV} (B : List KV) {key : Int32} (h : ∀ x ∈ A, x.1 < key) : remE (A ++ B) key = A ++ remE B key := by
  induction A with
  | nil => rfl
  | cons x r ih => rw [List.cons_append, remE_cons, if_pos (h x List.mem_cons_self), ih (fun y hy => h y (List.mem_cons_of_mem _ hy)), List.cons_append]
theorem valIn_app_l {A : List KV} (B : List KV) {key : Int32} (h : ∀ x ∈ A, x.1 < key) : valIn (A ++ B) key = valIn B key := by
  induction A with
  | nil => rfl
  | cons x r ih => rw [List.cons_append, valIn_cons, if_pos (h x List.mem_cons_self), ih (fun y hy => h y (List.mem_cons_of_mem _ hy))]
theorem setE_hi {C : List KV} {key v : Int32} (h : ∀ x ∈ C, key < x.1) : setE C key v = (key, v) :: C := by
  cases C with
  | nil => rfl
  | cons x r => rw [setE_cons, if_neg (lt_no (h x List.mem_cons_self)), if_neg (lt_ne (h x List.mem_cons_self))]
theorem remE_hi {C : List KV} {key : Int32} (h : ∀ x ∈ C, key < x.1) : remE C key = C := by
  cases C with
  | nil => rfl
  | cons x r => rw [remE_cons, if_neg (lt_no (h x List.mem_cons_self)), if_neg (lt_ne (h x List.mem_cons_self))]
theorem valIn_hi {C : List KV} {key : Int32} (h : ∀ x ∈ C, key < x.1) : valIn C key = -1000000 := by
  cases C with
  | nil => rfl
  | cons x r => rw [valIn_cons, if_neg (lt_no (h x List.mem_cons_self)), if_neg (lt_ne (h x List.mem_cons_self))]
theorem setE_app_r (B : List KV) {C : List KV} {key v : Int32} (h : ∀ x ∈ C, key < x.1) : setE (B ++ C) key v = setE B key v ++ C := by
  induction B with
  | nil => rw [List.nil_append, setE_hi h]; rfl
  | cons x r ih =>
    rw [List.cons_append, setE_cons, setE_cons, ih]
    split
    · rfl
    · split <;> rfl
theorem remE_app_r (B : List KV) {C : List KV} {key : Int32} (h : ∀ x ∈ C, key < x.1) : remE (B ++ C) key = remE B key ++ C := by
  induction B with
  | nil => rw [List.nil_append, remE_hi h]; rfl
  | cons x r ih =>
    rw [List.cons_append, remE_cons, remE_cons, ih]
    split
    · rfl
    · split <;> rfl
theorem valIn_app_r (B : List KV) {C : List KV} {key : Int32} (h : ∀ x ∈ C, key < x.1) : valIn (B ++ C) key = valIn B key := by
  induction B with
  | nil => rw [List.nil_append, valIn_hi h]; rfl
  | cons x r ih => rw [List.cons_append, valIn_cons, valIn_cons, ih]
theorem mem_setE {es : List KV} {key v : Int32} {x : KV} (h : x ∈ setE es key v) : x = (key, v) ∨ x ∈ es := by
  induction es with
  | nil => exact Or.inl (List.mem_singleton.mp h)
  | cons y r ih =>
    rw [setE_cons] at h
    split at h
    · rcases List.mem_cons.mp h with h | h
      · exact Or.inr (h ▸ List.mem_cons_self)
      · exact (ih h).imp id (List.mem_cons_of_mem _)
    · split at h
      · rcases List.mem_cons.mp h with h | h
        · exact Or.inl h
        · exact Or.inr (List.mem_cons_of_mem _ h)
      · rcases List.mem_cons.mp h with h | h
        · exact Or.inl h
        · exact Or.inr h
theorem mem_remE {es : List KV} {key : Int32} {x : KV} (h : x ∈ remE es key) : x ∈ es := by
  induction es with
  | nil => exact h
  | cons y r ih =>
    rw [remE_cons] at h
    split at h
    · rcases List.mem_cons.mp h with h | h
      · exact h ▸ List.mem_cons_self
      · exact List.mem_cons_of_mem _ (ih h)
    · split at h
      · exact List.mem_cons_of_mem _ h
      · exact h
/-- rising -/
def srt (es : List KV) : Prop := es.Pairwise (fun a b => a.1 < b.1)
theorem srt_setE {es : List KV} {key v : Int32} (h : srt es) : srt (setE es key v) := by
  induction es with
  | nil => exact List.pairwise_singleton _ _
  | cons y r ih =>
    obtain ⟨h1, h2⟩ := List.pairwise_cons.mp h
    rw [setE_cons]
    split
    · rename_i hy
      refine List.pairwise_cons.mpr ⟨fun x hx => ?_, ih h2⟩
      rcases mem_setE hx with rfl | hx
      · exact hy
      · exact h1 x hx
    · split
      · rename_i hy
        exact List.pairwise_cons.mpr ⟨fun x hx => by rw [← hy]; exact h1 x hx, h2⟩
      · rename_i hy hz
        refine List.pairwise_cons.mpr ⟨fun x hx => ?_, h⟩
        rcases List.mem_cons.mp hx with rfl | hx
        · exact lt_3 hy hz
        · exact lt_tr (lt_3 hy hz) (h1 x hx)
theorem remE_sub (es : List KV) (key : Int32) : (remE es key).Sublist es := by
  induction es with
  | nil => exact List.Sublist.refl _
  | cons y r ih =>
    rw [remE_cons]
    split
    · exact ih.cons_cons _
    · split
      · exact List.sublist_cons_self _ _
      · exact List.Sublist.refl _
theorem srt_remE {es : List KV} {key : Int32} (h : srt es) : srt (remE es key) := List.Pairwise.sublist (remE_sub es key) h
/-- no value that says 'not there' -/
def vok (es : List KV) : Prop := ∀ x ∈ es, ¬ x.2 = -1000000
theorem setE_length {es : List KV} {key : Int32} (v : Int32) (hv : vok es) : (setE es key v).length = if valIn es key = -1000000 then es.length + 1 else es.length := by
  induction es with
  | nil => rfl
  | cons y r ih =>
    rw [setE_cons, valIn_cons]
    split
    · rw [List.length_cons, ih (fun x hx => hv x (List.mem_cons_of_mem _ hx))]
      split <;> rfl
    · split
      · rw [if_neg (hv y List.mem_cons_self)]; rfl
      · rw [if_pos rfl]; rfl
theorem remE_length {es : List KV} {key : Int32} (hv : vok es) : (remE es key).length = if valIn es key = -1000000 then es.length else es.length - 1 := by
  induction es with
  | nil => rfl
  | cons y r ih =>
    rw [remE_cons, valIn_cons]
    split
    · rw [List.length_cons, ih (fun x hx => hv x (List.mem_cons_of_mem _ hx))]
      split
      · rfl
      · rename_i h1 h2
        cases r with
        | nil => exact absurd rfl h2
        | cons z r => rfl
    · split
      · rw [if_neg (hv y List.mem_cons_self)]; rfl
      · rw [if_pos rfl]
theorem valIn_none {es : List KV} {key : Int32} (h : ∀ x ∈ es, ¬ x.1 = key) : valIn es key = -1000000 := by
  induction es with
  | nil => rfl
  | cons y r ih =>
    rw [valIn_cons, if_neg (h y List.mem_cons_self)]
    split
    · exact ih (fun x hx => h x (List.mem_cons_of_mem _ hx))
    · rfl
theorem valIn_mem {es : List KV} {x : KV} (hs : srt es) (h : x ∈ es) : valIn es x.1 = x.2 := by
  induction es with
  | nil => exact absurd h (by simp)
  | cons y r ih =>
    obtain ⟨h1, h2⟩ := List.pairwise_cons.mp hs
    rw [valIn_cons]
    rcases List.mem_cons.mp h with rfl | h
    · rw [if_neg (fun z => by have h1 := i32_lt.mp z; omega), if_pos rfl]
    · rw [if_pos (h1 x h)]
      exact ih h2 h
theorem valIn_some {es : List KV} {key : Int32} (h : ¬ valIn es key = -1000000) : (key, valIn es key) ∈ es := by
  induction es with
  | nil => exact absurd rfl h
  | cons y r ih =>
    rw [valIn_cons] at h ⊢
    split at h
    · rename_i hy
      rw [if_pos hy]
      exact List.mem_cons_of_mem _ (ih h)
    · split at h
      · rename_i hy hz
        rw [if_neg hy, if_pos hz, ← hz]
        exact List.mem_cons_self
      · exact absurd rfl h
theorem lt_ir (a : Int32) : ¬ a < a := fun z => by
  have h1 := i32_lt.mp z
  omega
theorem valIn_at {x : KV} {r : List KV} {k : Int32} (h : x.1 = k) : valIn (x :: r) k = x.2 := by rw [valIn_cons, if_neg (by rw [h]; exact lt_ir k), if_pos h]
theorem valIn_skip {x : KV} {r : List KV} {k : Int32} (h : x.1 < k) : valIn (x :: r) k = valIn r k := by rw [valIn_cons, if_pos h]
theorem valIn_over {x : KV} {r : List KV} {k : Int32} (h : k < x.1) : valIn (x :: r) k = -1000000 := by rw [valIn_cons, if_neg (lt_no h), if_neg (lt_ne h)]
theorem valIn_setE {es : List KV} (key v k : Int32) (hs : srt es) : valIn (setE es key v) k = if k = key then v else valIn es k := by
  induction es with
  | nil =>
    rw [setE_nil]
    by_cases h : k = key
    · rw [if_pos h]
      exact valIn_at h.symm
    · rw [if_neg h, valIn_nil]
      by_cases h2 : key < k
      · exact valIn_skip h2
      · exact valIn_over (lt_3 h2 (fun z => h z.symm))
  | cons y r ih =>
    obtain ⟨h1, h2⟩ := List.pairwise_cons.mp hs
    have ih := ih h2
    rw [setE_cons]
    by_cases hy : y.1 < key
    · rw [if_pos hy, valIn_cons, valIn_cons, ih]
      by_cases h : k = key
      · rw [if_pos h, h, if_pos hy, if_pos rfl]
      · rw [if_neg h, if_neg h]
    · rw [if_neg hy]
      by_cases hz : y.1 = key
      · rw [if_pos hz]
        by_cases h : k = key
        · rw [if_pos h]
          exact valIn_at h.symm
        · rw [if_neg h]
          by_cases h3 : key < k
          · rw [valIn_skip (show ((key, v) : KV).1 < k from h3), valIn_skip (by rw [hz]; exact h3)]
          · have h4 := lt_3 h3 (fun z => h z.symm)
            rw [valIn_over (show k < ((key, v) : KV).1 from h4), valIn_over (by rw [hz]; exact h4)]
      · rw [if_neg hz]
        by_cases h : k = key
        · rw [if_pos h]
          exact valIn_at h.symm
        · rw [if_neg h]
          by_cases hk : key < k
          · exact valIn_skip hk
          · have h3 : k < key := lt_3 hk (fun z => h z.symm)
            rw [valIn_over (show k < ((key, v) : KV).1 from h3), valIn_over (lt_tr h3 (lt_3 hy hz))]
theorem valIn_remE {es : List KV} (key k : Int32) (hs : srt es) : valIn (remE es key) k = if k = key then -1000000 else valIn es k := by
  induction es with
  | nil =>
    rw [remE_nil, valIn_nil]
    split <;> rfl
  | cons y r ih =>
    obtain ⟨h1, h2⟩ := List.pairwise_cons.mp hs
    have ih := ih h2
    rw [remE_cons]
    by_cases hy : y.1 < key
    · rw [if_pos hy, valIn_cons, valIn_cons, ih]
      by_cases h : k = key
      · rw [if_pos h, h, if_pos hy, if_pos rfl]
      · rw [if_neg h, if_neg h]
    · rw [if_neg hy]
      by_cases hz : y.1 = key
      · rw [if_pos hz]
        by_cases h : k = key
        · rw [if_pos h, h, ← hz]
          exact valIn_hi h1
        · rw [if_neg h, valIn_cons]
          by_cases hk : y.1 < k
          · rw [if_pos hk]
          · rw [if_neg hk, if_neg (fun z => h (z.symm.trans hz))]
            refine valIn_hi (fun x hx => lt_tr (lt_3 hk (fun z => h (z.symm.trans hz))) (h1 x hx))
      · rw [if_neg hz]
        by_cases h : k = key
        · rw [if_pos h, h, valIn_cons, if_neg hy, if_neg hz]
        · rw [if_neg h]
theorem srt_ext {a b : List KV} (ha : srt a) (hb : srt b) (va : vok a) (vb : vok b) (h : ∀ k, valIn a k = valIn b k) : a = b := by
  induction a generalizing b with
  | nil =>
    cases b with
    | nil => rfl
    | cons y r =>
      have h1 := h y.1
      rw [valIn_mem hb List.mem_cons_self, valIn_nil] at h1
      exact absurd h1.symm (vb y List.mem_cons_self)
  | cons x q ih =>
    cases b with
    | nil =>
      have h1 := h x.1
      rw [valIn_mem ha List.mem_cons_self, valIn_nil] at h1
      exact absurd h1 (va x List.mem_cons_self)
    | cons y r =>
      obtain ⟨a1, a2⟩ := List.pairwise_cons.mp ha
      obtain ⟨b1, b2⟩ := List.pairwise_cons.mp hb
      have hx := h x.1
      rw [valIn_mem ha List.mem_cons_self, valIn_cons] at hx
      have hy := h y.1
      rw [valIn_mem hb List.mem_cons_self, valIn_cons] at hy
      have e : x.1 = y.1 := by
        refine Classical.byContradiction (fun n => ?_)
        by_cases hl : x.1 < y.1
        · rw [if_neg (lt_no hl), if_neg (lt_ne hl)] at hx
          exact va x List.mem_cons_self hx
        · have hl2 := lt_3 hl n
          rw [if_neg (lt_no hl2), if_neg (lt_ne hl2)] at hy
          exact vb y List.mem_cons_self hy.symm
      have e2 : x = y := by
        rw [e, if_neg (fun z => by have h1 := i32_lt.mp z; omega), if_pos rfl] at hx
        exact Prod.ext e hx
      subst e2
      refine congrArg (List.cons x) (ih a2 b2 (fun z hz => va z (List.mem_cons_of_mem _ hz)) (fun z hz => vb z (List.mem_cons_of_mem _ hz)) (fun k => ?_))
      have hk := h k
      rw [valIn_cons, valIn_cons] at hk
      by_cases h1 : x.1 < k
      · rw [if_pos h1, if_pos h1] at hk
        exact hk
      · have hle : ∀ z : KV, x.1 < z.1 → k < z.1 := fun z hz => by
          rw [i32_lt] at h1 hz ⊢
          omega
        rw [valIn_hi (fun z hz => hle z (a1 z hz)), valIn_hi (fun z hz => hle z (b1 z hz))]
