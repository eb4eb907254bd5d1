/-- an object of kind ci with these int fields (else 0) and these reference fields (else null) -/
def pO (ci : Nat) (FI : List (Nat × Int32)) (FX : List (Nat × Option Nat)) : aw_C → Prop := fun c => cK c = ci ∧ (∀ G, cI c G = (FI.lookup G).getD 0) ∧ ∀ G, cR c G = (FX.lookup G).getD none
/-- a row of references with these places (else null) -/
def pQ (kd N : Nat) (QL : List (Nat × Option Nat)) : aw_C → Prop := fun c => cK c = kd ∧ cN c = N ∧ ∀ j, cQ c j = (QL.lookup j).getD none
theorem pO_new {S : aw_S} {q ci : Nat} : kn (nO S q ci) [(q, pO ci [] [])] := kn.one in_nO (by rw [cell_nO]; exact ⟨rfl, fun _ => rfl, fun _ => rfl⟩)
theorem pO_step {ci F q : Nat} {FI : List (Nat × Int32)} {FX : List (Nat × Option Nat)} (c c2 : aw_C) (h : pO ci FI FX c) (h1 : cK c2 = cK c) (h2 : cI c2 = cI c) (h3 : ∀ G, cR c2 G = if G = F then some q else cR c G) : pO ci FI ((F, some q) :: FX) c2 := by
  refine ⟨h1.trans h.1, fun G => by rw [h2]; exact h.2.1 G, fun G => ?_⟩
  rw [h3, List.lookup_cons]
  by_cases hg : G = F
  · simp [hg]
  · simp only [hg, if_false]
    rw [show (G == F) = false by simpa using hg]
    exact h.2.2 G
theorem made_0 {S : aw_S} {a : Nat} {p : aw_C → Prop} (h : kn S [(a, p)]) : made S S a [(a, p)] := ⟨keeps.rf, h, fun e he => Or.inl (by rcases List.mem_singleton.mp he with rfl; rfl)⟩
theorem made_is {S S1 : aw_S} {a ci : Nat} {FC : aw_FC} {FI : List (Nat × Int32)} {FX : List (Nat × Option Nat)} (h : made S S1 a ((a, pO ci FI FX) :: FC)) : aw_is S1 a ci := h.2.1.is (fun c z => z.1)
theorem made_row {S S1 : aw_S} {a q kd N F ci : Nat} {FC : aw_FC} {FI : List (Nat × Int32)} {FX : List (Nat × Option Nat)} (ha : a ∈ sL S) (h : made S S1 a ((a, pO ci FI FX) :: FC)) (f : q ∉ sL S1) : made S (wR (nA S1 q kd N) F a (some q)) a ((a, pO ci FI ((F, some q) :: FX)) :: (FC ++ [(q, pA kd N)])) := by
  refine ⟨h.1.tr ((keeps_nA f).tr keeps_wR (fun _ _ z => z.elim) (fun _ _ z => z)) (fun _ _ z => z) (fun _ _ z => z), kn.row _ h.2.1 f (fun c c2 => pO_step c c2), fun e he => ?_⟩
  rcases List.mem_cons.mp he with rfl | he
  · exact Or.inl rfl
  · rcases List.mem_append.mp he with z | z
    · exact h.2.2 e (List.mem_cons_of_mem _ z)
    · rcases List.mem_singleton.mp z with rfl
      exact Or.inr (fun y => f ((h.1 _ y).1))
theorem made_obj {S S1 S2 : aw_S} {a q F ci cj : Nat} {FC F2 : aw_FC} {FI : List (Nat × Int32)} {FX : List (Nat × Option Nat)} (h : made S S1 a ((a, pO ci FI FX) :: FC)) (f : q ∉ sL S1) (m : made (nO S1 q cj) S2 q F2) : made S (wR S2 F a (some q)) a ((a, pO ci FI ((F, some q) :: FX)) :: (FC ++ F2)) := by
  have k2 : keeps S1 S2 (fun _ => False) := (keeps_nO f).tr m.1 (fun _ _ z => z) (fun b hb z => f (z ▸ hb))
  refine ⟨h.1.tr (k2.tr keeps_wR (fun _ _ z => z.elim) (fun _ _ z => z)) (fun _ _ z => z) (fun _ _ z => z), kn.obj _ h.2.1 f m (fun c c2 => pO_step c c2), fun e he => ?_⟩
  rcases List.mem_cons.mp he with rfl | he
  · exact Or.inl rfl
  · rcases List.mem_append.mp he with z | z
    · exact h.2.2 e (List.mem_cons_of_mem _ z)
    · right
      intro y
      rcases m.2.2 e z with w | w
      · exact f (w ▸ (h.1 _ y).1)
      · exact w (List.mem_append_left _ (h.1 _ y).1)
theorem made_int {S S1 : aw_S} {a F ci : Nat} {v : Int32} {FC : aw_FC} {FI : List (Nat × Int32)} {FX : List (Nat × Option Nat)} (h : made S S1 a ((a, pO ci FI FX) :: FC)) : made S (wI S1 F a v) a ((a, pO ci ((F, v) :: FI) FX) :: FC) := by
  refine ⟨h.1.tr keeps_wI (fun _ _ z => z) (fun _ _ z => z), kn.re h.2.1 keeps_wI (fun z => ⟨z.1, fun G => ?_, z.2.2⟩), fun e he => ?_⟩
  · rw [cI_wI, List.lookup_cons]
    by_cases hg : G = F
    · simp [hg]
    · simp only [hg, if_false]
      rw [show (G == F) = false by simpa using hg]
      exact z.2.1 G
  · rcases List.mem_cons.mp he with rfl | he
    · exact Or.inl rfl
    · exact h.2.2 e (List.mem_cons_of_mem _ he)
/-- a reference that was there before -/
theorem made_ref {S S1 : aw_S} {a F ci q : Nat} {FC : aw_FC} {FI : List (Nat × Int32)} {FX : List (Nat × Option Nat)} (h : made S S1 a ((a, pO ci FI FX) :: FC)) : made S (wR S1 F a (some q)) a ((a, pO ci FI ((F, some q) :: FX)) :: FC) := by
  refine ⟨h.1.tr keeps_wR (fun _ _ z => z) (fun _ _ z => z), kn.re h.2.1 keeps_wR (fun z => pO_step (cell S1 a) _ z rfl rfl (fun G => cR_wR _ _ _ _ _)), fun e he => ?_⟩
  rcases List.mem_cons.mp he with rfl | he
  · exact Or.inl rfl
  · exact h.2.2 e (List.mem_cons_of_mem _ he)
theorem kn.mid {S S2 : aw_S} {L1 L2 : aw_FC} {b : Nat} {p p2 : aw_C → Prop} (h : kn S (L1 ++ (b, p) :: L2)) (k : keeps S S2 (fun z => z = b)) (hp : p (cell S b) → p2 (cell S2 b)) : kn S2 (L1 ++ (b, p2) :: L2) := by
  have hn : ∀ e ∈ L1 ++ L2, ¬ e.1 = b := by
    intro e he y
    have h1 := h.1
    rw [List.map_append, List.map_cons] at h1
    have h2 : (b :: (L1.map Prod.fst ++ L2.map Prod.fst)).Nodup := List.perm_middle.nodup_iff.mp h1
    refine (List.nodup_cons.mp h2).1 ?_
    rw [← List.map_append]
    exact List.mem_map.mpr ⟨e, he, y⟩
  refine ⟨by have h1 := h.1; rw [List.map_append, List.map_cons] at h1 ⊢; exact h1, fun e he => ?_⟩
  rcases List.mem_append.mp he with z | z
  · have h1 := h.2 e (List.mem_append_left _ z)
    exact ⟨(k e.1 h1.1).1, by rw [(k e.1 h1.1).2 (hn e (List.mem_append_left _ z))]; exact h1.2⟩
  · rcases List.mem_cons.mp z with rfl | z
    · have h1 := h.2 (b, p) (List.mem_append_right _ List.mem_cons_self)
      exact ⟨(k b h1.1).1, hp h1.2⟩
    · have h1 := h.2 e (List.mem_append_right _ (List.mem_cons_of_mem _ z))
      exact ⟨(k e.1 h1.1).1, by rw [(k e.1 h1.1).2 (hn e (List.mem_append_right _ z))]; exact h1.2⟩
/-- a new object, made, into place k of the row bs -/
theorem made_put {S S1 S2 : aw_S} {a bs q k kd N cj ci : Nat} {L1 L2 F2 : aw_FC} {FI : List (Nat × Int32)} {FX QL : List (Nat × Option Nat)} (h : made S S1 a ((a, pO ci FI FX) :: (L1 ++ (bs, pQ kd N QL) :: L2))) (hbs : ¬ bs ∈ sL S) (f : q ∉ sL S1) (m : made (nO S1 q cj) S2 q F2) : made S (wQ S2 bs k (some q)) a ((a, pO ci FI FX) :: (L1 ++ (bs, pQ kd N ((k, some q) :: QL)) :: (L2 ++ F2))) := by
  have k2 : keeps S1 S2 (fun _ => False) := (keeps_nO f).tr m.1 (fun _ _ z => z) (fun b hb z => f (z ▸ hb))
  have hnew : ∀ e ∈ F2, e.1 ∉ sL S1 := fun e z y => by
    rcases m.2.2 e z with w | w
    · exact f (w ▸ y)
    · exact w (List.mem_append_left _ y)
  have h2 : kn S2 (((a, pO ci FI FX) :: (L1 ++ (bs, pQ kd N QL) :: L2)) ++ F2) := (h.2.1.keep k2 (fun _ _ z => z)).app m.2.1 (fun e he => (h.2.1.2 e he).1) hnew
  have e1 : ((a, pO ci FI FX) :: (L1 ++ (bs, pQ kd N QL) :: L2)) ++ F2 = ((a, pO ci FI FX) :: L1) ++ (bs, pQ kd N QL) :: (L2 ++ F2) := by simp
  rw [e1] at h2
  have h3 := h2.mid (S2 := wQ S2 bs k (some q)) (p2 := pQ kd N ((k, some q) :: QL)) keeps_wQ (fun z => ⟨z.1, z.2.1, fun j => by
    have e2 : cQ (cell (wQ S2 bs k (some q)) bs) j = if j = k then some q else cQ (cell S2 bs) j := by
      show sQ (wQ S2 bs k (some q)) bs j = _
      rw [sQ_wQ]
      by_cases hj : j = k <;> simp [hj, cQ, cell]
    rw [e2, List.lookup_cons]
    by_cases hj : j = k
    · simp [hj]
    · simp only [hj, if_false]
      rw [show (j == k) = false by simpa using hj]
      exact z.2.2 j⟩)
  refine ⟨h.1.tr (k2.tr keeps_wQ (fun _ _ z => z.elim) (fun _ _ z => z)) (fun _ _ z => z) (fun b hb z => (hbs (z ▸ hb)).elim), h3, fun e he => ?_⟩
  have he2 : e.1 = a ∨ e ∈ L1 ++ L2 ∨ e.1 = bs ∨ e ∈ F2 := by
    rcases List.mem_cons.mp he with rfl | he
    · exact Or.inl rfl
    · rcases List.mem_append.mp he with z | z
      · exact Or.inr (Or.inl (List.mem_append_left _ z))
      · rcases List.mem_cons.mp z with rfl | z
        · exact Or.inr (Or.inr (Or.inl rfl))
        · rcases List.mem_append.mp z with z | z
          · exact Or.inr (Or.inl (List.mem_append_right _ z))
          · exact Or.inr (Or.inr (Or.inr z))
  rcases he2 with z | z | z | z
  · exact Or.inl z
  · refine h.2.2 e (List.mem_cons_of_mem _ ?_)
    rcases List.mem_append.mp z with z | z
    · exact List.mem_append_left _ z
    · exact List.mem_append_right _ (List.mem_cons_of_mem _ z)
  · exact Or.inr (z ▸ hbs)
  · exact Or.inr (fun y => hnew e z (h.1 _ y).1)
/-- a row of null references as one with places -/
theorem pA_pQ {kd N : Nat} {c : aw_C} (h : pA kd N c) : pQ kd N [] c := ⟨h.1, h.2.1, fun j => by rw [h.2.2.2]; rfl⟩
theorem kn.imp {S : aw_S} {L1 L2 : aw_FC} {b : Nat} {p p2 : aw_C → Prop} (h : kn S (L1 ++ (b, p) :: L2)) (hp : ∀ c, p c → p2 c) : kn S (L1 ++ (b, p2) :: L2) := h.mid keeps.rf (hp _)
theorem made_imp {S S1 : aw_S} {a b ci : Nat} {L1 L2 : aw_FC} {FI : List (Nat × Int32)} {FX : List (Nat × Option Nat)} {p p2 : aw_C → Prop} (h : made S S1 a ((a, pO ci FI FX) :: (L1 ++ (b, p) :: L2))) (hp : ∀ c, p c → p2 c) : made S S1 a ((a, pO ci FI FX) :: (L1 ++ (b, p2) :: L2)) := by
  refine ⟨h.1, kn.imp (L1 := (a, pO ci FI FX) :: L1) h.2.1 hp, fun e he => ?_⟩
  rcases List.mem_cons.mp he with rfl | he
  · exact Or.inl rfl
  · rcases List.mem_append.mp he with z | z
    · exact h.2.2 e (List.mem_cons_of_mem _ (List.mem_append_left _ z))
    · rcases List.mem_cons.mp z with rfl | z
      · exact h.2.2 (b, p) (List.mem_cons_of_mem _ (List.mem_append_right _ List.mem_cons_self))
      · exact h.2.2 e (List.mem_cons_of_mem _ (List.mem_append_right _ (List.mem_cons_of_mem _ z)))
set_option maxHeartbeats 4000000 in
set_option maxRecDepth 100000 in
theorem m_X0_init {S : aw_S} {a : Nat} (h0 : kn S [(a, pO 0 [] [])]) : aw_M yX0_init cX0_init 1 (none : Option FieldType) 1 0 0 [.ref a] S (fun r S2 => r = none ∧ made S S2 a ((a, pO 0 [] []) :: [])) := by
  refine aw_enter (by decide +kernel) (Nat.le_of_ble_eq_true rfl) (fun g K E => ?_)
  have h := made_0 h0
  have ha := (h0.2 _ List.mem_cons_self).1
  refine a_aload_n K dX0_init_0 rfl ?_
  refine a_objInit K ml_X0_1 (by omega) (by decide) dX0_init_1 ?_
  exact a_vret K E (Nat.le_of_ble_eq_true rfl) (Nat.le_of_ble_eq_true rfl) dX0_init_4 ⟨rfl, h⟩
set_option maxHeartbeats 4000000 in
set_option maxRecDepth 100000 in
theorem m_X1_init {S : aw_S} {a : Nat} (h0 : kn S [(a, pO 1 [] [])]) : aw_M yX1_init cX1_init 1 (none : Option FieldType) 1 0 0 [.ref a] S (fun r S2 => r = none ∧ made S S2 a ((a, pO 1 [(64, 4)] []) :: [])) := by
  refine aw_enter (by decide +kernel) (Nat.le_of_ble_eq_true rfl) (fun g K E => ?_)
  have h := made_0 h0
  have ha := (h0.2 _ List.mem_cons_self).1
  refine a_aload_n K dX1_init_0 rfl ?_
  refine a_objInit K ml_X1_3 (by omega) (by decide) dX1_init_1 ?_
  refine a_aload_n K dX1_init_4 rfl ?_
  refine a_iconst K dX1_init_5 (v := 4) (by decide +kernel) ?_
  refine a_putI K fd_X1_9 (made_is h) rfl dX1_init_6 ?_
  have h := made_int (F := 64) (v := 4) h
  exact a_vret K E (Nat.le_of_ble_eq_true rfl) (Nat.le_of_ble_eq_true rfl) dX1_init_9 ⟨rfl, h⟩
set_option maxHeartbeats 4000000 in
set_option maxRecDepth 100000 in
theorem m_X2_init {S : aw_S} {a : Nat} (h0 : kn S [(a, pO 2 [] [])]) : aw_M yX2_init cX2_init 1 (none : Option FieldType) 1 2 128 [.ref a] S (fun r S2 => r = none ∧ ∃ q7 q16 : Nat, made S S2 a ((a, pO 2 [] [(129, some q16), (128, some q7)]) :: [(q7, pA 16 64), (q16, pA 13 64)])) := by
  refine aw_enter (by decide +kernel) (Nat.le_of_ble_eq_true rfl) (fun g K E => ?_)
  have h := made_0 h0
  have ha := (h0.2 _ List.mem_cons_self).1
  refine a_aload_n K dX2_init_0 rfl ?_
  refine a_objInit K ml_X2_3 (by omega) (by decide) dX2_init_1 ?_
  refine a_aload_n K dX2_init_4 rfl ?_
  refine a_bipush K dX2_init_5 (v := 64) (by decide +kernel) ?_
  refine a_newqN K (N := 64) kl_X2_9 (by decide +kernel) (by decide +kernel) (Nat.le_of_ble_eq_true rfl) (Nat.le_of_ble_eq_true rfl) (Nat.le_of_ble_eq_true rfl) dX2_init_7 (fun q7 f7 => ?_)
  refine a_putRF K fd_X2_11 (v := some q7) (is_nA_old (made_is h) f7) (Or.inr ⟨_, rfl⟩) rfl aw_clX2 dX2_init_10 ?_
  have h := made_row (F := 128) (kd := 16) (N := 64) ha h f7
  refine a_aload_n K dX2_init_13 rfl ?_
  refine a_bipush K dX2_init_14 (v := 64) (by decide +kernel) ?_
  refine a_newaI K (N := 64) (by decide +kernel) (by decide +kernel) (Nat.le_of_ble_eq_true rfl) (Nat.le_of_ble_eq_true rfl) (Nat.le_of_ble_eq_true rfl) dX2_init_16 (fun q16 f16 => ?_)
  refine a_putRF K fd_X2_17 (v := some q16) (is_nA_old (made_is h) f16) (Or.inr ⟨_, rfl⟩) rfl aw_clX2 dX2_init_18 ?_
  have h := made_row (F := 129) (kd := 13) (N := 64) ha h f16
  exact a_vret K E (Nat.le_of_ble_eq_true rfl) (Nat.le_of_ble_eq_true rfl) dX2_init_21 ⟨rfl, q7, q16, h⟩
set_option maxHeartbeats 4000000 in
set_option maxRecDepth 100000 in
theorem m_X3_init {S : aw_S} {a : Nat} (h0 : kn S [(a, pO 3 [] [])]) : aw_M yX3_init cX3_init 1 (none : Option FieldType) 1 6 5994 [.ref a] S (fun r S2 => r = none ∧ ∃ q8 q18 q27 q36 q45 q54 : Nat, made S S2 a ((a, pO 3 [] [(197, some q54), (196, some q45), (195, some q36), (194, some q27), (193, some q18), (192, some q8)]) :: [(q8, pA 16 999), (q18, pA 13 999), (q27, pA 13 999), (q36, pA 14 999), (q45, pA 14 999), (q54, pA 13 999)])) := by
  refine aw_enter (by decide +kernel) (Nat.le_of_ble_eq_true rfl) (fun g K E => ?_)
  have h := made_0 h0
  have ha := (h0.2 _ List.mem_cons_self).1
  refine a_aload_n K dX3_init_0 rfl ?_
  refine a_objInit K ml_X3_3 (by omega) (by decide) dX3_init_1 ?_
  refine a_aload_n K dX3_init_4 rfl ?_
  refine a_sipush K dX3_init_5 (v := 999) (by decide +kernel) ?_
  refine a_newqN K (N := 999) kl_X3_9 (by decide +kernel) (by decide +kernel) (Nat.le_of_ble_eq_true rfl) (Nat.le_of_ble_eq_true rfl) (Nat.le_of_ble_eq_true rfl) dX3_init_8 (fun q8 f8 => ?_)
  refine a_putRF K fd_X3_11 (v := some q8) (is_nA_old (made_is h) f8) (Or.inr ⟨_, rfl⟩) rfl aw_clX3 dX3_init_11 ?_
  have h := made_row (F := 192) (kd := 16) (N := 999) ha h f8
  refine a_aload_n K dX3_init_14 rfl ?_
  refine a_sipush K dX3_init_15 (v := 999) (by decide +kernel) ?_
  refine a_newaI K (N := 999) (by decide +kernel) (by decide +kernel) (Nat.le_of_ble_eq_true rfl) (Nat.le_of_ble_eq_true rfl) (Nat.le_of_ble_eq_true rfl) dX3_init_18 (fun q18 f18 => ?_)
  refine a_putRF K fd_X3_17 (v := some q18) (is_nA_old (made_is h) f18) (Or.inr ⟨_, rfl⟩) rfl aw_clX3 dX3_init_20 ?_
  have h := made_row (F := 193) (kd := 13) (N := 999) ha h f18
  refine a_aload_n K dX3_init_23 rfl ?_
  refine a_sipush K dX3_init_24 (v := 999) (by decide +kernel) ?_
  refine a_newaI K (N := 999) (by decide +kernel) (by decide +kernel) (Nat.le_of_ble_eq_true rfl) (Nat.le_of_ble_eq_true rfl) (Nat.le_of_ble_eq_true rfl) dX3_init_27 (fun q27 f27 => ?_)
  refine a_putRF K fd_X3_21 (v := some q27) (is_nA_old (made_is h) f27) (Or.inr ⟨_, rfl⟩) rfl aw_clX3 dX3_init_29 ?_
  have h := made_row (F := 194) (kd := 13) (N := 999) ha h f27
  refine a_aload_n K dX3_init_32 rfl ?_
  refine a_sipush K dX3_init_33 (v := 999) (by decide +kernel) ?_
  refine a_newaZ K (N := 999) (by decide +kernel) (by decide +kernel) (Nat.le_of_ble_eq_true rfl) (Nat.le_of_ble_eq_true rfl) (Nat.le_of_ble_eq_true rfl) dX3_init_36 (fun q36 f36 => ?_)
  refine a_putRF K fd_X3_24 (v := some q36) (is_nA_old (made_is h) f36) (Or.inr ⟨_, rfl⟩) rfl aw_clX3 dX3_init_38 ?_
  have h := made_row (F := 195) (kd := 14) (N := 999) ha h f36
  refine a_aload_n K dX3_init_41 rfl ?_
  refine a_sipush K dX3_init_42 (v := 999) (by decide +kernel) ?_
  refine a_newaZ K (N := 999) (by decide +kernel) (by decide +kernel) (Nat.le_of_ble_eq_true rfl) (Nat.le_of_ble_eq_true rfl) (Nat.le_of_ble_eq_true rfl) dX3_init_45 (fun q45 f45 => ?_)
  refine a_putRF K fd_X3_28 (v := some q45) (is_nA_old (made_is h) f45) (Or.inr ⟨_, rfl⟩) rfl aw_clX3 dX3_init_47 ?_
  have h := made_row (F := 196) (kd := 14) (N := 999) ha h f45
  refine a_aload_n K dX3_init_50 rfl ?_
  refine a_sipush K dX3_init_51 (v := 999) (by decide +kernel) ?_
  refine a_newaI K (N := 999) (by decide +kernel) (by decide +kernel) (Nat.le_of_ble_eq_true rfl) (Nat.le_of_ble_eq_true rfl) (Nat.le_of_ble_eq_true rfl) dX3_init_54 (fun q54 f54 => ?_)
  refine a_putRF K fd_X3_31 (v := some q54) (is_nA_old (made_is h) f54) (Or.inr ⟨_, rfl⟩) rfl aw_clX3 dX3_init_56 ?_
  have h := made_row (F := 197) (kd := 13) (N := 999) ha h f54
  exact a_vret K E (Nat.le_of_ble_eq_true rfl) (Nat.le_of_ble_eq_true rfl) dX3_init_59 ⟨rfl, q8, q18, q27, q36, q45, q54, h⟩
set_option maxHeartbeats 4000000 in
set_option maxRecDepth 100000 in
theorem m_X5_init {S : aw_S} {a : Nat} (h0 : kn S [(a, pO 5 [] [])]) : aw_M yX5_init cX5_init 1 (none : Option FieldType) 1 1 64 [.ref a] S (fun r S2 => r = none ∧ ∃ q7 : Nat, made S S2 a ((a, pO 5 [] [(320, some q7)]) :: [(q7, pA 13 64)])) := by
  refine aw_enter (by decide +kernel) (Nat.le_of_ble_eq_true rfl) (fun g K E => ?_)
  have h := made_0 h0
  have ha := (h0.2 _ List.mem_cons_self).1
  refine a_aload_n K dX5_init_0 rfl ?_
  refine a_objInit K ml_X5_3 (by omega) (by decide) dX5_init_1 ?_
  refine a_aload_n K dX5_init_4 rfl ?_
  refine a_bipush K dX5_init_5 (v := 64) (by decide +kernel) ?_
  refine a_newaI K (N := 64) (by decide +kernel) (by decide +kernel) (Nat.le_of_ble_eq_true rfl) (Nat.le_of_ble_eq_true rfl) (Nat.le_of_ble_eq_true rfl) dX5_init_7 (fun q7 f7 => ?_)
  refine a_putRF K fd_X5_9 (v := some q7) (is_nA_old (made_is h) f7) (Or.inr ⟨_, rfl⟩) rfl aw_clX5 dX5_init_9 ?_
  have h := made_row (F := 320) (kd := 13) (N := 64) ha h f7
  exact a_vret K E (Nat.le_of_ble_eq_true rfl) (Nat.le_of_ble_eq_true rfl) dX5_init_12 ⟨rfl, q7, h⟩
set_option maxHeartbeats 4000000 in
set_option maxRecDepth 100000 in
theorem m_X7_init {S : aw_S} {a : Nat} (h0 : kn S [(a, pO 7 [] [])]) : aw_M yX7_init cX7_init 1 (none : Option FieldType) 1 2 120 [.ref a] S (fun r S2 => r = none ∧ ∃ q7 q15 : Nat, made S S2 a ((a, pO 7 [] [(449, some q15), (448, some q7)]) :: [(q7, pA 13 60), (q15, pA 13 60)])) := by
  refine aw_enter (by decide +kernel) (Nat.le_of_ble_eq_true rfl) (fun g K E => ?_)
  have h := made_0 h0
  have ha := (h0.2 _ List.mem_cons_self).1
  refine a_aload_n K dX7_init_0 rfl ?_
  refine a_objInit K ml_X7_3 (by omega) (by decide) dX7_init_1 ?_
  refine a_aload_n K dX7_init_4 rfl ?_
  refine a_bipush K dX7_init_5 (v := 60) (by decide +kernel) ?_
  refine a_newaI K (N := 60) (by decide +kernel) (by decide +kernel) (Nat.le_of_ble_eq_true rfl) (Nat.le_of_ble_eq_true rfl) (Nat.le_of_ble_eq_true rfl) dX7_init_7 (fun q7 f7 => ?_)
  refine a_putRF K fd_X7_9 (v := some q7) (is_nA_old (made_is h) f7) (Or.inr ⟨_, rfl⟩) rfl aw_clX7 dX7_init_9 ?_
  have h := made_row (F := 448) (kd := 13) (N := 60) ha h f7
  refine a_aload_n K dX7_init_12 rfl ?_
  refine a_bipush K dX7_init_13 (v := 60) (by decide +kernel) ?_
  refine a_newaI K (N := 60) (by decide +kernel) (by decide +kernel) (Nat.le_of_ble_eq_true rfl) (Nat.le_of_ble_eq_true rfl) (Nat.le_of_ble_eq_true rfl) dX7_init_15 (fun q15 f15 => ?_)
  refine a_putRF K fd_X7_15 (v := some q15) (is_nA_old (made_is h) f15) (Or.inr ⟨_, rfl⟩) rfl aw_clX7 dX7_init_17 ?_
  have h := made_row (F := 449) (kd := 13) (N := 60) ha h f15
  exact a_vret K E (Nat.le_of_ble_eq_true rfl) (Nat.le_of_ble_eq_true rfl) dX7_init_20 ⟨rfl, q7, q15, h⟩
set_option maxHeartbeats 4000000 in
set_option maxRecDepth 100000 in
theorem m_X8_init {S : aw_S} {a : Nat} (h0 : kn S [(a, pO 8 [] [])]) : aw_M yX8_init cX8_init 1 (none : Option FieldType) 1 1 700 [.ref a] S (fun r S2 => r = none ∧ ∃ q8 : Nat, made S S2 a ((a, pO 8 [] [(512, some q8)]) :: [(q8, pA 13 700)])) := by
  refine aw_enter (by decide +kernel) (Nat.le_of_ble_eq_true rfl) (fun g K E => ?_)
  have h := made_0 h0
  have ha := (h0.2 _ List.mem_cons_self).1
  refine a_aload_n K dX8_init_0 rfl ?_
  refine a_objInit K ml_X8_3 (by omega) (by decide) dX8_init_1 ?_
  refine a_aload_n K dX8_init_4 rfl ?_
  refine a_sipush K dX8_init_5 (v := 700) (by decide +kernel) ?_
  refine a_newaI K (N := 700) (by decide +kernel) (by decide +kernel) (Nat.le_of_ble_eq_true rfl) (Nat.le_of_ble_eq_true rfl) (Nat.le_of_ble_eq_true rfl) dX8_init_8 (fun q8 f8 => ?_)
  refine a_putRF K fd_X8_9 (v := some q8) (is_nA_old (made_is h) f8) (Or.inr ⟨_, rfl⟩) rfl aw_clX8 dX8_init_10 ?_
  have h := made_row (F := 512) (kd := 13) (N := 700) ha h f8
  exact a_vret K E (Nat.le_of_ble_eq_true rfl) (Nat.le_of_ble_eq_true rfl) dX8_init_13 ⟨rfl, q8, h⟩
set_option maxHeartbeats 4000000 in
set_option maxRecDepth 100000 in
theorem m_X9_init {S : aw_S} {a : Nat} (h0 : kn S [(a, pO 9 [] [])]) : aw_M yX9_init cX9_init 1 (none : Option FieldType) 1 1 240 [.ref a] S (fun r S2 => r = none ∧ ∃ q8 : Nat, made S S2 a ((a, pO 9 [] [(576, some q8)]) :: [(q8, pA 13 240)])) := by
  refine aw_enter (by decide +kernel) (Nat.le_of_ble_eq_true rfl) (fun g K E => ?_)
  have h := made_0 h0
  have ha := (h0.2 _ List.mem_cons_self).1
  refine a_aload_n K dX9_init_0 rfl ?_
  refine a_objInit K ml_X9_3 (by omega) (by decide) dX9_init_1 ?_
  refine a_aload_n K dX9_init_4 rfl ?_
  refine a_sipush K dX9_init_5 (v := 240) (by decide +kernel) ?_
  refine a_newaI K (N := 240) (by decide +kernel) (by decide +kernel) (Nat.le_of_ble_eq_true rfl) (Nat.le_of_ble_eq_true rfl) (Nat.le_of_ble_eq_true rfl) dX9_init_8 (fun q8 f8 => ?_)
  refine a_putRF K fd_X9_9 (v := some q8) (is_nA_old (made_is h) f8) (Or.inr ⟨_, rfl⟩) rfl aw_clX9 dX9_init_10 ?_
  have h := made_row (F := 576) (kd := 13) (N := 240) ha h f8
  exact a_vret K E (Nat.le_of_ble_eq_true rfl) (Nat.le_of_ble_eq_true rfl) dX9_init_13 ⟨rfl, q8, h⟩
set_option maxHeartbeats 4000000 in
set_option maxRecDepth 100000 in
theorem m_X6_init {S : aw_S} {a : Nat} {t : Nat} (h0 : kn S [(a, pO 6 [] [])]) : aw_M yX6_init cX6_init 2 (none : Option FieldType) 1 0 0 [.ref a, .ref t] S (fun r S2 => r = none ∧ made S S2 a ((a, pO 6 [] [(384, some t)]) :: [])) := by
  refine aw_enter (by decide +kernel) (Nat.le_of_ble_eq_true rfl) (fun g K E => ?_)
  have h := made_0 h0
  have ha := (h0.2 _ List.mem_cons_self).1
  refine a_aload_n K dX6_init_0 rfl ?_
  refine a_objInit K ml_X6_3 (by omega) (by decide) dX6_init_1 ?_
  refine a_aload_n K dX6_init_4 rfl ?_
  refine a_aload_n K dX6_init_5 rfl ?_
  refine a_putRF K fd_X6_9 (v := some t) (made_is h) (Or.inl ⟨_, rfl⟩) rfl aw_clX6 dX6_init_6 ?_
  have h := made_ref (F := 384) (q := t) h
  exact a_vret K E (Nat.le_of_ble_eq_true rfl) (Nat.le_of_ble_eq_true rfl) dX6_init_9 ⟨rfl, h⟩
