/-- old addresses stay with kind, length, references, longs, marks; other cells than P's stay whole -/
def fr (S S2 : aw_S) (P : Nat → Prop) : Prop := ∀ b, b ∈ sL S → (b ∈ sL S2 ∧ sK S2 b = sK S b ∧ sN S2 b = sN S b ∧ (∀ F, sR S2 F b = sR S F b) ∧ (∀ F, sJ S2 F b = sJ S F b) ∧ sB S2 b = sB S b ∧ ∀ F, F = 260 ∨ F = 256 → sI S2 F b = sI S F b) ∧ (¬ P b → (∀ F, sI S2 F b = sI S F b) ∧ sA S2 b = sA S b ∧ sQ S2 b = sQ S b)
theorem fr.rf {S : aw_S} {P : Nat → Prop} : fr S S P := fun _ h => ⟨⟨h, rfl, rfl, fun _ => rfl, fun _ => rfl, rfl, fun _ _ => rfl⟩, fun _ => ⟨fun _ => rfl, rfl, rfl⟩⟩
theorem frS.fr {S S2 : aw_S} {P : Nat → Prop} (h : frS S S2 P) : fr S S2 P := fun b hb => ⟨⟨by rw [h.1]; exact hb, by rw [h.2.1], by rw [h.2.2.2.1], fun F => by rw [h.2.2.1], fun F => by rw [h.2.2.2.2.1], by rw [h.2.2.2.2.2.1], h.2.2.2.2.2.2.1 b⟩, h.2.2.2.2.2.2.2 b⟩
theorem fr.tr {S S2 S3 : aw_S} {P Q T : Nat → Prop} (h : fr S S2 P) (h2 : fr S2 S3 Q) (hP : ∀ b, b ∈ sL S → P b → T b) (hQ : ∀ b, b ∈ sL S → Q b → T b) : fr S S3 T := fun b hb => by
  obtain ⟨⟨a1, a2, a3, a4, a5, a6, a7⟩, a8⟩ := h b hb
  obtain ⟨⟨b1, b2, b3, b4, b5, b6, b7⟩, b8⟩ := h2 b a1
  refine ⟨⟨b1, b2.trans a2, b3.trans a3, fun F => (b4 F).trans (a4 F), fun F => (b5 F).trans (a5 F), b6.trans a6, fun F hF => (b7 F hF).trans (a7 F hF)⟩, fun n => ?_⟩
  obtain ⟨c1, c2, c3⟩ := a8 (fun z => n (hP b hb z))
  obtain ⟨d1, d2, d3⟩ := b8 (fun z => n (hQ b hb z))
  exact ⟨fun F => (d1 F).trans (c1 F), d2.trans c2, d3.trans c3⟩
theorem fr.mono {S S2 : aw_S} {P T : Nat → Prop} (h : fr S S2 P) (hP : ∀ b, b ∈ sL S → P b → T b) : fr S S2 T := h.tr fr.rf hP (fun _ _ (z : False) => z.elim)
theorem fr.is {S S2 : aw_S} {P : Nat → Prop} (h : fr S S2 P) {a c : Nat} (k : aw_is S a c) : aw_is S2 a c := ⟨(h a k.1).1.1, (h a k.1).1.2.1.trans k.2⟩
theorem fr.wIg {S S1 : aw_S} {P : Nat → Prop} (h : fr S S1 P) {F a : Nat} {v : Int32} (hF : F ≠ 260 ∧ F ≠ 256) (hP : P a) : fr S (wI S1 F a v) P := h.tr (frS_wI hF).fr (fun _ _ z => z) (fun _ _ z => by rw [z]; exact hP)
theorem fr.wIn {S S1 : aw_S} {P : Nat → Prop} (h : fr S S1 P) {F a : Nat} {v : Int32} (n : a ∉ sL S) : fr S (wI S1 F a v) P := fun b hb => by
  have e : ∀ G, sI (wI S1 F a v) G b = sI S1 G b := fun G => by rw [sI_wI, if_neg (show ¬ (G = F ∧ b = a) from fun z => n (z.2 ▸ hb))]
  obtain ⟨⟨a1, a2, a3, a4, a5, a6, a7⟩, a8⟩ := h b hb
  exact ⟨⟨a1, a2, a3, a4, a5, a6, fun G hG => (e G).trans (a7 G hG)⟩, fun m => ⟨fun G => (e G).trans ((a8 m).1 G), (a8 m).2⟩⟩
theorem fr.wRn {S S1 : aw_S} {P : Nat → Prop} (h : fr S S1 P) {F a : Nat} {v : Option Nat} (n : a ∉ sL S) : fr S (wR S1 F a v) P := fun b hb => by
  have e : ∀ G, sR (wR S1 F a v) G b = sR S1 G b := fun G => by rw [sR_wR, if_neg (show ¬ (G = F ∧ b = a) from fun z => n (z.2 ▸ hb))]
  obtain ⟨⟨a1, a2, a3, a4, a5, a6, a7⟩, a8⟩ := h b hb
  exact ⟨⟨a1, a2, a3, fun G => (e G).trans (a4 G), a5, a6, a7⟩, a8⟩
theorem fr.o_ {S S1 : aw_S} {P : Nat → Prop} (h : fr S S1 P) {q ci : Nat} (n : q ∉ sL S1) : fr S (nO S1 q ci) P := fun b hb => by
  obtain ⟨⟨a1, a2, a3, a4, a5, a6, a7⟩, a8⟩ := h b hb
  have m : b ≠ q := fun z => n (z ▸ a1)
  exact ⟨⟨List.mem_append_left _ a1, (va_up_ne _ _ m).trans a2, a3, fun F => (if_neg m).trans (a4 F), fun F => (if_neg m).trans (a5 F), a6, fun G hG => (if_neg m).trans (a7 G hG)⟩, fun np => ⟨fun F => (if_neg m).trans ((a8 np).1 F), (a8 np).2⟩⟩
theorem fr.a_ {S S1 : aw_S} {P : Nat → Prop} (h : fr S S1 P) {q kd N : Nat} (n : q ∉ sL S1) : fr S (nA S1 q kd N) P := fun b hb => by
  obtain ⟨⟨a1, a2, a3, a4, a5, a6, a7⟩, a8⟩ := h b hb
  have m : b ≠ q := fun z => n (z ▸ a1)
  exact ⟨⟨List.mem_append_left _ a1, (va_up_ne _ _ m).trans a2, (va_up_ne _ _ m).trans a3, a4, a5, (va_up_ne _ _ m).trans a6, a7⟩, fun np => ⟨(a8 np).1, (va_up_ne _ _ m).trans (a8 np).2.1, (va_up_ne _ _ m).trans (a8 np).2.2⟩⟩
theorem fr.c_ {S S1 : aw_S} {P : Nat → Prop} (h : fr S S1 P) {q c : Nat} (n : q ∉ sL S1) : fr S (nC S1 q c) P := fun b hb => by
  obtain ⟨⟨a1, a2, a3, a4, a5, a6, a7⟩, a8⟩ := h b hb
  have m : b ≠ q := fun z => n (z ▸ a1)
  exact ⟨⟨List.mem_append_left _ a1, (va_up_ne _ _ m).trans a2, (va_up_ne _ _ m).trans a3, a4, a5, (va_up_ne _ _ m).trans a6, a7⟩, fun np => ⟨(a8 np).1, (va_up_ne _ _ m).trans (a8 np).2.1, (va_up_ne _ _ m).trans (a8 np).2.2⟩⟩
theorem okS_frn {S S2 : aw_S} {P : Nat → Prop} {lf : Bool} {x : SD} (h : okS S lf x) (f : fr S S2 P) : okS S2 lf x := by
  cases x with
  | inl p => exact h
  | inr q => exact ⟨h.1, fun b hb => f.is (h.2 b hb)⟩
theorem NL_frn {S S2 : aw_S} {P : Nat → Prop} {a e : Nat} {lf : Bool} {l : List SD} (h : NL S a lf e l) (f : fr S S2 P) (na : ¬ P a) (ne : ¬ P e) : NL S2 a lf e l := by
  obtain ⟨⟨h1, h2, h3, h4, h5, h6, h7⟩, h8⟩ := h
  obtain ⟨⟨a1, a2, a3, a4, a5, a6, a7⟩, a8⟩ := f a h1.1
  obtain ⟨⟨b1, b2, b3, b4, b5, b6, b7⟩, b8⟩ := f e h4.1
  obtain ⟨c1, c2, c3⟩ := b8 ne
  refine ⟨⟨f.is h1, by rw [a4]; exact h2, by rw [a4]; exact h3, f.is h4, by rw [b3]; exact h5, by rw [(a8 na).1]; exact h6, h7⟩, fun k x hx => ⟨?_, okS_frn (h8 k x hx).2 f⟩⟩
  rw [← (h8 k x hx).1]
  unfold sl
  rw [c2, c3]
/-- the grower's own counts: m more made -/
def GN (S S2 : aw_S) (g m : Nat) : Prop := sI S2 65 g = sI S 65 g + nI m ∧ sI S2 64 g = sI S 64 g ∧ sI S2 66 g = sI S 66 g
theorem GN.rf {S : aw_S} {g : Nat} : GN S S g 0 := ⟨by rw [nI_0, Int32.add_zero], rfl, rfl⟩
theorem GN.tr {S S2 S3 : aw_S} {g m n : Nat} (h : GN S S2 g m) (h2 : GN S2 S3 g n) : GN S S3 g (m + n) := ⟨by rw [h2.1, h.1, Int32.add_assoc, nI_add], h2.2.1.trans h.2.1, h2.2.2.trans h.2.2⟩
theorem GN.fr {S S2 : aw_S} {P : Nat → Prop} {g : Nat} (f : frS S S2 P) (n : ¬ P g) : GN S S2 g 0 := by
  obtain ⟨h, -, -⟩ := f.2.2.2.2.2.2.2 g n
  exact ⟨by rw [h, nI_0, Int32.add_zero], h 64, h 66⟩
/-- a new node at q1, its row q2 -/
def mkN (S S2 : aw_S) (g q1 q2 : Nat) (lf : Bool) (l : List SD) (tk : Int32) : Prop := q1 ∉ sL S ∧ q2 ∉ sL S ∧ q1 ≠ q2 ∧ NL S2 q1 lf q2 l ∧ sI S2 256 q1 = tk ∧ sI S2 260 q1 = 0 ∧ fr S S2 (fun b => b = g) ∧ GN S S2 g 1
set_option maxHeartbeats 4000000 in
set_option maxRecDepth 100000 in
theorem m_X4_init_l {S : aw_S} {a : Nat} {tk : Int32} (o : aw_is S a 4) : aw_M yX4_init cX4_init 3 (none : Option FieldType) 1 1 14 [.ref a, .int 1, .int tk] S (fun r S2 => r = none ∧ ∃ q, q ∉ sL S ∧ S2 = wR (wR (nA (wI S 256 a tk) q 13 14) 257 a (some q)) 258 a none) := by
  refine aw_enter (by decide +kernel) (Nat.le_of_ble_eq_true rfl) (fun g K E => ?_)
  first | refine a_aload_n K dX4_init_0 rfl ?_ | refine a_aload_nN K dX4_init_0 rfl ?_
  refine a_objInit K ml_X4_3 (by omega) (by decide) dX4_init_1 ?_
  first | refine a_aload_n K dX4_init_4 rfl ?_ | refine a_aload_nN K dX4_init_4 rfl ?_
  refine a_iload_n K dX4_init_5 rfl ?_
  refine a_putIF K fd_X4_9 (by assumption) rfl rfl aw_clX4 dX4_init_6 ?_
  first | refine a_aload_n K dX4_init_9 rfl ?_ | refine a_aload_nN K dX4_init_9 rfl ?_
  refine a_iload_n K dX4_init_10 rfl ?_
  refine a_if_eq K dX4_init_11 (tgt := 21) (by decide) (fun c_11 => absurd c_11 (by decide)) (fun c_11 => ?_)
  refine a_bipush K dX4_init_14 (v := 14) (by decide) ?_
  refine a_newaI K (N := 14) (by decide) (by decide) (by decide) (by omega) (by omega) dX4_init_16 (fun q_16 f_16 => ?_)
  refine a_goto K dX4_init_18 (tgt := 22) (by decide) ?_
  have o1 : aw_is (nA (wI S 256 a tk) q_16 13 14) a 4 := is_nA_old o f_16
  refine a_putRF K fd_X4_15 (v := some _) (by assumption) (Or.inr ⟨_, rfl⟩) rfl aw_clX4 dX4_init_22 ?_
  first | refine a_aload_n K dX4_init_25 rfl ?_ | refine a_aload_nN K dX4_init_25 rfl ?_
  refine a_iload_n K dX4_init_26 rfl ?_
  refine a_if_eq K dX4_init_27 (tgt := 34) (by decide) (fun c_27 => absurd c_27 (by decide)) (fun c_27 => ?_)
  refine a_null K dX4_init_30 ?_
  refine a_goto K dX4_init_31 (tgt := 39) (by decide) ?_
  refine a_putRF K fd_X4_19 (v := none) (by assumption) (Or.inr ⟨_, rfl⟩) rfl aw_clX4 dX4_init_39 ?_
  exact a_vret K E (by omega) (by omega) dX4_init_42 ⟨rfl, q_16, f_16, rfl⟩
set_option maxHeartbeats 4000000 in
set_option maxRecDepth 100000 in
theorem m_X4_init_k {S : aw_S} {a : Nat} {tk : Int32} (o : aw_is S a 4) : aw_M yX4_init cX4_init 3 (none : Option FieldType) 1 1 7 [.ref a, .int 0, .int tk] S (fun r S2 => r = none ∧ ∃ q, q ∉ sL S ∧ S2 = wR (nA (wR (wI S 256 a tk) 257 a none) q 16 7) 258 a (some q)) := by
  refine aw_enter (by decide +kernel) (Nat.le_of_ble_eq_true rfl) (fun g K E => ?_)
  first | refine a_aload_n K dX4_init_0 rfl ?_ | refine a_aload_nN K dX4_init_0 rfl ?_
  refine a_objInit K ml_X4_3 (by omega) (by decide) dX4_init_1 ?_
  first | refine a_aload_n K dX4_init_4 rfl ?_ | refine a_aload_nN K dX4_init_4 rfl ?_
  refine a_iload_n K dX4_init_5 rfl ?_
  refine a_putIF K fd_X4_9 (by assumption) rfl rfl aw_clX4 dX4_init_6 ?_
  first | refine a_aload_n K dX4_init_9 rfl ?_ | refine a_aload_nN K dX4_init_9 rfl ?_
  refine a_iload_n K dX4_init_10 rfl ?_
  refine a_if_eq K dX4_init_11 (tgt := 21) (by decide) (fun c_11 => ?_) (fun c_11 => absurd c_11 (by decide))
  refine a_null K dX4_init_21 ?_
  refine a_putRF K fd_X4_15 (v := none) (by assumption) (Or.inr ⟨_, rfl⟩) rfl aw_clX4 dX4_init_22 ?_
  first | refine a_aload_n K dX4_init_25 rfl ?_ | refine a_aload_nN K dX4_init_25 rfl ?_
  refine a_iload_n K dX4_init_26 rfl ?_
  refine a_if_eq K dX4_init_27 (tgt := 34) (by decide) (fun c_27 => ?_) (fun c_27 => absurd c_27 (by decide))
  refine a_bipush K dX4_init_34 (v := 7) (by decide) ?_
  refine a_newqN K (N := 7) kl_X4_10 (by decide) (by decide) (by decide) (by omega) (by omega) dX4_init_36 (fun q_36 f_36 => ?_)
  have o1 : aw_is (nA (wR (wI S 256 a tk) 257 a none) q_36 16 7) a 4 := is_nA_old o f_36
  refine a_putRF K fd_X4_19 (v := some _) (by assumption) (Or.inr ⟨_, rfl⟩) rfl aw_clX4 dX4_init_39 ?_
  exact a_vret K E (by omega) (by omega) dX4_init_42 ⟨rfl, q_36, f_36, rfl⟩
theorem is_nC_old {S : aw_S} {q a0 b c : Nat} (h : aw_is S b c) (f : q ∉ sL S) : aw_is (nC S q a0) b c := ⟨List.mem_append_left _ h.1, (va_up_ne _ _ (ne_of_is h f)).trans h.2⟩
set_option maxHeartbeats 4000000 in
set_option maxRecDepth 100000 in
theorem m_X4_init__l {S : aw_S} {a f e : Nat} {tk : Int32} (o : aw_is S a 4) (of : aw_is S f 4) (hE : sR S 257 f = some e) (hK : sR S 258 f = none) (oe : aw_is S e 13) (hN : sN S e = 14) (naf : f ≠ a) : aw_M yX4_init_ cX4_init_ 3 (none : Option FieldType) 1 1 14 [.ref a, .ref f, .int tk] S (fun r S2 => r = none ∧ ∃ q, q ∉ sL S ∧ S2 = wI (wR (wR (nC (wI S 256 a tk) q e) 257 a (some q)) 258 a none) 259 a (sI S 259 f)) := by
  refine aw_enter (by decide +kernel) (Nat.le_of_ble_eq_true rfl) (fun g K E => ?_)
  first | refine a_aload_n K dX4_init__0 rfl ?_ | refine a_aload_nN K dX4_init__0 rfl ?_
  refine a_objInit K ml_X4_3 (by omega) (by decide) dX4_init__1 ?_
  first | refine a_aload_n K dX4_init__4 rfl ?_ | refine a_aload_nN K dX4_init__4 rfl ?_
  refine a_iload_n K dX4_init__5 rfl ?_
  refine a_putIF K fd_X4_9 (by assumption) rfl rfl aw_clX4 dX4_init__6 ?_
  first | refine a_aload_n K dX4_init__9 rfl ?_ | refine a_aload_nN K dX4_init__9 rfl ?_
  first | refine a_aload_n K dX4_init__10 rfl ?_ | refine a_aload_nN K dX4_init__10 rfl ?_
  refine a_getRs K fd_X4_15 (by assumption) (Or.inr ⟨_, rfl⟩) (by assumption) dX4_init__11 ?_
  refine a_ifnonnull K dX4_init__14 (tgt := 21) (by decide) ?_
  first | refine a_aload_n K dX4_init__21 rfl ?_ | refine a_aload_nN K dX4_init__21 rfl ?_
  refine a_getRs K fd_X4_15 (by assumption) (Or.inr ⟨_, rfl⟩) (by assumption) dX4_init__22 ?_
  refine a_cloneI K (N := 14) ml_X4_23 kl_X4_24 (by assumption) (by first | assumption | exact hN) (by omega) (Nat.le_of_ble_eq_true rfl) (by omega) (by omega) dX4_init__25 dX4_init__28 (fun q_25 f_25 => ?_)
  have o1 : aw_is (nC (wI S 256 a tk) q_25 e) a 4 := is_nC_old o f_25
  have of1 : aw_is (nC (wI S 256 a tk) q_25 e) f 4 := is_nC_old of f_25
  have hK1 : sR (wR (nC (wI S 256 a tk) q_25 e) 257 a (some q_25)) 258 f = none := by rw [sR_wR, if_neg (fun z => absurd z.1 (by decide))]; exact hK
  refine a_putRF K fd_X4_15 (v := some _) (by assumption) (Or.inr ⟨_, rfl⟩) rfl aw_clX4 dX4_init__31 ?_
  first | refine a_aload_n K dX4_init__34 rfl ?_ | refine a_aload_nN K dX4_init__34 rfl ?_
  first | refine a_aload_n K dX4_init__35 rfl ?_ | refine a_aload_nN K dX4_init__35 rfl ?_
  refine a_getRn K fd_X4_19 (by assumption) (Or.inr ⟨_, rfl⟩) (by assumption) dX4_init__36 ?_
  refine a_ifnonnullN K dX4_init__39 ?_
  refine a_null K dX4_init__42 ?_
  refine a_goto K dX4_init__43 (tgt := 56) (by decide) ?_
  refine a_putRF K fd_X4_19 (v := none) (by assumption) (Or.inr ⟨_, rfl⟩) rfl aw_clX4 dX4_init__56 ?_
  first | refine a_aload_n K dX4_init__59 rfl ?_ | refine a_aload_nN K dX4_init__59 rfl ?_
  first | refine a_aload_n K dX4_init__60 rfl ?_ | refine a_aload_nN K dX4_init__60 rfl ?_
  refine a_getI K fd_X4_30 (by assumption) (Or.inl rfl) dX4_init__61 ?_
  rw [show sI (wR (wR (nC (wI S 256 a tk) q_25 e) 257 a (some q_25)) 258 a none) 259 f = sI S 259 f from by show sI (wI S 256 a tk) 259 f = _; rw [sI_wI, if_neg (fun z => absurd z.1 (by decide))]]
  refine a_putI K fd_X4_30 (by assumption) rfl dX4_init__64 ?_
  exact a_vret K E (by omega) (by omega) dX4_init__67 ⟨rfl, q_25, f_25, rfl⟩
set_option maxHeartbeats 4000000 in
set_option maxRecDepth 100000 in
theorem m_X4_init__k {S : aw_S} {a f e : Nat} {tk : Int32} (o : aw_is S a 4) (of : aw_is S f 4) (hE : sR S 257 f = none) (hK : sR S 258 f = some e) (oe : aw_is S e 16) (hN : sN S e = 7) (naf : f ≠ a) : aw_M yX4_init_ cX4_init_ 3 (none : Option FieldType) 1 1 7 [.ref a, .ref f, .int tk] S (fun r S2 => r = none ∧ ∃ q, q ∉ sL S ∧ S2 = wI (wR (nC (wR (wI S 256 a tk) 257 a none) q e) 258 a (some q)) 259 a (sI S 259 f)) := by
  refine aw_enter (by decide +kernel) (Nat.le_of_ble_eq_true rfl) (fun g K E => ?_)
  first | refine a_aload_n K dX4_init__0 rfl ?_ | refine a_aload_nN K dX4_init__0 rfl ?_
  refine a_objInit K ml_X4_3 (by omega) (by decide) dX4_init__1 ?_
  first | refine a_aload_n K dX4_init__4 rfl ?_ | refine a_aload_nN K dX4_init__4 rfl ?_
  refine a_iload_n K dX4_init__5 rfl ?_
  refine a_putIF K fd_X4_9 (by assumption) rfl rfl aw_clX4 dX4_init__6 ?_
  first | refine a_aload_n K dX4_init__9 rfl ?_ | refine a_aload_nN K dX4_init__9 rfl ?_
  first | refine a_aload_n K dX4_init__10 rfl ?_ | refine a_aload_nN K dX4_init__10 rfl ?_
  refine a_getRn K fd_X4_15 (by assumption) (Or.inr ⟨_, rfl⟩) (by assumption) dX4_init__11 ?_
  refine a_ifnonnullN K dX4_init__14 ?_
  refine a_null K dX4_init__17 ?_
  refine a_goto K dX4_init__18 (tgt := 31) (by decide) ?_
  refine a_putRF K fd_X4_15 (v := none) (by assumption) (Or.inr ⟨_, rfl⟩) rfl aw_clX4 dX4_init__31 ?_
  have hK1 : sR (wR (wI S 256 a tk) 257 a none) 258 f = some e := by rw [sR_wR, if_neg (fun z => absurd z.1 (by decide))]; exact hK
  first | refine a_aload_n K dX4_init__34 rfl ?_ | refine a_aload_nN K dX4_init__34 rfl ?_
  first | refine a_aload_n K dX4_init__35 rfl ?_ | refine a_aload_nN K dX4_init__35 rfl ?_
  refine a_getRs K fd_X4_19 (by assumption) (Or.inr ⟨_, rfl⟩) (by assumption) dX4_init__36 ?_
  refine a_ifnonnull K dX4_init__39 (tgt := 46) (by decide) ?_
  first | refine a_aload_n K dX4_init__46 rfl ?_ | refine a_aload_nN K dX4_init__46 rfl ?_
  refine a_getRs K fd_X4_19 (by assumption) (Or.inr ⟨_, rfl⟩) (by assumption) dX4_init__47 ?_
  refine a_cloneN K (N := 7) ml_X4_28 kl_X4_29 (by assumption) (by first | assumption | exact hN) (by omega) (Nat.le_of_ble_eq_true rfl) (by omega) (by omega) dX4_init__50 dX4_init__53 (fun q_50 f_50 => ?_)
  have o1 : aw_is (nC (wR (wI S 256 a tk) 257 a none) q_50 e) a 4 := is_nC_old o f_50
  have of1 : aw_is (nC (wR (wI S 256 a tk) 257 a none) q_50 e) f 4 := is_nC_old of f_50
  refine a_putRF K fd_X4_19 (v := some _) (by assumption) (Or.inr ⟨_, rfl⟩) rfl aw_clX4 dX4_init__56 ?_
  first | refine a_aload_n K dX4_init__59 rfl ?_ | refine a_aload_nN K dX4_init__59 rfl ?_
  first | refine a_aload_n K dX4_init__60 rfl ?_ | refine a_aload_nN K dX4_init__60 rfl ?_
  refine a_getI K fd_X4_30 (by assumption) (Or.inl rfl) dX4_init__61 ?_
  rw [show sI (wR (nC (wR (wI S 256 a tk) 257 a none) q_50 e) 258 a (some q_50)) 259 f = sI S 259 f from by show sI (wI S 256 a tk) 259 f = _; rw [sI_wI, if_neg (fun z => absurd z.1 (by decide))]]
  refine a_putI K fd_X4_30 (by assumption) rfl dX4_init__64 ?_
  exact a_vret K E (by omega) (by omega) dX4_init__67 ⟨rfl, q_50, f_50, rfl⟩
theorem ne_in {S : aw_S} {a q : Nat} (h : a ∈ sL S) (f : q ∉ sL S) : a ≠ q := fun z => f (z ▸ h)
theorem GN_new {S S2 : aw_S} {g q : Nat} (hg : g ∈ sL S) (f : q ∉ sL S) (h : ∀ F, sI S2 F g = sI (wI S 65 g (sI S 65 g + 1)) F g) : GN S S2 g 1 := ⟨by rw [h, sI_wI, if_pos ⟨rfl, rfl⟩]; rfl, by rw [h, sI_wI, if_neg (fun z => absurd z.1 (by decide))], by rw [h, sI_wI, if_neg (fun z => absurd z.1 (by decide))]⟩
theorem mkN_l {S : aw_S} {g q1 q2 : Nat} {tk : Int32} (hg : g ∈ sL S) (f1 : q1 ∉ sL S) (f2 : q2 ∉ sL (nO (wI S 65 g (sI S 65 g + 1)) q1 4)) : mkN S (wR (wR (nA (wI (nO (wI S 65 g (sI S 65 g + 1)) q1 4) 256 q1 tk) q2 13 14) 257 q1 (some q2)) 258 q1 none) g q1 q2 true [] tk := by
  have n1 : g ≠ q1 := ne_in hg f1
  have n2 : q2 ∉ sL S := fun z => f2 (List.mem_append_left _ z)
  have n3 : q1 ≠ q2 := fun z => f2 (z ▸ List.mem_append_right _ List.mem_cons_self)
  refine ⟨f1, n2, n3, ⟨⟨is_nA_old (n := 14) (S := wI (nO (wI S 65 g (sI S 65 g + 1)) q1 4) 256 q1 tk) is_nO f2, ?_, ?_, is_nA (n := 14), ?_, ?_, Nat.zero_le _⟩, fun k x hx => by simp at hx⟩, ?_, ?_, ((((((fr.rf (S := S) (P := fun b => b = g)).wIg (by decide) rfl).o_ f1).wIn f1).a_ f2).wRn f1).wRn f1, GN_new hg f1 (fun F => ?_)⟩
  · rw [sR_wR, if_neg (fun z => absurd z.1 (by decide)), sR_wR, if_pos ⟨rfl, rfl⟩]; rfl
  · rw [sR_wR, if_pos ⟨rfl, rfl⟩]; rfl
  · show sN (nA _ q2 13 14) q2 = _
    rw [sN_nA, if_pos rfl]; rfl
  · show sI (wI (nO (wI S 65 g (sI S 65 g + 1)) q1 4) 256 q1 tk) 259 q1 = _
    rw [sI_wI, if_neg (fun z => absurd z.1 (by decide)), sI_nO, if_pos rfl]; rfl
  · show sI (wI (nO (wI S 65 g (sI S 65 g + 1)) q1 4) 256 q1 tk) 256 q1 = _
    exact wI_at
  · show sI (wI (nO (wI S 65 g (sI S 65 g + 1)) q1 4) 256 q1 tk) 260 q1 = _
    rw [sI_wI, if_neg (fun z => absurd z.1 (by decide)), sI_nO, if_pos rfl]
  · show sI (wI (nO (wI S 65 g (sI S 65 g + 1)) q1 4) 256 q1 tk) F g = _
    rw [sI_wI, if_neg (fun z => n1 z.2), sI_nO, if_neg n1]
theorem mkN_k {S : aw_S} {g q1 q2 : Nat} {tk : Int32} (hg : g ∈ sL S) (f1 : q1 ∉ sL S) (f2 : q2 ∉ sL (nO (wI S 65 g (sI S 65 g + 1)) q1 4)) : mkN S (wR (nA (wR (wI (nO (wI S 65 g (sI S 65 g + 1)) q1 4) 256 q1 tk) 257 q1 none) q2 16 7) 258 q1 (some q2)) g q1 q2 false [] tk := by
  have n1 : g ≠ q1 := ne_in hg f1
  have n2 : q2 ∉ sL S := fun z => f2 (List.mem_append_left _ z)
  have n3 : q1 ≠ q2 := fun z => f2 (z ▸ List.mem_append_right _ List.mem_cons_self)
  refine ⟨f1, n2, n3, ⟨⟨is_nA_old (n := 7) (S := wR (wI (nO (wI S 65 g (sI S 65 g + 1)) q1 4) 256 q1 tk) 257 q1 none) is_nO f2, ?_, ?_, is_nA (n := 7), ?_, ?_, Nat.zero_le _⟩, fun k x hx => by simp at hx⟩, ?_, ?_, ((((((fr.rf (S := S) (P := fun b => b = g)).wIg (by decide) rfl).o_ f1).wIn f1).wRn f1).a_ f2).wRn f1, GN_new hg f1 (fun F => ?_)⟩
  · rw [sR_wR, if_neg (fun z => absurd z.1 (by decide))]
    show sR (wR _ 257 q1 none) 257 q1 = _
    rw [sR_wR, if_pos ⟨rfl, rfl⟩]; rfl
  · rw [sR_wR, if_pos ⟨rfl, rfl⟩]; rfl
  · show sN (nA _ q2 16 7) q2 = _
    rw [sN_nA, if_pos rfl]; rfl
  · show sI (wI (nO (wI S 65 g (sI S 65 g + 1)) q1 4) 256 q1 tk) 259 q1 = _
    rw [sI_wI, if_neg (fun z => absurd z.1 (by decide)), sI_nO, if_pos rfl]; rfl
  · show sI (wI (nO (wI S 65 g (sI S 65 g + 1)) q1 4) 256 q1 tk) 256 q1 = _
    exact wI_at
  · show sI (wI (nO (wI S 65 g (sI S 65 g + 1)) q1 4) 256 q1 tk) 260 q1 = _
    rw [sI_wI, if_neg (fun z => absurd z.1 (by decide)), sI_nO, if_pos rfl]
  · show sI (wI (nO (wI S 65 g (sI S 65 g + 1)) q1 4) 256 q1 tk) F g = _
    rw [sI_wI, if_neg (fun z => n1 z.2), sI_nO, if_neg n1]
theorem cC_A {X : aw_S} {q e : Nat} : sA (nC X q e) q = sA X e := va_up_self _ _ _
theorem cC_Q {X : aw_S} {q e : Nat} : sQ (nC X q e) q = sQ X e := va_up_self _ _ _
theorem cC_N {X : aw_S} {q e : Nat} : sN (nC X q e) q = sN X e := va_up_self _ _ _
theorem cC_is {X : aw_S} {q e c : Nat} (h : aw_is X e c) : aw_is (nC X q e) q c := ⟨List.mem_append_right _ List.mem_cons_self, (va_up_self _ _ _).trans h.2⟩
theorem mkN_cl {S : aw_S} {g q1 q2 f e : Nat} {tk : Int32} {l : List SD} (hg : g ∈ sL S) (f1 : q1 ∉ sL S) (f2 : q2 ∉ sL (nO (wI S 65 g (sI S 65 g + 1)) q1 4)) (h : NL S f true e l) : mkN S (wI (wR (wR (nC (wI (nO (wI S 65 g (sI S 65 g + 1)) q1 4) 256 q1 tk) q2 e) 257 q1 (some q2)) 258 q1 none) 259 q1 (nI l.length)) g q1 q2 true l tk := by
  have n1 : g ≠ q1 := ne_in hg f1
  have n2 : q2 ∉ sL S := fun z => f2 (List.mem_append_left _ z)
  have n3 : q1 ≠ q2 := fun z => f2 (z ▸ List.mem_append_right _ List.mem_cons_self)
  have oe : aw_is (wI (nO (wI S 65 g (sI S 65 g + 1)) q1 4) 256 q1 tk) e 13 := is_nO_old (S := wI S 65 g (sI S 65 g + 1)) (show aw_is S e 13 by simpa using h.1.2.2.2.1) f1
  have F : fr S (wI (wR (wR (nC (wI (nO (wI S 65 g (sI S 65 g + 1)) q1 4) 256 q1 tk) q2 e) 257 q1 (some q2)) 258 q1 none) 259 q1 (nI l.length)) (fun b => b = g) := (((((((fr.rf (S := S) (P := fun b => b = g)).wIg (by decide) rfl).o_ f1).wIn f1).c_ f2).wRn f1).wRn f1).wIn f1
  refine ⟨f1, n2, n3, ⟨⟨is_nC_old (a0 := e) (S := wI (nO (wI S 65 g (sI S 65 g + 1)) q1 4) 256 q1 tk) is_nO f2, ?_, ?_, cC_is oe, ?_, wI_at, h.le7⟩, fun k x hx => ⟨?_, okS_frn (h.2 k x hx).2 F⟩⟩, ?_, ?_, F, GN_new hg f1 (fun F => ?_)⟩
  · rw [sR_wI, sR_wR, if_neg (fun z => absurd z.1 (by decide)), sR_wR, if_pos ⟨rfl, rfl⟩]; rfl
  · rw [sR_wI, sR_wR, if_pos ⟨rfl, rfl⟩]; rfl
  · exact cC_N.trans h.1.2.2.2.2.1
  · rw [← (h.2 k x hx).1]
    show Sum.inl (sA (nC _ q2 e) q2 (2 * k), sA (nC _ q2 e) q2 (2 * k + 1)) = _
    rw [cC_A]
    rfl
  · rw [sI_wI, if_neg (fun z => absurd z.1 (by decide))]
    show sI (wI (nO (wI S 65 g (sI S 65 g + 1)) q1 4) 256 q1 tk) 256 q1 = _
    exact wI_at
  · rw [sI_wI, if_neg (fun z => absurd z.1 (by decide))]
    show sI (wI (nO (wI S 65 g (sI S 65 g + 1)) q1 4) 256 q1 tk) 260 q1 = _
    rw [sI_wI, if_neg (fun z => absurd z.1 (by decide)), sI_nO, if_pos rfl]
  · rw [sI_wI, if_neg (fun z => n1 z.2)]
    show sI (wI (nO (wI S 65 g (sI S 65 g + 1)) q1 4) 256 q1 tk) F g = _
    rw [sI_wI, if_neg (fun z => n1 z.2), sI_nO, if_neg n1]
theorem mkN_ck {S : aw_S} {g q1 q2 f e : Nat} {tk : Int32} {l : List SD} (hg : g ∈ sL S) (f1 : q1 ∉ sL S) (f2 : q2 ∉ sL (nO (wI S 65 g (sI S 65 g + 1)) q1 4)) (h : NL S f false e l) : mkN S (wI (wR (nC (wR (wI (nO (wI S 65 g (sI S 65 g + 1)) q1 4) 256 q1 tk) 257 q1 none) q2 e) 258 q1 (some q2)) 259 q1 (nI l.length)) g q1 q2 false l tk := by
  have n1 : g ≠ q1 := ne_in hg f1
  have n2 : q2 ∉ sL S := fun z => f2 (List.mem_append_left _ z)
  have n3 : q1 ≠ q2 := fun z => f2 (z ▸ List.mem_append_right _ List.mem_cons_self)
  have oe : aw_is (wR (wI (nO (wI S 65 g (sI S 65 g + 1)) q1 4) 256 q1 tk) 257 q1 none) e 16 := is_nO_old (S := wI S 65 g (sI S 65 g + 1)) (show aw_is S e 16 by simpa using h.1.2.2.2.1) f1
  have F : fr S (wI (wR (nC (wR (wI (nO (wI S 65 g (sI S 65 g + 1)) q1 4) 256 q1 tk) 257 q1 none) q2 e) 258 q1 (some q2)) 259 q1 (nI l.length)) (fun b => b = g) := (((((((fr.rf (S := S) (P := fun b => b = g)).wIg (by decide) rfl).o_ f1).wIn f1).wRn f1).c_ f2).wRn f1).wIn f1
  refine ⟨f1, n2, n3, ⟨⟨is_nC_old (a0 := e) (S := wR (wI (nO (wI S 65 g (sI S 65 g + 1)) q1 4) 256 q1 tk) 257 q1 none) is_nO f2, ?_, ?_, cC_is oe, ?_, wI_at, h.le7⟩, fun k x hx => ⟨?_, okS_frn (h.2 k x hx).2 F⟩⟩, ?_, ?_, F, GN_new hg f1 (fun F => ?_)⟩
  · rw [sR_wI, sR_wR, if_neg (fun z => absurd z.1 (by decide))]
    show sR (wR _ 257 q1 none) 257 q1 = _
    rw [sR_wR, if_pos ⟨rfl, rfl⟩]; rfl
  · rw [sR_wI, sR_wR, if_pos ⟨rfl, rfl⟩]; rfl
  · exact cC_N.trans h.1.2.2.2.2.1
  · rw [← (h.2 k x hx).1]
    show Sum.inr (sQ (nC _ q2 e) q2 k) = _
    rw [cC_Q]
    rfl
  · rw [sI_wI, if_neg (fun z => absurd z.1 (by decide))]
    show sI (wI (nO (wI S 65 g (sI S 65 g + 1)) q1 4) 256 q1 tk) 256 q1 = _
    exact wI_at
  · rw [sI_wI, if_neg (fun z => absurd z.1 (by decide))]
    show sI (wI (nO (wI S 65 g (sI S 65 g + 1)) q1 4) 256 q1 tk) 260 q1 = _
    rw [sI_wI, if_neg (fun z => absurd z.1 (by decide)), sI_nO, if_pos rfl]
  · rw [sI_wI, if_neg (fun z => n1 z.2)]
    show sI (wI (nO (wI S 65 g (sI S 65 g + 1)) q1 4) 256 q1 tk) F g = _
    rw [sI_wI, if_neg (fun z => n1 z.2), sI_nO, if_neg n1]
set_option maxHeartbeats 4000000 in
set_option maxRecDepth 100000 in
theorem m_X1_newNode_l {S : aw_S} {gw : Nat} {tk : Int32} (o : aw_is S gw 1) : aw_M yX1_newNode cX1_newNode 3 (some (FieldType.object "WideMap$Node")) 2 2 19 [.ref gw, .int 1, .int tk] S (fun r S2 => ∃ q1 q2, r = some (.ref q1) ∧ mkN S S2 gw q1 q2 true [] tk) := by
  refine aw_enter (by decide +kernel) (Nat.le_of_ble_eq_true rfl) (fun g K E => ?_)
  first | refine a_aload_n K dX1_newNode_0 rfl ?_ | refine a_aload_nN K dX1_newNode_0 rfl ?_
  refine a_dup K dX1_newNode_1 rfl ?_
  refine a_getI K fd_X1_15 (by assumption) (Or.inl rfl) dX1_newNode_2 ?_
  refine a_iconst K dX1_newNode_5 (v := 1) (by decide) ?_
  refine a_iadd K dX1_newNode_6 ?_
  refine a_putI K fd_X1_15 (by assumption) rfl dX1_newNode_7 ?_
  refine a_new K (ci := 4) (N := 5) kl_X1_21 in_X4 ini_X4 rfl (by decide) rfl (by omega) (by omega) dX1_newNode_10 (fun q_10 f_10 => ?_)
  refine a_dup K dX1_newNode_13 rfl ?_
  refine a_iload_n K dX1_newNode_14 rfl ?_
  refine a_iload_n K dX1_newNode_15 rfl ?_
  refine a_invI K (m_X4_init_l is_nO) my_X4_init rfl ml_X1_23 im_X4_init rfl (by omega) (by omega) (by omega) rfl (Nat.le_of_ble_eq_true rfl) dX1_newNode_16 ?_
  intro r9 S9 hp9
  obtain ⟨rfl, q9, f9, hq9⟩ := hp9
  exact a_aret K E (Or.inl ⟨_, rfl⟩) (Or.inr ⟨_, rfl⟩) (by omega) (by omega) dX1_newNode_19 ⟨q_10, q9, rfl, by rw [hq9]; exact mkN_l o.1 f_10 f9⟩
set_option maxHeartbeats 4000000 in
set_option maxRecDepth 100000 in
theorem m_X1_edited_l {S : aw_S} {gw f e : Nat} {tk : Int32} {l : List SD} (o : aw_is S gw 1) (h : NL S f true e l) (hk : ¬ sI S 256 f = tk) : aw_M yX1_edited cX1_edited 3 (some (FieldType.object "WideMap$Node")) 2 2 19 [.ref gw, .ref f, .int tk] S (fun r S2 => ∃ q1 q2, r = some (.ref q1) ∧ mkN S S2 gw q1 q2 true l tk) := by
  have o2 := h.1.1
  obtain ⟨-, hE, hK, oe, hN, hs, hn⟩ := h.1
  simp only [if_true, if_false, Bool.false_eq_true, reduceIte] at hE hK oe hN
  refine aw_enter (by decide +kernel) (Nat.le_of_ble_eq_true rfl) (fun g K E => ?_)
  first | refine a_aload_n K dX1_edited_0 rfl ?_ | refine a_aload_nN K dX1_edited_0 rfl ?_
  refine a_invV K (m_X4_token o2) my_X4_token ml_X1_26 im_X4_token se_X4_token (ci := 4) (by assumption) (by decide) ⟨_, _, rfl⟩ rfl (by omega) (by omega) (by omega) rfl (Nat.le_of_ble_eq_true rfl) dX1_edited_1 ?_
  intro r9 S9 hp9
  obtain ⟨rfl, hS9⟩ := hp9
  obtain rfl := hS9.symm
  refine a_iload_n K dX1_edited_4 rfl ?_
  refine a_icmp_ne K dX1_edited_5 (tgt := 10) (by decide) (fun c_5 => ?_) (fun c_5 => absurd c_5 (fun z => hk z))
  first | refine a_aload_n K dX1_edited_10 rfl ?_ | refine a_aload_nN K dX1_edited_10 rfl ?_
  refine a_dup K dX1_edited_11 rfl ?_
  refine a_getI K fd_X1_15 (by assumption) (Or.inl rfl) dX1_edited_12 ?_
  refine a_iconst K dX1_edited_15 (v := 1) (by decide) ?_
  refine a_iadd K dX1_edited_16 ?_
  refine a_putI K fd_X1_15 (by assumption) rfl dX1_edited_17 ?_
  refine a_new K (ci := 4) (N := 5) kl_X1_21 in_X4 ini_X4 rfl (by decide) rfl (by omega) (by omega) dX1_edited_20 (fun q_20 f_20 => ?_)
  refine a_dup K dX1_edited_23 rfl ?_
  first | refine a_aload_n K dX1_edited_24 rfl ?_ | refine a_aload_nN K dX1_edited_24 rfl ?_
  refine a_iload_n K dX1_edited_25 rfl ?_
  refine a_invI K (m_X4_init__l is_nO (is_nO_old (S := wI S 65 gw (sI S 65 gw + 1)) o2 f_20) (by rw [sR_nO, if_neg (ne_in o2.1 f_20)]; exact hE) (by rw [sR_nO, if_neg (ne_in o2.1 f_20)]; exact hK) (is_nO_old (S := wI S 65 gw (sI S 65 gw + 1)) oe f_20) hN (ne_in o2.1 f_20)) my_X4_init_ rfl ml_X1_30 im_X4_init_ rfl (by omega) (by omega) (by omega) rfl (Nat.le_of_ble_eq_true rfl) dX1_edited_26 ?_
  intro r9 S9 hp9
  obtain ⟨rfl, q9, f9, hq9⟩ := hp9
  exact a_aret K E (Or.inl ⟨_, rfl⟩) (Or.inr ⟨_, rfl⟩) (by omega) (by omega) dX1_edited_29 ⟨q_20, q9, rfl, by rw [hq9, show sI (nO (wI S 65 gw (sI S 65 gw + 1)) q_20 4) 259 f = nI l.length from by rw [sI_nO, if_neg (ne_in o2.1 f_20), sI_wI, if_neg (fun z => absurd z.1 (by decide))]; exact hs]; exact mkN_cl o.1 f_20 f9 h⟩
set_option maxHeartbeats 4000000 in
set_option maxRecDepth 100000 in
theorem m_X1_newNode_k {S : aw_S} {gw : Nat} {tk : Int32} (o : aw_is S gw 1) : aw_M yX1_newNode cX1_newNode 3 (some (FieldType.object "WideMap$Node")) 2 2 19 [.ref gw, .int 0, .int tk] S (fun r S2 => ∃ q1 q2, r = some (.ref q1) ∧ mkN S S2 gw q1 q2 false [] tk) := by
  refine aw_enter (by decide +kernel) (Nat.le_of_ble_eq_true rfl) (fun g K E => ?_)
  first | refine a_aload_n K dX1_newNode_0 rfl ?_ | refine a_aload_nN K dX1_newNode_0 rfl ?_
  refine a_dup K dX1_newNode_1 rfl ?_
  refine a_getI K fd_X1_15 (by assumption) (Or.inl rfl) dX1_newNode_2 ?_
  refine a_iconst K dX1_newNode_5 (v := 1) (by decide) ?_
  refine a_iadd K dX1_newNode_6 ?_
  refine a_putI K fd_X1_15 (by assumption) rfl dX1_newNode_7 ?_
  refine a_new K (ci := 4) (N := 5) kl_X1_21 in_X4 ini_X4 rfl (by decide) rfl (by omega) (by omega) dX1_newNode_10 (fun q_10 f_10 => ?_)
  refine a_dup K dX1_newNode_13 rfl ?_
  refine a_iload_n K dX1_newNode_14 rfl ?_
  refine a_iload_n K dX1_newNode_15 rfl ?_
  refine a_invI K (m_X4_init_k is_nO) my_X4_init rfl ml_X1_23 im_X4_init rfl (by omega) (by omega) (by omega) rfl (Nat.le_of_ble_eq_true rfl) dX1_newNode_16 ?_
  intro r9 S9 hp9
  obtain ⟨rfl, q9, f9, hq9⟩ := hp9
  exact a_aret K E (Or.inl ⟨_, rfl⟩) (Or.inr ⟨_, rfl⟩) (by omega) (by omega) dX1_newNode_19 ⟨q_10, q9, rfl, by rw [hq9]; exact mkN_k o.1 f_10 f9⟩
set_option maxHeartbeats 4000000 in
set_option maxRecDepth 100000 in
theorem m_X1_edited_k {S : aw_S} {gw f e : Nat} {tk : Int32} {l : List SD} (o : aw_is S gw 1) (h : NL S f false e l) (hk : ¬ sI S 256 f = tk) : aw_M yX1_edited cX1_edited 3 (some (FieldType.object "WideMap$Node")) 2 2 19 [.ref gw, .ref f, .int tk] S (fun r S2 => ∃ q1 q2, r = some (.ref q1) ∧ mkN S S2 gw q1 q2 false l tk) := by
  have o2 := h.1.1
  obtain ⟨-, hE, hK, oe, hN, hs, hn⟩ := h.1
  simp only [if_true, if_false, Bool.false_eq_true, reduceIte] at hE hK oe hN
  refine aw_enter (by decide +kernel) (Nat.le_of_ble_eq_true rfl) (fun g K E => ?_)
  first | refine a_aload_n K dX1_edited_0 rfl ?_ | refine a_aload_nN K dX1_edited_0 rfl ?_
  refine a_invV K (m_X4_token o2) my_X4_token ml_X1_26 im_X4_token se_X4_token (ci := 4) (by assumption) (by decide) ⟨_, _, rfl⟩ rfl (by omega) (by omega) (by omega) rfl (Nat.le_of_ble_eq_true rfl) dX1_edited_1 ?_
  intro r9 S9 hp9
  obtain ⟨rfl, hS9⟩ := hp9
  obtain rfl := hS9.symm
  refine a_iload_n K dX1_edited_4 rfl ?_
  refine a_icmp_ne K dX1_edited_5 (tgt := 10) (by decide) (fun c_5 => ?_) (fun c_5 => absurd c_5 (fun z => hk z))
  first | refine a_aload_n K dX1_edited_10 rfl ?_ | refine a_aload_nN K dX1_edited_10 rfl ?_
  refine a_dup K dX1_edited_11 rfl ?_
  refine a_getI K fd_X1_15 (by assumption) (Or.inl rfl) dX1_edited_12 ?_
  refine a_iconst K dX1_edited_15 (v := 1) (by decide) ?_
  refine a_iadd K dX1_edited_16 ?_
  refine a_putI K fd_X1_15 (by assumption) rfl dX1_edited_17 ?_
  refine a_new K (ci := 4) (N := 5) kl_X1_21 in_X4 ini_X4 rfl (by decide) rfl (by omega) (by omega) dX1_edited_20 (fun q_20 f_20 => ?_)
  refine a_dup K dX1_edited_23 rfl ?_
  first | refine a_aload_n K dX1_edited_24 rfl ?_ | refine a_aload_nN K dX1_edited_24 rfl ?_
  refine a_iload_n K dX1_edited_25 rfl ?_
  refine a_invI K (m_X4_init__k is_nO (is_nO_old (S := wI S 65 gw (sI S 65 gw + 1)) o2 f_20) (by rw [sR_nO, if_neg (ne_in o2.1 f_20)]; exact hE) (by rw [sR_nO, if_neg (ne_in o2.1 f_20)]; exact hK) (is_nO_old (S := wI S 65 gw (sI S 65 gw + 1)) oe f_20) hN (ne_in o2.1 f_20)) my_X4_init_ rfl ml_X1_30 im_X4_init_ rfl (by omega) (by omega) (by omega) rfl (Nat.le_of_ble_eq_true rfl) dX1_edited_26 ?_
  intro r9 S9 hp9
  obtain ⟨rfl, q9, f9, hq9⟩ := hp9
  exact a_aret K E (Or.inl ⟨_, rfl⟩) (Or.inr ⟨_, rfl⟩) (by omega) (by omega) dX1_edited_29 ⟨q_20, q9, rfl, by rw [hq9, show sI (nO (wI S 65 gw (sI S 65 gw + 1)) q_20 4) 259 f = nI l.length from by rw [sI_nO, if_neg (ne_in o2.1 f_20), sI_wI, if_neg (fun z => absurd z.1 (by decide))]; exact hs]; exact mkN_ck o.1 f_20 f9 h⟩
set_option maxHeartbeats 4000000 in
set_option maxRecDepth 100000 in
theorem m_X1_edited_0 {S : aw_S} {gw f : Nat} {tk : Int32} (o : aw_is S gw 1) (o2 : aw_is S f 4) (hk : sI S 256 f = tk) : aw_M yX1_edited cX1_edited 3 (some (FieldType.object "WideMap$Node")) 2 0 0 [.ref gw, .ref f, .int tk] S (fun r S2 => r = some (.ref f) ∧ S2 = S) := by
  refine aw_enter (by decide +kernel) (Nat.le_of_ble_eq_true rfl) (fun g K E => ?_)
  first | refine a_aload_n K dX1_edited_0 rfl ?_ | refine a_aload_nN K dX1_edited_0 rfl ?_
  refine a_invV K (m_X4_token o2) my_X4_token ml_X1_26 im_X4_token se_X4_token (ci := 4) (by assumption) (by decide) ⟨_, _, rfl⟩ rfl (by omega) (by omega) (by omega) rfl (Nat.le_of_ble_eq_true rfl) dX1_edited_1 ?_
  intro r9 S9 hp9
  obtain ⟨rfl, hS9⟩ := hp9
  obtain rfl := hS9.symm
  refine a_iload_n K dX1_edited_4 rfl ?_
  refine a_icmp_ne K dX1_edited_5 (tgt := 10) (by decide) (fun c_5 => absurd c_5 (fun z => z hk)) (fun c_5 => ?_)
  first | refine a_aload_n K dX1_edited_8 rfl ?_ | refine a_aload_nN K dX1_edited_8 rfl ?_
  exact a_aret K E (Or.inl ⟨_, rfl⟩) (Or.inr ⟨_, rfl⟩) (by omega) (by omega) dX1_edited_9 ⟨rfl, rfl⟩
