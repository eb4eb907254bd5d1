/-- what put, takeOut answer -/
def PTq (S : aw_S) (ad ar : Nat → Nat) (gw u tk : Nat) (L : List (Nat × Nat)) (R : Tz × Nat) (r : Option Value) (S2 : aw_S) : Prop := ∃ ad2 ar2, r = some (.ref (ad2 R.1.2.1)) ∧ GR S S2 ad ar ad2 ar2 u R.2 gw tk L ∧ RepW S2 ad2 ar2 R.1.1 R.1.2
theorem nr_ret {S10 S11 S13 : aw_S} {ad ar : Nat → Nat} {gw u h tk q1 q2 : Nat} {a b : Tr h} (o : aw_is S10 gw 1) (hA : AD S10 ad ar u) (m : mkN S10 S11 gw q1 q2 false [] (nI tk)) (nl : NL S13 q1 false q2 (ksS [ad a.1, ad b.1])) (f : frS S11 S13 (fun b => b = q1 ∨ b = q2)) (ra : RepW S10 ad ar h a) (rb : RepW S10 ad ar h b) (ha : ∀ x ∈ ndl h a, x.1 < u) (hb : ∀ x ∈ ndl h b, x.1 < u) (ht : tk < 2147483648) : ∃ ad2 ar2, ad2 u = q1 ∧ GR S10 S13 ad ar ad2 ar2 u (u + 1) gw tk [] ∧ RepW S13 ad2 ar2 (h + 1) (nod u tk [a, b]) := by
  have G1 := m.gr (tk := tk) hA []
  have e3 : va_up ad u q1 u = q1 := va_up_self _ _ _
  have e4 : va_up ar u q2 u = q2 := va_up_self _ _ _
  have G2 : GR S11 S13 (va_up ad u q1) (va_up ar u q2) (va_up ad u q1) (va_up ar u q2) (u + 1) (u + 1) gw tk [(u, tk)] := f.gr G1.2.2.1 (G1.is o) (fun x hx => by rw [List.mem_singleton.mp hx]; exact Nat.lt_succ_self u) (fun b hb2 => ⟨(u, tk), List.mem_cons_self, rfl, hb2.imp (fun z => z.trans e3.symm) (fun z => z.trans e4.symm)⟩)
  have G := G1.tr G2 (fun x hx _ => by rw [List.mem_singleton.mp hx]; exact Or.inr ⟨Nat.le_refl _, Nat.lt_succ_self u⟩)
  have ea : va_up ad u q1 a.1 = ad a.1 := (G1.2.1 a.1 (ha _ (mem_own a))).1
  have eb : va_up ad u q1 b.1 = ad b.1 := (G1.2.1 b.1 (hb _ (mem_own b))).1
  refine ⟨va_up ad u q1, va_up ar u q2, e3, G, OwnW_k ?_ ht ?_, fun c hc => ?_⟩
  · rw [e3, f.2.2.2.2.2.2.1 _ 256 (Or.inr rfl)]
    exact m.2.2.2.2.1
  · rw [e3, e4]
    show NL S13 q1 false q2 (ksS [va_up ad u q1 a.1, va_up ad u q1 b.1])
    rw [ea, eb]
    exact nl
  · rcases List.mem_cons.mp hc with rfl | hc
    · exact RepW.gr hA o G ra (fun x hx => ⟨ha x hx, fun y hy => absurd hy (by simp)⟩)
    · rw [List.mem_singleton.mp hc]
      exact RepW.gr hA o G rb (fun x hx => ⟨hb x hx, fun y hy => absurd hy (by simp)⟩)
theorem putT_y {w tk u : Nat} {key v : Int32} {z : Tz} (h : val z.1 z.2 key = v) : putT w tk u key v z = (z, u) := if_pos h
theorem putT_n {w tk u : Nat} {key v : Int32} {z : Tz} (h : ¬ val z.1 z.2 key = v) (hq : (insB w tk key v z.1 (edt tk u z.2).2 (edt tk u z.2).1).2.1 = none) : putT w tk u key v z = (⟨z.1, (insB w tk key v z.1 (edt tk u z.2).2 (edt tk u z.2).1).1⟩, (insB w tk key v z.1 (edt tk u z.2).2 (edt tk u z.2).1).2.2) := by
  unfold putT
  rw [if_neg h, hq]
theorem putT_s {w tk u : Nat} {key v : Int32} {z : Tz} {b : Tr z.1} (h : ¬ val z.1 z.2 key = v) (hq : (insB w tk key v z.1 (edt tk u z.2).2 (edt tk u z.2).1).2.1 = some b) : putT w tk u key v z = (⟨z.1 + 1, nod (insB w tk key v z.1 (edt tk u z.2).2 (edt tk u z.2).1).2.2 tk [(insB w tk key v z.1 (edt tk u z.2).2 (edt tk u z.2).1).1, b]⟩, (insB w tk key v z.1 (edt tk u z.2).2 (edt tk u z.2).1).2.2 + 1) := by
  unfold putT
  rw [if_neg h, hq]
set_option maxHeartbeats 4000000 in
set_option maxRecDepth 100000 in
theorem m_put {w tk : Nat} {key v : Int32} (hw3 : 3 ≤ w) (hw6 : w ≤ 6) {S : aw_S} {ad ar : Nat → Nat} {gw u h : Nat} {t : Tr h} (o : aw_is S gw 1) (hwd : sI S 64 gw = nI w) (hA : AD S ad ar u) (r : RepW S ad ar h t) (ok : okT (lea w) w h t) (hl : t.2.2.length ≤ w) (hb : bdd u (ndl h t)) (ht : tk < 2147483648) (hh : h < 12) : aw_M yX1_put cX1_put 8 (some (FieldType.object "WideMap$Node")) (h + 5) (2 * ((putT w tk u key v ⟨h, t⟩).2 - u)) (19 * ((putT w tk u key v ⟨h, t⟩).2 - u)) [.ref gw, .ref (ad t.1), .int (nI tk), .int key, .int v] S (PTq S ad ar gw u tk (ndl h t) (putT w tk u key v ⟨h, t⟩)) := by
  have o4 := r.is
  have ne := NeT_fan (show 1 ≤ lea w by unfold lea; omega) h ok
  have hgE := edt_grw (tk := tk) hb
  have hbE := hgE.bd hb
  obtain ⟨⟨hX, -⟩, hgI⟩ := insB_grw (w := w) (tk := tk) (key := key) (v := v) h hbE
  have hM1 := edt_le (tk := tk) (u := u) t
  have hM2 := hgI.1
  have hM3 : ¬ val h t key = v → (insB w tk key v h (edt tk u t).2 (edt tk u t).1).2.2 ≤ (putT w tk u key v ⟨h, t⟩).2 := fun hn => by
    cases hq : (insB w tk key v h (edt tk u t).2 (edt tk u t).1).2.1 with
    | none => rw [putT_n (z := ⟨h, t⟩) hn hq]; exact Nat.le_refl _
    | some b => rw [putT_s (z := ⟨h, t⟩) hn hq]; exact Nat.le_succ _
  refine aw_enter (by decide +kernel) (Nat.le_of_ble_eq_true rfl) (fun g K E => ?_)
  first | refine a_aload_n K dX1_put_0 rfl ?_ | refine a_aload_nN K dX1_put_0 rfl ?_
  refine a_ifnull K dX1_put_1 ?_
  first | refine a_aload_n K dX1_put_4 rfl ?_ | refine a_aload_nN K dX1_put_4 rfl ?_
  refine a_iload_n K dX1_put_5 rfl ?_
  refine a_invSN K (m_X10_valueIn (key := key) r ne (by omega) rfl) my_X10_valueIn (fun _ _ _ z => z.1.2.2.1) st_X10_valueIn rfl (by omega) (by omega) (by omega) rfl (Nat.le_of_ble_eq_true rfl) dX1_put_6 ?_
  intro r9 S9 hp9
  obtain ⟨rfl, hS9⟩ := hp9
  obtain rfl := hS9.symm
  refine a_iload K dX1_put_9 rfl ?_
  refine a_icmp_ne K dX1_put_11 (tgt := 16) (by decide) (fun c_11 => ?_) (fun c_11 => ?_)
  · have hM5 := hM3 c_11
    first | refine a_aload_n K dX1_put_16 rfl ?_ | refine a_aload_nN K dX1_put_16 rfl ?_
    first | refine a_aload_n K dX1_put_17 rfl ?_ | refine a_aload_nN K dX1_put_17 rfl ?_
    refine a_iload_n K dX1_put_18 rfl ?_
    refine a_invV K (m_edited o hA r.own (fun x hx => hb.1 x (mem_blw hx)) ht) my_X1_edited ml_X1_37 im_X1_edited se_X1_edited (ci := 1) (by assumption) (by decide) ⟨_, _, rfl⟩ rfl (by omega) (by omega) (by omega) rfl (Nat.le_of_ble_eq_true rfl) dX1_put_19 ?_
    intro r9 S9 hp9
    obtain ⟨ad2, ar2, rfl, wE, G1⟩ := hp9
    have reE := edt_rep o hA r hb.1 wE G1
    first | refine a_astore K dX1_put_22 (by decide) ?_ | refine a_astoreN K dX1_put_22 (by decide) ?_
    first | refine a_aload_n K dX1_put_24 rfl ?_ | refine a_aload_nN K dX1_put_24 rfl ?_
    first | refine a_aload K dX1_put_25 rfl ?_ | refine a_aloadN K dX1_put_25 rfl ?_
    refine a_iload_n K dX1_put_27 rfl ?_
    refine a_iload_n K dX1_put_28 rfl ?_
    refine a_iload K dX1_put_29 rfl ?_
    refine a_iconst K dX1_put_31 (v := 0) (by decide) ?_
    refine a_invS K (m_putBelow hw3 hw6 h (dep := 0) (t := (edt tk u t).1) (u := (edt tk u t).2) (G1.is o) (G1.wd.trans hwd) G1.2.2.1 reE (edt_ok ok) (by rw [edt_it]; exact hl) hbE ht (edt_tk tk u t) (by omega)) my_X1_putBelow ml_X1_49 st_X1_putBelow rfl (by omega) (by omega) (by omega) rfl (Nat.le_of_ble_eq_true rfl) dX1_put_32 ?_
    intro r9 S10 hp9
    obtain ⟨ad3, ar3, rfl, G2, r2, r3⟩ := hp9
    have GM := (G1.mono (fun x hx => absurd hx (by simp))).trg G2 hgE hb
    have e3 : ad3 (edt tk u t).1.1 = ad2 (edt tk u t).1.1 := (G2.2.1 _ (hbE.1 _ (mem_own _))).1
    have o10 := GM.is o
    cases hq : (insB w tk key v h (edt tk u t).2 (edt tk u t).1).2.1 with
    | none =>
      have hT := putT_n (z := ⟨h, t⟩) c_11 hq
      first | refine a_astore K dX1_put_35 (by decide) ?_ | refine a_astoreN K dX1_put_35 (by decide) ?_
      first | refine a_aload K dX1_put_37 rfl ?_ | refine a_aloadN K dX1_put_37 rfl ?_
      refine a_ifnonnullN K dX1_put_39 ?_
      first | refine a_aload K dX1_put_42 rfl ?_ | refine a_aloadN K dX1_put_42 rfl ?_
      exact a_aret K E (Or.inl ⟨_, rfl⟩) (Or.inr ⟨_, rfl⟩) (by omega) (by omega) dX1_put_44 ⟨ad3, ar3, by rw [hT]; show _ = some (Value.ref (ad3 (insB w tk key v h (edt tk u t).2 (edt tk u t).1).1.1)); rw [hX, e3], by rw [hT]; exact GM, by rw [hT]; exact r2⟩
    | some b =>
      have hT := putT_s (z := ⟨h, t⟩) c_11 hq
      have hM4 : (putT w tk u key v ⟨h, t⟩).2 = (insB w tk key v h (edt tk u t).2 (edt tk u t).1).2.2 + 1 := by rw [hT]
      first | refine a_astore K dX1_put_35 (by decide) ?_ | refine a_astoreN K dX1_put_35 (by decide) ?_
      first | refine a_aload K dX1_put_37 rfl ?_ | refine a_aloadN K dX1_put_37 rfl ?_
      refine a_ifnonnull K dX1_put_39 (tgt := 45) (by decide) ?_
      first | refine a_aload_n K dX1_put_45 rfl ?_ | refine a_aload_nN K dX1_put_45 rfl ?_
      refine a_iconst K dX1_put_46 (v := 0) (by decide) ?_
      refine a_iload_n K dX1_put_47 rfl ?_
      refine a_invV K (m_X1_newNode_k (GM.is o)) my_X1_newNode ml_X1_53 im_X1_newNode se_X1_newNode (ci := 1) (by assumption) (by decide) ⟨_, _, rfl⟩ rfl (by omega) (by omega) (by omega) rfl (Nat.le_of_ble_eq_true rfl) dX1_put_48 ?_
      intro r9 S11 hp9
      obtain ⟨q1, q2, rfl, m⟩ := hp9
      have oq := m.2.2.2.1.1.1
      first | refine a_astore K dX1_put_51 (by decide) ?_ | refine a_astoreN K dX1_put_51 (by decide) ?_
      first | refine a_aload K dX1_put_53 rfl ?_ | refine a_aloadN K dX1_put_53 rfl ?_
      refine a_iconst K dX1_put_55 (v := 0) (by decide) ?_
      first | refine a_aload K dX1_put_56 rfl ?_ | refine a_aloadN K dX1_put_56 rfl ?_
      refine a_invV K (m_X4_insertKid (ks := []) (p := 0) (b := ad2 (edt tk u t).1.1) m.2.2.2.1 (Nat.le_refl _) (by decide) (m.2.2.2.2.2.2.1.is (G2.is reE.is))) my_X4_insertKid ml_X1_57 im_X4_insertKid se_X4_insertKid (ci := 4) (by assumption) (by decide) ⟨_, _, rfl⟩ rfl (by omega) (by omega) (by omega) rfl (Nat.le_of_ble_eq_true rfl) dX1_put_58 ?_
      intro r9 S12 hp9
      obtain ⟨rfl, nl1, f1⟩ := hp9
      have oq2 := nl1.1.1
      first | refine a_aload K dX1_put_61 rfl ?_ | refine a_aloadN K dX1_put_61 rfl ?_
      refine a_iconst K dX1_put_63 (v := 1) (by decide) ?_
      first | refine a_aload K dX1_put_64 rfl ?_ | refine a_aloadN K dX1_put_64 rfl ?_
      refine a_invV K (m_X4_insertKid (ks := [ad2 (edt tk u t).1.1]) (p := 1) (b := ad3 b.1) nl1 (Nat.le_refl _) (by show 1 < 7; decide) (f1.is (m.2.2.2.2.2.2.1.is (r3 b hq).is))) my_X4_insertKid ml_X1_57 im_X4_insertKid se_X4_insertKid (ci := 4) (by assumption) (by decide) ⟨_, _, rfl⟩ rfl (by omega) (by omega) (by omega) rfl (Nat.le_of_ble_eq_true rfl) dX1_put_66 ?_
      intro r9 S13 hp9
      obtain ⟨rfl, nl2, f2⟩ := hp9
      obtain ⟨ad4, ar4, e4, G4, r4⟩ := nr_ret (a := (insB w tk key v h (edt tk u t).2 (edt tk u t).1).1) (b := b) (GM.is o) GM.2.2.1 m (by rw [hX, e3]; exact nl2) (f1.tr f2 (fun _ z => z) (fun _ z => z)) r2 (r3 b hq) (fun x hx => (hgI.bd hbE).1 x (List.mem_append_left _ hx)) (fun x hx => (hgI.bd hbE).1 x (List.mem_append_right _ (by rw [hq]; exact List.mem_flatMap.mpr ⟨b, List.mem_cons_self, hx⟩))) ht
      first | refine a_aload K dX1_put_69 rfl ?_ | refine a_aloadN K dX1_put_69 rfl ?_
      exact a_aret K E (Or.inl ⟨_, rfl⟩) (Or.inr ⟨_, rfl⟩) (by omega) (by omega) dX1_put_71 ⟨ad4, ar4, by rw [hT]; show _ = some (Value.ref (ad4 (insB w tk key v h (edt tk u t).2 (edt tk u t).1).2.2)); rw [e4], by rw [hT]; exact GM.tr G4 (fun x hx => absurd hx (by simp)), by rw [hT]; exact r4⟩
  · first | refine a_aload_n K dX1_put_14 rfl ?_ | refine a_aload_nN K dX1_put_14 rfl ?_
    exact a_aret K E (Or.inl ⟨_, rfl⟩) (Or.inr ⟨_, rfl⟩) (by omega) (by omega) dX1_put_15 ⟨ad, ar, by rw [putT_y (z := ⟨h, t⟩) c_11], by rw [putT_y (z := ⟨h, t⟩) c_11]; exact GR.rf hA, by rw [putT_y (z := ⟨h, t⟩) c_11]; exact r⟩
