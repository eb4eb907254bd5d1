/-- byte n of a number (3 the highest) -/
def byN (w : Int32) (n : Nat) : Int32 := (w.toUInt32 >>> ((nI (8 * n)).toUInt32 &&& Int32.toUInt32 31)).toInt32 &&& 255
/-- how many of its n lowest bytes aren't 0, and acc -/
def sgn (w : Int32) : Nat → Int32 → Int32
  | 0, acc => acc
  | n + 1, acc => sgn w n (if byN w n = 0 then acc else acc + 1)
theorem sgn_z {w : Int32} {n : Nat} {acc y : Int32} (h : sgn w (n + 1) acc = y) (hz : byN w n = 0) : sgn w n acc = y := by
  have h1 : sgn w n (if byN w n = 0 then acc else acc + 1) = y := h
  rw [if_pos hz] at h1
  exact h1
theorem sgn_n {w : Int32} {n : Nat} {acc y : Int32} (h : sgn w (n + 1) acc = y) (hz : ¬ byN w n = 0) : sgn w n (acc + 1) = y := by
  have h1 : sgn w n (if byN w n = 0 then acc else acc + 1) = y := h
  rw [if_neg hz] at h1
  exact h1
theorem sh_8 (n : Nat) : nI (8 * (n + 1)) + -8 = nI (8 * n) := by
  have e : nI (8 * (n + 1)) = nI (8 * n) + 8 := by
    rw [show (8 : Int32) = nI 8 from by decide, nI_add, show 8 * (n + 1) = 8 * n + 8 by omega]
  rw [e, Int32.add_assoc, show (8 : Int32) + -8 = 0 from by decide, Int32.add_zero]
theorem sgn_le (w : Int32) : ∀ (n m : Nat), ∃ j, j ≤ m + n ∧ sgn w n (nI m) = nI j
  | 0, m => ⟨m, Nat.le_refl _, rfl⟩
  | n + 1, m => by
    by_cases h : byN w n = 0
    · obtain ⟨j, h1, h2⟩ := sgn_le w n m
      exact ⟨j, by omega, by rw [← h2]; show sgn w n (if byN w n = 0 then nI m else nI m + 1) = _; rw [if_pos h]⟩
    · obtain ⟨j, h1, h2⟩ := sgn_le w n (m + 1)
      exact ⟨j, by omega, by rw [← h2]; show sgn w n (if byN w n = 0 then nI m else nI m + 1) = _; rw [if_neg h, nI_1]⟩
/-- a byte more on the tape t (its row bt); 0 is none; none behind 240 -/
def tpB (S : aw_S) (t bt : Nat) (b : Int32) : aw_S := if b = 0 ∨ ¬ (sI S 577 t).toInt < 240 then S else wI (wA S bt (sI S 577 t).toNatClampNeg b) 577 t (sI S 577 t + 1)
/-- the n lowest bytes of a number, the highest first -/
def tpN (t bt : Nat) (w : Int32) : Nat → aw_S → aw_S
  | 0, S => S
  | n + 1, S => tpN t bt w n (tpB S t bt (byN w n))
/-- the tape t is as it should be: n bytes -/
def TP (S : aw_S) (t bt n : Nat) : Prop := aw_is S t 9 ∧ sR S 576 t = some bt ∧ aw_is S bt 13 ∧ sN S bt = 240 ∧ sI S 577 t = nI n ∧ n ≤ 240
theorem tpB_z {S : aw_S} {t bt : Nat} {b : Int32} (h : b = 0) : tpB S t bt b = S := if_pos (Or.inl h)
theorem tpB_f {S : aw_S} {t bt : Nat} {b : Int32} (h : ¬ (sI S 577 t).toInt < 240) : tpB S t bt b = S := if_pos (Or.inr h)
theorem tpB_n {S : aw_S} {t bt : Nat} {b : Int32} (h : ¬ b = 0) (h2 : (sI S 577 t).toInt < 240) : tpB S t bt b = wI (wA S bt (sI S 577 t).toNatClampNeg b) 577 t (sI S 577 t + 1) := if_neg (fun z => z.elim h (fun y => y h2))
theorem TP_B {S : aw_S} {t bt n : Nat} {b : Int32} (h : TP S t bt n) : ∃ m, TP (tpB S t bt b) t bt m ∧ m = if b = 0 ∨ 240 ≤ n then n else n + 1 := by
  obtain ⟨h1, h2, h3, h4, h5, h6⟩ := h
  by_cases hb : b = 0
  · exact ⟨n, by rw [tpB_z hb]; exact ⟨h1, h2, h3, h4, h5, h6⟩, (if_pos (Or.inl hb)).symm⟩
  · by_cases hn : 240 ≤ n
    · exact ⟨n, by rw [tpB_f (by rw [h5, nI_toInt (by omega)]; omega)]; exact ⟨h1, h2, h3, h4, h5, h6⟩, (if_pos (Or.inr hn)).symm⟩
    · refine ⟨n + 1, ?_, (if_neg (fun z => z.elim hb hn)).symm⟩
      rw [tpB_n hb (by rw [h5, nI_toInt (by omega)]; omega)]
      exact ⟨h1, h2, h3, h4, by rw [wI_at, h5]; exact nI_1 n, by omega⟩
theorem TP_N {t bt : Nat} {w : Int32} : ∀ (n : Nat) {S : aw_S} {m : Nat}, TP S t bt m → m + n ≤ 240 → ∃ j, TP (tpN t bt w n S) t bt j ∧ nI j = sgn w n (nI m) ∧ j ≤ m + n
  | 0, S, m, h, _ => ⟨m, h, rfl, Nat.le_refl _⟩
  | n + 1, S, m, h, hm => by
    obtain ⟨j, h1, h2⟩ := TP_B (b := byN w n) h
    by_cases hb : byN w n = 0
    · rw [if_pos (Or.inl hb)] at h2
      subst h2
      obtain ⟨i, h3, h4, h5⟩ := TP_N n h1 (by omega)
      exact ⟨i, h3, by rw [h4]; show _ = sgn w n (if byN w n = 0 then nI j else nI j + 1); rw [if_pos hb], by omega⟩
    · rw [if_neg (fun z => z.elim hb (by omega))] at h2
      subst h2
      obtain ⟨i, h3, h4, h5⟩ := TP_N n h1 (by omega)
      exact ⟨i, h3, by rw [h4]; show _ = sgn w n (if byN w n = 0 then nI m else nI m + 1); rw [if_neg hb, nI_1], by omega⟩
theorem tpB_same {S : aw_S} {t bt : Nat} {b : Int32} : sL (tpB S t bt b) = sL S ∧ sK (tpB S t bt b) = sK S ∧ sR (tpB S t bt b) = sR S ∧ sN (tpB S t bt b) = sN S ∧ sQ (tpB S t bt b) = sQ S := by
  unfold tpB
  split <;> exact ⟨rfl, rfl, rfl, rfl, rfl⟩
theorem tpN_same {t bt : Nat} {w : Int32} : ∀ (n : Nat) {S : aw_S}, sL (tpN t bt w n S) = sL S ∧ sK (tpN t bt w n S) = sK S ∧ sR (tpN t bt w n S) = sR S ∧ sN (tpN t bt w n S) = sN S ∧ sQ (tpN t bt w n S) = sQ S
  | 0, S => ⟨rfl, rfl, rfl, rfl, rfl⟩
  | n + 1, S => by
    obtain ⟨a1, a2, a3, a4, a5⟩ := tpN_same (t := t) (bt := bt) (w := w) n (S := tpB S t bt (byN w n))
    obtain ⟨b1, b2, b3, b4, b5⟩ := tpB_same (S := S) (t := t) (bt := bt) (b := byN w n)
    exact ⟨a1.trans b1, a2.trans b2, a3.trans b3, a4.trans b4, a5.trans b5⟩
theorem LW_tpN {S : aw_S} {v : Nat → Nat} {t bt : Nat} {w : Int32} (hL : LW S v) (n : Nat) : LW (tpN t bt w n S) v := by
  obtain ⟨a1, a2, a3, a4, a5⟩ := tpN_same (t := t) (bt := bt) (w := w) n (S := S)
  exact LW_eq hL a1 a2 a3 a4 (by rw [a5])
set_option maxHeartbeats 4000000 in
set_option maxRecDepth 100000 in
theorem m_X9_signsIn {S : aw_S} {w : Int32} : aw_M yX9_signsIn cX9_signsIn 3 (some FieldType.int) 0 0 0 [.int w] S (fun r S2 => r = some (.int (sgn w 4 0)) ∧ S2 = S) := by
  refine aw_enter (by decide +kernel) (Nat.le_of_ble_eq_true rfl) (fun g K E => ?_)
  have loop : ∀ (n : Nat) (x acc : Int32), n ≤ 4 → x = nI (8 * n) + -8 → sgn w n acc = sgn w 4 0 → aw g 3 S 0 0 [(2, .int x), (1, .int acc), (0, .int w)] [] 5 := by
    intro n
    induction n with
    | zero =>
      intro x acc hn hx ha
      subst hx
      try rw [sh_8]
      refine a_iload_n K dX9_signsIn_5 rfl ?_
      refine a_if_lt K dX9_signsIn_6 (tgt := 28) (by decide) (fun c_6 => ?_) (fun c_6 => absurd c_6 (by decide))
      refine a_iload_n K dX9_signsIn_28 rfl ?_
      exact a_iret K E rfl (by omega) (by omega) dX9_signsIn_29 ⟨by rw [← ha]; rfl, rfl⟩
    | succ n ih =>
      intro x acc hn hx ha
      subst hx
      try rw [sh_8]
      refine a_iload_n K dX9_signsIn_5 rfl ?_
      refine a_if_lt K dX9_signsIn_6 (tgt := 28) (by decide) (fun c_6 => absurd c_6 (nI_pos (show 8 * n < 2 ^ 31 by omega))) (fun c_6 => ?_)
      refine a_iload_n K dX9_signsIn_9 rfl ?_
      refine a_iload_n K dX9_signsIn_10 rfl ?_
      refine a_iushr K dX9_signsIn_11 ?_
      refine a_sipush K dX9_signsIn_12 (v := 255) (by decide) ?_
      refine a_iand K dX9_signsIn_15 ?_
      refine a_if_eq K dX9_signsIn_16 (tgt := 22) (by decide) (fun c_16 => ?_) (fun c_16 => ?_)
      · have ha2 := sgn_z ha c_16
        refine a_iinc K dX9_signsIn_22 (v := -8) rfl (by decide) (by decide) ?_
        refine a_goto K dX9_signsIn_25 (tgt := 5) (by decide) ?_
        exact aw_locl rfl (ih _ _ (by omega) rfl ha2)
      · have ha2 := sgn_n ha c_16
        refine a_iinc K dX9_signsIn_19 (v := 1) rfl (by decide) (by decide) ?_
        refine a_iinc K dX9_signsIn_22 (v := -8) rfl (by decide) (by decide) ?_
        refine a_goto K dX9_signsIn_25 (tgt := 5) (by decide) ?_
        exact aw_locl rfl (ih _ _ (by omega) rfl ha2)
  refine a_iconst K dX9_signsIn_0 (v := 0) (by decide) ?_
  refine a_istore_n K dX9_signsIn_1 (by decide) ?_
  refine a_bipush K dX9_signsIn_2 (v := 24) (by decide) ?_
  refine a_istore_n K dX9_signsIn_4 (by decide) ?_
  exact aw_locl rfl (loop 4 24 0 (by omega) (by decide) rfl)
set_option maxHeartbeats 4000000 in
set_option maxRecDepth 100000 in
theorem m_X9_append {S : aw_S} {t bt m : Nat} {w : Int32} (h : TP S t bt m) : aw_M yX9_append cX9_append 4 (none : Option FieldType) 0 0 0 [.ref t, .int w] S (fun r S2 => r = none ∧ S2 = tpN t bt w 4 S) := by
  refine aw_enter (by decide +kernel) (Nat.le_of_ble_eq_true rfl) (fun g K E => ?_)
  have loop : ∀ (n : Nat) (x : Int32) (S1 : aw_S) (m : Nat), n ≤ 4 → x = nI (8 * n) + -8 → TP S1 t bt m → tpN t bt w n S1 = tpN t bt w 4 S → aw g 4 S1 0 0 [(2, .int x), (1, .int w), (0, .ref t)] [] 3 := by
    intro n
    induction n with
    | zero =>
      intro x S1 m hn hx ht ha
      subst hx
      try rw [sh_8]
      have o1 := ht.1
      have f1 := ht.2.1
      have i1 := ht.2.2.1
      refine a_iload_n K dX9_append_3 rfl ?_
      refine a_if_lt K dX9_append_4 (tgt := 57) (by decide) (fun c_4 => ?_) (fun c_4 => absurd c_4 (by decide))
      exact a_vret K E (by omega) (by omega) dX9_append_57 ⟨rfl, by rw [← ha]; rfl⟩
    | succ n ih =>
      intro x S1 m hn hx ht ha
      subst hx
      try rw [sh_8]
      have o1 := ht.1
      have f1 := ht.2.1
      have i1 := ht.2.2.1
      refine a_iload_n K dX9_append_3 rfl ?_
      refine a_if_lt K dX9_append_4 (tgt := 57) (by decide) (fun c_4 => absurd c_4 (nI_pos (show 8 * n < 2 ^ 31 by omega))) (fun c_4 => ?_)
      refine a_iload_n K dX9_append_7 rfl ?_
      refine a_iload_n K dX9_append_8 rfl ?_
      refine a_iushr K dX9_append_9 ?_
      refine a_sipush K dX9_append_10 (v := 255) (by decide) ?_
      refine a_iand K dX9_append_13 ?_
      refine a_istore_n K dX9_append_14 (by decide) ?_
      refine a_iload_n K dX9_append_15 rfl ?_
      refine a_if_eq K dX9_append_16 (tgt := 51) (by decide) (fun c_16 => ?_) (fun c_16 => ?_)
      · have hz : byN w n = 0 := c_16
        have ha2 : tpN t bt w n S1 = tpN t bt w 4 S := (congrArg (tpN t bt w n) (tpB_z hz)).symm.trans ha
        have ht2 : TP S1 t bt m := ht
        refine a_iinc K dX9_append_51 (v := -8) rfl (by decide) (by decide) ?_
        refine a_goto K dX9_append_54 (tgt := 3) (by decide) ?_
        exact aw_locl rfl (ih _ _ _ (by omega) rfl ht2 ha2)
      · have hz : ¬ byN w n = 0 := c_16
        first | refine a_aload_n K dX9_append_19 rfl ?_ | refine a_aload_nN K dX9_append_19 rfl ?_
        refine a_getI K fd_X9_15 (by assumption) (Or.inl rfl) dX9_append_20 ?_
        first | refine a_aload_n K dX9_append_23 rfl ?_ | refine a_aload_nN K dX9_append_23 rfl ?_
        refine a_getRs K fd_X9_9 (by assumption) (Or.inr ⟨_, rfl⟩) (by assumption) dX9_append_24 ?_
        refine a_alen K (v := nI 240) ht.2.2.1 (by decide) (by decide) (by rw [ht.2.2.2.1]; rfl) dX9_append_27 ?_
        refine a_icmp_ge K dX9_append_28 (tgt := 51) (by decide) (fun c_28 => ?_) (fun c_28 => ?_)
        · have hf : ¬ (sI S1 577 t).toInt < 240 := by have h := i32_le.mp c_28; rw [show (nI 240).toInt = 240 from by decide +kernel] at h; omega
          have ha2 : tpN t bt w n S1 = tpN t bt w 4 S := (congrArg (tpN t bt w n) (tpB_f hf)).symm.trans ha
          have ht2 : TP S1 t bt m := ht
          refine a_iinc K dX9_append_51 (v := -8) rfl (by decide) (by decide) ?_
          refine a_goto K dX9_append_54 (tgt := 3) (by decide) ?_
          exact aw_locl rfl (ih _ _ _ (by omega) rfl ht2 ha2)
        · have hf : (sI S1 577 t).toInt < 240 := by have h := i32_lt.mp (Int32.not_le.mp c_28); rw [show (nI 240).toInt = 240 from by decide +kernel] at h; omega
          have hm : m < 240 := by rw [ht.2.2.2.2.1, nI_toInt (by have := ht.2.2.2.2.2; omega)] at hf; omega
          have ha2 : tpN t bt w n (wI (wA S1 bt (sI S1 577 t).toNatClampNeg (byN w n)) 577 t (sI S1 577 t + 1)) = tpN t bt w 4 S := (congrArg (tpN t bt w n) (tpB_n hz hf)).symm.trans ha
          obtain ⟨m2, ht2, -⟩ := TP_B (b := byN w n) ht
          rw [tpB_n hz hf] at ht2
          first | refine a_aload_n K dX9_append_31 rfl ?_ | refine a_aload_nN K dX9_append_31 rfl ?_
          refine a_getRs K fd_X9_9 (by assumption) (Or.inr ⟨_, rfl⟩) (by assumption) dX9_append_32 ?_
          first | refine a_aload_n K dX9_append_35 rfl ?_ | refine a_aload_nN K dX9_append_35 rfl ?_
          refine a_getI K fd_X9_15 (by assumption) (Or.inl rfl) dX9_append_36 ?_
          refine a_iload_n K dX9_append_39 rfl ?_
          refine a_iast K (by assumption) (by show vp_in (sI S1 577 t) (sN S1 bt); rw [ht.2.2.2.1, ht.2.2.2.2.1]; exact vp_in_nI hm (by omega)) dX9_append_40 ?_
          first | refine a_aload_n K dX9_append_41 rfl ?_ | refine a_aload_nN K dX9_append_41 rfl ?_
          refine a_dup K dX9_append_42 rfl ?_
          refine a_getI K fd_X9_15 (by assumption) (Or.inl rfl) dX9_append_43 ?_
          refine a_iconst K dX9_append_46 (v := 1) (by decide) ?_
          refine a_iadd K dX9_append_47 ?_
          refine a_putI K fd_X9_15 (by assumption) rfl dX9_append_48 ?_
          refine a_iinc K dX9_append_51 (v := -8) rfl (by decide) (by decide) ?_
          refine a_goto K dX9_append_54 (tgt := 3) (by decide) ?_
          exact aw_locl rfl (ih _ _ _ (by omega) rfl ht2 ha2)
  refine a_bipush K dX9_append_0 (v := 24) (by decide) ?_
  refine a_istore_n K dX9_append_2 (by decide) ?_
  exact aw_locl rfl (loop 4 24 S m (by omega) (by decide) h rfl)
theorem lw_TP {S : aw_S} {v : Nat → Nat} {n : Nat} (hL : LW S v) (hs : sI S 577 (v 0) = nI n) (hn : n ≤ 240) : TP S (v 0) (v 1) n := ⟨lw_i0 hL, lw_f576_0 hL, lw_i1 hL, lw_n1 hL, hs, hn⟩
abbrev fd5 (v : Nat → Nat) (a b c d e : Int32) (S : aw_S) : aw_S := tpN (v 0) (v 1) e 4 (tpN (v 0) (v 1) d 4 (tpN (v 0) (v 1) c 4 (tpN (v 0) (v 1) b 4 (tpN (v 0) (v 1) a 4 S))))
/-- signs of five numbers, as the class adds them -/
def sg5 (a b c d e : Int32) : Int32 := sgn a 4 0 + sgn b 4 0 + sgn c 4 0 + sgn d 4 0 + sgn e 4 0
set_option maxHeartbeats 4000000 in
set_option maxRecDepth 100000 in
theorem m_X10_feed_full {S : aw_S} {v : Nat → Nat} {n : Nat} {a b c d e : Int32} (hL : LW S v) (hs : sI S 577 (v 0) = nI n) (hf : ¬ nI n + sg5 a b c d e ≤ 240) : aw_M yX10_feed cX10_feed 7 (some FieldType.int) 1 0 0 [.ref (v 4), .int a, .int b, .int c, .int d, .int e] S (fun r S2 => r = some (.int (-1)) ∧ S2 = S) := by
  refine aw_enter (by decide +kernel) (Nat.le_of_ble_eq_true rfl) (fun g K E => ?_)
  have hL0 := hL
  have i4 := lw_i4 hL
  have f640 := lw_f640 hL
  have i0 := lw_i0 hL
  refine a_iload_n K dX10_feed_0 rfl ?_
  refine a_invS K (m_X9_signsIn) my_X9_signsIn ml_X10_94 st_X9_signsIn rfl (by omega) (by omega) (by omega) rfl (Nat.le_of_ble_eq_true rfl) dX10_feed_1 ?_
  intro r9 S9 hp9
  obtain ⟨rfl, rfl⟩ := hp9
  refine a_iload_n K dX10_feed_4 rfl ?_
  refine a_invS K (m_X9_signsIn) my_X9_signsIn ml_X10_94 st_X9_signsIn rfl (by omega) (by omega) (by omega) rfl (Nat.le_of_ble_eq_true rfl) dX10_feed_5 ?_
  intro r9 S9 hp9
  obtain ⟨rfl, rfl⟩ := hp9
  refine a_iadd K dX10_feed_8 ?_
  refine a_iload_n K dX10_feed_9 rfl ?_
  refine a_invS K (m_X9_signsIn) my_X9_signsIn ml_X10_94 st_X9_signsIn rfl (by omega) (by omega) (by omega) rfl (Nat.le_of_ble_eq_true rfl) dX10_feed_10 ?_
  intro r9 S9 hp9
  obtain ⟨rfl, rfl⟩ := hp9
  refine a_iadd K dX10_feed_13 ?_
  refine a_iload K dX10_feed_14 rfl ?_
  refine a_invS K (m_X9_signsIn) my_X9_signsIn ml_X10_94 st_X9_signsIn rfl (by omega) (by omega) (by omega) rfl (Nat.le_of_ble_eq_true rfl) dX10_feed_16 ?_
  intro r9 S9 hp9
  obtain ⟨rfl, rfl⟩ := hp9
  refine a_iadd K dX10_feed_19 ?_
  refine a_iload K dX10_feed_20 rfl ?_
  refine a_invS K (m_X9_signsIn) my_X9_signsIn ml_X10_94 st_X9_signsIn rfl (by omega) (by omega) (by omega) rfl (Nat.le_of_ble_eq_true rfl) dX10_feed_22 ?_
  intro r9 S9 hp9
  obtain ⟨rfl, rfl⟩ := hp9
  refine a_iadd K dX10_feed_25 ?_
  refine a_istore K dX10_feed_26 (by decide) ?_
  first | refine a_aload_n K dX10_feed_28 rfl ?_ | refine a_aload_nN K dX10_feed_28 rfl ?_
  refine a_getRs K fd_X10_10 (by assumption) (Or.inl ⟨_, rfl⟩) (by assumption) dX10_feed_29 ?_
  refine a_invV K (m_X9_size i0) my_X9_size ml_X10_98 im_X9_size se_X9_size (ci := 9) (by assumption) (by decide) ⟨_, _, rfl⟩ rfl (by omega) (by omega) (by omega) rfl (Nat.le_of_ble_eq_true rfl) dX10_feed_32 ?_
  intro r9 S9 hp9
  obtain ⟨rfl, rfl⟩ := hp9
  refine a_iload K dX10_feed_35 rfl ?_
  refine a_iadd K dX10_feed_37 ?_
  refine a_sipush K dX10_feed_38 (v := 240) (by decide) ?_
  refine a_icmp_le K dX10_feed_41 (tgt := 46) (by decide) (fun c_41 => absurd c_41 (fun z => hf (by rw [← hs]; exact z))) (fun c_41 => ?_)
  refine a_iconst K dX10_feed_44 (v := -1) (by decide) ?_
  exact a_iret K E rfl (by omega) (by omega) dX10_feed_45 ⟨rfl, rfl⟩
set_option maxHeartbeats 4000000 in
set_option maxRecDepth 100000 in
theorem m_X10_feed_ok {S : aw_S} {v : Nat → Nat} {n : Nat} {a b c d e : Int32} (hL : LW S v) (hs : sI S 577 (v 0) = nI n) (hn : n ≤ 220) (hf : nI n + sg5 a b c d e ≤ 240) : aw_M yX10_feed cX10_feed 7 (some FieldType.int) 1 0 0 [.ref (v 4), .int a, .int b, .int c, .int d, .int e] S (fun r S2 => S2 = fd5 v a b c d e S ∧ r = some (.int (sI S2 577 (v 0)))) := by
  refine aw_enter (by decide +kernel) (Nat.le_of_ble_eq_true rfl) (fun g K E => ?_)
  have hL0 := hL
  have t0 := lw_TP hL hs (show n ≤ 240 by omega)
  have i4 := lw_i4 hL
  have f640 := lw_f640 hL
  have i0 := lw_i0 hL
  refine a_iload_n K dX10_feed_0 rfl ?_
  refine a_invS K (m_X9_signsIn) my_X9_signsIn ml_X10_94 st_X9_signsIn rfl (by omega) (by omega) (by omega) rfl (Nat.le_of_ble_eq_true rfl) dX10_feed_1 ?_
  intro r9 S9 hp9
  obtain ⟨rfl, rfl⟩ := hp9
  refine a_iload_n K dX10_feed_4 rfl ?_
  refine a_invS K (m_X9_signsIn) my_X9_signsIn ml_X10_94 st_X9_signsIn rfl (by omega) (by omega) (by omega) rfl (Nat.le_of_ble_eq_true rfl) dX10_feed_5 ?_
  intro r9 S9 hp9
  obtain ⟨rfl, rfl⟩ := hp9
  refine a_iadd K dX10_feed_8 ?_
  refine a_iload_n K dX10_feed_9 rfl ?_
  refine a_invS K (m_X9_signsIn) my_X9_signsIn ml_X10_94 st_X9_signsIn rfl (by omega) (by omega) (by omega) rfl (Nat.le_of_ble_eq_true rfl) dX10_feed_10 ?_
  intro r9 S9 hp9
  obtain ⟨rfl, rfl⟩ := hp9
  refine a_iadd K dX10_feed_13 ?_
  refine a_iload K dX10_feed_14 rfl ?_
  refine a_invS K (m_X9_signsIn) my_X9_signsIn ml_X10_94 st_X9_signsIn rfl (by omega) (by omega) (by omega) rfl (Nat.le_of_ble_eq_true rfl) dX10_feed_16 ?_
  intro r9 S9 hp9
  obtain ⟨rfl, rfl⟩ := hp9
  refine a_iadd K dX10_feed_19 ?_
  refine a_iload K dX10_feed_20 rfl ?_
  refine a_invS K (m_X9_signsIn) my_X9_signsIn ml_X10_94 st_X9_signsIn rfl (by omega) (by omega) (by omega) rfl (Nat.le_of_ble_eq_true rfl) dX10_feed_22 ?_
  intro r9 S9 hp9
  obtain ⟨rfl, rfl⟩ := hp9
  refine a_iadd K dX10_feed_25 ?_
  refine a_istore K dX10_feed_26 (by decide) ?_
  first | refine a_aload_n K dX10_feed_28 rfl ?_ | refine a_aload_nN K dX10_feed_28 rfl ?_
  refine a_getRs K fd_X10_10 (by assumption) (Or.inl ⟨_, rfl⟩) (by assumption) dX10_feed_29 ?_
  refine a_invV K (m_X9_size i0) my_X9_size ml_X10_98 im_X9_size se_X9_size (ci := 9) (by assumption) (by decide) ⟨_, _, rfl⟩ rfl (by omega) (by omega) (by omega) rfl (Nat.le_of_ble_eq_true rfl) dX10_feed_32 ?_
  intro r9 S9 hp9
  obtain ⟨rfl, rfl⟩ := hp9
  refine a_iload K dX10_feed_35 rfl ?_
  refine a_iadd K dX10_feed_37 ?_
  refine a_sipush K dX10_feed_38 (v := 240) (by decide) ?_
  refine a_icmp_le K dX10_feed_41 (tgt := 46) (by decide) (fun c_41 => ?_) (fun c_41 => absurd c_41 (fun z => z (by rw [← hs] at hf; exact hf)))
  clear c_41 hf
  first | refine a_aload_n K dX10_feed_46 rfl ?_ | refine a_aload_nN K dX10_feed_46 rfl ?_
  refine a_getRs K fd_X10_10 (by assumption) (Or.inl ⟨_, rfl⟩) (by assumption) dX10_feed_47 ?_
  refine a_iload_n K dX10_feed_50 rfl ?_
  refine a_invV K (m_X9_append (w := a) t0) my_X9_append ml_X10_102 im_X9_append se_X9_append (ci := 9) (by assumption) (by decide) ⟨_, _, rfl⟩ rfl (by omega) (by omega) (by omega) rfl (Nat.le_of_ble_eq_true rfl) dX10_feed_51 ?_
  intro r9 S1 hp9
  obtain ⟨rfl, hS1⟩ := hp9
  obtain ⟨j1, t1, e1, b1⟩ := TP_N 4 (w := a) t0 (by omega)
  rw [← hS1] at t1
  have hL1 := LW_tpN (t := v 0) (bt := v 1) (w := a) hL0 4
  rw [← hS1] at hL1
  have i4 := lw_i4 hL1
  have f640 := lw_f640 hL1
  have i0 := lw_i0 hL1
  first | refine a_aload_n K dX10_feed_54 rfl ?_ | refine a_aload_nN K dX10_feed_54 rfl ?_
  refine a_getRs K fd_X10_10 (by assumption) (Or.inl ⟨_, rfl⟩) (by assumption) dX10_feed_55 ?_
  refine a_iload_n K dX10_feed_58 rfl ?_
  refine a_invV K (m_X9_append (w := b) t1) my_X9_append ml_X10_102 im_X9_append se_X9_append (ci := 9) (by assumption) (by decide) ⟨_, _, rfl⟩ rfl (by omega) (by omega) (by omega) rfl (Nat.le_of_ble_eq_true rfl) dX10_feed_59 ?_
  intro r9 S2 hp9
  obtain ⟨rfl, hS2⟩ := hp9
  obtain ⟨j2, t2, e2, b2⟩ := TP_N 4 (w := b) t1 (by omega)
  rw [← hS2] at t2
  have hL2 := LW_tpN (t := v 0) (bt := v 1) (w := b) hL1 4
  rw [← hS2] at hL2
  have i4 := lw_i4 hL2
  have f640 := lw_f640 hL2
  have i0 := lw_i0 hL2
  first | refine a_aload_n K dX10_feed_62 rfl ?_ | refine a_aload_nN K dX10_feed_62 rfl ?_
  refine a_getRs K fd_X10_10 (by assumption) (Or.inl ⟨_, rfl⟩) (by assumption) dX10_feed_63 ?_
  refine a_iload_n K dX10_feed_66 rfl ?_
  refine a_invV K (m_X9_append (w := c) t2) my_X9_append ml_X10_102 im_X9_append se_X9_append (ci := 9) (by assumption) (by decide) ⟨_, _, rfl⟩ rfl (by omega) (by omega) (by omega) rfl (Nat.le_of_ble_eq_true rfl) dX10_feed_67 ?_
  intro r9 S3 hp9
  obtain ⟨rfl, hS3⟩ := hp9
  obtain ⟨j3, t3, e3, b3⟩ := TP_N 4 (w := c) t2 (by omega)
  rw [← hS3] at t3
  have hL3 := LW_tpN (t := v 0) (bt := v 1) (w := c) hL2 4
  rw [← hS3] at hL3
  have i4 := lw_i4 hL3
  have f640 := lw_f640 hL3
  have i0 := lw_i0 hL3
  first | refine a_aload_n K dX10_feed_70 rfl ?_ | refine a_aload_nN K dX10_feed_70 rfl ?_
  refine a_getRs K fd_X10_10 (by assumption) (Or.inl ⟨_, rfl⟩) (by assumption) dX10_feed_71 ?_
  refine a_iload K dX10_feed_74 rfl ?_
  refine a_invV K (m_X9_append (w := d) t3) my_X9_append ml_X10_102 im_X9_append se_X9_append (ci := 9) (by assumption) (by decide) ⟨_, _, rfl⟩ rfl (by omega) (by omega) (by omega) rfl (Nat.le_of_ble_eq_true rfl) dX10_feed_76 ?_
  intro r9 S4 hp9
  obtain ⟨rfl, hS4⟩ := hp9
  obtain ⟨j4, t4, e4, b4⟩ := TP_N 4 (w := d) t3 (by omega)
  rw [← hS4] at t4
  have hL4 := LW_tpN (t := v 0) (bt := v 1) (w := d) hL3 4
  rw [← hS4] at hL4
  have i4 := lw_i4 hL4
  have f640 := lw_f640 hL4
  have i0 := lw_i0 hL4
  first | refine a_aload_n K dX10_feed_79 rfl ?_ | refine a_aload_nN K dX10_feed_79 rfl ?_
  refine a_getRs K fd_X10_10 (by assumption) (Or.inl ⟨_, rfl⟩) (by assumption) dX10_feed_80 ?_
  refine a_iload K dX10_feed_83 rfl ?_
  refine a_invV K (m_X9_append (w := e) t4) my_X9_append ml_X10_102 im_X9_append se_X9_append (ci := 9) (by assumption) (by decide) ⟨_, _, rfl⟩ rfl (by omega) (by omega) (by omega) rfl (Nat.le_of_ble_eq_true rfl) dX10_feed_85 ?_
  intro r9 S5 hp9
  obtain ⟨rfl, hS5⟩ := hp9
  obtain ⟨j5, t5, e5, b5⟩ := TP_N 4 (w := e) t4 (by omega)
  rw [← hS5] at t5
  have hL5 := LW_tpN (t := v 0) (bt := v 1) (w := e) hL4 4
  rw [← hS5] at hL5
  have i4 := lw_i4 hL5
  have f640 := lw_f640 hL5
  have i0 := lw_i0 hL5
  first | refine a_aload_n K dX10_feed_88 rfl ?_ | refine a_aload_nN K dX10_feed_88 rfl ?_
  refine a_getRs K fd_X10_10 (by assumption) (Or.inl ⟨_, rfl⟩) (by assumption) dX10_feed_89 ?_
  refine a_invV K (m_X9_size i0) my_X9_size ml_X10_98 im_X9_size se_X9_size (ci := 9) (by assumption) (by decide) ⟨_, _, rfl⟩ rfl (by omega) (by omega) (by omega) rfl (Nat.le_of_ble_eq_true rfl) dX10_feed_92 ?_
  intro r9 S9 hp9
  obtain ⟨rfl, rfl⟩ := hp9
  exact a_iret K E rfl (by omega) (by omega) dX10_feed_95 ⟨by rw [hS5, hS4, hS3, hS2, hS1], rfl⟩
