/-! small calls -/
def stsA (P : PS) (i : Int32) : Int32 := at0 (pR P) 5 (-1) i
theorem at0_congr {f g : Nat → Int32} {n : Nat} {d i : Int32} (h : ∀ k, k < n → f k = g k) : at0 f n d i = at0 g n d i := by
  unfold at0
  by_cases e : 0 ≤ i.toInt ∧ i.toInt < n
  · rw [if_pos e, if_pos e]
    refine h _ ?_
    obtain ⟨k, hk, rfl⟩ := nI_of (x := i) (by rw [i32_lt]; show ¬ i.toInt < 0; omega)
    rw [nI_clamp hk]
    rw [nI_toInt hk] at e
    omega
  · rw [if_neg e, if_neg e]
theorem c_status {S : aw_S} {v ad ar : Nat → Nat} {PA : List (Nat × Nat)} {X : List Nat} {mb : Nat} {P : PS} (h : RC S v ad ar PA X mb P) {i : Int32} : aw_M yX10_status cX10_status 2 (some FieldType.int) 0 0 0 [.ref (v 4), .int i] S (fun r S2 => r = some (.int (stsA P i)) ∧ RC S2 v ad ar PA X mb P ∧ keepX X S S2) := by
  refine (m_X10_status (i := i) (lw_i4 h.L) (lw_f648 h.L) (lw_i18 h.L) (lw_n18 h.L)).post (fun r S2 hp => ?_)
  obtain ⟨rfl, rfl⟩ := hp
  exact ⟨by unfold stsA; rw [at0_congr h.2.2.2.2.1], h, h.X⟩
def shnA (P : PS) (i : Int32) : Int32 := at0 (fun k => nI ((pS P).getD k 0)) (pS P).length (-1) i
theorem c_shown {S : aw_S} {v ad ar : Nat → Nat} {PA : List (Nat × Nat)} {X : List Nat} {mb : Nat} {P : PS} (h : RC S v ad ar PA X mb P) {i : Int32} : aw_M yX10_shown cX10_shown 2 (some FieldType.int) 2 0 0 [.ref (v 4), .int i] S (fun r S2 => r = some (.int (shnA P i)) ∧ RC S2 v ad ar PA X mb P ∧ keepX X S S2) := by
  have hs := h.2.2.2.2.2.2.2.1
  refine (m_X10_shown (i := i) h.L hs.2.2.2.2.1 hs.2.2.2.2.2.1).post (fun r S2 hp => ?_)
  obtain ⟨rfl, rfl⟩ := hp
  refine ⟨?_, h, h.X⟩
  unfold shnA
  rw [at0_congr (g := fun k => nI ((pS P).getD k 0)) (fun k hk => ?_)]
  rw [hs.2.2.2.2.2.2 k _ (List.getElem?_eq_getElem hk), List.getD_eq_getElem?_getD, List.getElem?_eq_getElem hk]
  rfl
/-! a program's step -/
def prgA (P : PS) (i : Int32) : Option (List ST) := if 0 ≤ i.toInt ∧ i.toInt < (pG P).length then (pG P)[i.toNatClampNeg]? else none
def celA (p : List ST) (i w : Int32) : Int32 := if (0 ≤ i.toInt ∧ i.toInt < p.length) ∧ 0 ≤ w.toInt ∧ w.toInt < 4 then (match p[i.toNatClampNeg]? with
  | some s => s w.toNatClampNeg
  | none => -1000000) else -1000000
def stpA (P : PS) (p i w : Int32) : Int32 := match prgA P p with
  | some g => celA g i w
  | none => -1000000
theorem cel_rng {i w : Int32} {n : Nat} (hn : n < 2 ^ 31) (c1 : ¬ i < 0) (c9 : ¬ nI n ≤ i) (c19 : ¬ w < 0) (c24 : w < 4) : (0 ≤ i.toInt ∧ i.toInt < n) ∧ 0 ≤ w.toInt ∧ w.toInt < 4 := by
  rw [i32_lt] at c1 c19 c24
  rw [i32_le, nI_toInt hn] at c9
  have e0 : (0 : Int32).toInt = 0 := by decide
  have e3 : (4 : Int32).toInt = 4 := by decide
  omega
theorem w_prog {S : aw_S} {v ad ar : Nat → Nat} {PA : List (Nat × Nat)} {X : List Nat} {mb : Nat} {P : PS} (h : RC S v ad ar PA X mb P) (i : Int32) : (prgA P i = none ∧ atR (sQ S (v 3)) 4 i = none) ∨ ∃ p q, prgA P i = some p ∧ q ∈ PA ∧ atR (sQ S (v 3)) 4 i = some q.1 ∧ PgW S q p := by
  obtain ⟨p1, p2, p3, p4, p5, p6⟩ := h.2.2.2.2.2.1
  unfold prgA atR
  by_cases e : 0 ≤ i.toInt ∧ i.toInt < ((4 : Nat) : Int)
  · rw [if_pos e]
    obtain ⟨k, hk, rfl⟩ := nI_of (x := i) (by rw [i32_lt]; show ¬ i.toInt < 0; omega)
    rw [nI_toInt hk] at e
    rw [nI_clamp hk, nI_toInt hk]
    by_cases hl : k < (pG P).length
    · rw [if_pos (by omega)]
      have hx := List.getElem?_eq_getElem hl
      obtain ⟨q, a, b, c⟩ := p4 k _ hx
      exact Or.inr ⟨_, q, hx, List.mem_of_getElem? a, b, c⟩
    · rw [if_neg (by omega)]
      exact Or.inl ⟨rfl, p6 k (by omega) (by omega)⟩
  · rw [if_neg e, if_neg (by omega)]
    exact Or.inl ⟨rfl, rfl⟩
set_option maxHeartbeats 4000000 in
set_option maxRecDepth 100000 in
theorem m_cell {S : aw_S} {q : Nat × Nat} {p : List ST} (hq : PgW S q p) {i w : Int32} : aw_M yX5_cell cX5_cell 3 (some FieldType.int) 0 0 0 [.ref q.1, .int i, .int w] S (fun r S2 => r = some (.int (celA p i w)) ∧ S2 = S) := by
  have o5 := hq.1
  have r320 := hq.2.1
  have i13 := hq.2.2.1
  have h16 := hq.2.2.2.2.2.1
  refine aw_enter (by decide +kernel) (Nat.le_of_ble_eq_true rfl) (fun g K EE => ?_)
  by_cases hx : (0 ≤ i.toInt ∧ i.toInt < p.length) ∧ 0 ≤ w.toInt ∧ w.toInt < 4
  · obtain ⟨a, ha9, rfl⟩ := nI_of (x := i) (by rw [i32_lt]; show ¬ i.toInt < 0; omega)
    obtain ⟨b, hb9, rfl⟩ := nI_of (x := w) (by rw [i32_lt]; show ¬ w.toInt < 0; omega)
    rw [nI_toInt ha9, nI_toInt hb9] at hx
    have ha : a < p.length := by omega
    have hb : b < 4 := by omega
    refine a_iload_n K dX5_cell_0 rfl ?_
    refine a_if_lt K dX5_cell_1 (tgt := 27) (by decide) (fun c_1 => absurd c_1 (nI_pos (by omega))) (fun c_1 => ?_)
    refine a_iload_n K dX5_cell_4 rfl ?_
    first | refine a_aload_n K dX5_cell_5 rfl ?_ | refine a_aload_nN K dX5_cell_5 rfl ?_
    refine a_getI K fd_X5_15 (by assumption) (Or.inl rfl) dX5_cell_6 ?_
    rw [hq.2.2.2.2.1]
    refine a_icmp_ge K dX5_cell_9 (tgt := 27) (by decide) (fun c_9 => absurd c_9 (nI_ge (by omega) (by omega))) (fun c_9 => ?_)
    refine a_iload_n K dX5_cell_12 rfl ?_
    refine a_bipush K dX5_cell_13 (v := 16) (by decide) ?_
    refine a_icmp_ge K dX5_cell_15 (tgt := 27) (by decide) (fun c_15 => absurd c_15 (nI_ge (a := a) (b := 16) (by omega) (by omega))) (fun c_15 => ?_)
    refine a_iload_n K dX5_cell_18 rfl ?_
    refine a_if_lt K dX5_cell_19 (tgt := 27) (by decide) (fun c_19 => absurd c_19 (nI_pos (by omega))) (fun c_19 => ?_)
    refine a_iload_n K dX5_cell_22 rfl ?_
    refine a_iconst K dX5_cell_23 (v := 4) (by decide) ?_
    refine a_icmp_lt K dX5_cell_24 (tgt := 30) (by decide) (fun c_24 => ?_) (fun c_24 => absurd c_24 (fun z => z (nI_lt (a := b) (b := 4) (by omega) (by omega))))
    first | refine a_aload_n K dX5_cell_30 rfl ?_ | refine a_aload_nN K dX5_cell_30 rfl ?_
    refine a_getRs K fd_X5_9 (by assumption) (Or.inr ⟨_, rfl⟩) (by assumption) dX5_cell_31 ?_
    refine a_iload_n K dX5_cell_34 rfl ?_
    refine a_iconst K dX5_cell_35 (v := 4) (by decide) ?_
    refine a_imul K dX5_cell_36 ?_
    refine a_iload_n K dX5_cell_37 rfl ?_
    refine a_iadd K dX5_cell_38 ?_
    rw [show nI a * 4 + nI b = nI (a * 4 + b) from by rw [show (4 : Int32) = nI 4 from rfl, pk_mul, nI_add]]
    refine a_iald K (by assumption) (by rw [hq.2.2.2.1]; exact vp_in_nI (by omega) (by omega)) dX5_cell_39 ?_
    exact a_iret K EE rfl (by omega) (by omega) dX5_cell_40 ⟨by unfold celA; rw [nI_toInt (by omega), nI_toInt (by omega), if_pos (by omega), nI_clamp (by omega), nI_clamp (by omega), List.getElem?_eq_getElem ha, nI_clamp (by omega), show a * 4 + b = 4 * a + b by omega, hq.2.2.2.2.2.2 a _ (List.getElem?_eq_getElem ha) b hb], rfl⟩
  · refine a_iload_n K dX5_cell_0 rfl ?_
    refine a_if_lt K dX5_cell_1 (tgt := 27) (by decide) (fun c_1 => ?_) (fun c_1 => ?_)
    · refine a_ldc K kc_X5_19 dX5_cell_27 ?_
      exact a_iret K EE rfl (by omega) (by omega) dX5_cell_29 ⟨by unfold celA; rw [if_neg hx], rfl⟩
    · refine a_iload_n K dX5_cell_4 rfl ?_
      first | refine a_aload_n K dX5_cell_5 rfl ?_ | refine a_aload_nN K dX5_cell_5 rfl ?_
      refine a_getI K fd_X5_15 (by assumption) (Or.inl rfl) dX5_cell_6 ?_
      rw [hq.2.2.2.2.1]
      refine a_icmp_ge K dX5_cell_9 (tgt := 27) (by decide) (fun c_9 => ?_) (fun c_9 => ?_)
      · refine a_ldc K kc_X5_19 dX5_cell_27 ?_
        exact a_iret K EE rfl (by omega) (by omega) dX5_cell_29 ⟨by unfold celA; rw [if_neg hx], rfl⟩
      · refine a_iload_n K dX5_cell_12 rfl ?_
        refine a_bipush K dX5_cell_13 (v := 16) (by decide) ?_
        refine a_icmp_ge K dX5_cell_15 (tgt := 27) (by decide) (fun c_15 => ?_) (fun c_15 => ?_)
        · refine a_ldc K kc_X5_19 dX5_cell_27 ?_
          exact a_iret K EE rfl (by omega) (by omega) dX5_cell_29 ⟨by unfold celA; rw [if_neg hx], rfl⟩
        · refine a_iload_n K dX5_cell_18 rfl ?_
          refine a_if_lt K dX5_cell_19 (tgt := 27) (by decide) (fun c_19 => ?_) (fun c_19 => ?_)
          · refine a_ldc K kc_X5_19 dX5_cell_27 ?_
            exact a_iret K EE rfl (by omega) (by omega) dX5_cell_29 ⟨by unfold celA; rw [if_neg hx], rfl⟩
          · refine a_iload_n K dX5_cell_22 rfl ?_
            refine a_iconst K dX5_cell_23 (v := 4) (by decide) ?_
            refine a_icmp_lt K dX5_cell_24 (tgt := 30) (by decide) (fun c_24 => ?_) (fun c_24 => ?_)
            · exact absurd (cel_rng (n := p.length) (by have := hq.2.2.2.2.2.1; omega) c_1 c_9 c_19 c_24) hx
            · refine a_ldc K kc_X5_19 dX5_cell_27 ?_
              exact a_iret K EE rfl (by omega) (by omega) dX5_cell_29 ⟨by unfold celA; rw [if_neg hx], rfl⟩
set_option maxHeartbeats 4000000 in
set_option maxRecDepth 100000 in
theorem c_step {S : aw_S} {v ad ar : Nat → Nat} {PA : List (Nat × Nat)} {X : List Nat} {mb : Nat} {P : PS} (h : RC S v ad ar PA X mb P) {p i w : Int32} : aw_M yX10_step cX10_step 5 (some FieldType.int) 3 0 0 [.ref (v 4), .int p, .int i, .int w] S (fun r S2 => r = some (.int (stpA P p i w)) ∧ RC S2 v ad ar PA X mb P ∧ keepX X S S2) := by
  have hL := h.L
  rcases w_prog h p with ⟨h1, e⟩ | ⟨g1, q, h1, hm, e, hq⟩
  · exact ((m_X10_step_null hL e).post (fun r S2 z => by obtain ⟨rfl, rfl⟩ := z; exact ⟨by unfold stpA; rw [h1], h, h.X⟩)).le (by decide) (Nat.zero_le _) (Nat.zero_le _)
  · have oq := hq.1
    refine aw_enter (by decide +kernel) (Nat.le_of_ble_eq_true rfl) (fun g K EE => ?_)
    first | refine a_aload_n K dX10_step_0 rfl ?_ | refine a_aload_nN K dX10_step_0 rfl ?_
    refine a_iload_n K dX10_step_1 rfl ?_
    refine a_invV K (w_programAt hL p) my_X10_programAt ml_X10_380 im_X10_programAt se_X10_programAt (ci := 10) (lw_i4 hL) (by decide) ⟨_, _, rfl⟩ rfl (by omega) (by omega) (by omega) rfl (Nat.le_of_ble_eq_true rfl) dX10_step_2 ?_
    intro r9 S9 hp9
    obtain ⟨hS9, rfl⟩ := hp9
    obtain rfl := hS9.symm
    rw [e]
    first | refine a_astore K dX10_step_5 (by decide) ?_ | refine a_astoreN K dX10_step_5 (by decide) ?_
    first | refine a_aload K dX10_step_7 rfl ?_ | refine a_aloadN K dX10_step_7 rfl ?_
    refine a_ifnonnull K dX10_step_9 (tgt := 17) (by decide) ?_
    first | refine a_aload K dX10_step_17 rfl ?_ | refine a_aloadN K dX10_step_17 rfl ?_
    refine a_iload_n K dX10_step_19 rfl ?_
    refine a_iload_n K dX10_step_20 rfl ?_
    refine a_invV K (m_cell hq (i := i) (w := w)) my_X5_cell ml_X10_384 im_X5_cell se_X5_cell (ci := 5) (by assumption) (by decide) ⟨_, _, rfl⟩ rfl (by omega) (by omega) (by omega) rfl (Nat.le_of_ble_eq_true rfl) dX10_step_21 ?_
    intro r9 S9 hp9
    obtain ⟨rfl, hS9⟩ := hp9
    obtain rfl := hS9.symm
    exact a_iret K EE rfl (by omega) (by omega) dX10_step_24 ⟨by unfold stpA; rw [h1], h, h.X⟩
/-! images -/
theorem kim_fr {S : aw_S} {h m : Nat} : ∀ i, frS S (kim S h m i) (fun b => b = m)
  | 0 => frS.rf
  | i + 1 => frS.st (kim_fr i) frS_wA (fun _ z => z)
theorem kim_at {S : aw_S} {h m : Nat} (n : h ≠ m) : ∀ i k, sA (kim S h m i) m k = if k < i then vp_nar .boolean (sA S h k) else sA S m k
  | 0, k => by rw [if_neg (Nat.not_lt_zero _)]; rfl
  | i + 1, k => by
    show sA (wA (kim S h m i) m i _) m k = _
    rw [sA_wA, ((kim_fr (S := S) (h := h) (m := m) i).2.2.2.2.2.2.2 h n).2.1]
    by_cases e : k = i
    · rw [if_pos ⟨rfl, e⟩, if_pos (by omega), e]
    · rw [if_neg (fun z => e z.2), kim_at n i k]
      by_cases e2 : k < i
      · rw [if_pos e2, if_pos (by omega)]
      · rw [if_neg e2, if_neg (by omega)]
theorem nar01 (b : Bool) : vp_nar .boolean (if b then 1 else 0) = if b then 1 else 0 := by cases b <;> rfl
def imgP (P : PS) : PS := (P.1, pM P, pH P, pH P, true, pB P, pR P, pG P, pT P, pS P)
theorem RC_img {S S2 : aw_S} {v ad ar : Nat → Nat} {PA : List (Nat × Nat)} {X : List Nat} {mb : Nat} {P : PS} (h : RC S v ad ar PA X mb P) (hS : S2 = kim (wI S 198 (v 6) 1) (v 10) (v 11) 999) : RC S2 v ad ar PA X mb (imgP P) ∧ keepX X S S2 := by
  have hL := h.L
  obtain ⟨m1, m2, m3, m4, m5, m6, m7⟩ := h.2.2.1
  have n11 : v 10 ≠ v 11 := fun z => absurd (lw_inj hL 10 11 (by decide) (by decide) z) (by decide)
  have f : frS S S2 (Qk v [6, 11]) := by
    rw [hS]
    exact ((frS_wI (S := S) (F := 198) (a := v 6) (v := 1) (by decide)).mono (fun b e => ⟨6, by decide, e⟩)).st (kim_fr 999) (fun b e => ⟨11, by decide, e⟩)
  have no : ∀ i, i < 37 → i ≠ 6 ∧ i ≠ 11 → ¬ Qk v [6, 11] (v i) := fun i hi h5 => Qk_no hL (by decide) hi (by simp; omega)
  have eI : ∀ F, sI S2 F (v 6) = if F = 198 then 1 else sI S F (v 6) := fun F => by
    rw [hS, (kim_same _ _ _ _).2.2.1, sI_wI]
    by_cases e : F = 198
    · rw [if_pos ⟨e, rfl⟩, if_pos e]
    · rw [if_neg (fun z => e z.1), if_neg e]
  refine RC.gen (P2 := imgP P) h f (Qk37 (by decide)) (no 13 (by decide) (by decide)) (no 3 (by decide) (by decide)) ((f.2.2.2.2.2.2.2 _ (no 4 (by decide) (by decide))).1 _) ((f.2.2.2.2.2.2.2 _ (no 4 (by decide) (by decide))).1 _) rfl rfl (GrW.fr h.2.1 f (no 5 (by decide) (by decide)) rfl rfl rfl) ⟨?_, m2, ?_, ?_, fun i w hw => ?_, fun i hi => ?_, fun i hi => ?_⟩ (BuW.fr h.2.2.2.1 f (fun j hj => no _ (by omega) (by omega)) rfl) (ReW.fr h.2.2.2.2.1 f (no 18 (by decide) (by decide)) rfl) (TaW.fr h.2.2.2.2.2.2.1 f (no 0 (by decide) (by decide)) (no 1 (by decide) (by decide)) rfl) (h.2.2.2.2.2.2.2.1.fr f.fr (no 19 (by decide) (by decide)) (no 20 (by decide) (by decide))) h.2.2.2.2.2.2.2.2.1.2.1 h.2.2.2.2.2.2.2.2.1.2.2
  · rw [eI, if_neg (by decide)]
    exact m1
  · rw [eI, if_neg (by decide)]
    exact m3
  · rw [eI, if_pos rfl]
    rfl
  · obtain ⟨q1, q2, q3⟩ := m5 i w hw
    refine ⟨?_, ?_, ?_⟩
    · rw [(f.2.2.2.2.2.2.2 _ (no 7 (by decide) (by decide))).2.2]
      exact q1
    · rw [(f.2.2.2.2.2.2.2 _ (no 8 (by decide) (by decide))).2.1]
      exact q2
    · rw [(f.2.2.2.2.2.2.2 _ (no 9 (by decide) (by decide))).2.1]
      exact q3
  · refine ⟨?_, ?_⟩
    · rw [(f.2.2.2.2.2.2.2 _ (no 10 (by decide) (by decide))).2.1]
      exact (m6 i hi).1
    · rw [hS, kim_at n11, if_pos hi]
      show vp_nar .boolean (sA S (v 10) i) = _
      rw [(m6 i hi).1, nar01]
      rfl
  · exact ⟨(m7 i hi).1, (m7 i hi).1⟩
theorem c_image {S : aw_S} {v ad ar : Nat → Nat} {PA : List (Nat × Nat)} {X : List Nat} {mb : Nat} {P : PS} (h : RC S v ad ar PA X mb P) : aw_M yX10_image cX10_image 1 (some FieldType.int) 1 0 0 [.ref (v 4)] S (mutQ X v PA mb S (nI (hcnt (pH P)), imgP P)) := by
  refine (m_X10_image h.L).post (fun r S2 hp => ?_)
  obtain ⟨hr, hS⟩ := hp
  obtain ⟨a, b⟩ := RC_img h hS
  exact ⟨ad, ar, by rw [hr, h.2.2.1.2.2.1], a, b⟩
/-! a new width -/
theorem opn_fr {S : aw_S} {h m r : Nat} : ∀ i, frS S (opn S h m r i) (fun b => b = h ∨ b = m ∨ b = r)
  | 0 => frS.rf
  | i + 1 => frS.st (frS.st (frS.st (opn_fr i) frS_wA (fun _ z => Or.inl z)) frS_wA (fun _ z => Or.inr (Or.inl z))) frS_wQ (fun _ z => Or.inr (Or.inr z))
theorem opn_at {S : aw_S} {h m r : Nat} (n : h ≠ m) : ∀ i k, k < i → sA (opn S h m r i) h k = 0 ∧ sA (opn S h m r i) m k = 0
  | 0, k, hk => absurd hk (Nat.not_lt_zero _)
  | i + 1, k, hk => by
    show sA (wA (wA (opn S h m r i) h i 0) m i 0) h k = 0 ∧ sA (wA (wA (opn S h m r i) h i 0) m i 0) m k = 0
    rw [sA_wA, sA_wA, sA_wA, sA_wA]
    by_cases e : k = i
    · rw [if_neg (fun z => n z.1), if_pos ⟨rfl, e⟩, if_pos ⟨rfl, e⟩]
      exact ⟨rfl, rfl⟩
    · rw [if_neg (fun z => e z.2), if_neg (fun z => e z.2), if_neg (fun z => e z.2), if_neg (fun z => e z.2)]
      exact opn_at n i k (by omega)
def cloP (P : PS) : PS := setB (setB (setB (setB P 0 none) 1 none) 2 none) 3 none
theorem RC_clo {S : aw_S} {v ad ar : Nat → Nat} {PA : List (Nat × Nat)} {X : List Nat} {mb : Nat} {P : PS} (h : RC S v ad ar PA X mb P) : RC (clo S v 4) v ad ar PA X mb (cloP P) ∧ keepX X S (clo S v 4) := by
  obtain ⟨h0, k0⟩ := h.wr0 (j := 0) (by decide) (x := none) (b := none) (Or.inl ⟨rfl, rfl⟩)
  obtain ⟨h1, k1⟩ := h0.wr0 (j := 1) (by decide) (x := none) (b := none) (Or.inl ⟨rfl, rfl⟩)
  obtain ⟨h2, k2⟩ := h1.wr0 (j := 2) (by decide) (x := none) (b := none) (Or.inl ⟨rfl, rfl⟩)
  obtain ⟨h3, k3⟩ := h2.wr0 (j := 3) (by decide) (x := none) (b := none) (Or.inl ⟨rfl, rfl⟩)
  exact ⟨h3, ((k0.tr k1).tr k2).tr k3⟩
def widP (P : PS) (w : Nat) : PS := ((w, 0, pTk P, pU P), [], fun _ => false, fun _ => false, false, pB P, pR P, pG P, pT P, pS P)
def widF (P : PS) (w : Int32) : Int32 × PS := if 3 ≤ w.toInt ∧ w.toInt ≤ 6 then (w, cloP (widP P w.toNatClampNeg)) else (-1, refP P 1)
theorem hcnt_0 : hcnt (fun _ => false) = 0 := by
  unfold hcnt
  rw [List.countP_eq_zero]
  exact fun a _ z => absurd z (by decide)
theorem RC_wid {S S2 : aw_S} {v ad ar : Nat → Nat} {PA : List (Nat × Nat)} {X : List Nat} {mb : Nat} {P : PS} (h : RC S v ad ar PA X mb P) {w : Nat} (hS : S2 = wI (wI (wI (opn (wI (wI S 64 (v 5) (nI w)) 65 (v 5) 0) (v 10) (v 11) (v 7) 999) 198 (v 6) 0) 199 (v 6) 0) 200 (v 6) 0) : RC S2 v ad ar PA X mb (widP P w) ∧ keepX X S S2 := by
  have hL := h.L
  have n11 : v 10 ≠ v 11 := fun z => absurd (lw_inj hL 10 11 (by decide) (by decide) z) (by decide)
  have f : frS S S2 (Qk v [5, 6, 7, 10, 11]) := by
    rw [hS]
    refine frS.st (frS.st (frS.st (frS.st (frS.st (frS.st frS.rf (frS_wI (by decide)) (fun b e => ⟨5, by decide, e⟩)) (frS_wI (by decide)) (fun b e => ⟨5, by decide, e⟩)) (opn_fr 999) (fun b e => ?_)) (frS_wI (by decide)) (fun b e => ⟨6, by decide, e⟩)) (frS_wI (by decide)) (fun b e => ⟨6, by decide, e⟩)) (frS_wI (by decide)) (fun b e => ⟨6, by decide, e⟩)
    exact e.elim (fun z => ⟨10, by decide, z⟩) (fun z => z.elim (fun y => ⟨11, by decide, y⟩) (fun y => ⟨7, by decide, y⟩))
  have no : ∀ i, i < 37 → i ≠ 5 ∧ i ≠ 6 ∧ i ≠ 7 ∧ i ≠ 10 ∧ i ≠ 11 → ¬ Qk v [5, 6, 7, 10, 11] (v i) := fun i hi h5 => Qk_no hL (by decide) hi (by simp; omega)
  have n56 : v 5 ≠ v 6 := fun z => absurd (lw_inj hL 5 6 (by decide) (by decide) z) (by decide)
  have eI : ∀ F, sI S2 F (v 5) = if F = 65 then 0 else if F = 64 then nI w else sI S F (v 5) := fun F => by
    rw [hS, sI_wI, if_neg (fun z => n56 z.2), sI_wI, if_neg (fun z => n56 z.2), sI_wI, if_neg (fun z => n56 z.2), (opn_same _ _ _ _ _).2.2.1, sI_wI]
    by_cases e : F = 65
    · rw [if_pos ⟨e, rfl⟩, if_pos e]
    · rw [if_neg (fun z => e z.1), if_neg e, sI_wI]
      by_cases e2 : F = 64
      · rw [if_pos ⟨e2, rfl⟩, if_pos e2]
      · rw [if_neg (fun z => e2 z.1), if_neg e2]
  refine RC.gen (P2 := widP P w) h f (Qk37 (by decide)) (no 13 (by decide) (by decide)) (no 3 (by decide) (by decide)) ((f.2.2.2.2.2.2.2 _ (no 4 (by decide) (by decide))).1 _) ((f.2.2.2.2.2.2.2 _ (no 4 (by decide) (by decide))).1 _) rfl rfl ⟨?_, ?_, ?_⟩ ⟨?_, Nat.zero_le _, ?_, ?_, fun i w hw => absurd hw (by simp [widP, pM]), fun i hi => ?_, fun i hi => ⟨rfl, rfl⟩⟩ (BuW.fr h.2.2.2.1 f (fun j hj => no _ (by omega) (by omega)) rfl) (ReW.fr h.2.2.2.2.1 f (no 18 (by decide) (by decide)) rfl) (TaW.fr h.2.2.2.2.2.2.1 f (no 0 (by decide) (by decide)) (no 1 (by decide) (by decide)) rfl) (h.2.2.2.2.2.2.2.1.fr f.fr (no 19 (by decide) (by decide)) (no 20 (by decide) (by decide))) (fun x hx => absurd hx (by simp [widP, pM])) h.2.2.2.2.2.2.2.2.1.2.2
  · rw [eI, if_neg (by decide), if_pos rfl]
    rfl
  · rw [eI, if_pos rfl]
    rfl
  · rw [eI, if_neg (by decide), if_neg (by decide)]
    exact h.2.1.2.2
  · rw [hS, sI_wI, if_neg (fun z => absurd z.1 (by decide)), wI_at]
    rfl
  · rw [hS, wI_at]
    show (0 : Int32) = nI (hcnt (fun _ => false))
    rw [hcnt_0]
    rfl
  · rw [hS, sI_wI, if_neg (fun z => absurd z.1 (by decide)), sI_wI, if_neg (fun z => absurd z.1 (by decide)), wI_at]
    rfl
  · have q := opn_at (S := wI (wI S 64 (v 5) (nI w)) 65 (v 5) 0) (r := v 7) n11 999 i hi
    rw [hS, sA_wI, sA_wI, sA_wI, q.1, q.2]
    exact ⟨rfl, rfl⟩
theorem c_wide {S : aw_S} {v ad ar : Nat → Nat} {PA : List (Nat × Nat)} {X : List Nat} {mb : Nat} {P : PS} (h : RC S v ad ar PA X mb P) {w : Int32} : aw_M yX10_wide cX10_wide 2 (some FieldType.int) 3 0 0 [.ref (v 4), .int w] S (mutQ X v PA mb S (widF P w)) := by
  by_cases hw : 3 ≤ w.toInt ∧ w.toInt ≤ 6
  · refine (m_X10_wide_ok h.L hw).post (fun r S2 hp => ?_)
    obtain ⟨hr, hS⟩ := hp
    obtain ⟨k, hk, rfl⟩ := nI_of (x := w) (by rw [i32_lt]; show ¬ w.toInt < 0; omega)
    obtain ⟨a, b⟩ := RC_wid h (w := k) rfl
    obtain ⟨c, d⟩ := RC_clo a
    rw [← hS] at c d
    unfold widF
    rw [if_pos hw, nI_clamp hk]
    exact ⟨ad, ar, hr, c, b.tr d⟩
  · refine ((m_X10_wide_bad h.L (by omega)).post (fun r S2 hp => ?_)).le (by decide) (Nat.le_refl _) (Nat.le_refl _)
    unfold widF
    rw [if_neg hw]
    exact PRq.mut h (by decide) hp
set_option maxHeartbeats 4000000 in
set_option maxRecDepth 100000 in
theorem m_X3_restoreImage_y {S : aw_S} {a ha ia : Nat} {I : Nat → Bool} (o3 : aw_is S a 3) (r4 : sR S 195 a = some ha) (r5 : sR S 196 a = some ia) (i10 : aw_is S ha 14) (i11 : aw_is S ia 14) (n10 : sN S ha = 999) (n11 : sN S ia = 999) (na : ia = a → False) (nh : ia = ha → False) (h198 : sI S 198 a = 1) (hI : ∀ k, k < 999 → sA S ia k = if I k then 1 else 0) : aw_M yX3_restoreImage cX3_restoreImage 2 (some FieldType.boolean) 0 0 0 [.ref a] S (fun r T => r = some (.int 1) ∧ frS S T (fun b => b = a ∨ b = ha) ∧ sI T 200 a = nI (hcnt I) ∧ (∀ k, k < 999 → sA T ha k = if I k then 1 else 0) ∧ ∀ F, F ≠ 200 → sI T F a = sI S F a) := by
  refine aw_enter (by decide +kernel) (Nat.le_of_ble_eq_true rfl) (fun g K EE => ?_)
  have loop : ∀ (n i : Nat) (x : Int32) (T : aw_S), x = nI i → i + n = 999 → frS S T (fun b => b = a ∨ b = ha) → sI T 200 a = nI ((List.range i).countP I) → (∀ k, k < i → sA T ha k = if I k then 1 else 0) → (∀ F, F ≠ 200 → sI T F a = sI S F a) → aw g 2 T 0 0 [(1, .int x), (0, .ref a)] [] 16 := by
    intro n
    induction n with
    | zero =>
      intro i x T hx hi fT hc hA hF
      subst hx
      have o3 := fT.is o3
      have r4 := (congrFun (congrFun fT.2.2.1 195) a).trans r4
      have r5 := (congrFun (congrFun fT.2.2.1 196) a).trans r5
      have i10 := fT.is i10
      have i11 := fT.is i11
      have n10 : sN T ha = 999 := by rw [fT.2.2.2.1]; exact n10
      have n11 : sN T ia = 999 := by rw [fT.2.2.2.1]; exact n11
      have hI9 : ∀ k, k < 999 → sA T ia k = if I k then 1 else 0 := fun k hk => by rw [(fT.2.2.2.2.2.2.2 ia (fun z => z.elim na nh)).2.1]; exact hI k hk
      refine a_iload_n K dX3_restoreImage_16 rfl ?_
      refine a_sipush K dX3_restoreImage_17 (v := 999) (by decide) ?_
      refine a_icmp_ge K dX3_restoreImage_20 (tgt := 64) (by decide) (fun c_20 => ?_) (fun c_20 => absurd c_20 (fun z => z (nI_le (a := 999) (b := i) (by omega) (by omega))))
      refine a_iconst K dX3_restoreImage_64 (v := 1) (by decide) ?_
      exact a_iret K EE rfl (by omega) (by omega) dX3_restoreImage_65 ⟨rfl, fT, by rw [hc, show i = 999 by omega]; rfl, fun k hk => hA k (by omega), hF⟩
    | succ n ih =>
      intro i x T hx hi fT hc hA hF
      subst hx
      have o3 := fT.is o3
      have r4 := (congrFun (congrFun fT.2.2.1 195) a).trans r4
      have r5 := (congrFun (congrFun fT.2.2.1 196) a).trans r5
      have i10 := fT.is i10
      have i11 := fT.is i11
      have n10 : sN T ha = 999 := by rw [fT.2.2.2.1]; exact n10
      have n11 : sN T ia = 999 := by rw [fT.2.2.2.1]; exact n11
      have hI9 : ∀ k, k < 999 → sA T ia k = if I k then 1 else 0 := fun k hk => by rw [(fT.2.2.2.2.2.2.2 ia (fun z => z.elim na nh)).2.1]; exact hI k hk
      cases hb : I i with
      | true =>
        refine a_iload_n K dX3_restoreImage_16 rfl ?_
        refine a_sipush K dX3_restoreImage_17 (v := 999) (by decide) ?_
        refine a_icmp_ge K dX3_restoreImage_20 (tgt := 64) (by decide) (fun c_20 => absurd c_20 (nI_ge (a := i) (b := 999) (by omega) (by omega))) (fun c_20 => ?_)
        first | refine a_aload_n K dX3_restoreImage_23 rfl ?_ | refine a_aload_nN K dX3_restoreImage_23 rfl ?_
        refine a_getRs K fd_X3_24 (by assumption) (Or.inr ⟨_, rfl⟩) (by assumption) dX3_restoreImage_24 ?_
        refine a_iload_n K dX3_restoreImage_27 rfl ?_
        first | refine a_aload_n K dX3_restoreImage_28 rfl ?_ | refine a_aload_nN K dX3_restoreImage_28 rfl ?_
        refine a_getRs K fd_X3_28 (by assumption) (Or.inr ⟨_, rfl⟩) (by assumption) dX3_restoreImage_29 ?_
        refine a_iload_n K dX3_restoreImage_32 rfl ?_
        refine a_zald K (by assumption) (by rw [n11]; exact vp_in_nI (by omega) (by omega)) dX3_restoreImage_33 ?_
        simp only [nI_clamp (show i < 2 ^ 31 by omega)]
        refine a_zast K (by assumption) (by rw [n10]; exact vp_in_nI (by omega) (by omega)) dX3_restoreImage_34 ?_
        simp only [nI_clamp (show i < 2 ^ 31 by omega)]
        have fA : frS T (wA T ha i (vp_nar .boolean (sA T ia i))) (fun b => b = ha) := frS_wA
        have o3b := fA.is o3
        have r5b : sR (wA T ha i (vp_nar .boolean (sA T ia i))) 196 a = some ia := r5
        have i11b := fA.is i11
        have n11b : sN (wA T ha i (vp_nar .boolean (sA T ia i))) ia = 999 := n11
        have v11 : sA (wA T ha i (vp_nar .boolean (sA T ia i))) ia i = if I i then 1 else 0 := by rw [sA_wA, if_neg (fun z => nh z.1)]; exact hI9 i (by omega)
        first | refine a_aload_n K dX3_restoreImage_35 rfl ?_ | refine a_aload_nN K dX3_restoreImage_35 rfl ?_
        refine a_dup K dX3_restoreImage_36 rfl ?_
        refine a_getI K fd_X3_42 (by assumption) (Or.inl rfl) dX3_restoreImage_37 ?_
        first | refine a_aload_n K dX3_restoreImage_40 rfl ?_ | refine a_aload_nN K dX3_restoreImage_40 rfl ?_
        refine a_getRs K fd_X3_28 (by assumption) (Or.inr ⟨_, rfl⟩) (by assumption) dX3_restoreImage_41 ?_
        refine a_iload_n K dX3_restoreImage_44 rfl ?_
        refine a_zald K (by assumption) (by show vp_in (nI i) (sN T ia); rw [n11]; exact vp_in_nI (by omega) (by omega)) dX3_restoreImage_45 ?_
        simp only [nI_clamp (show i < 2 ^ 31 by omega)]
        rw [v11, hb]
        refine a_if_eq K dX3_restoreImage_46 (tgt := 53) (by decide) (fun c_46 => absurd c_46 (by decide)) (fun c_46 => ?_)
        refine a_iconst K dX3_restoreImage_49 (v := 1) (by decide) ?_
        refine a_goto K dX3_restoreImage_50 (tgt := 54) (by decide) ?_
        refine a_iadd K dX3_restoreImage_54 ?_
        rw [show sI (wA T ha i (vp_nar .boolean (sA T ia i))) 200 a = nI ((List.range i).countP I) from hc]
        rw [nI_1]
        refine a_putI K fd_X3_42 (by assumption) rfl dX3_restoreImage_55 ?_
        refine a_iinc K dX3_restoreImage_58 (v := 1) rfl (by decide) (by decide) ?_
        refine a_goto K dX3_restoreImage_61 (tgt := 16) (by decide) ?_
        exact aw_locl rfl (ih (i + 1) _ _ (nI_1 i) (by omega) ((fT.st fA (fun _ z => Or.inr z)).st (frS_wI (by decide)) (fun _ z => Or.inl z)) (by rw [wI_at, List.range_succ, List.countP_append, List.countP_singleton, hb]; rfl) (fun k hk => by
          show sA (wA T ha i (vp_nar .boolean (sA T ia i))) ha k = _
          rw [sA_wA]
          by_cases e : k = i
          · rw [if_pos ⟨rfl, e⟩, hI9 i (by omega), nar01, e]
          · rw [if_neg (fun z => e z.2)]; exact hA k (by omega)) (fun F hF9 => by rw [sI_wI, if_neg (fun z => hF9 z.1)]; exact hF F hF9))
      | false =>
        refine a_iload_n K dX3_restoreImage_16 rfl ?_
        refine a_sipush K dX3_restoreImage_17 (v := 999) (by decide) ?_
        refine a_icmp_ge K dX3_restoreImage_20 (tgt := 64) (by decide) (fun c_20 => absurd c_20 (nI_ge (a := i) (b := 999) (by omega) (by omega))) (fun c_20 => ?_)
        first | refine a_aload_n K dX3_restoreImage_23 rfl ?_ | refine a_aload_nN K dX3_restoreImage_23 rfl ?_
        refine a_getRs K fd_X3_24 (by assumption) (Or.inr ⟨_, rfl⟩) (by assumption) dX3_restoreImage_24 ?_
        refine a_iload_n K dX3_restoreImage_27 rfl ?_
        first | refine a_aload_n K dX3_restoreImage_28 rfl ?_ | refine a_aload_nN K dX3_restoreImage_28 rfl ?_
        refine a_getRs K fd_X3_28 (by assumption) (Or.inr ⟨_, rfl⟩) (by assumption) dX3_restoreImage_29 ?_
        refine a_iload_n K dX3_restoreImage_32 rfl ?_
        refine a_zald K (by assumption) (by rw [n11]; exact vp_in_nI (by omega) (by omega)) dX3_restoreImage_33 ?_
        simp only [nI_clamp (show i < 2 ^ 31 by omega)]
        refine a_zast K (by assumption) (by rw [n10]; exact vp_in_nI (by omega) (by omega)) dX3_restoreImage_34 ?_
        simp only [nI_clamp (show i < 2 ^ 31 by omega)]
        have fA : frS T (wA T ha i (vp_nar .boolean (sA T ia i))) (fun b => b = ha) := frS_wA
        have o3b := fA.is o3
        have r5b : sR (wA T ha i (vp_nar .boolean (sA T ia i))) 196 a = some ia := r5
        have i11b := fA.is i11
        have n11b : sN (wA T ha i (vp_nar .boolean (sA T ia i))) ia = 999 := n11
        have v11 : sA (wA T ha i (vp_nar .boolean (sA T ia i))) ia i = if I i then 1 else 0 := by rw [sA_wA, if_neg (fun z => nh z.1)]; exact hI9 i (by omega)
        first | refine a_aload_n K dX3_restoreImage_35 rfl ?_ | refine a_aload_nN K dX3_restoreImage_35 rfl ?_
        refine a_dup K dX3_restoreImage_36 rfl ?_
        refine a_getI K fd_X3_42 (by assumption) (Or.inl rfl) dX3_restoreImage_37 ?_
        first | refine a_aload_n K dX3_restoreImage_40 rfl ?_ | refine a_aload_nN K dX3_restoreImage_40 rfl ?_
        refine a_getRs K fd_X3_28 (by assumption) (Or.inr ⟨_, rfl⟩) (by assumption) dX3_restoreImage_41 ?_
        refine a_iload_n K dX3_restoreImage_44 rfl ?_
        refine a_zald K (by assumption) (by show vp_in (nI i) (sN T ia); rw [n11]; exact vp_in_nI (by omega) (by omega)) dX3_restoreImage_45 ?_
        simp only [nI_clamp (show i < 2 ^ 31 by omega)]
        rw [v11, hb]
        refine a_if_eq K dX3_restoreImage_46 (tgt := 53) (by decide) (fun c_46 => ?_) (fun c_46 => absurd c_46 (by decide))
        refine a_iconst K dX3_restoreImage_53 (v := 0) (by decide) ?_
        refine a_iadd K dX3_restoreImage_54 ?_
        rw [show sI (wA T ha i (vp_nar .boolean (sA T ia i))) 200 a = nI ((List.range i).countP I) from hc]
        rw [Int32.add_zero]
        refine a_putI K fd_X3_42 (by assumption) rfl dX3_restoreImage_55 ?_
        refine a_iinc K dX3_restoreImage_58 (v := 1) rfl (by decide) (by decide) ?_
        refine a_goto K dX3_restoreImage_61 (tgt := 16) (by decide) ?_
        exact aw_locl rfl (ih (i + 1) _ _ (nI_1 i) (by omega) ((fT.st fA (fun _ z => Or.inr z)).st (frS_wI (by decide)) (fun _ z => Or.inl z)) (by rw [wI_at, List.range_succ, List.countP_append, List.countP_singleton, hb]; rfl) (fun k hk => by
          show sA (wA T ha i (vp_nar .boolean (sA T ia i))) ha k = _
          rw [sA_wA]
          by_cases e : k = i
          · rw [if_pos ⟨rfl, e⟩, hI9 i (by omega), nar01, e]
          · rw [if_neg (fun z => e z.2)]; exact hA k (by omega)) (fun F hF9 => by rw [sI_wI, if_neg (fun z => hF9 z.1)]; exact hF F hF9))
  first | refine a_aload_n K dX3_restoreImage_0 rfl ?_ | refine a_aload_nN K dX3_restoreImage_0 rfl ?_
  refine a_getI K fd_X3_34 (by assumption) (Or.inr rfl) dX3_restoreImage_1 ?_
  rw [h198]
  refine a_if_ne K dX3_restoreImage_4 (tgt := 9) (by decide) (fun c_4 => ?_) (fun c_4 => absurd c_4 (by decide))
  first | refine a_aload_n K dX3_restoreImage_9 rfl ?_ | refine a_aload_nN K dX3_restoreImage_9 rfl ?_
  refine a_iconst K dX3_restoreImage_10 (v := 0) (by decide) ?_
  refine a_putI K fd_X3_42 (by assumption) rfl dX3_restoreImage_11 ?_
  refine a_iconst K dX3_restoreImage_14 (v := 0) (by decide) ?_
  refine a_istore_n K dX3_restoreImage_15 (by decide) ?_
  exact aw_locl rfl (loop 999 0 _ (wI S 200 a 0) nI_0.symm (by omega) ((frS_wI (by decide)).mono (fun _ z => Or.inl z)) wI_at (fun k hk => absurd hk (Nat.not_lt_zero k)) (fun F hF => by rw [sI_wI, if_neg (fun z => hF z.1)]))
def bckP (P : PS) : PS := (P.1, pM P, pI P, pI P, pY P, pB P, pR P, pG P, pT P, pS P)
def bckF (P : PS) : Int32 × PS := if pY P then (nI (hcnt (pI P)), cloP (bckP P)) else (-1, P)
theorem RC_bck {S S2 : aw_S} {v ad ar : Nat → Nat} {PA : List (Nat × Nat)} {X : List Nat} {mb : Nat} {P : PS} (h : RC S v ad ar PA X mb P) (f0 : frS S S2 (fun b => b = v 6 ∨ b = v 10)) (e200 : sI S2 200 (v 6) = nI (hcnt (pI P))) (eA : ∀ k, k < 999 → sA S2 (v 10) k = if pI P k then 1 else 0) (eF : ∀ F, F ≠ 200 → sI S2 F (v 6) = sI S F (v 6)) : RC S2 v ad ar PA X mb (bckP P) ∧ keepX X S S2 := by
  have hL := h.L
  obtain ⟨m1, m2, m3, m4, m5, m6, m7⟩ := h.2.2.1
  have f : frS S S2 (Qk v [6, 10]) := f0.mono (fun b e => e.elim (fun z => ⟨6, by decide, z⟩) (fun z => ⟨10, by decide, z⟩))
  have no : ∀ i, i < 37 → i ≠ 6 ∧ i ≠ 10 → ¬ Qk v [6, 10] (v i) := fun i hi h5 => Qk_no hL (by decide) hi (by simp; omega)
  refine RC.gen (P2 := bckP P) h f (Qk37 (by decide)) (no 13 (by decide) (by decide)) (no 3 (by decide) (by decide)) ((f.2.2.2.2.2.2.2 _ (no 4 (by decide) (by decide))).1 _) ((f.2.2.2.2.2.2.2 _ (no 4 (by decide) (by decide))).1 _) rfl rfl (GrW.fr h.2.1 f (no 5 (by decide) (by decide)) rfl rfl rfl) ⟨(eF 199 (by decide)).trans m1, m2, e200, (eF 198 (by decide)).trans m4, fun i w hw => ?_, fun i hi => ?_, fun i hi => ?_⟩ (BuW.fr h.2.2.2.1 f (fun j hj => no _ (by omega) (by omega)) rfl) (ReW.fr h.2.2.2.2.1 f (no 18 (by decide) (by decide)) rfl) (TaW.fr h.2.2.2.2.2.2.1 f (no 0 (by decide) (by decide)) (no 1 (by decide) (by decide)) rfl) (h.2.2.2.2.2.2.2.1.fr f.fr (no 19 (by decide) (by decide)) (no 20 (by decide) (by decide))) h.2.2.2.2.2.2.2.2.1.2.1 h.2.2.2.2.2.2.2.2.1.2.2
  · obtain ⟨q1, q2, q3⟩ := m5 i w hw
    refine ⟨?_, ?_, ?_⟩
    · rw [(f.2.2.2.2.2.2.2 _ (no 7 (by decide) (by decide))).2.2]
      exact q1
    · rw [(f.2.2.2.2.2.2.2 _ (no 8 (by decide) (by decide))).2.1]
      exact q2
    · rw [(f.2.2.2.2.2.2.2 _ (no 9 (by decide) (by decide))).2.1]
      exact q3
  · refine ⟨eA i hi, ?_⟩
    rw [(f.2.2.2.2.2.2.2 _ (no 11 (by decide) (by decide))).2.1]
    exact (m6 i hi).2
  · exact ⟨(m7 i hi).2, (m7 i hi).2⟩
set_option maxHeartbeats 4000000 in
set_option maxRecDepth 100000 in
theorem c_back {S : aw_S} {v ad ar : Nat → Nat} {PA : List (Nat × Nat)} {X : List Nat} {mb : Nat} {P : PS} (h : RC S v ad ar PA X mb P) : aw_M yX10_back cX10_back 1 (some FieldType.int) 3 0 0 [.ref (v 4)] S (mutQ X v PA mb S (bckF P)) := by
  have hL := h.L
  by_cases hY : pY P = true
  · refine aw_enter (by decide +kernel) (Nat.le_of_ble_eq_true rfl) (fun g K EE => ?_)
    first | refine a_aload_n K dX10_back_0 rfl ?_ | refine a_aload_nN K dX10_back_0 rfl ?_
    refine a_getRs K fd_X10_46 (lw_i4 hL) (Or.inl ⟨_, rfl⟩) (lw_f646 hL) dX10_back_1 ?_
    refine a_invV K (m_X3_restoreImage_y (I := pI P) (lw_i6 hL) (lw_f195_6 hL) (lw_f196_6 hL) (lw_i10 hL) (lw_i11 hL) (lw_n10 hL) (lw_n11 hL) (fun z => absurd (lw_inj hL 11 6 (by decide) (by decide) z) (by decide)) (fun z => absurd (lw_inj hL 11 10 (by decide) (by decide) z) (by decide)) (by rw [h.2.2.1.2.2.2.1, if_pos hY]) (fun k hk => (h.2.2.1.2.2.2.2.2.1 k hk).2)) my_X3_restoreImage ml_X10_424 im_X3_restoreImage se_X3_restoreImage (ci := 3) (lw_i6 hL) (by decide) ⟨_, _, rfl⟩ rfl (by omega) (by omega) (by omega) rfl (Nat.le_of_ble_eq_true rfl) dX10_back_4 ?_
    intro r9 T hp9
    obtain ⟨rfl, f9, e1, e2, e3⟩ := hp9
    obtain ⟨h2, k2⟩ := RC_bck h f9 e1 e2 e3
    have hL := h2.L
    refine a_if_ne K dX10_back_7 (tgt := 12) (by decide) (fun c_7 => ?_) (fun c_7 => absurd c_7 (by decide))
    first | refine a_aload_n K dX10_back_12 rfl ?_ | refine a_aload_nN K dX10_back_12 rfl ?_
    refine a_invV K (m_X10_closeBuilders hL) my_X10_closeBuilders ml_X10_162 im_X10_closeBuilders se_X10_closeBuilders (ci := 10) (lw_i4 hL) (by decide) ⟨_, _, rfl⟩ rfl (by omega) (by omega) (by omega) rfl (Nat.le_of_ble_eq_true rfl) dX10_back_13 ?_
    intro r9 S9 hp9
    obtain ⟨rfl, rfl⟩ := hp9
    obtain ⟨h3, k3⟩ := RC_clo h2
    have hL := h3.L
    first | refine a_aload_n K dX10_back_16 rfl ?_ | refine a_aload_nN K dX10_back_16 rfl ?_
    refine a_getRs K fd_X10_46 (lw_i4 hL) (Or.inl ⟨_, rfl⟩) (lw_f646 hL) dX10_back_17 ?_
    refine a_invV K (m_X3_held (lw_i6 hL)) my_X3_held ml_X10_310 im_X3_held se_X3_held (ci := 3) (lw_i6 hL) (by decide) ⟨_, _, rfl⟩ rfl (by omega) (by omega) (by omega) rfl (Nat.le_of_ble_eq_true rfl) dX10_back_20 ?_
    intro r9 S9 hp9
    obtain ⟨rfl, hS9⟩ := hp9
    obtain rfl := hS9.symm
    rw [h3.2.2.1.2.2.1]
    exact a_iret K EE rfl (by omega) (by omega) dX10_back_23 (by unfold bckF; rw [if_pos hY]; exact ⟨ad, ar, rfl, h3, k2.tr k3⟩)
  · refine ((m_X10_back_n h.L (by rw [h.2.2.1.2.2.2.1, if_neg hY])).post (fun r S2 hp => ?_)).le (by decide) (Nat.le_refl _) (Nat.le_refl _)
    obtain ⟨rfl, rfl⟩ := hp
    unfold bckF
    rw [if_neg hY]
    exact ⟨ad, ar, rfl, h, h.X⟩
