/-! steps of a text -/
def keysW (w : Nat) : Nat := ([1, 1, 1, 2, 2, 0] : List Nat).getD w 0
def valsW (w : Nat) : Nat := ([1, 0, 1, 0, 1, 0] : List Nat).getD w 0
/-- a step's numbers: ks of them keys -/
def nmsR (L : List Int32) (ks : Nat) : Nat → Nat → Nat → ST → Nat × Option ST
  | 0, _, p, s => (p, some s)
  | n + 1, i, p, s => match (numR L (decide (ks < i)) p).2 with
    | none => ((numR L (decide (ks < i)) p).1, none)
    | some x => nmsR L ks n (i + 1) (numR L (decide (ks < i)) p).1 (setN s i x)
theorem nmsR_n {L : List Int32} {ks n i p : Nat} {s : ST} {b : Bool} (hb : decide (ks < i) = b) (h : (numR L b p).2 = none) : nmsR L ks (n + 1) i p s = ((numR L b p).1, none) := by rw [nmsR, hb, h]
theorem nmsR_s {L : List Int32} {ks n i p : Nat} {s : ST} {b : Bool} {x : Int32} (hb : decide (ks < i) = b) (h : (numR L b p).2 = some x) : nmsR L ks (n + 1) i p s = nmsR L ks n (i + 1) (numR L b p).1 (setN s i x) := by rw [nmsR, hb, h]
theorem nmsR_le (L : List Int32) (ks : Nat) : ∀ n i p s, p ≤ L.length → p ≤ (nmsR L ks n i p s).1 ∧ (nmsR L ks n i p s).1 ≤ L.length
  | 0, i, p, s, hp => ⟨Nat.le_refl _, hp⟩
  | n + 1, i, p, s, hp => by
    obtain ⟨a1, a2, a3⟩ := numR_le (less := decide (ks < i)) hp
    cases h : (numR L (decide (ks < i)) p).2 with
    | none =>
      rw [nmsR_n rfl h]
      exact ⟨a1, a2⟩
    | some x =>
      rw [nmsR_s rfl h]
      obtain ⟨b1, b2⟩ := nmsR_le L ks n (i + 1) _ (setN s i x) a2
      exact ⟨Nat.le_trans a1 b1, b2⟩
/-- a step from p on -/
def ostR (L : List Int32) (p : Nat) : Nat × Option ST := match (wrdR L p).2 with
  | none => ((wrdR L p).1, none)
  | some w => nmsR L (keysW w) (keysW w + valsW w) 1 (wrdR L p).1 (newS (nI w))
theorem ostR_n {L : List Int32} {p : Nat} (h : (wrdR L p).2 = none) : ostR L p = ((wrdR L p).1, none) := by rw [ostR, h]
theorem ostR_s {L : List Int32} {p w : Nat} (h : (wrdR L p).2 = some w) : ostR L p = nmsR L (keysW w) (keysW w + valsW w) 1 (wrdR L p).1 (newS (nI w)) := by rw [ostR, h]
theorem ostR_le {L : List Int32} {p : Nat} (hp : p ≤ L.length) : p ≤ (ostR L p).1 ∧ (ostR L p).1 ≤ L.length := by
  obtain ⟨a1, a2, a3⟩ := wrdR_le hp
  cases h : (wrdR L p).2 with
  | none =>
    rw [ostR_n h]
    exact ⟨a2, a1⟩
  | some w =>
    rw [ostR_s h]
    obtain ⟨b1, b2⟩ := nmsR_le L (keysW w) (keysW w + valsW w) 1 _ (newS (nI w)) a1
    exact ⟨by omega, b2⟩
theorem kv3 : ∀ w, w < 6 → keysW w + valsW w < 4 := by decide
theorem kvI : ∀ w, w < 6 → (([1, 1, 1, 2, 2, 0] : List Int32).getD w 0 = nI (keysW w) ∧ ([1, 0, 1, 0, 1, 0] : List Int32).getD w 0 = nI (valsW w)) := by decide
def Qd (v : Nat → Nat) (q : Nat × Nat) (b : Nat) : Prop := b = v 2 ∨ b = q.1 ∨ b = q.2
theorem RdS.frP {S S2 : aw_S} {v : Nat → Nat} {L : List Int32} {q : Nat × Nat} (h : RdS S v L) (f : frS S S2 (Qpg q)) (hv : ∀ k, k < 37 → q.1 ≠ v k ∧ q.2 ≠ v k) : RdS S2 v L := h.frQ f (fun z => z.elim (fun y => (hv 0 (by decide)).1 y.symm) (fun y => (hv 0 (by decide)).2 y.symm)) (fun z => z.elim (fun y => (hv 1 (by decide)).1 y.symm) (fun y => (hv 1 (by decide)).2 y.symm)) (fun z => z.elim (fun y => (hv 13 (by decide)).1 y.symm) (fun y => (hv 13 (by decide)).2 y.symm))
theorem at_pg {S S2 : aw_S} {v : Nat → Nat} {q : Nat × Nat} {p : Nat} (f : frS S S2 (Qpg q)) (hv : ∀ k, k < 37 → q.1 ≠ v k ∧ q.2 ≠ v k) (h : sI S 385 (v 2) = nI p) : sI S2 385 (v 2) = nI p := by
  rw [(f.2.2.2.2.2.2.2 _ (fun z => z.elim (fun y => (hv 2 (by decide)).1 y.symm) (fun y => (hv 2 (by decide)).2 y.symm))).1]
  exact h
theorem pg_rd {S S2 : aw_S} {v : Nat → Nat} {q : Nat × Nat} {g : List ST} (h : PgW S q g) (f : frS S S2 (fun b => b = v 2)) (hv : ∀ k, k < 37 → q.1 ≠ v k ∧ q.2 ≠ v k) : PgW S2 q g := h.frq f (hv 2 (by decide)).1 (hv 2 (by decide)).2
theorem PgW.clr {S : aw_S} {q : Nat × Nat} {p : List ST} (h : PgW S q p) : PgW (wI S 321 q.1 0) q [] ∧ frS S (wI S 321 q.1 0) (Qpg q) := by
  have f : frS S (wI S 321 q.1 0) (fun b => b = q.1) := frS_wI (by decide)
  obtain ⟨h1, h2, h3, h4, h5, h6, h7⟩ := h
  exact ⟨⟨f.is h1, by rw [f.2.2.1]; exact h2, f.is h3, by rw [f.2.2.2.1]; exact h4, wI_at, Nat.zero_le _, fun i s hs => absurd hs (by simp)⟩, f.mono (fun _ z => Or.inl z)⟩
theorem nI_one : nI 1 = 1 := by decide
set_option maxHeartbeats 4000000 in
set_option maxRecDepth 100000 in
theorem m_readStep {S : aw_S} {v : Nat → Nat} {L : List Int32} {q : Nat × Nat} (hv : ∀ k, k < 37 → q.1 ≠ v k ∧ q.2 ≠ v k) (h0 : RdS S v L) {p0 : Nat} (hp0 : p0 ≤ L.length) (ha0 : sI S 385 (v 2) = nI p0) {E : List ST} (hq0 : PgW S q E) (h16 : E.length < 16) : aw_M yX6_readStep cX6_readStep 7 (some FieldType.boolean) 5 0 0 [.ref (v 2), .ref q.1] S (fun r S2 => ((∃ s, (ostR L p0).2 = some s ∧ r = some (.int 1) ∧ PgW S2 q (E ++ [s])) ∨ ((ostR L p0).2 = none ∧ r = some (.int 0) ∧ ∃ E2, PgW S2 q E2)) ∧ frS S S2 (Qd v q) ∧ sI S2 385 (v 2) = nI (ostR L p0).1) := by
  have h240 := h0.2.2.1
  have h0L := h0.1
  have o60 := lw_i2 h0L
  have hwl := wrdR_le hp0
  have hw1 := hwl.1
  obtain ⟨F, hF⟩ : ∃ F, ostR L p0 = F := ⟨_, rfl⟩
  refine aw_enter (by decide +kernel) (Nat.le_of_ble_eq_true rfl) (fun g K EE => ?_)
  cases hw : (wrdR L p0).2 with
  | none =>
    first | refine a_aload_n K dX6_readStep_0 rfl ?_ | refine a_aload_nN K dX6_readStep_0 rfl ?_
    refine a_invV K (m_readWord h0 hp0 ha0) my_X6_readWord ml_X6_55 im_X6_readWord se_X6_readWord (ci := 6) (by assumption) (by decide) ⟨_, _, rfl⟩ rfl (by omega) (by omega) (by omega) rfl (Nat.le_of_ble_eq_true rfl) dX6_readStep_1 ?_
    intro r9 S1 hp9
    obtain ⟨rfl, f1, a1⟩ := hp9
    have hq := pg_rd hq0 f1 hv
    have h := h0.fr f1
    have f1 : frS S S1 (Qd v q) := f1.mono (fun _ z => Or.inl z)
    have hL := h.1
    have o6 := lw_i2 hL
    have r384 := lw_f384_2 hL
    have o9 := lw_i0 hL
    have o5 := hq.1
    rw [hw]
    refine a_istore_n K dX6_readStep_4 (by decide) ?_
    refine a_iload_n K dX6_readStep_5 rfl ?_
    refine a_if_lt K dX6_readStep_6 (tgt := 25) (by decide) (fun c_6 => ?_) (fun c_6 => absurd c_6 (by decide))
    refine a_iconst K dX6_readStep_25 (v := 0) (by decide) ?_
    exact a_iret K EE rfl (by omega) (by omega) dX6_readStep_26 (by rw [ostR_n hw]; exact ⟨Or.inr ⟨rfl, rfl, E, hq⟩, f1, a1⟩)
  | some w =>
    have hw6 := (hwl.2.2 w hw).1
    have hk4 := kv3 w hw6
    rw [hF] at EE
    obtain ⟨t1, t2, Zs⟩ := x_stat K
    have loop : ∀ (n i p : Nat) (x : Int32) (T : aw_S) (s : ST), x = nI i → i + n = keysW w + valsW w + 1 → 0 < i → p ≤ L.length → RdS T v L → PgW T q (E ++ [s]) → frS S T (Qd v q) → sI T 385 (v 2) = nI p → nmsR L (keysW w) n i p s = F → aw g 7 T 0 0 [(5, .int x), (4, .int (nI (keysW w + valsW w))), (3, .int (nI (keysW w))), (2, .int (nI w)), (1, .ref q.1), (0, .ref (v 2))] [] 50 := by
      intro n
      induction n with
      | zero =>
        intro i p x T s hx hn hi0 hp h hq f ha hF
        subst hx
        have hL := h.1
        have o6 := lw_i2 hL
        have r384 := lw_f384_2 hL
        have o9 := lw_i0 hL
        have o5 := hq.1
        have h240 := h.2.2.1
        refine a_iload K dX6_readStep_50 rfl ?_
        refine a_iload K dX6_readStep_52 rfl ?_
        refine a_icmp_gt K dX6_readStep_54 (tgt := 97) (by decide) (fun c_54 => ?_) (fun c_54 => absurd c_54 (fun z => z (nI_lt (a := keysW w + valsW w) (b := i) (by omega) (by omega))))
        refine a_iconst K dX6_readStep_97 (v := 1) (by decide) ?_
        exact a_iret K EE rfl (by omega) (by omega) dX6_readStep_98 (by have hF : (p, some s) = F := hF; rw [← hF]; exact ⟨Or.inl ⟨s, rfl, rfl, hq⟩, f, ha⟩)
      | succ n ih =>
        intro i p x T s hx hn hi0 hp h hq f ha hF
        subst hx
        have hL := h.1
        have o6 := lw_i2 hL
        have r384 := lw_f384_2 hL
        have o9 := lw_i0 hL
        have o5 := hq.1
        have h240 := h.2.2.1
        by_cases c : keysW w < i
        · have hb : decide (keysW w < i) = true := decide_eq_true c
          have hr := numR_le (less := true) hp
          cases h3 : (numR L true p).2 with
          | none =>
            refine a_iload K dX6_readStep_50 rfl ?_
            refine a_iload K dX6_readStep_52 rfl ?_
            refine a_icmp_gt K dX6_readStep_54 (tgt := 97) (by decide) (fun c_54 => absurd c_54 (Int32.not_lt.mpr (nI_le (a := i) (b := keysW w + valsW w) (by omega) (by omega)))) (fun c_54 => ?_)
            first | refine a_aload_n K dX6_readStep_57 rfl ?_ | refine a_aload_nN K dX6_readStep_57 rfl ?_
            refine a_iload K dX6_readStep_58 rfl ?_
            refine a_iload_n K dX6_readStep_60 rfl ?_
            refine a_icmp_le K dX6_readStep_61 (tgt := 68) (by decide) (fun c_61 => absurd c_61 (Int32.not_le.mpr (nI_lt (a := keysW w) (b := i) c (by omega)))) (fun c_61 => ?_)
            refine a_iconst K dX6_readStep_64 (v := 1) (by decide) ?_
            refine a_goto K dX6_readStep_65 (tgt := 69) (by decide) ?_
            refine a_invV K (m_readNumber_1 h (p := p) (by omega) ha) my_X6_readNumber ml_X6_39 im_X6_readNumber se_X6_readNumber (ci := 6) (by assumption) (by decide) ⟨_, _, rfl⟩ rfl (by omega) (by omega) (by omega) rfl (Nat.le_of_ble_eq_true rfl) dX6_readStep_69 ?_
            intro r9 T1 hp9
            obtain ⟨rfl, f1, a1⟩ := hp9
            have hq := pg_rd hq f1 hv
            have h := h.fr f1
            have f := f.st f1 (fun _ z => Or.inl z)
            have hL := h.1
            have o6 := lw_i2 hL
            have r384 := lw_f384_2 hL
            have o9 := lw_i0 hL
            have o5 := hq.1
            rw [h3]
            rw [show (Option.none : Option Int32).getD (-1000000) = -1000000 from rfl]
            refine a_istore K dX6_readStep_72 (by decide) ?_
            refine a_iload K dX6_readStep_74 rfl ?_
            refine a_ldc K kc_X6_43 dX6_readStep_76 ?_
            refine a_icmp_ne K dX6_readStep_78 (tgt := 83) (by decide) (fun c_78 => absurd c_78 (fun z => z rfl)) (fun c_78 => ?_)
            refine a_iconst K dX6_readStep_81 (v := 0) (by decide) ?_
            exact a_iret K EE rfl (by omega) (by omega) dX6_readStep_82 (by rw [← hF, nmsR_n hb h3]; exact ⟨Or.inr ⟨rfl, rfl, _, hq⟩, f, a1⟩)
          | some y =>
            have hr3 := (hr.2.2 y h3).2
            refine a_iload K dX6_readStep_50 rfl ?_
            refine a_iload K dX6_readStep_52 rfl ?_
            refine a_icmp_gt K dX6_readStep_54 (tgt := 97) (by decide) (fun c_54 => absurd c_54 (Int32.not_lt.mpr (nI_le (a := i) (b := keysW w + valsW w) (by omega) (by omega)))) (fun c_54 => ?_)
            first | refine a_aload_n K dX6_readStep_57 rfl ?_ | refine a_aload_nN K dX6_readStep_57 rfl ?_
            refine a_iload K dX6_readStep_58 rfl ?_
            refine a_iload_n K dX6_readStep_60 rfl ?_
            refine a_icmp_le K dX6_readStep_61 (tgt := 68) (by decide) (fun c_61 => absurd c_61 (Int32.not_le.mpr (nI_lt (a := keysW w) (b := i) c (by omega)))) (fun c_61 => ?_)
            refine a_iconst K dX6_readStep_64 (v := 1) (by decide) ?_
            refine a_goto K dX6_readStep_65 (tgt := 69) (by decide) ?_
            refine a_invV K (m_readNumber_1 h (p := p) (by omega) ha) my_X6_readNumber ml_X6_39 im_X6_readNumber se_X6_readNumber (ci := 6) (by assumption) (by decide) ⟨_, _, rfl⟩ rfl (by omega) (by omega) (by omega) rfl (Nat.le_of_ble_eq_true rfl) dX6_readStep_69 ?_
            intro r9 T1 hp9
            obtain ⟨rfl, f1, a1⟩ := hp9
            have hq := pg_rd hq f1 hv
            have h := h.fr f1
            have f := f.st f1 (fun _ z => Or.inl z)
            have hL := h.1
            have o6 := lw_i2 hL
            have r384 := lw_f384_2 hL
            have o9 := lw_i0 hL
            have o5 := hq.1
            rw [h3]
            rw [show (some y : Option Int32).getD (-1000000) = y from rfl]
            refine a_istore K dX6_readStep_72 (by decide) ?_
            refine a_iload K dX6_readStep_74 rfl ?_
            refine a_ldc K kc_X6_43 dX6_readStep_76 ?_
            refine a_icmp_ne K dX6_readStep_78 (tgt := 83) (by decide) (fun c_78 => ?_) (fun c_78 => absurd c_78 (okV.ne hr3.1))
            first | refine a_aload_n K dX6_readStep_83 rfl ?_ | refine a_aload_nN K dX6_readStep_83 rfl ?_
            refine a_iload K dX6_readStep_84 rfl ?_
            refine a_iload K dX6_readStep_86 rfl ?_
            refine a_invV K (m_setNumber hq hi0 (by omega) (x := y)) my_X5_setNumber ml_X6_69 im_X5_setNumber se_X5_setNumber (ci := 5) (by assumption) (by decide) ⟨_, _, rfl⟩ rfl (by omega) (by omega) (by omega) rfl (Nat.le_of_ble_eq_true rfl) dX6_readStep_88 ?_
            intro r9 T2 hp9
            obtain ⟨rfl, hq2, f2⟩ := hp9
            have h := h.frP f2 hv
            have f := f.st f2 (fun _ z => Or.inr z)
            refine a_iinc K dX6_readStep_91 (v := 1) rfl (by decide) (by decide) ?_
            refine a_goto K dX6_readStep_94 (tgt := 50) (by decide) ?_
            exact aw_locl rfl (ih (i + 1) (numR L true p).1 _ T2 (setN s i y) (nI_1 i) (by omega) (by omega) hr.2.1 h hq2 f (at_pg f2 hv a1) (by rw [← hF, nmsR_s hb h3]))
        · have hb : decide (keysW w < i) = false := decide_eq_false c
          have hr := numR_le (less := false) hp
          cases h3 : (numR L false p).2 with
          | none =>
            refine a_iload K dX6_readStep_50 rfl ?_
            refine a_iload K dX6_readStep_52 rfl ?_
            refine a_icmp_gt K dX6_readStep_54 (tgt := 97) (by decide) (fun c_54 => absurd c_54 (Int32.not_lt.mpr (nI_le (a := i) (b := keysW w + valsW w) (by omega) (by omega)))) (fun c_54 => ?_)
            first | refine a_aload_n K dX6_readStep_57 rfl ?_ | refine a_aload_nN K dX6_readStep_57 rfl ?_
            refine a_iload K dX6_readStep_58 rfl ?_
            refine a_iload_n K dX6_readStep_60 rfl ?_
            refine a_icmp_le K dX6_readStep_61 (tgt := 68) (by decide) (fun c_61 => ?_) (fun c_61 => absurd c_61 (fun z => z (nI_le (a := i) (b := keysW w) (by omega) (by omega))))
            refine a_iconst K dX6_readStep_68 (v := 0) (by decide) ?_
            refine a_invV K (m_readNumber_0 h (p := p) (by omega) ha) my_X6_readNumber ml_X6_39 im_X6_readNumber se_X6_readNumber (ci := 6) (by assumption) (by decide) ⟨_, _, rfl⟩ rfl (by omega) (by omega) (by omega) rfl (Nat.le_of_ble_eq_true rfl) dX6_readStep_69 ?_
            intro r9 T1 hp9
            obtain ⟨rfl, f1, a1⟩ := hp9
            have hq := pg_rd hq f1 hv
            have h := h.fr f1
            have f := f.st f1 (fun _ z => Or.inl z)
            have hL := h.1
            have o6 := lw_i2 hL
            have r384 := lw_f384_2 hL
            have o9 := lw_i0 hL
            have o5 := hq.1
            rw [h3]
            rw [show (Option.none : Option Int32).getD (-1000000) = -1000000 from rfl]
            refine a_istore K dX6_readStep_72 (by decide) ?_
            refine a_iload K dX6_readStep_74 rfl ?_
            refine a_ldc K kc_X6_43 dX6_readStep_76 ?_
            refine a_icmp_ne K dX6_readStep_78 (tgt := 83) (by decide) (fun c_78 => absurd c_78 (fun z => z rfl)) (fun c_78 => ?_)
            refine a_iconst K dX6_readStep_81 (v := 0) (by decide) ?_
            exact a_iret K EE rfl (by omega) (by omega) dX6_readStep_82 (by rw [← hF, nmsR_n hb h3]; exact ⟨Or.inr ⟨rfl, rfl, _, hq⟩, f, a1⟩)
          | some y =>
            have hr3 := (hr.2.2 y h3).2
            refine a_iload K dX6_readStep_50 rfl ?_
            refine a_iload K dX6_readStep_52 rfl ?_
            refine a_icmp_gt K dX6_readStep_54 (tgt := 97) (by decide) (fun c_54 => absurd c_54 (Int32.not_lt.mpr (nI_le (a := i) (b := keysW w + valsW w) (by omega) (by omega)))) (fun c_54 => ?_)
            first | refine a_aload_n K dX6_readStep_57 rfl ?_ | refine a_aload_nN K dX6_readStep_57 rfl ?_
            refine a_iload K dX6_readStep_58 rfl ?_
            refine a_iload_n K dX6_readStep_60 rfl ?_
            refine a_icmp_le K dX6_readStep_61 (tgt := 68) (by decide) (fun c_61 => ?_) (fun c_61 => absurd c_61 (fun z => z (nI_le (a := i) (b := keysW w) (by omega) (by omega))))
            refine a_iconst K dX6_readStep_68 (v := 0) (by decide) ?_
            refine a_invV K (m_readNumber_0 h (p := p) (by omega) ha) my_X6_readNumber ml_X6_39 im_X6_readNumber se_X6_readNumber (ci := 6) (by assumption) (by decide) ⟨_, _, rfl⟩ rfl (by omega) (by omega) (by omega) rfl (Nat.le_of_ble_eq_true rfl) dX6_readStep_69 ?_
            intro r9 T1 hp9
            obtain ⟨rfl, f1, a1⟩ := hp9
            have hq := pg_rd hq f1 hv
            have h := h.fr f1
            have f := f.st f1 (fun _ z => Or.inl z)
            have hL := h.1
            have o6 := lw_i2 hL
            have r384 := lw_f384_2 hL
            have o9 := lw_i0 hL
            have o5 := hq.1
            rw [h3]
            rw [show (some y : Option Int32).getD (-1000000) = y from rfl]
            refine a_istore K dX6_readStep_72 (by decide) ?_
            refine a_iload K dX6_readStep_74 rfl ?_
            refine a_ldc K kc_X6_43 dX6_readStep_76 ?_
            refine a_icmp_ne K dX6_readStep_78 (tgt := 83) (by decide) (fun c_78 => ?_) (fun c_78 => absurd c_78 (okV.ne hr3.1))
            first | refine a_aload_n K dX6_readStep_83 rfl ?_ | refine a_aload_nN K dX6_readStep_83 rfl ?_
            refine a_iload K dX6_readStep_84 rfl ?_
            refine a_iload K dX6_readStep_86 rfl ?_
            refine a_invV K (m_setNumber hq hi0 (by omega) (x := y)) my_X5_setNumber ml_X6_69 im_X5_setNumber se_X5_setNumber (ci := 5) (by assumption) (by decide) ⟨_, _, rfl⟩ rfl (by omega) (by omega) (by omega) rfl (Nat.le_of_ble_eq_true rfl) dX6_readStep_88 ?_
            intro r9 T2 hp9
            obtain ⟨rfl, hq2, f2⟩ := hp9
            have h := h.frP f2 hv
            have f := f.st f2 (fun _ z => Or.inr z)
            refine a_iinc K dX6_readStep_91 (v := 1) rfl (by decide) (by decide) ?_
            refine a_goto K dX6_readStep_94 (tgt := 50) (by decide) ?_
            exact aw_locl rfl (ih (i + 1) (numR L false p).1 _ T2 (setN s i y) (nI_1 i) (by omega) (by omega) hr.2.1 h hq2 f (at_pg f2 hv a1) (by rw [← hF, nmsR_s hb h3]))
    first | refine a_aload_n K dX6_readStep_0 rfl ?_ | refine a_aload_nN K dX6_readStep_0 rfl ?_
    refine a_invV K (m_readWord h0 hp0 ha0) my_X6_readWord ml_X6_55 im_X6_readWord se_X6_readWord (ci := 6) (by assumption) (by decide) ⟨_, _, rfl⟩ rfl (by omega) (by omega) (by omega) rfl (Nat.le_of_ble_eq_true rfl) dX6_readStep_1 ?_
    intro r9 S1 hp9
    obtain ⟨rfl, f1, a1⟩ := hp9
    have hq := pg_rd hq0 f1 hv
    have h := h0.fr f1
    have f1 : frS S S1 (Qd v q) := f1.mono (fun _ z => Or.inl z)
    have hL := h.1
    have o6 := lw_i2 hL
    have r384 := lw_f384_2 hL
    have o9 := lw_i0 hL
    have o5 := hq.1
    rw [hw]
    rw [show (some w : Option Nat).elim (-1 : Int32) nI = nI w from rfl]
    refine a_istore_n K dX6_readStep_4 (by decide) ?_
    refine a_iload_n K dX6_readStep_5 rfl ?_
    refine a_if_lt K dX6_readStep_6 (tgt := 25) (by decide) (fun c_6 => absurd c_6 (nI_pos (n := w) (by omega))) (fun c_6 => ?_)
    refine a_iload_n K dX6_readStep_9 rfl ?_
    refine x_getsN K Zs (fun _ _ _ h => h.1) (fun _ _ _ h => h.1.2.2.2.1) dX6_readStep_10 ?_
    refine x_tlen K Zs (fun _ _ _ h => h.2.1) (v := 6) rfl dX6_readStep_13 ?_
    refine a_icmp_ge K dX6_readStep_14 (tgt := 25) (by decide) (fun c_14 => absurd c_14 (nI_ge (a := w) (b := 6) hw6 (by decide))) (fun c_14 => ?_)
    refine a_iload_n K dX6_readStep_17 rfl ?_
    refine x_getsN K Zs (fun _ _ _ h => h.2.2.1) (fun _ _ _ h => h.1.2.2.2.2.1) dX6_readStep_18 ?_
    refine x_tlen K Zs (fun _ _ _ h => h.2.2.2) (v := 6) rfl dX6_readStep_21 ?_
    refine a_icmp_lt K dX6_readStep_22 (tgt := 27) (by decide) (fun c_22 => ?_) (fun c_22 => absurd c_22 (fun z => z (nI_lt (a := w) (b := 6) hw6 (by decide))))
    first | refine a_aload_n K dX6_readStep_27 rfl ?_ | refine a_aload_nN K dX6_readStep_27 rfl ?_
    refine a_iload_n K dX6_readStep_28 rfl ?_
    refine a_invV K (m_append hq h16 (w := nI w)) my_X5_append ml_X6_66 im_X5_append se_X5_append (ci := 5) (by assumption) (by decide) ⟨_, _, rfl⟩ rfl (by omega) (by omega) (by omega) rfl (Nat.le_of_ble_eq_true rfl) dX6_readStep_29 ?_
    intro r9 S2 hp9
    obtain ⟨rfl, hq2, f2⟩ := hp9
    have h := h.frP f2 hv
    have hq := hq2
    have hL := h.1
    have o6 := lw_i2 hL
    have r384 := lw_f384_2 hL
    have o9 := lw_i0 hL
    have o5 := hq.1
    refine x_getsN K Zs (fun _ _ _ h => h.1) (fun _ _ _ h => h.1.2.2.2.1) dX6_readStep_32 ?_
    refine a_iload_n K dX6_readStep_35 rfl ?_
    refine x_ti K Zs (v := .int (nI (keysW w))) (fun _ _ _ h => h.2.1) (x_vn hw6 (by decide)) (by rw [nI_clamp (by omega)]; exact congrArg Value.int (kvI w hw6).1) dX6_readStep_36 ?_
    refine a_istore_n K dX6_readStep_37 (by decide) ?_
    refine a_iload_n K dX6_readStep_38 rfl ?_
    refine x_getsN K Zs (fun _ _ _ h => h.2.2.1) (fun _ _ _ h => h.1.2.2.2.2.1) dX6_readStep_39 ?_
    refine a_iload_n K dX6_readStep_42 rfl ?_
    refine x_ti K Zs (v := .int (nI (valsW w))) (fun _ _ _ h => h.2.2.2) (x_vn hw6 (by decide)) (by rw [nI_clamp (by omega)]; exact congrArg Value.int (kvI w hw6).2) dX6_readStep_43 ?_
    refine a_iadd K dX6_readStep_44 ?_
    rw [nI_add]
    refine a_istore K dX6_readStep_45 (by decide) ?_
    refine a_iconst K dX6_readStep_47 (v := 1) (by decide) ?_
    refine a_istore K dX6_readStep_48 (by decide) ?_
    exact aw_locl rfl (loop (keysW w + valsW w) 1 (wrdR L p0).1 _ S2 (newS (nI w)) nI_one.symm (by omega) (by decide) hw1 h hq2 ((f1.st f2 (fun _ z => Or.inr z))) (at_pg f2 hv a1) (by rw [← hF, ostR_s hw]))
/-- steps from p on, E before: the fault, the steps -/
def stsR (L : List Int32) : Nat → Nat → List ST → Option Nat × List ST
  | 0, p, E => (some p, E)
  | n + 1, p, E => match (ostR L p).2 with
    | none => (some (ostR L p).1, E)
    | some s => if L.length ≤ skB L (ostR L p).1 then (none, E ++ [s]) else if n = 0 then (some (skB L (ostR L p).1), E ++ [s]) else if chr L (skB L (ostR L p).1) = 59 then stsR L n (skB L (ostR L p).1 + 1) (E ++ [s]) else (some (skB L (ostR L p).1), E ++ [s])
theorem stsR_f {L : List Int32} {n p : Nat} {E : List ST} (h : (ostR L p).2 = none) : stsR L (n + 1) p E = (some (ostR L p).1, E) := by rw [stsR, h]
theorem stsR_s {L : List Int32} {n p : Nat} {E : List ST} {s : ST} (h : (ostR L p).2 = some s) : stsR L (n + 1) p E = if L.length ≤ skB L (ostR L p).1 then (none, E ++ [s]) else if n = 0 then (some (skB L (ostR L p).1), E ++ [s]) else if chr L (skB L (ostR L p).1) = 59 then stsR L n (skB L (ostR L p).1 + 1) (E ++ [s]) else (some (skB L (ostR L p).1), E ++ [s]) := by rw [stsR, h]
def redP (L : List Int32) : Option Nat × List ST := stsR L 16 0 []
theorem Qd.frR {S S2 : aw_S} {v : Nat → Nat} {L : List Int32} {q : Nat × Nat} (h : RdS S v L) (f : frS S S2 (Qd v q)) (hv : ∀ k, k < 37 → q.1 ≠ v k ∧ q.2 ≠ v k) : RdS S2 v L := h.frQ f (fun z => z.elim (vq2 h.1 (by decide) (by decide)) (fun z => z.elim (fun y => (hv 0 (by decide)).1 y.symm) (fun y => (hv 0 (by decide)).2 y.symm))) (fun z => z.elim (vq2 h.1 (by decide) (by decide)) (fun z => z.elim (fun y => (hv 1 (by decide)).1 y.symm) (fun y => (hv 1 (by decide)).2 y.symm))) (fun z => z.elim (vq2 h.1 (by decide) (by decide)) (fun z => z.elim (fun y => (hv 13 (by decide)).1 y.symm) (fun y => (hv 13 (by decide)).2 y.symm)))
set_option maxHeartbeats 4000000 in
set_option maxRecDepth 100000 in
theorem m_readSteps {S : aw_S} {v : Nat → Nat} {L : List Int32} {q : Nat × Nat} (hv : ∀ k, k < 37 → q.1 ≠ v k ∧ q.2 ≠ v k) (h0 : RdS S v L) {E0 : List ST} (hq0 : PgW S q E0) : aw_M yX6_readSteps cX6_readSteps 3 (some FieldType.int) 6 0 0 [.ref (v 2), .ref q.1] S (fun r S2 => r = some (.int (fltV (redP L).1)) ∧ (∃ E2, PgW S2 q E2 ∧ ((redP L).1 = none → E2 = (redP L).2)) ∧ frS S S2 (Qd v q)) := by
  have o50 := hq0.1
  have h240 := h0.2.2.1
  have hL0 := h0.1
  have o60 := lw_i2 hL0
  obtain ⟨F, hF⟩ : ∃ F, redP L = F := ⟨_, rfl⟩
  rw [hF]
  refine aw_enter (by decide +kernel) (Nat.le_of_ble_eq_true rfl) (fun g K EE => ?_)
  have loop : ∀ (n i p : Nat) (x : Int32) (T : aw_S) (E : List ST), x = nI i → i + n = 17 → E.length + 1 = i → p ≤ L.length → RdS T v L → PgW T q E → frS S T (Qd v q) → sI T 385 (v 2) = nI p → stsR L n p E = F → aw g 3 T 0 0 [(2, .int x), (1, .ref q.1), (0, .ref (v 2))] [] 11 := by
    intro n
    induction n with
    | zero =>
      intro i p x T E hx hn hi hp h hq f ha hF
      subst hx
      have hL := h.1
      have o6 := lw_i2 hL
      have r384 := lw_f384_2 hL
      have o9 := lw_i0 hL
      have o5 := hq.1
      have h240 := h.2.2.1
      refine a_iload_n K dX6_readSteps_11 rfl ?_
      refine a_bipush K dX6_readSteps_12 (v := 16) (by decide) ?_
      refine a_icmp_gt K dX6_readSteps_14 (tgt := 69) (by decide) (fun c_14 => ?_) (fun c_14 => absurd c_14 (fun z => z (nI_lt (a := 16) (b := i) (by omega) (by omega))))
      first | refine a_aload_n K dX6_readSteps_69 rfl ?_ | refine a_aload_nN K dX6_readSteps_69 rfl ?_
      refine a_getI K fd_X6_20 (by assumption) (Or.inl rfl) dX6_readSteps_70 ?_
      rw [ha]
      exact a_iret K EE rfl (by omega) (by omega) dX6_readSteps_73 (by rw [← hF]; exact ⟨rfl, ⟨E, hq, fun z => absurd z (by simp [stsR])⟩, f⟩)
    | succ n ih =>
      intro i p x T E hx hn hi hp h hq f ha hF
      subst hx
      have hL := h.1
      have o6 := lw_i2 hL
      have r384 := lw_f384_2 hL
      have o9 := lw_i0 hL
      have o5 := hq.1
      have h240 := h.2.2.1
      have b1 := (ostR_le hp).2
      cases hx9 : (ostR L p).2 with
      | none =>
        refine a_iload_n K dX6_readSteps_11 rfl ?_
        refine a_bipush K dX6_readSteps_12 (v := 16) (by decide) ?_
        refine a_icmp_gt K dX6_readSteps_14 (tgt := 69) (by decide) (fun c_14 => absurd c_14 (Int32.not_lt.mpr (nI_le (a := i) (b := 16) (by omega) (by omega)))) (fun c_14 => ?_)
        first | refine a_aload_n K dX6_readSteps_17 rfl ?_ | refine a_aload_nN K dX6_readSteps_17 rfl ?_
        first | refine a_aload_n K dX6_readSteps_18 rfl ?_ | refine a_aload_nN K dX6_readSteps_18 rfl ?_
        refine a_invV K (m_readStep hv h hp ha hq (by omega)) my_X6_readStep ml_X6_51 im_X6_readStep se_X6_readStep (ci := 6) (by assumption) (by decide) ⟨_, _, rfl⟩ rfl (by omega) (by omega) (by omega) rfl (Nat.le_of_ble_eq_true rfl) dX6_readSteps_19 ?_
        intro r9 T1 hp9
        obtain ⟨hb9, f1, a1⟩ := hp9
        obtain ⟨rfl, E2, hq⟩ : r9 = some (.int 0) ∧ ∃ E2, PgW T1 q E2 := hb9.elim (fun ⟨y, hy, _⟩ => absurd (hx9.symm.trans hy) (by simp)) (fun z => z.2)
        have h := Qd.frR h f1 hv
        have f := f.st f1 (fun _ z => z)
        have hL := h.1
        have o6 := lw_i2 hL
        have r384 := lw_f384_2 hL
        have o9 := lw_i0 hL
        have o5 := hq.1
        refine a_if_ne K dX6_readSteps_22 (tgt := 30) (by decide) (fun c_22 => absurd c_22 (fun z => z rfl)) (fun c_22 => ?_)
        first | refine a_aload_n K dX6_readSteps_25 rfl ?_ | refine a_aload_nN K dX6_readSteps_25 rfl ?_
        refine a_getI K fd_X6_20 (by assumption) (Or.inl rfl) dX6_readSteps_26 ?_
        rw [a1]
        exact a_iret K EE rfl (by omega) (by omega) dX6_readSteps_29 (by rw [← hF, stsR_f hx9]; exact ⟨rfl, ⟨E2, hq, fun z => absurd z (by simp)⟩, f⟩)
      | some s =>
        have hsk := skB_le b1
        by_cases he : L.length ≤ skB L (ostR L p).1
        · refine a_iload_n K dX6_readSteps_11 rfl ?_
          refine a_bipush K dX6_readSteps_12 (v := 16) (by decide) ?_
          refine a_icmp_gt K dX6_readSteps_14 (tgt := 69) (by decide) (fun c_14 => absurd c_14 (Int32.not_lt.mpr (nI_le (a := i) (b := 16) (by omega) (by omega)))) (fun c_14 => ?_)
          first | refine a_aload_n K dX6_readSteps_17 rfl ?_ | refine a_aload_nN K dX6_readSteps_17 rfl ?_
          first | refine a_aload_n K dX6_readSteps_18 rfl ?_ | refine a_aload_nN K dX6_readSteps_18 rfl ?_
          refine a_invV K (m_readStep hv h hp ha hq (by omega)) my_X6_readStep ml_X6_51 im_X6_readStep se_X6_readStep (ci := 6) (by assumption) (by decide) ⟨_, _, rfl⟩ rfl (by omega) (by omega) (by omega) rfl (Nat.le_of_ble_eq_true rfl) dX6_readSteps_19 ?_
          intro r9 T1 hp9
          obtain ⟨hb9, f1, a1⟩ := hp9
          obtain ⟨rfl, hq⟩ : r9 = some (.int 1) ∧ PgW T1 q (E ++ [s]) := hb9.elim (fun ⟨y, hy, e9, hRy⟩ => by rw [hx9] at hy; cases hy; exact ⟨e9, hRy⟩) (fun z => absurd (hx9.symm.trans z.1) (by simp))
          have h := Qd.frR h f1 hv
          have f := f.st f1 (fun _ z => z)
          have hL := h.1
          have o6 := lw_i2 hL
          have r384 := lw_f384_2 hL
          have o9 := lw_i0 hL
          have o5 := hq.1
          refine a_if_ne K dX6_readSteps_22 (tgt := 30) (by decide) (fun c_22 => ?_) (fun c_22 => absurd c_22 (by decide))
          first | refine a_aload_n K dX6_readSteps_30 rfl ?_ | refine a_aload_nN K dX6_readSteps_30 rfl ?_
          refine a_invV K (m_skipBlanks h (p := (ostR L p).1) (by omega) a1) my_X6_skipBlanks ml_X6_24 im_X6_skipBlanks se_X6_skipBlanks (ci := 6) (by assumption) (by decide) ⟨_, _, rfl⟩ rfl (by omega) (by omega) (by omega) rfl (Nat.le_of_ble_eq_true rfl) dX6_readSteps_31 ?_
          intro r9 T2 hp9
          obtain ⟨rfl, f2, a2⟩ := hp9
          have hq := pg_rd hq f2 hv
          have h := h.fr f2
          have f := f.st f2 (fun _ z => Or.inl z)
          have hL := h.1
          have o6 := lw_i2 hL
          have r384 := lw_f384_2 hL
          have o9 := lw_i0 hL
          have o5 := hq.1
          first | refine a_aload_n K dX6_readSteps_34 rfl ?_ | refine a_aload_nN K dX6_readSteps_34 rfl ?_
          refine a_invV K (m_hasEnded h (p := skB L (ostR L p).1) (by omega) a2) my_X6_hasEnded ml_X6_27 im_X6_hasEnded se_X6_hasEnded (ci := 6) (by assumption) (by decide) ⟨_, _, rfl⟩ rfl (by omega) (by omega) (by omega) rfl (Nat.le_of_ble_eq_true rfl) dX6_readSteps_35 ?_
          intro r9 S9 hp9
          obtain ⟨hS9, hb9⟩ := hp9
          obtain rfl := hS9.symm
          obtain rfl : r9 = some (.int 1) := hb9.elim (fun q => q.2) (fun q => absurd he q.1)
          refine a_if_eq K dX6_readSteps_38 (tgt := 43) (by decide) (fun c_38 => absurd c_38 (fun z => absurd z (by decide))) (fun c_38 => ?_)
          refine a_iconst K dX6_readSteps_41 (v := -1) (by decide) ?_
          exact a_iret K EE rfl (by omega) (by omega) dX6_readSteps_42 (by rw [← hF, stsR_s hx9, if_pos he]; exact ⟨rfl, ⟨_, hq, fun _ => rfl⟩, f⟩)
        · by_cases h16 : n = 0
          · refine a_iload_n K dX6_readSteps_11 rfl ?_
            refine a_bipush K dX6_readSteps_12 (v := 16) (by decide) ?_
            refine a_icmp_gt K dX6_readSteps_14 (tgt := 69) (by decide) (fun c_14 => absurd c_14 (Int32.not_lt.mpr (nI_le (a := i) (b := 16) (by omega) (by omega)))) (fun c_14 => ?_)
            first | refine a_aload_n K dX6_readSteps_17 rfl ?_ | refine a_aload_nN K dX6_readSteps_17 rfl ?_
            first | refine a_aload_n K dX6_readSteps_18 rfl ?_ | refine a_aload_nN K dX6_readSteps_18 rfl ?_
            refine a_invV K (m_readStep hv h hp ha hq (by omega)) my_X6_readStep ml_X6_51 im_X6_readStep se_X6_readStep (ci := 6) (by assumption) (by decide) ⟨_, _, rfl⟩ rfl (by omega) (by omega) (by omega) rfl (Nat.le_of_ble_eq_true rfl) dX6_readSteps_19 ?_
            intro r9 T1 hp9
            obtain ⟨hb9, f1, a1⟩ := hp9
            obtain ⟨rfl, hq⟩ : r9 = some (.int 1) ∧ PgW T1 q (E ++ [s]) := hb9.elim (fun ⟨y, hy, e9, hRy⟩ => by rw [hx9] at hy; cases hy; exact ⟨e9, hRy⟩) (fun z => absurd (hx9.symm.trans z.1) (by simp))
            have h := Qd.frR h f1 hv
            have f := f.st f1 (fun _ z => z)
            have hL := h.1
            have o6 := lw_i2 hL
            have r384 := lw_f384_2 hL
            have o9 := lw_i0 hL
            have o5 := hq.1
            refine a_if_ne K dX6_readSteps_22 (tgt := 30) (by decide) (fun c_22 => ?_) (fun c_22 => absurd c_22 (by decide))
            first | refine a_aload_n K dX6_readSteps_30 rfl ?_ | refine a_aload_nN K dX6_readSteps_30 rfl ?_
            refine a_invV K (m_skipBlanks h (p := (ostR L p).1) (by omega) a1) my_X6_skipBlanks ml_X6_24 im_X6_skipBlanks se_X6_skipBlanks (ci := 6) (by assumption) (by decide) ⟨_, _, rfl⟩ rfl (by omega) (by omega) (by omega) rfl (Nat.le_of_ble_eq_true rfl) dX6_readSteps_31 ?_
            intro r9 T2 hp9
            obtain ⟨rfl, f2, a2⟩ := hp9
            have hq := pg_rd hq f2 hv
            have h := h.fr f2
            have f := f.st f2 (fun _ z => Or.inl z)
            have hL := h.1
            have o6 := lw_i2 hL
            have r384 := lw_f384_2 hL
            have o9 := lw_i0 hL
            have o5 := hq.1
            first | refine a_aload_n K dX6_readSteps_34 rfl ?_ | refine a_aload_nN K dX6_readSteps_34 rfl ?_
            refine a_invV K (m_hasEnded h (p := skB L (ostR L p).1) (by omega) a2) my_X6_hasEnded ml_X6_27 im_X6_hasEnded se_X6_hasEnded (ci := 6) (by assumption) (by decide) ⟨_, _, rfl⟩ rfl (by omega) (by omega) (by omega) rfl (Nat.le_of_ble_eq_true rfl) dX6_readSteps_35 ?_
            intro r9 S9 hp9
            obtain ⟨hS9, hb9⟩ := hp9
            obtain rfl := hS9.symm
            obtain rfl : r9 = some (.int 0) := hb9.elim (fun q => absurd q.1 he) (fun q => q.2)
            refine a_if_eq K dX6_readSteps_38 (tgt := 43) (by decide) (fun c_38 => ?_) (fun c_38 => absurd c_38 (by decide))
            refine a_iload_n K dX6_readSteps_43 rfl ?_
            refine a_bipush K dX6_readSteps_44 (v := 16) (by decide) ?_
            refine a_icmp_eq K dX6_readSteps_46 (tgt := 58) (by decide) (fun c_46 => ?_) (fun c_46 => absurd c_46 (fun z => z (congrArg nI (show i = 16 by omega))))
            first | refine a_aload_n K dX6_readSteps_58 rfl ?_ | refine a_aload_nN K dX6_readSteps_58 rfl ?_
            refine a_getI K fd_X6_20 (by assumption) (Or.inl rfl) dX6_readSteps_59 ?_
            rw [a2]
            exact a_iret K EE rfl (by omega) (by omega) dX6_readSteps_62 (by rw [← hF, stsR_s hx9, if_neg he, if_pos h16]; exact ⟨rfl, ⟨_, hq, fun z => absurd z (by simp)⟩, f⟩)
          · by_cases hm : chr L (skB L (ostR L p).1) = 59
            · refine a_iload_n K dX6_readSteps_11 rfl ?_
              refine a_bipush K dX6_readSteps_12 (v := 16) (by decide) ?_
              refine a_icmp_gt K dX6_readSteps_14 (tgt := 69) (by decide) (fun c_14 => absurd c_14 (Int32.not_lt.mpr (nI_le (a := i) (b := 16) (by omega) (by omega)))) (fun c_14 => ?_)
              first | refine a_aload_n K dX6_readSteps_17 rfl ?_ | refine a_aload_nN K dX6_readSteps_17 rfl ?_
              first | refine a_aload_n K dX6_readSteps_18 rfl ?_ | refine a_aload_nN K dX6_readSteps_18 rfl ?_
              refine a_invV K (m_readStep hv h hp ha hq (by omega)) my_X6_readStep ml_X6_51 im_X6_readStep se_X6_readStep (ci := 6) (by assumption) (by decide) ⟨_, _, rfl⟩ rfl (by omega) (by omega) (by omega) rfl (Nat.le_of_ble_eq_true rfl) dX6_readSteps_19 ?_
              intro r9 T1 hp9
              obtain ⟨hb9, f1, a1⟩ := hp9
              obtain ⟨rfl, hq⟩ : r9 = some (.int 1) ∧ PgW T1 q (E ++ [s]) := hb9.elim (fun ⟨y, hy, e9, hRy⟩ => by rw [hx9] at hy; cases hy; exact ⟨e9, hRy⟩) (fun z => absurd (hx9.symm.trans z.1) (by simp))
              have h := Qd.frR h f1 hv
              have f := f.st f1 (fun _ z => z)
              have hL := h.1
              have o6 := lw_i2 hL
              have r384 := lw_f384_2 hL
              have o9 := lw_i0 hL
              have o5 := hq.1
              refine a_if_ne K dX6_readSteps_22 (tgt := 30) (by decide) (fun c_22 => ?_) (fun c_22 => absurd c_22 (by decide))
              first | refine a_aload_n K dX6_readSteps_30 rfl ?_ | refine a_aload_nN K dX6_readSteps_30 rfl ?_
              refine a_invV K (m_skipBlanks h (p := (ostR L p).1) (by omega) a1) my_X6_skipBlanks ml_X6_24 im_X6_skipBlanks se_X6_skipBlanks (ci := 6) (by assumption) (by decide) ⟨_, _, rfl⟩ rfl (by omega) (by omega) (by omega) rfl (Nat.le_of_ble_eq_true rfl) dX6_readSteps_31 ?_
              intro r9 T2 hp9
              obtain ⟨rfl, f2, a2⟩ := hp9
              have hq := pg_rd hq f2 hv
              have h := h.fr f2
              have f := f.st f2 (fun _ z => Or.inl z)
              have hL := h.1
              have o6 := lw_i2 hL
              have r384 := lw_f384_2 hL
              have o9 := lw_i0 hL
              have o5 := hq.1
              first | refine a_aload_n K dX6_readSteps_34 rfl ?_ | refine a_aload_nN K dX6_readSteps_34 rfl ?_
              refine a_invV K (m_hasEnded h (p := skB L (ostR L p).1) (by omega) a2) my_X6_hasEnded ml_X6_27 im_X6_hasEnded se_X6_hasEnded (ci := 6) (by assumption) (by decide) ⟨_, _, rfl⟩ rfl (by omega) (by omega) (by omega) rfl (Nat.le_of_ble_eq_true rfl) dX6_readSteps_35 ?_
              intro r9 S9 hp9
              obtain ⟨hS9, hb9⟩ := hp9
              obtain rfl := hS9.symm
              obtain rfl : r9 = some (.int 0) := hb9.elim (fun q => absurd q.1 he) (fun q => q.2)
              refine a_if_eq K dX6_readSteps_38 (tgt := 43) (by decide) (fun c_38 => ?_) (fun c_38 => absurd c_38 (by decide))
              refine a_iload_n K dX6_readSteps_43 rfl ?_
              refine a_bipush K dX6_readSteps_44 (v := 16) (by decide) ?_
              refine a_icmp_eq K dX6_readSteps_46 (tgt := 58) (by decide) (fun c_46 => absurd c_46 (nI_ne (a := i) (b := 16) (by omega) (by omega) (by omega))) (fun c_46 => ?_)
              first | refine a_aload_n K dX6_readSteps_49 rfl ?_ | refine a_aload_nN K dX6_readSteps_49 rfl ?_
              refine a_bipush K dX6_readSteps_50 (v := 59) (by decide) ?_
              refine a_invV K (m_passes (sg := 59) h (p := skB L (ostR L p).1) (by omega) a2) my_X6_passes ml_X6_35 im_X6_passes se_X6_passes (ci := 6) (by assumption) (by decide) ⟨_, _, rfl⟩ rfl (by omega) (by omega) (by omega) rfl (Nat.le_of_ble_eq_true rfl) dX6_readSteps_52 ?_
              intro r9 T3 hp9
              obtain ⟨hb9, f3, a3⟩ := hp9
              rw [skB_skB] at hb9 a3
              have hq := pg_rd hq f3 hv
              have h := h.fr f3
              have f := f.st f3 (fun _ z => Or.inl z)
              have hL := h.1
              have o6 := lw_i2 hL
              have r384 := lw_f384_2 hL
              have o9 := lw_i0 hL
              have o5 := hq.1
              obtain rfl : r9 = some (.int 1) := hb9.elim (fun q => q.2) (fun q => absurd hm q.1)
              rw [if_pos hm] at a3
              refine a_if_ne K dX6_readSteps_55 (tgt := 63) (by decide) (fun c_55 => ?_) (fun c_55 => absurd c_55 (by decide))
              refine a_iinc K dX6_readSteps_63 (v := 1) rfl (by decide) (by decide) ?_
              refine a_goto K dX6_readSteps_66 (tgt := 11) (by decide) ?_
              exact aw_locl rfl (ih (i + 1) (skB L (ostR L p).1 + 1) _ T3 (E ++ [s]) (nI_1 i) (by omega) (by rw [List.length_append, List.length_singleton]; omega) (by have hin : skB L (ostR L p).1 < L.length := (by omega); omega) h hq f a3 (by rw [← hF, stsR_s hx9, if_neg he, if_neg h16, if_pos hm]))
            · refine a_iload_n K dX6_readSteps_11 rfl ?_
              refine a_bipush K dX6_readSteps_12 (v := 16) (by decide) ?_
              refine a_icmp_gt K dX6_readSteps_14 (tgt := 69) (by decide) (fun c_14 => absurd c_14 (Int32.not_lt.mpr (nI_le (a := i) (b := 16) (by omega) (by omega)))) (fun c_14 => ?_)
              first | refine a_aload_n K dX6_readSteps_17 rfl ?_ | refine a_aload_nN K dX6_readSteps_17 rfl ?_
              first | refine a_aload_n K dX6_readSteps_18 rfl ?_ | refine a_aload_nN K dX6_readSteps_18 rfl ?_
              refine a_invV K (m_readStep hv h hp ha hq (by omega)) my_X6_readStep ml_X6_51 im_X6_readStep se_X6_readStep (ci := 6) (by assumption) (by decide) ⟨_, _, rfl⟩ rfl (by omega) (by omega) (by omega) rfl (Nat.le_of_ble_eq_true rfl) dX6_readSteps_19 ?_
              intro r9 T1 hp9
              obtain ⟨hb9, f1, a1⟩ := hp9
              obtain ⟨rfl, hq⟩ : r9 = some (.int 1) ∧ PgW T1 q (E ++ [s]) := hb9.elim (fun ⟨y, hy, e9, hRy⟩ => by rw [hx9] at hy; cases hy; exact ⟨e9, hRy⟩) (fun z => absurd (hx9.symm.trans z.1) (by simp))
              have h := Qd.frR h f1 hv
              have f := f.st f1 (fun _ z => z)
              have hL := h.1
              have o6 := lw_i2 hL
              have r384 := lw_f384_2 hL
              have o9 := lw_i0 hL
              have o5 := hq.1
              refine a_if_ne K dX6_readSteps_22 (tgt := 30) (by decide) (fun c_22 => ?_) (fun c_22 => absurd c_22 (by decide))
              first | refine a_aload_n K dX6_readSteps_30 rfl ?_ | refine a_aload_nN K dX6_readSteps_30 rfl ?_
              refine a_invV K (m_skipBlanks h (p := (ostR L p).1) (by omega) a1) my_X6_skipBlanks ml_X6_24 im_X6_skipBlanks se_X6_skipBlanks (ci := 6) (by assumption) (by decide) ⟨_, _, rfl⟩ rfl (by omega) (by omega) (by omega) rfl (Nat.le_of_ble_eq_true rfl) dX6_readSteps_31 ?_
              intro r9 T2 hp9
              obtain ⟨rfl, f2, a2⟩ := hp9
              have hq := pg_rd hq f2 hv
              have h := h.fr f2
              have f := f.st f2 (fun _ z => Or.inl z)
              have hL := h.1
              have o6 := lw_i2 hL
              have r384 := lw_f384_2 hL
              have o9 := lw_i0 hL
              have o5 := hq.1
              first | refine a_aload_n K dX6_readSteps_34 rfl ?_ | refine a_aload_nN K dX6_readSteps_34 rfl ?_
              refine a_invV K (m_hasEnded h (p := skB L (ostR L p).1) (by omega) a2) my_X6_hasEnded ml_X6_27 im_X6_hasEnded se_X6_hasEnded (ci := 6) (by assumption) (by decide) ⟨_, _, rfl⟩ rfl (by omega) (by omega) (by omega) rfl (Nat.le_of_ble_eq_true rfl) dX6_readSteps_35 ?_
              intro r9 S9 hp9
              obtain ⟨hS9, hb9⟩ := hp9
              obtain rfl := hS9.symm
              obtain rfl : r9 = some (.int 0) := hb9.elim (fun q => absurd q.1 he) (fun q => q.2)
              refine a_if_eq K dX6_readSteps_38 (tgt := 43) (by decide) (fun c_38 => ?_) (fun c_38 => absurd c_38 (by decide))
              refine a_iload_n K dX6_readSteps_43 rfl ?_
              refine a_bipush K dX6_readSteps_44 (v := 16) (by decide) ?_
              refine a_icmp_eq K dX6_readSteps_46 (tgt := 58) (by decide) (fun c_46 => absurd c_46 (nI_ne (a := i) (b := 16) (by omega) (by omega) (by omega))) (fun c_46 => ?_)
              first | refine a_aload_n K dX6_readSteps_49 rfl ?_ | refine a_aload_nN K dX6_readSteps_49 rfl ?_
              refine a_bipush K dX6_readSteps_50 (v := 59) (by decide) ?_
              refine a_invV K (m_passes (sg := 59) h (p := skB L (ostR L p).1) (by omega) a2) my_X6_passes ml_X6_35 im_X6_passes se_X6_passes (ci := 6) (by assumption) (by decide) ⟨_, _, rfl⟩ rfl (by omega) (by omega) (by omega) rfl (Nat.le_of_ble_eq_true rfl) dX6_readSteps_52 ?_
              intro r9 T3 hp9
              obtain ⟨hb9, f3, a3⟩ := hp9
              rw [skB_skB] at hb9 a3
              have hq := pg_rd hq f3 hv
              have h := h.fr f3
              have f := f.st f3 (fun _ z => Or.inl z)
              have hL := h.1
              have o6 := lw_i2 hL
              have r384 := lw_f384_2 hL
              have o9 := lw_i0 hL
              have o5 := hq.1
              obtain rfl : r9 = some (.int 0) := hb9.elim (fun q => absurd q.1 hm) (fun q => q.2)
              rw [if_neg hm] at a3
              refine a_if_ne K dX6_readSteps_55 (tgt := 63) (by decide) (fun c_55 => absurd c_55 (fun z => z rfl)) (fun c_55 => ?_)
              first | refine a_aload_n K dX6_readSteps_58 rfl ?_ | refine a_aload_nN K dX6_readSteps_58 rfl ?_
              refine a_getI K fd_X6_20 (by assumption) (Or.inl rfl) dX6_readSteps_59 ?_
              rw [a3]
              exact a_iret K EE rfl (by omega) (by omega) dX6_readSteps_62 (by rw [← hF, stsR_s hx9, if_neg he, if_neg h16, if_neg hm]; exact ⟨rfl, ⟨_, hq, fun z => absurd z (by simp)⟩, f⟩)
  first | refine a_aload_n K dX6_readSteps_0 rfl ?_ | refine a_aload_nN K dX6_readSteps_0 rfl ?_
  refine a_invV K (m_X5_clear hq0.1) my_X5_clear ml_X6_48 im_X5_clear se_X5_clear (ci := 5) (by assumption) (by decide) ⟨_, _, rfl⟩ rfl (by omega) (by omega) (by omega) rfl (Nat.le_of_ble_eq_true rfl) dX6_readSteps_1 ?_
  intro r9 T0 hp9
  obtain ⟨rfl, rfl⟩ := hp9
  obtain ⟨hq1, f1⟩ := hq0.clr
  have h := h0.frP f1 hv
  have fA : frS (wI S 321 q.1 0) (wI (wI S 321 q.1 0) 385 (v 2) 0) (fun b => b = v 2) := frS_wI (by decide)
  have hA := h.fr fA
  have hqA := pg_rd hq1 fA hv
  have fB : frS S _ (Qd v q) := (f1.mono (fun _ z => Or.inr z)).st fA (fun _ z => Or.inl z)
  have o6 := lw_i2 h.1
  first | refine a_aload_n K dX6_readSteps_4 rfl ?_ | refine a_aload_nN K dX6_readSteps_4 rfl ?_
  refine a_iconst K dX6_readSteps_5 (v := 0) (by decide) ?_
  refine a_putI K fd_X6_20 (by assumption) rfl dX6_readSteps_6 ?_
  refine a_iconst K dX6_readSteps_9 (v := 1) (by decide) ?_
  refine a_istore_n K dX6_readSteps_10 (by decide) ?_
  exact aw_locl rfl (loop 16 1 0 _ _ [] nI_one.symm (by omega) rfl (Nat.zero_le _) hA hqA fB wI_at hF)
