/-! what the tape tells: the fault, a map, a program -/
theorem flat_ne : ∀ {PA : List (Nat × Nat)}, (PA.flatMap (fun q => [q.1, q.2])).Nodup → ∀ {i j : Nat} {x y : Nat × Nat}, PA[i]? = some x → PA[j]? = some y → i ≠ j → x.1 ≠ y.1 ∧ x.1 ≠ y.2 ∧ x.2 ≠ y.1 ∧ x.2 ≠ y.2
  | [], _, i, _, _, _, h, _, _ => absurd h (by simp)
  | a :: l, hn, i, j, x, y, hi, hj, hij => by
    rw [List.flatMap_cons, List.nodup_append] at hn
    obtain ⟨n1, n2, n3⟩ := hn
    have mem : ∀ {k : Nat} {z : Nat × Nat}, l[k]? = some z → z.1 ∈ l.flatMap (fun q => [q.1, q.2]) ∧ z.2 ∈ l.flatMap (fun q => [q.1, q.2]) := fun {k z} h => ⟨List.mem_flatMap.mpr ⟨z, List.mem_of_getElem? h, by simp⟩, List.mem_flatMap.mpr ⟨z, List.mem_of_getElem? h, by simp⟩⟩
    cases i with
    | zero =>
      cases j with
      | zero => exact absurd rfl hij
      | succ j =>
        have hi2 : a = x := Option.some.inj hi
        subst hi2
        obtain ⟨m1, m2⟩ := mem (show l[j]? = some y from hj)
        exact ⟨fun z => n3 a.1 (by simp) _ m1 z, fun z => n3 a.1 (by simp) _ m2 z, fun z => n3 a.2 (by simp) _ m1 z, fun z => n3 a.2 (by simp) _ m2 z⟩
    | succ i =>
      cases j with
      | zero =>
        have hj2 : a = y := Option.some.inj hj
        subst hj2
        obtain ⟨m1, m2⟩ := mem (show l[i]? = some x from hi)
        exact ⟨fun z => n3 a.1 (by simp) _ m1 z.symm, fun z => n3 a.2 (by simp) _ m1 z.symm, fun z => n3 a.1 (by simp) _ m2 z.symm, fun z => n3 a.2 (by simp) _ m2 z.symm⟩
      | succ j => exact flat_ne n2 (show l[i]? = some x from hi) (show l[j]? = some y from hj) (fun z => hij (by rw [z]))
/-- the reader's, the row's and the draft's cells -/
def Qt (v : Nat → Nat) (q : Nat × Nat) (b : Nat) : Prop := (b = q.1 ∨ b = q.2) ∨ Qk v [2, 25, 26, 27] b
theorem RC.dra {S : aw_S} {v ad ar : Nat → Nat} {PA : List (Nat × Nat)} {X : List Nat} {mb : Nat} {P : PS} (h : RC S v ad ar PA X mb P) : ∃ q g, PA[(pG P).length]? = some q ∧ sR S 643 (v 4) = some q.1 ∧ PgW S q g ∧ ∀ k, k < 37 → q.1 ≠ v k ∧ q.2 ≠ v k := by
  obtain ⟨q, g, h1, h2, h3⟩ := h.2.2.2.2.2.1.2.2.2.2.1
  exact ⟨q, g, h1, h2, h3, h.2.2.2.2.2.2.2.2.2.2.1 q (List.mem_of_getElem? h1)⟩
theorem Qt_no {S : aw_S} {v : Nat → Nat} (hL : LW S v) {q : Nat × Nat} (hv : ∀ k, k < 37 → q.1 ≠ v k ∧ q.2 ≠ v k) {j : Nat} (hj : j < 37) (h2 : j ≠ 2) (h25 : j ≠ 25) (h26 : j ≠ 26) (h27 : j ≠ 27) : ¬ Qt v q (v j) := fun z => z.elim (fun z => z.elim (fun y => (hv j hj).1 y.symm) (fun y => (hv j hj).2 y.symm)) (Qk_no hL (by decide) hj (by simp; exact ⟨h2, h25, h26, h27⟩))
theorem RC_rd {S S2 : aw_S} {v ad ar : Nat → Nat} {PA : List (Nat × Nat)} {X : List Nat} {mb : Nat} {P : PS} {q : Nat × Nat} {g : List ST} (h : RC S v ad ar PA X mb P) (hq : PA[(pG P).length]? = some q) (f : frS S S2 (Qt v q)) (hg : PgW S2 q g) : RC S2 v ad ar PA X mb P ∧ keepX X S S2 := by
  have hvq := h.2.2.2.2.2.2.2.2.2.2.1 q (List.mem_of_getElem? hq)
  have no : ∀ j, j < 37 → j ≠ 2 → j ≠ 25 → j ≠ 26 → j ≠ 27 → ¬ Qt v q (v j) := fun j hj a b c d => Qt_no h.1 hvq hj a b c d
  obtain ⟨hL, hG, hM, hB, hR, hP, hT, hS, hN, hK, hV⟩ := h
  obtain ⟨f1, f2, f3, f4, f5, f6, f7, f8⟩ := id f
  obtain ⟨v1, v2, v3, v4⟩ := hV
  have hqm := List.mem_of_getElem? hq
  have kx : ∀ b, (∀ k, k < 37 → b ≠ v k) → b ≠ q.1 → b ≠ q.2 → ¬ Qt v q b := fun b h1 h2 h3 z => z.elim (fun z => z.elim h2 h3) (fun ⟨k, hk, e⟩ => h1 k (by simp at hk; omega) e)
  have nn : ∀ i, i < pU P → ¬ Qt v q (ad i) ∧ ¬ Qt v q (ar i) := fun i hi => ⟨kx _ (fun k hk => ((v4 i hi).1 k hk).1) ((v4 i hi).2.1 q hqm).1.1 ((v4 i hi).2.1 q hqm).1.2, kx _ (fun k hk => ((v4 i hi).1 k hk).2) ((v4 i hi).2.1 q hqm).2.1 ((v4 i hi).2.1 q hqm).2.2⟩
  obtain ⟨n1, n2, n3⟩ := hN
  have rep : ∀ z : Tz, TrW S ad ar (pU P) z → TrW S2 ad ar (pU P) z := fun z r => ⟨RepW_fr f.fr z.1 r.1 (fun x hx => ⟨(nn x.1 (r.2 x hx)).1, (nn x.1 (r.2 x hx)).2, rfl, rfl⟩), r.2⟩
  refine ⟨⟨LW_eq hL f1 f2 f3 f4 (f8 _ (no 13 (by decide) (by decide) (by decide) (by decide) (by decide))).2.2, hG.fr f (no 5 (by decide) (by decide) (by decide) (by decide) (by decide)) rfl rfl rfl, hM.fr f (fun j h1 h2 => no j (by omega) (by omega) (by omega) (by omega) (by omega)) rfl rfl rfl rfl, hB.fr f (fun j hj => no _ (by omega) (by omega) (by omega) (by omega) (by omega)) rfl, hR.fr f (no 18 (by decide) (by decide) (by decide) (by decide) (by decide)) rfl, ?_, hT.fr f (no 0 (by decide) (by decide) (by decide) (by decide) (by decide)) (no 1 (by decide) (by decide) (by decide) (by decide) (by decide)) rfl, hS.fr f.fr (no 19 (by decide) (by decide) (by decide) (by decide) (by decide)) (no 20 (by decide) (by decide) (by decide) (by decide) (by decide)), ⟨n1.frn f.fr, fun x hx => rep _ (n2 x hx), fun j b hb => rep _ (n3 j b hb)⟩, ?_, ⟨v1, v2, fun b hb => ⟨by rw [f1]; exact (v3 b hb).1, (v3 b hb).2⟩, v4⟩⟩, fun b hb => ⟨by rw [f1]; exact (v3 b hb).1, frS_cell f (kx _ (v3 b hb).2.1 ((v3 b hb).2.2 q hqm).1 ((v3 b hb).2.2 q hqm).2)⟩⟩
  · obtain ⟨p1, p2, p3, p4, ⟨q5, p, p5, p6, p7⟩, p8⟩ := hP
    have n4 := no 4 (by decide) (by decide) (by decide) (by decide) (by decide)
    have n3' := no 3 (by decide) (by decide) (by decide) (by decide) (by decide)
    have hqq : q5 = q := Option.some.inj (p5.symm.trans hq)
    subst hqq
    refine ⟨by rw [(f8 _ n4).1]; exact p1, p2, p3, fun i p hp => ?_, ⟨q5, g, p5, by rw [f3]; exact p6, hg⟩, by rw [(f8 _ n3').2.2]; exact p8⟩
    obtain ⟨r, h1, h2, h3⟩ := p4 i p hp
    have hi := (List.getElem?_eq_some_iff.mp hp).1
    obtain ⟨e1, e2, e3, e4⟩ := flat_ne v2 h1 p5 (by omega)
    have hr := v1 r (List.mem_of_getElem? h1)
    exact ⟨r, h1, by rw [(f8 _ n3').2.2]; exact h2, h3.fr f.fr (kx _ (fun k hk => (hr k hk).1) e1 e2) (kx _ (fun k hk => (hr k hk).2) e3 e4)⟩
  · obtain ⟨k0, mr, k1, k2, k3⟩ := hK
    refine ⟨k0, mr, k1, by rw [(f8 _ (no 4 (by decide) (by decide) (by decide) (by decide) (by decide))).1]; exact k2, fun i hi => ?_⟩
    rw [f7 _ 260 (Or.inl rfl)]
    exact k3 i hi
theorem RC.rds {S : aw_S} {v ad ar : Nat → Nat} {PA : List (Nat × Nat)} {X : List Nat} {mb : Nat} {P : PS} (h : RC S v ad ar PA X mb P) : RdS S v (pT P) := ⟨h.1, h.2.2.2.2.2.2.1⟩
/-- entries read -/
theorem RC_re {S S2 : aw_S} {v ad ar : Nat → Nat} {PA : List (Nat × Nat)} {X : List Nat} {mb : Nat} {P : PS} (h : RC S v ad ar PA X mb P) (f : frS S S2 (Q25 v)) : RC S2 v ad ar PA X mb P ∧ keepX X S S2 := by
  obtain ⟨q, g, h1, h2, h3, h4⟩ := h.dra
  have nq : ¬ Q25 v q.1 ∧ ¬ Q25 v q.2 := ⟨fun z => z.elim (h4 2 (by decide)).1 (fun z => z.elim (h4 25 (by decide)).1 (fun z => z.elim (h4 26 (by decide)).1 (h4 27 (by decide)).1)), fun z => z.elim (h4 2 (by decide)).2 (fun z => z.elim (h4 25 (by decide)).2 (fun z => z.elim (h4 26 (by decide)).2 (h4 27 (by decide)).2))⟩
  exact RC_rd h h1 (f.mono (fun b z => Or.inr (z.elim (fun e => ⟨2, by decide, e⟩) (fun z => z.elim (fun e => ⟨25, by decide, e⟩) (fun z => z.elim (fun e => ⟨26, by decide, e⟩) (fun e => ⟨27, by decide, e⟩)))))) (h3.frq f nq.1 nq.2)
/-- steps read -/
theorem RC_rp {S S2 : aw_S} {v ad ar : Nat → Nat} {PA : List (Nat × Nat)} {X : List Nat} {mb : Nat} {P : PS} {q : Nat × Nat} {g : List ST} (h : RC S v ad ar PA X mb P) (hq : PA[(pG P).length]? = some q) (f : frS S S2 (Qd v q)) (hg : PgW S2 q g) : RC S2 v ad ar PA X mb P ∧ keepX X S S2 := RC_rd h hq (f.mono (fun b z => z.elim (fun e => Or.inr ⟨2, by decide, e⟩) (fun e => Or.inl e))) hg
/-- where the text breaks a rule -/
def fauA (P : PS) (w : Int32) : Int32 := if w = 0 then fltV (redE (pT P)).1 else if w = 1 then fltV (redP (pT P)).1 else -2
set_option maxHeartbeats 4000000 in
set_option maxRecDepth 100000 in
theorem c_fault {S : aw_S} {v ad ar : Nat → Nat} {PA : List (Nat × Nat)} {X : List Nat} {mb : Nat} {P : PS} (h : RC S v ad ar PA X mb P) {w : Int32} : aw_M yX10_fault cX10_fault 2 (some FieldType.int) 7 0 0 [.ref (v 4), .int w] S (fun r S2 => r = some (.int (fauA P w)) ∧ RC S2 v ad ar PA X mb P ∧ keepX X S S2) := by
  have hL := h.L
  have o10 := lw_i4 hL
  obtain ⟨q, g0, h1, r643, h3, h4⟩ := h.dra
  by_cases hw0 : w = 0
  · subst hw0
    refine aw_enter (by decide +kernel) (Nat.le_of_ble_eq_true rfl) (fun g K EE => ?_)
    refine a_iload_n K dX10_fault_0 rfl ?_
    refine a_if_ne K dX10_fault_1 (tgt := 16) (by decide) (fun c_1 => absurd c_1 (fun z => z rfl)) (fun c_1 => ?_)
    first | refine a_aload_n K dX10_fault_4 rfl ?_ | refine a_aload_nN K dX10_fault_4 rfl ?_
    refine a_getRs K fd_X10_21 (lw_i4 hL) (Or.inl ⟨_, rfl⟩) (lw_f641 hL) dX10_fault_5 ?_
    first | refine a_aload_n K dX10_fault_8 rfl ?_ | refine a_aload_nN K dX10_fault_8 rfl ?_
    refine a_getRs K fd_X10_77 (lw_i4 hL) (Or.inl ⟨_, rfl⟩) (lw_f652 hL) dX10_fault_9 ?_
    refine a_invV K (m_readEntries h.rds) my_X6_readEntries ml_X10_110 im_X6_readEntries se_X6_readEntries (ci := 6) (lw_i2 hL) (by decide) ⟨_, _, rfl⟩ rfl (by omega) (by omega) (by omega) rfl (Nat.le_of_ble_eq_true rfl) dX10_fault_12 ?_
    intro r9 S9 hp9
    obtain ⟨rfl, hR9, f9⟩ := hp9
    obtain ⟨h2, k2⟩ := RC_re h f9
    exact a_iret K EE rfl (by omega) (by omega) dX10_fault_15 ⟨by unfold fauA; rw [if_pos rfl], h2, k2⟩
  · by_cases hw1 : w = 1
    · subst hw1
      refine aw_enter (by decide +kernel) (Nat.le_of_ble_eq_true rfl) (fun g K EE => ?_)
      refine a_iload_n K dX10_fault_0 rfl ?_
      refine a_if_ne K dX10_fault_1 (tgt := 16) (by decide) (fun c_1 => ?_) (fun c_1 => absurd c_1 (hw0))
      refine a_iload_n K dX10_fault_16 rfl ?_
      refine a_iconst K dX10_fault_17 (v := 1) (by decide) ?_
      refine a_icmp_ne K dX10_fault_18 (tgt := 33) (by decide) (fun c_18 => absurd c_18 (fun z => z rfl)) (fun c_18 => ?_)
      first | refine a_aload_n K dX10_fault_21 rfl ?_ | refine a_aload_nN K dX10_fault_21 rfl ?_
      refine a_getRs K fd_X10_21 (lw_i4 hL) (Or.inl ⟨_, rfl⟩) (lw_f641 hL) dX10_fault_22 ?_
      first | refine a_aload_n K dX10_fault_25 rfl ?_ | refine a_aload_nN K dX10_fault_25 rfl ?_
      refine a_getRs K fd_X10_32 (by assumption) (Or.inl ⟨_, rfl⟩) (by assumption) dX10_fault_26 ?_
      refine a_invV K (m_readSteps h4 h.rds h3) my_X6_readSteps ml_X10_114 im_X6_readSteps se_X6_readSteps (ci := 6) (lw_i2 hL) (by decide) ⟨_, _, rfl⟩ rfl (by omega) (by omega) (by omega) rfl (Nat.le_of_ble_eq_true rfl) dX10_fault_29 ?_
      intro r9 S9 hp9
      obtain ⟨rfl, ⟨E2, hE2, hE3⟩, f9⟩ := hp9
      obtain ⟨h2, k2⟩ := RC_rp h h1 f9 hE2
      exact a_iret K EE rfl (by omega) (by omega) dX10_fault_32 ⟨by unfold fauA; rw [if_neg hw0, if_pos rfl], h2, k2⟩
    · refine aw_enter (by decide +kernel) (Nat.le_of_ble_eq_true rfl) (fun g K EE => ?_)
      refine a_iload_n K dX10_fault_0 rfl ?_
      refine a_if_ne K dX10_fault_1 (tgt := 16) (by decide) (fun c_1 => ?_) (fun c_1 => absurd c_1 (hw0))
      refine a_iload_n K dX10_fault_16 rfl ?_
      refine a_iconst K dX10_fault_17 (v := 1) (by decide) ?_
      refine a_icmp_ne K dX10_fault_18 (tgt := 33) (by decide) (fun c_18 => ?_) (fun c_18 => absurd c_18 (hw1))
      refine a_bipush K dX10_fault_33 (v := -2) (by decide) ?_
      exact a_iret K EE rfl (by omega) (by omega) dX10_fault_35 ⟨by unfold fauA; rw [if_neg hw0, if_neg hw1], h, h.X⟩
/-- an answer and the state behind it, the programs' places too -/
def mutR (X : List Nat) (v : Nat → Nat) (mb : Nat) (S : aw_S) (q : Int32 × PS) (r : Option Value) (S2 : aw_S) : Prop := ∃ ad2 ar2 PA2, r = some (.int q.1) ∧ RC S2 v ad2 ar2 PA2 X mb q.2 ∧ keepX X S S2
/-- entries laid -/
def putL (w t : Nat) : List KV → Tz × Nat → Tz × Nat
  | [], s => s
  | x :: l, s => putL w t l (putT w t s.2 x.1 x.2 s.1)
theorem putL_at {w t : Nat} {E : List KV} {i : Nat} (hi : i < E.length) (s : Tz × Nat) : putL w t (E.drop i) s = putL w t (E.drop (i + 1)) (putT w t s.2 E[i].1 E[i].2 s.1) := by rw [List.drop_eq_getElem_cons hi, putL]
theorem putL_stn {w tk t : Nat} (hw : 3 ≤ w) (ht : t < tk) : ∀ (l : List KV) (n : Nat) (s : Tz × Nat), tkn n w s.2 tk s.1 → (∀ x ∈ l, okE x) → n + l.length ≤ 126 → stn (n + l.length) (7 * l.length) w tk t s (putL w t l s)
  | [], n, s, h, _, _ => stn.rf h
  | x :: l, n, s, h, hl, hn => by
    rw [List.length_cons] at hn ⊢
    have h1 : stn (n + 1) 7 w tk t s (putT w t s.2 x.1 x.2 s.1) := stn_put hw h (by omega) ht (hl x List.mem_cons_self)
    have h2 := putL_stn hw ht l (n + 1) _ h1.1 (fun y hy => hl y (List.mem_cons_of_mem _ hy)) (by omega)
    rw [putL]
    have h3 : stn (n + (l.length + 1)) (7 * l.length) w tk t (putT w t s.2 x.1 x.2 s.1) (putL w t l (putT w t s.2 x.1 x.2 s.1)) := h2.up (by omega) (Nat.le_refl _)
    exact (h1.tr h3).up (Nat.le_refl _) (by omega)
/-- a leaf that has nothing -/
def lf0 (u t : Nat) : Tz := ⟨0, (u, t, [])⟩
theorem lf0_tkn {w u t tk : Nat} (hw : 3 ≤ w) (ht : t < tk) : tkn 0 w (u + 1) tk (lf0 u t) := by
  refine ⟨⟨Nat.zero_le _, trivial, fun z => absurd z (Nat.lt_irrefl 0), List.Pairwise.nil, fun x (hx : x ∈ ([] : List KV)) => absurd hx List.not_mem_nil⟩, fun x (hx : x ∈ ([] : List KV)) => absurd hx List.not_mem_nil, Nat.le_refl _, ⟨fun x hx => ?_, by simp [lf0, ndl]⟩, fun y hy => ?_⟩
  · have : x = (u, t) := by simpa [lf0, ndl] using hx
    rw [this]
    exact Nat.lt_succ_self u
  · have : y = (u, t) := by simpa [lf0, ndl] using hy
    rw [this]
    exact ht
def tldM (P : PS) : Tz × Nat := putL (pW P) (pTk P) (redE (pT P)).2 (lf0 (pU P) (pTk P), pU P + 1)
/-- a map told -/
def txtM (P : PS) : Int32 × PS := match (redE (pT P)).1 with
  | some _ => (-1, P)
  | none => if hcnt (pH P) < 16 ∧ (pM P).length < 999 then (nI (pM P).length, addM (setTp (setU (incT P) (tldM P).2) []) (tldM P).1 (-1) (-1)) else (-1, refP P 4)
theorem tldM_stn {P : PS} (hP : PI P) (h240 : (pT P).length ≤ 240) : stn 60 420 (pW P) (pTk P + 1) (pTk P) (lf0 (pU P) (pTk P), pU P + 1) (tldM P) := by
  obtain ⟨h1, h2, -⟩ := redE_ok h240
  exact (putL_stn hP.1.1 (Nat.lt_succ_self _) (redE (pT P)).2 0 (lf0 (pU P) (pTk P), pU P + 1) (lf0_tkn hP.1.1 (Nat.lt_succ_self _)) h2 (by omega)).up (by omega) (by omega)
theorem tldM_le {P : PS} (hP : PI P) (h240 : (pT P).length ≤ 240) : (tldM P).2 ≤ pU P + 421 := by
  have h := (tldM_stn hP h240).2.2.1
  have e : un (pTk P) (ndl (lf0 (pU P) (pTk P)).1 (lf0 (pU P) (pTk P)).2) = 0 := by simp [lf0, ndl, un]
  rw [e] at h
  have h : (tldM P).2 + _ ≤ pU P + 1 + 0 + 420 := h
  omega
theorem mkN_lf0 {S S2 : aw_S} {ad ar : Nat → Nat} {g q1 q2 u t : Nat} (m : mkN S S2 g q1 q2 true [] (nI t)) (ht : t < 2147483648) : RepW S2 (va_up ad u q1) (va_up ar u q2) (lf0 u t).1 (lf0 u t).2 := OwnW_new (h := 0) (l := []) m ht (fun x hx => absurd hx (by simp [blw]))
set_option maxHeartbeats 4000000 in
set_option maxRecDepth 100000 in
theorem c_mapTold {S : aw_S} {v ad ar : Nat → Nat} {PA : List (Nat × Nat)} {X : List Nat} {mb : Nat} {P : PS} (h : RC S v ad ar PA X mb P) (hP : PI P) : aw_M yX10_mapTold cX10_mapTold 4 (some FieldType.int) 12 842 7999 [.ref (v 4)] S (mutQ X v PA mb S (txtM P)) := by
  have hL := h.L
  have h0240 := h.2.2.2.2.2.2.1.2.1
  have h0red := (redE_ok h0240).2.2
  cases hx : (redE (pT P)).1 with
  | some p0 =>
    have hp0 := h0red p0 hx
    have hp1 : p0 < 2147483648 := by omega
    refine aw_enter (by decide +kernel) (Nat.le_of_ble_eq_true rfl) (fun g K EE => ?_)
    first | refine a_aload_n K dX10_mapTold_0 rfl ?_ | refine a_aload_nN K dX10_mapTold_0 rfl ?_
    refine a_getRs K fd_X10_21 (lw_i4 hL) (Or.inl ⟨_, rfl⟩) (lw_f641 hL) dX10_mapTold_1 ?_
    first | refine a_aload_n K dX10_mapTold_4 rfl ?_ | refine a_aload_nN K dX10_mapTold_4 rfl ?_
    refine a_getRs K fd_X10_77 (lw_i4 hL) (Or.inl ⟨_, rfl⟩) (lw_f652 hL) dX10_mapTold_5 ?_
    refine a_invV K (m_readEntries h.rds) my_X6_readEntries ml_X10_110 im_X6_readEntries se_X6_readEntries (ci := 6) (lw_i2 hL) (by decide) ⟨_, _, rfl⟩ rfl (by omega) (by omega) (by omega) rfl (Nat.le_of_ble_eq_true rfl) dX10_mapTold_8 ?_
    intro r9 S1 hp9
    obtain ⟨rfl, hR1, f9⟩ := hp9
    obtain ⟨h1, k1⟩ := RC_re h f9
    have hL := h1.L
    rw [hx]
    refine a_iconst K dX10_mapTold_11 (v := -1) (by decide) ?_
    refine a_icmp_eq K dX10_mapTold_12 (tgt := 17) (by decide) (fun c_12 => absurd c_12 (fun z => nI_m1n (by omega) z)) (fun c_12 => ?_)
    refine a_iconst K dX10_mapTold_15 (v := -1) (by decide) ?_
    exact a_iret K EE rfl (by omega) (by omega) dX10_mapTold_16 (by unfold txtM; rw [hx]; exact ⟨ad, ar, rfl, h1, k1⟩)
  | none =>
    by_cases hr : hcnt (pH P) < 16 ∧ (pM P).length < 999
    · have hd := trivial
      have h240 := h.2.2.2.2.2.2.1.2.1
      have hs1 := tldM_le hP h240
      have hs0 := (tldM_stn hP h240).2.1
      have hs0 : pU P + 1 ≤ (tldM P).2 := hs0
      have tk0 := lf0_tkn (u := pU P) hP.1.1 (Nat.lt_succ_self (pTk P))
      obtain ⟨hEl, hEk, -⟩ := redE_ok h240
      have htb := hP.2.2.2
      obtain ⟨F, hF1⟩ : ∃ F, setU (incT P) (tldM P).2 = F := ⟨_, rfl⟩
      obtain ⟨zF, hF2⟩ : ∃ zF, (tldM P).1 = zF := ⟨_, rfl⟩
      have hfu : (tldM P).2 = pU F := congrArg pU hF1
      rw [hfu] at hs1 hs0
      have hq : txtM P = (nI (pM P).length, addM (setTp F []) zF (-1) (-1)) := by
        unfold txtM
        rw [hx]
        show ite _ _ _ = _
        rw [if_pos hr, hF1, hF2]
      rw [hq]
      obtain ⟨LN, hLN⟩ : ∃ n, n = (pM P).length := ⟨_, rfl⟩
      obtain ⟨E, hE⟩ : ∃ E, E = (redE (pT P)).2 := ⟨_, rfl⟩
      obtain ⟨t9, ht9⟩ : ∃ n, n = pTk P := ⟨_, rfl⟩
      have hF1 : setU (setU (incT P) (pU P + 1)) (putL (pW P) t9 E (lf0 (pU P) (pTk P), pU P + 1)).2 = F := by rw [hE, ht9]; exact (setU_setU (P := incT P) (a := pU P + 1) (b := (tldM P).2) (Nat.le_succ _) (tldM_stn hP h240).2.1).trans hF1
      have hF2 : (putL (pW P) t9 E (lf0 (pU P) (pTk P), pU P + 1)).1 = zF := by rw [hE, ht9]; exact hF2
      rw [← hE] at hEl hEk
      rw [← hLN]
      refine aw_enter (by decide +kernel) (Nat.le_of_ble_eq_true rfl) (fun g K EE => ?_)
      have loop : ∀ (i jj : Nat) (x : Int32) (T : aw_S) (ad ar : Nat → Nat) (P : PS) (z : Tz) (k n : Nat), x = nI jj → jj + i = E.length → RC T v ad ar PA X mb P → TrW T ad ar (pU P) z → tkn jj (pW P) (pU P) (pTk P) z → (NTk P t9 ∧ t9 < pTk P ∧ pTk P < 2000000000 ∧ (3 ≤ pW P ∧ pW P ≤ 6)) → ((pM P).length = LN ∧ LN < 999) → RoW T (v 25) (v 26) (v 27) E → keepX X S T → (setU P (putL (pW P) t9 (E.drop jj) (z, pU P)).2 = F ∧ (putL (pW P) t9 (E.drop jj) (z, pU P)).1 = zF) → k + 2 * (pU F - pU P) ≤ 842 → n + 19 * (pU F - pU P) ≤ 7999 → aw g 4 T k n [(3, .int x), (2, .ref (ad z.2.1)), (1, .int (nI t9)), (0, .ref (v 4))] [] 53 := by
        intro i
        induction i with
        | zero =>
          intro jj x T ad ar P z k n hxx hi h tz tk hnn hlen hR hX hF hk hn2
          subst hxx
          have hE60 := hR.2.2.2.2.2.2.2.2.2.1
          have hL := h.L
          obtain ⟨hn, htk, htl, hw3, hw6⟩ := id hnn
          have h40 := tk.h5 hw3 (by omega)
          have hs := hR.2.2.2.2.2.2.2.2.1
          have e1 : P = F := by have h1 := hF.1; rw [show jj = E.length by omega, List.drop_length] at h1; exact (setU_self P).symm.trans h1
          have e2 : z = zF := by have h1 := hF.2; rw [show jj = E.length by omega, List.drop_length] at h1; exact h1
          subst e1
          subst e2
          refine a_iload_n K dX10_mapTold_53 rfl ?_
          first | refine a_aload_n K dX10_mapTold_54 rfl ?_ | refine a_aload_nN K dX10_mapTold_54 rfl ?_
          refine a_getRs K fd_X10_77 (lw_i4 hL) (Or.inl ⟨_, rfl⟩) (lw_f652 hL) dX10_mapTold_55 ?_
          refine a_invV K (m_X7_size hR.1) my_X7_size ml_X10_138 im_X7_size se_X7_size (ci := 7) (by first | exact lw_i25 hL | exact lw_i28 hL | exact lw_i31 hL) (by decide) ⟨_, _, rfl⟩ rfl (by omega) (by omega) (by omega) rfl (Nat.le_of_ble_eq_true rfl) dX10_mapTold_58 ?_
          intro r9 S9 hp9
          obtain ⟨rfl, hS9⟩ := hp9
          obtain rfl := hS9.symm
          refine a_icmp_ge K dX10_mapTold_61 (tgt := 96) (by decide) (fun c_61 => ?_) (fun c_61 => absurd c_61 (by rw [hs]; exact fun z => z (nI_le (by omega) (by omega))))
          first | refine a_aload_n K dX10_mapTold_96 rfl ?_ | refine a_aload_nN K dX10_mapTold_96 rfl ?_
          refine a_getRs K fd_X10_10 (lw_i4 hL) (Or.inl ⟨_, rfl⟩) (lw_f640 hL) dX10_mapTold_97 ?_
          refine a_iconst K dX10_mapTold_100 (v := 0) (by decide) ?_
          refine a_invV K (m_X9_shorten (i := 0) (lw_i0 hL) h.2.2.2.2.2.2.1.1 h.2.2.2.2.2.2.1.2.1) my_X9_shorten ml_X10_106 im_X9_shorten se_X9_shorten (ci := 9) (lw_i0 hL) (by decide) ⟨_, _, rfl⟩ rfl (by omega) (by omega) (by omega) rfl (Nat.le_of_ble_eq_true rfl) dX10_mapTold_101 ?_
          intro r9 S9 hq9
          obtain ⟨rfl, rfl⟩ : r9 = some (.int 1) ∧ S9 = wI T 577 (v 0) 0 := hq9.elim (fun q => q.2.2) (fun q => absurd ⟨by decide, Int.natCast_nonneg _⟩ q.1)
          obtain ⟨h6, k6⟩ := RC_sht h (n := 0) (Nat.zero_le _)
          have tz6 : TrW (wI T 577 (v 0) (nI 0)) ad ar (pU P) z := ⟨RepW_fr (frS_wI (by decide)).fr z.1 tz.1 (fun x hx => ⟨(h.scq (Q := fun b => b = v 0) (fun b e => ⟨0, by decide, e⟩) tz x hx).1, (h.scq (Q := fun b => b = v 0) (fun b e => ⟨0, by decide, e⟩) tz x hx).2, rfl, rfl⟩), tz.2⟩
          have hL := h6.L
          refine a_pop K dX10_mapTold_104 rfl ?_
          first | refine a_aload_n K dX10_mapTold_105 rfl ?_ | refine a_aload_nN K dX10_mapTold_105 rfl ?_
          refine a_getRs K fd_X10_46 (lw_i4 hL) (Or.inl ⟨_, rfl⟩) (lw_f646 hL) dX10_mapTold_106 ?_
          first | refine a_aload_n K dX10_mapTold_109 rfl ?_ | refine a_aload_nN K dX10_mapTold_109 rfl ?_
          refine a_iconst K dX10_mapTold_110 (v := -1) (by decide) ?_
          refine a_iconst K dX10_mapTold_111 (v := -1) (by decide) ?_
          refine a_invV K (c_keep (P := setTp P []) h6 (z := z) tz6 (by show (pM P).length < 999; omega)) my_X3_keep ml_X10_149 im_X3_keep se_X3_keep (ci := 3) (lw_i6 hL) (by decide) ⟨_, _, rfl⟩ rfl (by omega) (by omega) (by omega) rfl (Nat.le_of_ble_eq_true rfl) dX10_mapTold_112 ?_
          intro r9 S9 hp9
          obtain ⟨rfl, h7, k7⟩ := hp9
          exact a_iret K EE rfl (by omega) (by omega) dX10_mapTold_115 ⟨ad, ar, congrArg (fun q => some (Value.int (nI q))) hlen.1, h7, (hX.tr k6).tr k7⟩
        | succ i ih =>
          intro jj x T ad ar P z k n hxx hi h tz tk hnn hlen hR hX hF hk hn2
          subst hxx
          have hE60 := hR.2.2.2.2.2.2.2.2.2.1
          have hL := h.L
          obtain ⟨hn, htk, htl, hw3, hw6⟩ := id hnn
          have h40 := tk.h5 hw3 (by omega)
          have hs := hR.2.2.2.2.2.2.2.2.1
          have hjj : jj < E.length := by omega
          have hx9 := List.getElem?_eq_getElem hjj
          have st2 : stn (jj + 1) 7 (pW P) (pTk P) t9 (z, pU P) (putT (pW P) t9 (pU P) E[jj].1 E[jj].2 z) := stn_put (k := E[jj].1) (v := E[jj].2) (s := (z, pU P)) hw3 tk (by omega) htk (hEk _ (List.getElem_mem hjj))
          have st3 := putL_stn hw3 htk (E.drop (jj + 1)) (jj + 1) (putT (pW P) t9 (pU P) E[jj].1 E[jj].2 z) st2.1 (fun y hy => hEk y (List.mem_of_mem_drop hy)) (by rw [List.length_drop]; omega)
          have hfu : (putL (pW P) t9 (E.drop (jj + 1)) (putT (pW P) t9 (pU P) E[jj].1 E[jj].2 z)).2 = pU F := by have hF := hF.1; rw [putL_at hjj] at hF; exact congrArg pU hF
          have hu1 := st2.2.1
          have hu2 := st3.2.1
          rw [hfu] at hu2
          have hu1 : pU P ≤ (putT (pW P) t9 (pU P) E[jj].1 E[jj].2 z).2 := hu1
          refine a_iload_n K dX10_mapTold_53 rfl ?_
          first | refine a_aload_n K dX10_mapTold_54 rfl ?_ | refine a_aload_nN K dX10_mapTold_54 rfl ?_
          refine a_getRs K fd_X10_77 (lw_i4 hL) (Or.inl ⟨_, rfl⟩) (lw_f652 hL) dX10_mapTold_55 ?_
          refine a_invV K (m_X7_size hR.1) my_X7_size ml_X10_138 im_X7_size se_X7_size (ci := 7) (by first | exact lw_i25 hL | exact lw_i28 hL | exact lw_i31 hL) (by decide) ⟨_, _, rfl⟩ rfl (by omega) (by omega) (by omega) rfl (Nat.le_of_ble_eq_true rfl) dX10_mapTold_58 ?_
          intro r9 S9 hp9
          obtain ⟨rfl, hS9⟩ := hp9
          obtain rfl := hS9.symm
          refine a_icmp_ge K dX10_mapTold_61 (tgt := 96) (by decide) (fun c_61 => absurd c_61 (by rw [hs]; exact nI_ge hjj (by omega))) (fun c_61 => ?_)
          first | refine a_aload_n K dX10_mapTold_64 rfl ?_ | refine a_aload_nN K dX10_mapTold_64 rfl ?_
          refine a_getRs K fd_X10_39 (lw_i4 hL) (Or.inl ⟨_, rfl⟩) (lw_f645 hL) dX10_mapTold_65 ?_
          first | refine a_aload_n K dX10_mapTold_68 rfl ?_ | refine a_aload_nN K dX10_mapTold_68 rfl ?_
          refine a_iload_n K dX10_mapTold_69 rfl ?_
          first | refine a_aload_n K dX10_mapTold_70 rfl ?_ | refine a_aload_nN K dX10_mapTold_70 rfl ?_
          refine a_getRs K fd_X10_77 (lw_i4 hL) (Or.inl ⟨_, rfl⟩) (lw_f652 hL) dX10_mapTold_71 ?_
          refine a_iload_n K dX10_mapTold_74 rfl ?_
          refine a_invV K (m_R_keyAt hR (show jj < 2 ^ 31 by omega)) my_X7_keyAt ml_X10_139 im_X7_keyAt se_X7_keyAt (ci := 7) (by first | exact lw_i25 hL | exact lw_i28 hL | exact lw_i31 hL) (by decide) ⟨_, _, rfl⟩ rfl (by omega) (by omega) (by omega) rfl (Nat.le_of_ble_eq_true rfl) dX10_mapTold_75 ?_
          intro r9 S9 hp9
          obtain ⟨rfl, hS9⟩ := hp9
          obtain rfl := hS9.symm
          rw [keyAtL_in hx9]
          first | refine a_aload_n K dX10_mapTold_78 rfl ?_ | refine a_aload_nN K dX10_mapTold_78 rfl ?_
          refine a_getRs K fd_X10_77 (lw_i4 hL) (Or.inl ⟨_, rfl⟩) (lw_f652 hL) dX10_mapTold_79 ?_
          refine a_iload_n K dX10_mapTold_82 rfl ?_
          refine a_invV K (m_R_valueAt hR (show jj < 2 ^ 31 by omega)) my_X7_valueAt ml_X10_142 im_X7_valueAt se_X7_valueAt (ci := 7) (by first | exact lw_i25 hL | exact lw_i28 hL | exact lw_i31 hL) (by decide) ⟨_, _, rfl⟩ rfl (by omega) (by omega) (by omega) rfl (Nat.le_of_ble_eq_true rfl) dX10_mapTold_83 ?_
          intro r9 S9 hp9
          obtain ⟨rfl, hS9⟩ := hp9
          obtain rfl := hS9.symm
          rw [valAtL_in hx9]
          refine a_invV K (m_putZ hw3 hw6 (tk := t9) (u := pU P) (key := E[jj].1) (v := E[jj].2) (z := z) (lw_i5 hL) h.2.1.1 h.2.2.2.2.2.2.2.2.1.1 tz.1 tk.1 tk.2.2.2.1 (by omega) (by omega)) my_X1_put ml_X10_145 im_X1_put se_X1_put (ci := 1) (lw_i5 hL) (by decide) ⟨_, _, rfl⟩ rfl (by omega) (by omega) (by omega) rfl (Nat.le_of_ble_eq_true rfl) dX10_mapTold_86 ?_
          intro r9 S9 hp9
          obtain ⟨ad2, ar2, rfl, G, rz⟩ := hp9
          obtain ⟨h5, k5⟩ := h.grn hn tz G
          have hL := h5.L
          have hR5 : RoW S9 (v 25) (v 26) (v 27) E := hR.fr G.2.2.2.2.2 (h.ngp tz.2 (by decide) (by decide)) (h.ngp tz.2 (by decide) (by decide)) (h.ngp tz.2 (by decide) (by decide))
          first | refine a_astore_n K dX10_mapTold_89 (by decide) ?_ | refine a_astore_nN K dX10_mapTold_89 (by decide) ?_
          refine a_iinc K dX10_mapTold_90 (v := 1) rfl (by decide) (by decide) ?_
          refine a_goto K dX10_mapTold_93 (tgt := 53) (by decide) ?_
          exact aw_locl rfl (ih (jj + 1) _ S9 ad2 ar2 (setU P (putT (pW P) t9 (pU P) E[jj].1 E[jj].2 z).2) (putT (pW P) t9 (pU P) E[jj].1 E[jj].2 z).1 _ _ (nI_1 jj) (by omega) h5 ⟨rz, st2.1.2.2.2.1.1⟩ st2.1 hnn hlen hR5 (hX.tr k5) (by rw [putL_at hjj] at hF; exact ⟨(setU_setU (P := P) st2.2.1 st3.2.1).trans hF.1, hF.2⟩) (by show _ + 2 * (pU F - (putT (pW P) t9 (pU P) E[jj].1 E[jj].2 z).2) ≤ _; omega) (by show _ + 19 * (pU F - (putT (pW P) t9 (pU P) E[jj].1 E[jj].2 z).2) ≤ _; omega))
      subst hLN
      subst ht9
      first | refine a_aload_n K dX10_mapTold_0 rfl ?_ | refine a_aload_nN K dX10_mapTold_0 rfl ?_
      refine a_getRs K fd_X10_21 (lw_i4 hL) (Or.inl ⟨_, rfl⟩) (lw_f641 hL) dX10_mapTold_1 ?_
      first | refine a_aload_n K dX10_mapTold_4 rfl ?_ | refine a_aload_nN K dX10_mapTold_4 rfl ?_
      refine a_getRs K fd_X10_77 (lw_i4 hL) (Or.inl ⟨_, rfl⟩) (lw_f652 hL) dX10_mapTold_5 ?_
      refine a_invV K (m_readEntries h.rds) my_X6_readEntries ml_X10_110 im_X6_readEntries se_X6_readEntries (ci := 6) (lw_i2 hL) (by decide) ⟨_, _, rfl⟩ rfl (by omega) (by omega) (by omega) rfl (Nat.le_of_ble_eq_true rfl) dX10_mapTold_8 ?_
      intro r9 S1 hp9
      obtain ⟨rfl, hR1, f9⟩ := hp9
      obtain ⟨h1, k1⟩ := RC_re h f9
      have hL := h1.L
      rw [hx]
      refine a_iconst K dX10_mapTold_11 (v := -1) (by decide) ?_
      refine a_icmp_eq K dX10_mapTold_12 (tgt := 17) (by decide) (fun c_12 => ?_) (fun c_12 => absurd c_12 (fun z => z rfl))
      first | refine a_aload_n K dX10_mapTold_17 rfl ?_ | refine a_aload_nN K dX10_mapTold_17 rfl ?_
      refine a_getRs K fd_X10_46 (lw_i4 hL) (Or.inl ⟨_, rfl⟩) (lw_f646 hL) dX10_mapTold_18 ?_
      refine a_invV K (m_X3_hasRoom (lw_i6 hL) h1.2.2.1.2.2.1 h1.2.2.1.1 (show hcnt (pH P) < 1000000 by have h1 := List.countP_le_length (p := pH P) (l := List.range 999); rw [List.length_range] at h1; unfold hcnt; omega) (show (pM P).length < 1000000 by have h1 := h1.2.2.1.2.1; omega)) my_X3_hasRoom ml_X10_124 im_X3_hasRoom se_X3_hasRoom (ci := 3) (lw_i6 hL) (by decide) ⟨_, _, rfl⟩ rfl (by omega) (by omega) (by omega) rfl (Nat.le_of_ble_eq_true rfl) dX10_mapTold_21 ?_
      intro r9 S9 hp9
      obtain ⟨hS9, hb9⟩ := hp9
      obtain rfl := hS9.symm
      obtain rfl : r9 = some (.int 1) := hb9.elim (fun y => y.2) (fun y => absurd hr y.1)
      refine a_if_ne K dX10_mapTold_24 (tgt := 33) (by decide) (fun c_24 => ?_) (fun c_24 => absurd c_24 (by decide))
      first | refine a_aload_n K dX10_mapTold_33 rfl ?_ | refine a_aload_nN K dX10_mapTold_33 rfl ?_
      refine a_getRs K fd_X10_39 (lw_i4 hL) (Or.inl ⟨_, rfl⟩) (lw_f645 hL) dX10_mapTold_34 ?_
      refine a_invV K (c_newTokenR h1) my_X1_newToken ml_X10_131 im_X1_newToken se_X1_newToken (ci := 1) (lw_i5 hL) (by decide) ⟨_, _, rfl⟩ rfl (by omega) (by omega) (by omega) rfl (Nat.le_of_ble_eq_true rfl) dX10_mapTold_37 ?_
      intro r9 S2 hp9
      obtain ⟨rfl, h2, k2, f2⟩ := hp9
      have hL := h2.L
      have hR2 : RoW S2 (v 25) (v 26) (v 27) (redE (pT P)).2 := hR1.fr f2.fr (Qk_no hL (by decide) (by decide) (by decide)) (Qk_no hL (by decide) (by decide) (by decide)) (Qk_no hL (by decide) (by decide) (by decide))
      refine a_istore_n K dX10_mapTold_40 (by decide) ?_
      first | refine a_aload_n K dX10_mapTold_41 rfl ?_ | refine a_aload_nN K dX10_mapTold_41 rfl ?_
      refine a_getRs K fd_X10_39 (lw_i4 hL) (Or.inl ⟨_, rfl⟩) (lw_f645 hL) dX10_mapTold_42 ?_
      refine a_iconst K dX10_mapTold_45 (v := 1) (by decide) ?_
      refine a_iload_n K dX10_mapTold_46 rfl ?_
      refine a_invV K (m_X1_newNode_l (lw_i5 hL) (tk := nI (pTk P))) my_X1_newNode ml_X10_134 im_X1_newNode se_X1_newNode (ci := 1) (lw_i5 hL) (by decide) ⟨_, _, rfl⟩ rfl (by omega) (by omega) (by omega) rfl (Nat.le_of_ble_eq_true rfl) dX10_mapTold_47 ?_
      intro r9 S3 hp9
      obtain ⟨q1, q2, rfl, m9⟩ := hp9
      have G9 := m9.gr h2.2.2.2.2.2.2.2.2.1.1 (u := pU P) (tk := pTk P) []
      obtain ⟨h3, k3⟩ := RC.grow (P := incT P) h2 G9 (fun y hy => absurd hy (by simp)) (fun _ _ _ _ q hq => absurd hq (by simp)) (fun _ _ _ _ _ q hq => absurd hq (by simp))
      have hL := h3.L
      have rz := mkN_lf0 (ad := ad) (ar := ar) (u := pU P) m9 (by omega)
      have hR3 : RoW S3 (v 25) (v 26) (v 27) (redE (pT P)).2 := hR2.fr G9.2.2.2.2.2 (h2.ngp (L := []) (fun y hy => absurd hy (by simp)) (by decide) (by decide)) (h2.ngp (L := []) (fun y hy => absurd hy (by simp)) (by decide) (by decide)) (h2.ngp (L := []) (fun y hy => absurd hy (by simp)) (by decide) (by decide))
      have eu : va_up ad (pU P) q1 (pU P) = q1 := va_up_self _ _ _
      first | refine a_astore_n K dX10_mapTold_50 (by decide) ?_ | refine a_astore_nN K dX10_mapTold_50 (by decide) ?_
      refine a_iconst K dX10_mapTold_51 (v := 0) (by decide) ?_
      refine a_istore_n K dX10_mapTold_52 (by decide) ?_
      rw [← eu]
      exact aw_locl rfl (loop E.length 0 _ S3 (va_up ad (pU P) q1) (va_up ar (pU P) q2) (setU (incT P) (pU P + 1)) (lf0 (pU P) (pTk P)) _ _ nI_0.symm (by omega) h3 ⟨rz, tk0.2.2.2.1.1⟩ tk0 ⟨⟨fun x hx y hy => Nat.ne_of_lt (hP.new.1 x hx y hy), fun j b hb y hy => Nat.ne_of_lt (hP.new.2 j b hb y hy)⟩, Nat.lt_succ_self _, (by show pTk P + 1 < _; have h1 := hP.2.2.2; omega), hP.1⟩ ⟨rfl, hr.2⟩ (hE ▸ hR3) ((k1.tr k2).tr k3) ⟨hF1, hF2⟩ (by show _ + 2 * (pU F - (pU P + 1)) ≤ _; omega) (by show _ + 19 * (pU F - (pU P + 1)) ≤ _; omega))
    · refine aw_enter (by decide +kernel) (Nat.le_of_ble_eq_true rfl) (fun g K EE => ?_)
      first | refine a_aload_n K dX10_mapTold_0 rfl ?_ | refine a_aload_nN K dX10_mapTold_0 rfl ?_
      refine a_getRs K fd_X10_21 (lw_i4 hL) (Or.inl ⟨_, rfl⟩) (lw_f641 hL) dX10_mapTold_1 ?_
      first | refine a_aload_n K dX10_mapTold_4 rfl ?_ | refine a_aload_nN K dX10_mapTold_4 rfl ?_
      refine a_getRs K fd_X10_77 (lw_i4 hL) (Or.inl ⟨_, rfl⟩) (lw_f652 hL) dX10_mapTold_5 ?_
      refine a_invV K (m_readEntries h.rds) my_X6_readEntries ml_X10_110 im_X6_readEntries se_X6_readEntries (ci := 6) (lw_i2 hL) (by decide) ⟨_, _, rfl⟩ rfl (by omega) (by omega) (by omega) rfl (Nat.le_of_ble_eq_true rfl) dX10_mapTold_8 ?_
      intro r9 S1 hp9
      obtain ⟨rfl, hR1, f9⟩ := hp9
      obtain ⟨h1, k1⟩ := RC_re h f9
      have hL := h1.L
      rw [hx]
      refine a_iconst K dX10_mapTold_11 (v := -1) (by decide) ?_
      refine a_icmp_eq K dX10_mapTold_12 (tgt := 17) (by decide) (fun c_12 => ?_) (fun c_12 => absurd c_12 (fun z => z rfl))
      first | refine a_aload_n K dX10_mapTold_17 rfl ?_ | refine a_aload_nN K dX10_mapTold_17 rfl ?_
      refine a_getRs K fd_X10_46 (lw_i4 hL) (Or.inl ⟨_, rfl⟩) (lw_f646 hL) dX10_mapTold_18 ?_
      refine a_invV K (m_X3_hasRoom (lw_i6 hL) h1.2.2.1.2.2.1 h1.2.2.1.1 (show hcnt (pH P) < 1000000 by have h1 := List.countP_le_length (p := pH P) (l := List.range 999); rw [List.length_range] at h1; unfold hcnt; omega) (show (pM P).length < 1000000 by have h1 := h1.2.2.1.2.1; omega)) my_X3_hasRoom ml_X10_124 im_X3_hasRoom se_X3_hasRoom (ci := 3) (lw_i6 hL) (by decide) ⟨_, _, rfl⟩ rfl (by omega) (by omega) (by omega) rfl (Nat.le_of_ble_eq_true rfl) dX10_mapTold_21 ?_
      intro r9 S9 hp9
      obtain ⟨hS9, hb9⟩ := hp9
      obtain rfl := hS9.symm
      obtain rfl : r9 = some (.int 0) := hb9.elim (fun y => absurd y.1 hr) (fun y => y.2)
      refine a_if_ne K dX10_mapTold_24 (tgt := 33) (by decide) (fun c_24 => absurd c_24 (fun z => z rfl)) (fun c_24 => ?_)
      first | refine a_aload_n K dX10_mapTold_27 rfl ?_ | refine a_aload_nN K dX10_mapTold_27 rfl ?_
      refine a_iconst K dX10_mapTold_28 (v := 4) (by decide) ?_
      refine a_invV K (c_refused h1 4 (by decide)) my_X10_refused ml_X10_128 im_X10_refused se_X10_refused (ci := 10) (lw_i4 hL) (by decide) ⟨_, _, rfl⟩ rfl (by omega) (by omega) (by omega) rfl (Nat.le_of_ble_eq_true rfl) dX10_mapTold_29 ?_
      intro r9 S9 hp9
      obtain ⟨rfl, h2, k2⟩ := hp9
      exact a_iret K EE rfl (by omega) (by omega) dX10_mapTold_32 (by unfold txtM; rw [hx]; show mutQ X v PA mb S (ite _ _ _) _ _; rw [if_neg hr]; exact ⟨ad, ar, rfl, h2, k1.tr k2⟩)
