/-! programs run -/
abbrev fitB (b : BI) (k : Int32) : Prop := ¬ valIn (ent b.1.1 b.1.2) k = -1000000 ∨ (ent b.1.1 b.1.2).length < 60
def stT (P : PS) (j : Nat) (b : BI) (r : Tz × Nat) : Bool × PS := (true, setT P j r b.2.1 b.2.2)
def runB (P : PS) (j : Nat) (s : ST) (b : BI) : Bool × PS := if s 0 = 0 then (if fitB b (s 1) then stT P j b (putT (pW P) b.2.1 (pU P) (s 1) (s 2) b.1) else (false, P)) else if s 0 = 1 then stT P j b (cutE (pW P) b.2.1 (s 1) (s 1) (ent b.1.1 b.1.2) (b.1, pU P)) else if s 0 = 2 then (if fitB b (s 1) then stT P j b (putT (pW P) b.2.1 (pU P) (s 1) (addV (ent b.1.1 b.1.2) (s 1) (s 2)) b.1) else (false, P)) else if s 0 = 3 then stT P j b (cutE (pW P) b.2.1 (s 1) (s 2) (ent b.1.1 b.1.2) (b.1, pU P)) else if s 0 = 4 then stT P j b (raiE (pW P) b.2.1 (s 1) (s 2) (s 3) (ent b.1.1 b.1.2) (b.1, pU P)) else (if hcnt (pH P) < 16 ∧ (pM P).length < 999 then (true, snpP P j b) else (false, P))
def runS (P : PS) (j : Nat) (s : ST) : Bool × PS := match pB P j with
  | none => (false, P)
  | some b => runB P j s b
def runL (j : Nat) : List ST → PS → Nat × PS
  | [], P => (0, P)
  | s :: l, P => if (runS P j s).1 then ((runL j l (runS P j s).2).1 + 1, (runL j l (runS P j s).2).2) else (0, (runS P j s).2)
def runC (P : PS) (g : List ST) (j : Nat) : Int32 × PS := match pB P j with
  | none => (-1, refP P 2)
  | some _ => (nI (runL j g P).1, (runL j g P).2)
def runF (P : PS) (p i : Int32) : Int32 × PS := match prgA P p, bAt i with
  | some g, some j => runC P g j
  | _, _ => (-1, refP P 0)
/-- what a step may cost -/
def cstR (P : PS) (b : BI) (Q : PS) (c : BI) : Prop := (pU Q + un c.2.1 (ndl c.1.1 c.1.2) ≤ pU P + un b.2.1 (ndl b.1.1 b.1.2) + 6) ∨ (pU Q = pU P ∧ un c.2.1 (ndl c.1.1 c.1.2) ≤ 61)
def stpR (n : Nat) (P : PS) (j : Nat) (b : BI) (Q : PS) : Prop := PJ (n + 1) Q ∧ pU P ≤ pU Q ∧ pG Q = pG P ∧ ∃ c, pB Q j = some c ∧ cstR P b Q c
theorem stpR_t {n c9 : Nat} {P : PS} {j : Nat} {b : BI} (h : PJ n P) (hb : pB P j = some b) {r : Tz × Nat} (s : stc c9 (pW P) (pTk P) b.2.1 (b.1, pU P) r) (hc : c9 ≤ 6) : stpR n P j b (stT P j b r).2 := by
  obtain ⟨z, t, f⟩ := b
  refine ⟨(h.set0 hb s.1 s.2.1 s.2.2.2).up (Nat.le_succ _), s.2.1, rfl, (r.1, t, f), setT_B, Or.inl ?_⟩
  have h1 := s.2.2.1
  show r.2 + un t (ndl r.1.1 r.1.2) ≤ pU P + un t (ndl z.1 z.2) + 6
  have h1 : r.2 + un t (ndl r.1.1 r.1.2) ≤ pU P + un t (ndl z.1 z.2) + c9 := h1
  omega
theorem stpR_same {n : Nat} {P : PS} {j : Nat} {b : BI} (h : PJ n P) (hb : pB P j = some b) : stpR n P j b P := ⟨h.up (Nat.le_succ _), Nat.le_refl _, rfl, b, hb, Or.inl (by omega)⟩
theorem runB_ok {n : Nat} {P : PS} {j : Nat} {b : BI} {s : ST} (h : PJ n P) (hn : n + 1 < 1000000000) (hb : pB P j = some b) (hs : okS9 s) : stpR n P j b (runB P j s b).2 := by
  have hw := h.1.1.1
  obtain ⟨a1, a2, a3, -⟩ := h.1.2.2.1 j _ hb
  have hpt : ∀ {k v : Int32}, okK k → okV v → fitB b k → stpR n P j b (stT P j b (putT (pW P) b.2.1 (pU P) k v b.1)).2 := fun {k v} hk hv hf => by
    have q := ptT_stc (k := k) (v := v) (s := (b.1, pU P)) hw a2 a3 ⟨hk, hv⟩
    unfold ptT at q
    rw [if_pos hf] at q
    exact stpR_t h hb q (Nat.le_refl _)
  have hct : ∀ {x y : Int32}, stpR n P j b (stT P j b (cutE (pW P) b.2.1 x y (ent b.1.1 b.1.2) (b.1, pU P))).2 := fun {x y} => stpR_t h hb ((cutE_stp (a := x) (b := y) hw a3 (ent b.1.1 b.1.2) (b.1, pU P) a2).c 0) (by omega)
  unfold runB
  by_cases e0 : s 0 = 0
  · rw [if_pos e0]
    rcases hs with ⟨-, q1, q2, -⟩ | ⟨q, -⟩ | ⟨q, -⟩ | ⟨q, -⟩ | ⟨q, -⟩ | ⟨q, -⟩
    · split
      · rename_i c
        exact hpt q1 q2 c
      · exact stpR_same h hb
    all_goals exact absurd (e0.symm.trans q) (by decide)
  · rw [if_neg e0]
    by_cases e1 : s 0 = 1
    · rw [if_pos e1]
      exact hct
    · rw [if_neg e1]
      by_cases e2 : s 0 = 2
      · rw [if_pos e2]
        rcases hs with ⟨q, -⟩ | ⟨q, -⟩ | ⟨-, q1, q2, -⟩ | ⟨q, -⟩ | ⟨q, -⟩ | ⟨q, -⟩
        case inr.inr.inl =>
          split
          · rename_i c
            exact hpt q1 (addV_ok q2) c
          · exact stpR_same h hb
        all_goals exact absurd (e2.symm.trans q) (by decide)
      · rw [if_neg e2]
        by_cases e3 : s 0 = 3
        · rw [if_pos e3]
          exact hct
        · rw [if_neg e3]
          by_cases e4 : s 0 = 4
          · rw [if_pos e4]
            exact stpR_t h hb ((raiE_stp (a := s 1) (b := s 2) (d := s 3) hw a3 (ent b.1.1 b.1.2) (b.1, pU P) a2 (fun x hx => ⟨a2.2.1 x hx, ent_has a2.1.2.2.2.1 a2.1.2.2.2.2 x hx⟩)).c 0) (by omega)
          · rw [if_neg e4]
            split
            · rename_i c
              obtain ⟨z, t, f⟩ := b
              refine ⟨h.snp1 hn hb c, Nat.le_refl _, rfl, (z, pTk P, nI (pM P).length), if_pos rfl, Or.inr ⟨rfl, ?_⟩⟩
              have h1 := un_le (pTk P) (ndl z.1 z.2)
              obtain ⟨-, -, h4⟩ := a2.h4 hw
              exact Nat.le_trans h1 h4
            · exact stpR_same h hb
theorem runL_ok {j : Nat} : ∀ (l : List ST) (n : Nat) (P : PS) (b : BI), PJ n P → n + l.length < 1000000000 → pB P j = some b → (∀ s ∈ l, okS9 s) → PJ (n + l.length) (runL j l P).2 ∧ pU P ≤ pU (runL j l P).2 ∧ pG (runL j l P).2 = pG P
  | [], n, P, b, h, _, _, _ => ⟨h, Nat.le_refl _, rfl⟩
  | s :: l, n, P, b, h, hn, hb, hs => by
    rw [List.length_cons] at hn ⊢
    obtain ⟨h1, h2, h3, c, hc, -⟩ := runB_ok h (by omega) hb (hs s List.mem_cons_self)
    have e : runS P j s = runB P j s b := by unfold runS; rw [hb]
    rw [runL, e]
    split
    · obtain ⟨k1, k2, k3⟩ := runL_ok l (n + 1) _ c h1 (by omega) hc (fun y hy => hs y (List.mem_cons_of_mem _ hy))
      exact ⟨k1.up (by omega), Nat.le_trans h2 k2, k3.trans h3⟩
    · exact ⟨h1.up (by omega), h2, h3⟩
theorem runL_cost {j U0 : Nat} : ∀ (l : List ST) (n i : Nat) (P : PS) (b : BI), PJ n P → n + l.length < 1000000000 → pB P j = some b → (∀ s ∈ l, okS9 s) → pU P + un b.2.1 (ndl b.1.1 b.1.2) ≤ U0 + 34 * i + 61 → pU P ≤ U0 + 34 * i + 33 → pU (runL j l P).2 ≤ U0 + 34 * (i + l.length) + 33
  | [], n, i, P, b, _, _, _, _, _, hu => by
    show pU P ≤ _
    rw [List.length_nil]
    omega
  | s :: l, n, i, P, b, h, hn, hb, hs, h61, h33 => by
    rw [List.length_cons] at hn ⊢
    obtain ⟨h1, h2, h3, c, hc, hq⟩ := runB_ok h (by omega) hb (hs s List.mem_cons_self)
    have e : runS P j s = runB P j s b := by unfold runS; rw [hb]
    rw [runL, e]
    have hA : pU (runB P j s b).2 + un c.2.1 (ndl c.1.1 c.1.2) ≤ U0 + 34 * (i + 1) + 61 ∧ pU (runB P j s b).2 ≤ U0 + 34 * (i + 1) + 33 := by
      rcases hq with hq | ⟨q1, q2⟩ <;> omega
    split
    · have k := runL_cost l (n + 1) (i + 1) _ c h1 (by omega) hc (fun y hy => hs y (List.mem_cons_of_mem _ hy)) hA.1 hA.2
      rw [show i + 1 + l.length = i + (l.length + 1) by omega] at k
      exact k
    · show pU (runB P j s b).2 ≤ _
      have := hA.2
      omega
theorem runL_le (j : Nat) : ∀ (l : List ST) (P : PS), (runL j l P).1 ≤ l.length
  | [], _ => Nat.le_refl _
  | s :: l, P => by
    rw [runL]
    split
    · exact Nat.succ_le_succ (runL_le j l _)
    · exact Nat.zero_le _
theorem runL_y {j : Nat} {s : ST} {l : List ST} {P Q : PS} (h : runS P j s = (true, Q)) : runL j (s :: l) P = ((runL j l Q).1 + 1, (runL j l Q).2) := by rw [runL, h, if_pos rfl]
theorem runL_n {j : Nat} {s : ST} {l : List ST} {P Q : PS} (h : runS P j s = (false, Q)) : runL j (s :: l) P = (0, Q) := by rw [runL, h]; rfl
theorem celA_at {g : List ST} {i k : Nat} {s : ST} (hs : g[i]? = some s) (hg : g.length ≤ 16) (hk : k < 4) : celA g (nI i) (nI k) = s k := by
  have hi := (List.getElem?_eq_some_iff.mp hs).1
  unfold celA
  rw [nI_toInt (by omega), nI_toInt (by omega), if_pos (by omega), nI_clamp (by omega), nI_clamp (by omega), hs]
theorem PJ_run {n : Nat} {P : PS} (h : PJ n P) (hn : n + 20 < 1000000000) (p i : Int32) : PJ (n + 20) (runF P p i).2 := by
  unfold runF
  split
  · rename_i g j hg hj
    unfold runC
    split
    · exact h.ref 2
    · rename_i b hb
      have hm : g ∈ pG P := by
        unfold prgA at hg
        split at hg
        · exact List.mem_of_getElem? hg
        · exact absurd hg (by simp)
      obtain ⟨h16, hs⟩ := h.2.2.2.1.2 g hm
      exact (runL_ok g n P b h (by omega) hb hs).1.up (by omega)
  · exact h.ref 0
theorem prgA_j {P : PS} {p : Int32} {g : List ST} (h : prgA P p = some g) : ∃ i, p = nI i ∧ i < (pG P).length ∧ (pG P)[i]? = some g := by
  unfold prgA at h
  split at h
  · rename_i c
    obtain ⟨k, hk, rfl⟩ := nI_of (x := p) (by rw [i32_lt]; show ¬ p.toInt < 0; omega)
    rw [nI_toInt hk] at c
    rw [nI_clamp hk] at h
    exact ⟨k, rfl, by omega, h⟩
  · exact absurd h (by simp)
/-- a program stands where it stood -/
theorem RC.pg {S : aw_S} {v ad ar : Nat → Nat} {PA : List (Nat × Nat)} {X : List Nat} {mb : Nat} {P : PS} (h : RC S v ad ar PA X mb P) {i : Nat} {g : List ST} {q : Nat × Nat} (hg : (pG P)[i]? = some g) (hq : PA[i]? = some q) : sQ S (v 3) i = some q.1 ∧ PgW S q g := by
  obtain ⟨q2, a, b, c⟩ := h.2.2.2.2.2.1.2.2.2.1 i g hg
  rw [hq] at a
  cases a
  exact ⟨b, c⟩
set_option maxHeartbeats 4000000 in
set_option maxRecDepth 100000 in
theorem c_run {S : aw_S} {v ad ar : Nat → Nat} {PA : List (Nat × Nat)} {X : List Nat} {mb : Nat} {P : PS} (h : RC S v ad ar PA X mb P) {n9 : Nat} (hJ : PJ n9 P) (hn9 : n9 + 20 < 1000000000) {p i : Int32} : aw_M yX10_run cX10_run 10 (some FieldType.int) 13 1154 10963 [.ref (v 4), .int p, .int i] S (mutQ X v PA mb S (runF P p i)) := by
  have hL := h.L
  have hP := hJ.1
  cases hg : prgA P p with
  | none =>
    rcases w_prog h p with ⟨-, e⟩ | ⟨g9, q, z9, -⟩
    · cases hbt : bAt i with
      | none =>
        obtain ⟨e2, -⟩ := bAt_at h.L i
        rw [hbt] at e2
        exact ((m_X10_run_null hL e e2).post (fun r S2 z => by unfold runF; rw [hg]; exact PRq.mut h (by decide) z)).le (by decide) (Nat.zero_le _) (Nat.zero_le _)
      | some j =>
        obtain ⟨e2, -⟩ := bAt_at h.L i
        rw [hbt] at e2
        exact ((m_X10_run_noprog hL e e2).post (fun r S2 z => by unfold runF; rw [hg]; exact PRq.mut h (by decide) z)).le (by decide) (Nat.zero_le _) (Nat.zero_le _)
    · exact absurd (hg.symm.trans z9) (by simp)
  | some g9 =>
    obtain ⟨i0, rfl, hi0, hg0⟩ := prgA_j hg
    obtain ⟨q, hq0⟩ : ∃ q, PA[i0]? = some q := by
      obtain ⟨q2, a, -⟩ := h.2.2.2.2.2.1.2.2.2.1 i0 g9 hg0
      exact ⟨q2, a⟩
    obtain ⟨e3, hq⟩ := h.pg hg0 hq0
    have hp4 := h.2.2.2.2.2.1.2.1
    have ep : atR (sQ S (v 3)) 4 (nI i0) = some q.1 := by rw [atR_in (by omega) (by decide)]; exact e3
    obtain ⟨e, -⟩ := bAt_at h.L i
    cases hbt : bAt i with
    | none =>
      rw [hbt] at e
      have e : atR (sQ S (v 13)) 4 i = none := e
      refine aw_enter (by decide +kernel) (Nat.le_of_ble_eq_true rfl) (fun g K EE => ?_)
      first | refine a_aload_n K dX10_run_0 rfl ?_ | refine a_aload_nN K dX10_run_0 rfl ?_
      refine a_iload_n K dX10_run_1 rfl ?_
      refine a_invV K (w_programAt hL (nI i0)) my_X10_programAt ml_X10_380 im_X10_programAt se_X10_programAt (ci := 10) (lw_i4 hL) (by decide) ⟨_, _, rfl⟩ rfl (by omega) (by omega) (by omega) rfl (Nat.le_of_ble_eq_true rfl) dX10_run_2 ?_
      intro r9 S9 hp9
      obtain ⟨hS9, rfl⟩ := hp9
      obtain rfl := hS9.symm
      rw [ep]
      first | refine a_astore_n K dX10_run_5 (by decide) ?_ | refine a_astore_nN K dX10_run_5 (by decide) ?_
      first | refine a_aload_n K dX10_run_6 rfl ?_ | refine a_aload_nN K dX10_run_6 rfl ?_
      refine a_iload_n K dX10_run_7 rfl ?_
      refine a_invV K (w_builderAt hL i) my_X10_builderAt ml_X10_313 im_X10_builderAt se_X10_builderAt (ci := 10) (lw_i4 hL) (by decide) ⟨_, _, rfl⟩ rfl (by omega) (by omega) (by omega) rfl (Nat.le_of_ble_eq_true rfl) dX10_run_8 ?_
      intro r9 S9 hp9
      obtain ⟨hS9, rfl⟩ := hp9
      obtain rfl := hS9.symm
      rw [e]
      first | refine a_astore K dX10_run_11 (by decide) ?_ | refine a_astoreN K dX10_run_11 (by decide) ?_
      first | refine a_aload_n K dX10_run_13 rfl ?_ | refine a_aload_nN K dX10_run_13 rfl ?_
      refine a_ifnull K dX10_run_14 ?_
      first | refine a_aload K dX10_run_17 rfl ?_ | refine a_aloadN K dX10_run_17 rfl ?_
      refine a_ifnonnullN K dX10_run_19 ?_
      first | refine a_aload_n K dX10_run_22 rfl ?_ | refine a_aload_nN K dX10_run_22 rfl ?_
      refine a_iconst K dX10_run_23 (v := 0) (by decide) ?_
      refine a_invV K (c_refused h 0 (by decide)) my_X10_refused ml_X10_128 im_X10_refused se_X10_refused (ci := 10) (lw_i4 hL) (by decide) ⟨_, _, rfl⟩ rfl (by omega) (by omega) (by omega) rfl (Nat.le_of_ble_eq_true rfl) dX10_run_24 ?_
      intro r9 S9 hp9
      obtain ⟨rfl, h2, k2⟩ := hp9
      exact a_iret K EE rfl (by omega) (by omega) dX10_run_27 (by unfold runF; rw [hg, hbt]; exact ⟨ad, ar, rfl, h2, k2⟩)
    | some j =>
      rw [hbt] at e
      have e : atR (sQ S (v 13)) 4 i = some (v (14 + j)) := e
      have hj := bAt_lt hbt
      have ob9 := lw_b hL hj
      have o5 := hq.1
      cases hp : pB P j with
      | none =>
        refine aw_enter (by decide +kernel) (Nat.le_of_ble_eq_true rfl) (fun g K EE => ?_)
        first | refine a_aload_n K dX10_run_0 rfl ?_ | refine a_aload_nN K dX10_run_0 rfl ?_
        refine a_iload_n K dX10_run_1 rfl ?_
        refine a_invV K (w_programAt hL (nI i0)) my_X10_programAt ml_X10_380 im_X10_programAt se_X10_programAt (ci := 10) (lw_i4 hL) (by decide) ⟨_, _, rfl⟩ rfl (by omega) (by omega) (by omega) rfl (Nat.le_of_ble_eq_true rfl) dX10_run_2 ?_
        intro r9 S9 hp9
        obtain ⟨hS9, rfl⟩ := hp9
        obtain rfl := hS9.symm
        rw [ep]
        first | refine a_astore_n K dX10_run_5 (by decide) ?_ | refine a_astore_nN K dX10_run_5 (by decide) ?_
        first | refine a_aload_n K dX10_run_6 rfl ?_ | refine a_aload_nN K dX10_run_6 rfl ?_
        refine a_iload_n K dX10_run_7 rfl ?_
        refine a_invV K (w_builderAt hL i) my_X10_builderAt ml_X10_313 im_X10_builderAt se_X10_builderAt (ci := 10) (lw_i4 hL) (by decide) ⟨_, _, rfl⟩ rfl (by omega) (by omega) (by omega) rfl (Nat.le_of_ble_eq_true rfl) dX10_run_8 ?_
        intro r9 S9 hp9
        obtain ⟨hS9, rfl⟩ := hp9
        obtain rfl := hS9.symm
        rw [e]
        first | refine a_astore K dX10_run_11 (by decide) ?_ | refine a_astoreN K dX10_run_11 (by decide) ?_
        first | refine a_aload_n K dX10_run_13 rfl ?_ | refine a_aload_nN K dX10_run_13 rfl ?_
        refine a_ifnull K dX10_run_14 ?_
        first | refine a_aload K dX10_run_17 rfl ?_ | refine a_aloadN K dX10_run_17 rfl ?_
        refine a_ifnonnull K dX10_run_19 (tgt := 28) (by decide) ?_
        first | refine a_aload K dX10_run_28 rfl ?_ | refine a_aloadN K dX10_run_28 rfl ?_
        refine a_invV K (m_X0_isStale_y (lw_b hL hj) ((h.2.2.2.1 j hj).1 hp)) my_X0_isStale ml_X10_342 im_X0_isStale se_X0_isStale (ci := 0) (by assumption) (by decide) ⟨_, _, rfl⟩ rfl (by omega) (by omega) (by omega) rfl (Nat.le_of_ble_eq_true rfl) dX10_run_30 ?_
        intro r9 S9 hp9
        obtain ⟨rfl, hS9⟩ := hp9
        obtain rfl := hS9.symm
        refine a_if_eq K dX10_run_33 (tgt := 42) (by decide) (fun c_33 => absurd c_33 (by decide)) (fun c_33 => ?_)
        first | refine a_aload_n K dX10_run_36 rfl ?_ | refine a_aload_nN K dX10_run_36 rfl ?_
        refine a_iconst K dX10_run_37 (v := 2) (by decide) ?_
        refine a_invV K (c_refused h 2 (by decide)) my_X10_refused ml_X10_128 im_X10_refused se_X10_refused (ci := 10) (lw_i4 hL) (by decide) ⟨_, _, rfl⟩ rfl (by omega) (by omega) (by omega) rfl (Nat.le_of_ble_eq_true rfl) dX10_run_38 ?_
        intro r9 S9 hp9
        obtain ⟨rfl, h2, k2⟩ := hp9
        exact a_iret K EE rfl (by omega) (by omega) dX10_run_41 (by unfold runF; rw [hg, hbt]; show mutQ X v PA mb S (runC P g9 j) _ _; unfold runC; rw [hp]; exact ⟨ad, ar, rfl, h2, k2⟩)
      | some b =>
        obtain ⟨z, t, f⟩ := b
        obtain ⟨ob, qr, qt, ht, htk, htl, hh⟩ := h.bk hP hj hp
        obtain ⟨h16, hsall⟩ := hJ.2.2.2.1.2 g9 (List.mem_of_getElem? hg0)
        have hrun : runF P (nI i0) i = (nI (runL j g9 P).1, (runL j g9 P).2) := by
          unfold runF
          rw [hg, hbt]
          show runC P g9 j = _
          unfold runC
          rw [hp]
        rw [hrun]
        have hun := un_le t (ndl z.1 z.2)
        obtain ⟨-, -, h61⟩ := ht.2.h4 hP.1.1
        have hcost := runL_cost (j := j) (U0 := pU P) g9 n9 0 P (z, t, f) hJ (by omega) hp hsall (by show pU P + un t (ndl z.1 z.2) ≤ _; omega) (by omega)
        obtain ⟨ANS, hA9⟩ : ∃ a, nI (runL j g9 P).1 = a := ⟨_, rfl⟩
        obtain ⟨F, hF9⟩ : ∃ a, (runL j g9 P).2 = a := ⟨_, rfl⟩
        rw [hF9] at hcost
        rw [hA9, hF9]
        obtain ⟨P0, hP0⟩ : ∃ a, a = P := ⟨_, rfl⟩
        rw [← hP0] at h hJ hp hg0 hcost hA9 hF9
        refine aw_enter (by decide +kernel) (Nat.le_of_ble_eq_true rfl) (fun g K EE => ?_)
        have stop : ∀ (i : Nat) (x : Int32) (T : aw_S) (ad ar : Nat → Nat) (P : PS) (k n2 : Nat), x = nI (i + 1) → RC T v ad ar PA X mb P → keepX X S T → pG P = pG P0 → nI i = ANS → P = F → k ≤ 1154 → n2 ≤ 10963 → aw g 10 T k n2 [(6, .int x), (5, .int 0), (3, .ref q.1)] [] 48 := by
          intro i x T ad ar P k n2 hx hT kT hG hA hF hk hn2
          subst hx
          obtain ⟨e3, hq⟩ := hT.pg (show (pG P)[i0]? = some g9 by rw [hG]; exact hg0) hq0
          have hL := hT.L
          have o5 := hq.1
          refine a_iload K dX10_run_48 rfl ?_
          first | refine a_aload_n K dX10_run_50 rfl ?_ | refine a_aload_nN K dX10_run_50 rfl ?_
          refine a_invV K (m_X5_size hq.1) my_X5_size ml_X10_387 im_X5_size se_X5_size (ci := 5) (by assumption) (by decide) ⟨_, _, rfl⟩ rfl (by omega) (by omega) (by omega) rfl (Nat.le_of_ble_eq_true rfl) dX10_run_51 ?_
          intro r9 S9 hp9
          obtain ⟨rfl, hS9⟩ := hp9
          obtain rfl := hS9.symm
          rw [hq.2.2.2.2.1]
          refine a_icmp_ge K dX10_run_54 (tgt := 226) (by decide) (fun c_54 => ?_) (fun c_54 => ?_)
          · refine a_iload K dX10_run_226 rfl ?_
            refine a_if_eq K dX10_run_228 (tgt := 236) (by decide) (fun c_228 => ?_) (fun c_228 => absurd c_228 (by decide))
            refine a_iload K dX10_run_236 rfl ?_
            refine a_iconst K dX10_run_238 (v := 1) (by decide) ?_
            refine a_isub K dX10_run_239 ?_
            rw [nI_pred]
            exact a_iret K EE rfl (by omega) (by omega) dX10_run_240 ⟨ad, ar, by rw [hA], by rw [← hF]; exact hT, kT⟩
          · refine a_iload K dX10_run_57 rfl ?_
            refine a_if_eq K dX10_run_59 (tgt := 226) (by decide) (fun c_59 => ?_) (fun c_59 => absurd c_59 (by decide))
            refine a_iload K dX10_run_226 rfl ?_
            refine a_if_eq K dX10_run_228 (tgt := 236) (by decide) (fun c_228 => ?_) (fun c_228 => absurd c_228 (by decide))
            refine a_iload K dX10_run_236 rfl ?_
            refine a_iconst K dX10_run_238 (v := 1) (by decide) ?_
            refine a_isub K dX10_run_239 ?_
            rw [nI_pred]
            exact a_iret K EE rfl (by omega) (by omega) dX10_run_240 ⟨ad, ar, by rw [hA], by rw [← hF]; exact hT, kT⟩
        have loop : ∀ (n i : Nat) (x : Int32) (T : aw_S) (ad ar : Nat → Nat) (P : PS) (k n2 m9 : Nat) (z : Tz) (t : Nat) (f : Int32), x = nI i → i + n = g9.length → RC T v ad ar PA X mb P → keepX X S T → PJ m9 P → m9 + n < 1000000000 → pG P = pG P0 → pB P j = some (z, t, f) → (nI (i + (runL j (g9.drop i) P).1) = ANS ∧ (runL j (g9.drop i) P).2 = F) → k + 2 * (pU F - pU P) ≤ 1154 → n2 + 19 * (pU F - pU P) ≤ 10963 → aw g 10 T k n2 [(6, .int x), (5, .int 1), (4, .ref (v (14 + j))), (3, .ref q.1), (0, .ref (v 4))] [] 48 := by
          intro n
          induction n with
          | zero =>
            intro i x T ad ar P k n2 m9 z t f hx hi hT kT hJ hm9 hG hb hAF hk hn2
            subst hx
            have hP := hJ.1
            obtain ⟨e3, hq⟩ := hT.pg (show (pG P)[i0]? = some g9 by rw [hG]; exact hg0) hq0
            have hL := hT.L
            have o5 := hq.1
            refine a_iload K dX10_run_48 rfl ?_
            first | refine a_aload_n K dX10_run_50 rfl ?_ | refine a_aload_nN K dX10_run_50 rfl ?_
            refine a_invV K (m_X5_size hq.1) my_X5_size ml_X10_387 im_X5_size se_X5_size (ci := 5) (by assumption) (by decide) ⟨_, _, rfl⟩ rfl (by omega) (by omega) (by omega) rfl (Nat.le_of_ble_eq_true rfl) dX10_run_51 ?_
            intro r9 S9 hp9
            obtain ⟨rfl, hS9⟩ := hp9
            obtain rfl := hS9.symm
            rw [hq.2.2.2.2.1]
            refine a_icmp_ge K dX10_run_54 (tgt := 226) (by decide) (fun c_54 => ?_) (fun c_54 => absurd c_54 (fun z => z (nI_le (by omega) (by omega))))
            refine a_iload K dX10_run_226 rfl ?_
            refine a_if_eq K dX10_run_228 (tgt := 236) (by decide) (fun c_228 => absurd c_228 (by decide)) (fun c_228 => ?_)
            refine a_iload K dX10_run_231 rfl ?_
            refine a_goto K dX10_run_233 (tgt := 240) (by decide) ?_
            exact a_iret K EE rfl (by omega) (by omega) dX10_run_240 (by obtain ⟨hA, hF⟩ := hAF; rw [show i = g9.length by omega, List.drop_length] at hA hF; have hA : nI (g9.length + 0) = ANS := hA; have hF : P = F := hF; exact ⟨ad, ar, by rw [show i = g9.length by omega]; exact congrArg (fun q => some (Value.int q)) hA, by rw [← hF]; exact hT, kT⟩)
          | succ n ih =>
            intro i x T ad ar P k n2 m9 z t f hx hi hT kT hJ hm9 hG hb hAF hk hn2
            subst hx
            have hP := hJ.1
            obtain ⟨e3, hq⟩ := hT.pg (show (pG P)[i0]? = some g9 by rw [hG]; exact hg0) hq0
            have hL := hT.L
            have o5 := hq.1
            have hi9 : i < g9.length := by omega
            obtain ⟨s, hsi⟩ : ∃ s, s = g9[i] := ⟨_, rfl⟩
            have hs9 : g9[i]? = some s := by rw [hsi]; exact List.getElem?_eq_getElem hi9
            have hsok := hsall s (List.mem_of_getElem? hs9)
            rcases id hsok with ⟨e9, qk, qv, -⟩ | ⟨e9, -⟩ | ⟨e9, qk, qv, -⟩ | ⟨e9, -⟩ | ⟨e9, -⟩ | ⟨e9, -⟩
            · by_cases hf : ¬ valIn (ent z.1 z.2) (s 1) = -1000000 ∨ (ent z.1 z.2).length < 60
              · refine a_iload K dX10_run_48 rfl ?_
                first | refine a_aload_n K dX10_run_50 rfl ?_ | refine a_aload_nN K dX10_run_50 rfl ?_
                refine a_invV K (m_X5_size hq.1) my_X5_size ml_X10_387 im_X5_size se_X5_size (ci := 5) (by assumption) (by decide) ⟨_, _, rfl⟩ rfl (by omega) (by omega) (by omega) rfl (Nat.le_of_ble_eq_true rfl) dX10_run_51 ?_
                intro r9 S9 hp9
                obtain ⟨rfl, hS9⟩ := hp9
                obtain rfl := hS9.symm
                rw [hq.2.2.2.2.1]
                refine a_icmp_ge K dX10_run_54 (tgt := 226) (by decide) (fun c_54 => absurd c_54 (nI_ge (by omega) (by omega))) (fun c_54 => ?_)
                refine a_iload K dX10_run_57 rfl ?_
                refine a_if_eq K dX10_run_59 (tgt := 226) (by decide) (fun c_59 => absurd c_59 (by decide)) (fun c_59 => ?_)
                first | refine a_aload_n K dX10_run_62 rfl ?_ | refine a_aload_nN K dX10_run_62 rfl ?_
                refine a_iload K dX10_run_63 rfl ?_
                refine a_iconst K dX10_run_65 (v := 1) (by decide) ?_
                refine a_invV K (m_cell hq (i := nI i) (w := 1)) my_X5_cell ml_X10_384 im_X5_cell se_X5_cell (ci := 5) (by assumption) (by decide) ⟨_, _, rfl⟩ rfl (by omega) (by omega) (by omega) rfl (Nat.le_of_ble_eq_true rfl) dX10_run_66 ?_
                intro r9 S9 hp9
                obtain ⟨rfl, hS9⟩ := hp9
                obtain rfl := hS9.symm
                rw [show celA g9 (nI i) 1 = s 1 from celA_at hs9 h16 (k := 1) (by decide)]
                refine a_istore K dX10_run_69 (by decide) ?_
                first | refine a_aload_n K dX10_run_71 rfl ?_ | refine a_aload_nN K dX10_run_71 rfl ?_
                refine a_iload K dX10_run_72 rfl ?_
                refine a_iconst K dX10_run_74 (v := 2) (by decide) ?_
                refine a_invV K (m_cell hq (i := nI i) (w := 2)) my_X5_cell ml_X10_384 im_X5_cell se_X5_cell (ci := 5) (by assumption) (by decide) ⟨_, _, rfl⟩ rfl (by omega) (by omega) (by omega) rfl (Nat.le_of_ble_eq_true rfl) dX10_run_75 ?_
                intro r9 S9 hp9
                obtain ⟨rfl, hS9⟩ := hp9
                obtain rfl := hS9.symm
                rw [show celA g9 (nI i) 2 = s 2 from celA_at hs9 h16 (k := 2) (by decide)]
                refine a_istore K dX10_run_78 (by decide) ?_
                first | refine a_aload_n K dX10_run_80 rfl ?_ | refine a_aload_nN K dX10_run_80 rfl ?_
                refine a_iload K dX10_run_81 rfl ?_
                refine a_iconst K dX10_run_83 (v := 3) (by decide) ?_
                refine a_invV K (m_cell hq (i := nI i) (w := 3)) my_X5_cell ml_X10_384 im_X5_cell se_X5_cell (ci := 5) (by assumption) (by decide) ⟨_, _, rfl⟩ rfl (by omega) (by omega) (by omega) rfl (Nat.le_of_ble_eq_true rfl) dX10_run_84 ?_
                intro r9 S9 hp9
                obtain ⟨rfl, hS9⟩ := hp9
                obtain rfl := hS9.symm
                rw [show celA g9 (nI i) 3 = s 3 from celA_at hs9 h16 (k := 3) (by decide)]
                refine a_istore K dX10_run_87 (by decide) ?_
                first | refine a_aload_n K dX10_run_89 rfl ?_ | refine a_aload_nN K dX10_run_89 rfl ?_
                refine a_iload K dX10_run_90 rfl ?_
                refine a_iconst K dX10_run_92 (v := 0) (by decide) ?_
                refine a_invV K (m_cell hq (i := nI i) (w := 0)) my_X5_cell ml_X10_384 im_X5_cell se_X5_cell (ci := 5) (by assumption) (by decide) ⟨_, _, rfl⟩ rfl (by omega) (by omega) (by omega) rfl (Nat.le_of_ble_eq_true rfl) dX10_run_93 ?_
                intro r9 S9 hp9
                obtain ⟨rfl, hS9⟩ := hp9
                obtain rfl := hS9.symm
                rw [show celA g9 (nI i) 0 = s 0 from celA_at hs9 h16 (k := 0) (by decide)]
                rw [e9]
                have eS : runS P j s = (true, setT P j (putT (pW P) t (pU P) (s 1) (s 2) z) t f) := by
                  unfold runS
                  rw [hb]
                  show runB P j s (z, t, f) = _
                  unfold runB
                  rw [if_pos e9, if_pos hf]
                  rfl
                have hst := runB_ok hJ (by omega) hb hsok
                rw [show runB P j s (z, t, f) = (true, setT P j (putT (pW P) t (pU P) (s 1) (s 2) z) t f) from by rw [← eS]; unfold runS; rw [hb]] at hst
                obtain ⟨w1, w2, w3, c9, w4, -⟩ := hst
                have hu2 := (runL_ok (g9.drop (i + 1)) (m9 + 1) _ c9 w1 (by rw [List.length_drop]; omega) w4 (fun y hy => hsall y (List.mem_of_mem_drop hy))).2.1
                rw [List.drop_eq_getElem_cons hi9, ← hsi, runL_y eS] at hAF
                have hfu : pU (runL j (g9.drop (i + 1)) (setT P j (putT (pW P) t (pU P) (s 1) (s 2) z) t f)).2 = pU F := congrArg pU hAF.2
                rw [hfu] at hu2
                have hu1 : pU P ≤ (putT (pW P) t (pU P) (s 1) (s 2) z).2 := w2
                have hu2 : (putT (pW P) t (pU P) (s 1) (s 2) z).2 ≤ pU F := hu2
                refine a_tsIn K dX10_run_96 (off := 36) (tgt := 132) (by decide) (by decide) rfl (by decide) ?_
                first | refine a_aload_n K dX10_run_132 rfl ?_ | refine a_aload_nN K dX10_run_132 rfl ?_
                first | refine a_aload K dX10_run_133 rfl ?_ | refine a_aloadN K dX10_run_133 rfl ?_
                refine a_iload K dX10_run_135 rfl ?_
                refine a_iload K dX10_run_137 rfl ?_
                refine a_invV K (c_isPutX_y hT hP hj hb ⟨qk, qv⟩ hf) my_X10_isPut ml_X10_327 im_X10_isPut se_X10_isPut (ci := 10) (lw_i4 hL) (by decide) ⟨_, _, rfl⟩ rfl (by omega) (by omega) (by omega) rfl (Nat.le_of_ble_eq_true rfl) dX10_run_139 ?_
                intro r9 S9 hp9
                obtain ⟨ad2, ar2, rfl, h5, k5⟩ := hp9
                have hL := h5.L
                have w4x : pB (setT P j (putT (pW P) t (pU P) (s 1) (s 2) z) t f) j = some ((putT (pW P) t (pU P) (s 1) (s 2) z).1, t, f) := setT_B
                refine a_istore K dX10_run_142 (by decide) ?_
                refine a_goto K dX10_run_144 (tgt := 220) (by decide) ?_
                refine a_iinc K dX10_run_220 (v := 1) rfl (by decide) (by decide) ?_
                refine a_goto K dX10_run_223 (tgt := 48) (by decide) ?_
                exact aw_locl rfl (ih (i + 1) _ S9 ad2 ar2 (setT P j (putT (pW P) t (pU P) (s 1) (s 2) z) t f) _ _ (m9 + 1) (putT (pW P) t (pU P) (s 1) (s 2) z).1 t f (nI_1 i) (by omega) h5 (kT.tr k5) w1 (by omega) hG w4x ⟨by rw [show i + 1 + (runL j (g9.drop (i + 1)) (setT P j (putT (pW P) t (pU P) (s 1) (s 2) z) t f)).1 = i + ((runL j (g9.drop (i + 1)) (setT P j (putT (pW P) t (pU P) (s 1) (s 2) z) t f)).1 + 1) by omega]; exact hAF.1, hAF.2⟩ (by show _ + 2 * (pU F - (putT (pW P) t (pU P) (s 1) (s 2) z).2) ≤ _; omega) (by show _ + 19 * (pU F - (putT (pW P) t (pU P) (s 1) (s 2) z).2) ≤ _; omega))
              · refine a_iload K dX10_run_48 rfl ?_
                first | refine a_aload_n K dX10_run_50 rfl ?_ | refine a_aload_nN K dX10_run_50 rfl ?_
                refine a_invV K (m_X5_size hq.1) my_X5_size ml_X10_387 im_X5_size se_X5_size (ci := 5) (by assumption) (by decide) ⟨_, _, rfl⟩ rfl (by omega) (by omega) (by omega) rfl (Nat.le_of_ble_eq_true rfl) dX10_run_51 ?_
                intro r9 S9 hp9
                obtain ⟨rfl, hS9⟩ := hp9
                obtain rfl := hS9.symm
                rw [hq.2.2.2.2.1]
                refine a_icmp_ge K dX10_run_54 (tgt := 226) (by decide) (fun c_54 => absurd c_54 (nI_ge (by omega) (by omega))) (fun c_54 => ?_)
                refine a_iload K dX10_run_57 rfl ?_
                refine a_if_eq K dX10_run_59 (tgt := 226) (by decide) (fun c_59 => absurd c_59 (by decide)) (fun c_59 => ?_)
                first | refine a_aload_n K dX10_run_62 rfl ?_ | refine a_aload_nN K dX10_run_62 rfl ?_
                refine a_iload K dX10_run_63 rfl ?_
                refine a_iconst K dX10_run_65 (v := 1) (by decide) ?_
                refine a_invV K (m_cell hq (i := nI i) (w := 1)) my_X5_cell ml_X10_384 im_X5_cell se_X5_cell (ci := 5) (by assumption) (by decide) ⟨_, _, rfl⟩ rfl (by omega) (by omega) (by omega) rfl (Nat.le_of_ble_eq_true rfl) dX10_run_66 ?_
                intro r9 S9 hp9
                obtain ⟨rfl, hS9⟩ := hp9
                obtain rfl := hS9.symm
                rw [show celA g9 (nI i) 1 = s 1 from celA_at hs9 h16 (k := 1) (by decide)]
                refine a_istore K dX10_run_69 (by decide) ?_
                first | refine a_aload_n K dX10_run_71 rfl ?_ | refine a_aload_nN K dX10_run_71 rfl ?_
                refine a_iload K dX10_run_72 rfl ?_
                refine a_iconst K dX10_run_74 (v := 2) (by decide) ?_
                refine a_invV K (m_cell hq (i := nI i) (w := 2)) my_X5_cell ml_X10_384 im_X5_cell se_X5_cell (ci := 5) (by assumption) (by decide) ⟨_, _, rfl⟩ rfl (by omega) (by omega) (by omega) rfl (Nat.le_of_ble_eq_true rfl) dX10_run_75 ?_
                intro r9 S9 hp9
                obtain ⟨rfl, hS9⟩ := hp9
                obtain rfl := hS9.symm
                rw [show celA g9 (nI i) 2 = s 2 from celA_at hs9 h16 (k := 2) (by decide)]
                refine a_istore K dX10_run_78 (by decide) ?_
                first | refine a_aload_n K dX10_run_80 rfl ?_ | refine a_aload_nN K dX10_run_80 rfl ?_
                refine a_iload K dX10_run_81 rfl ?_
                refine a_iconst K dX10_run_83 (v := 3) (by decide) ?_
                refine a_invV K (m_cell hq (i := nI i) (w := 3)) my_X5_cell ml_X10_384 im_X5_cell se_X5_cell (ci := 5) (by assumption) (by decide) ⟨_, _, rfl⟩ rfl (by omega) (by omega) (by omega) rfl (Nat.le_of_ble_eq_true rfl) dX10_run_84 ?_
                intro r9 S9 hp9
                obtain ⟨rfl, hS9⟩ := hp9
                obtain rfl := hS9.symm
                rw [show celA g9 (nI i) 3 = s 3 from celA_at hs9 h16 (k := 3) (by decide)]
                refine a_istore K dX10_run_87 (by decide) ?_
                first | refine a_aload_n K dX10_run_89 rfl ?_ | refine a_aload_nN K dX10_run_89 rfl ?_
                refine a_iload K dX10_run_90 rfl ?_
                refine a_iconst K dX10_run_92 (v := 0) (by decide) ?_
                refine a_invV K (m_cell hq (i := nI i) (w := 0)) my_X5_cell ml_X10_384 im_X5_cell se_X5_cell (ci := 5) (by assumption) (by decide) ⟨_, _, rfl⟩ rfl (by omega) (by omega) (by omega) rfl (Nat.le_of_ble_eq_true rfl) dX10_run_93 ?_
                intro r9 S9 hp9
                obtain ⟨rfl, hS9⟩ := hp9
                obtain rfl := hS9.symm
                rw [show celA g9 (nI i) 0 = s 0 from celA_at hs9 h16 (k := 0) (by decide)]
                rw [e9]
                have eS : runS P j s = (false, P) := by
                  unfold runS
                  rw [hb]
                  show runB P j s (z, t, f) = _
                  unfold runB
                  rw [if_pos e9, if_neg hf]
                rw [List.drop_eq_getElem_cons hi9, ← hsi, runL_n eS] at hAF
                refine a_tsIn K dX10_run_96 (off := 36) (tgt := 132) (by decide) (by decide) rfl (by decide) ?_
                first | refine a_aload_n K dX10_run_132 rfl ?_ | refine a_aload_nN K dX10_run_132 rfl ?_
                first | refine a_aload K dX10_run_133 rfl ?_ | refine a_aloadN K dX10_run_133 rfl ?_
                refine a_iload K dX10_run_135 rfl ?_
                refine a_iload K dX10_run_137 rfl ?_
                refine a_invV K (c_isPut_n (v0 := s 2) hT hP hj hb hf) my_X10_isPut ml_X10_327 im_X10_isPut se_X10_isPut (ci := 10) (lw_i4 hL) (by decide) ⟨_, _, rfl⟩ rfl (by omega) (by omega) (by omega) rfl (Nat.le_of_ble_eq_true rfl) dX10_run_139 ?_
                intro r9 S9 hp9
                obtain ⟨rfl, hS9⟩ := hp9
                obtain rfl := hS9.symm
                refine a_istore K dX10_run_142 (by decide) ?_
                refine a_goto K dX10_run_144 (tgt := 220) (by decide) ?_
                refine a_iinc K dX10_run_220 (v := 1) rfl (by decide) (by decide) ?_
                refine a_goto K dX10_run_223 (tgt := 48) (by decide) ?_
                exact aw_locl rfl (stop i _ T ad ar P _ _ (nI_1 i) hT kT hG hAF.1 hAF.2 (by omega) (by omega))
            · refine a_iload K dX10_run_48 rfl ?_
              first | refine a_aload_n K dX10_run_50 rfl ?_ | refine a_aload_nN K dX10_run_50 rfl ?_
              refine a_invV K (m_X5_size hq.1) my_X5_size ml_X10_387 im_X5_size se_X5_size (ci := 5) (by assumption) (by decide) ⟨_, _, rfl⟩ rfl (by omega) (by omega) (by omega) rfl (Nat.le_of_ble_eq_true rfl) dX10_run_51 ?_
              intro r9 S9 hp9
              obtain ⟨rfl, hS9⟩ := hp9
              obtain rfl := hS9.symm
              rw [hq.2.2.2.2.1]
              refine a_icmp_ge K dX10_run_54 (tgt := 226) (by decide) (fun c_54 => absurd c_54 (nI_ge (by omega) (by omega))) (fun c_54 => ?_)
              refine a_iload K dX10_run_57 rfl ?_
              refine a_if_eq K dX10_run_59 (tgt := 226) (by decide) (fun c_59 => absurd c_59 (by decide)) (fun c_59 => ?_)
              first | refine a_aload_n K dX10_run_62 rfl ?_ | refine a_aload_nN K dX10_run_62 rfl ?_
              refine a_iload K dX10_run_63 rfl ?_
              refine a_iconst K dX10_run_65 (v := 1) (by decide) ?_
              refine a_invV K (m_cell hq (i := nI i) (w := 1)) my_X5_cell ml_X10_384 im_X5_cell se_X5_cell (ci := 5) (by assumption) (by decide) ⟨_, _, rfl⟩ rfl (by omega) (by omega) (by omega) rfl (Nat.le_of_ble_eq_true rfl) dX10_run_66 ?_
              intro r9 S9 hp9
              obtain ⟨rfl, hS9⟩ := hp9
              obtain rfl := hS9.symm
              rw [show celA g9 (nI i) 1 = s 1 from celA_at hs9 h16 (k := 1) (by decide)]
              refine a_istore K dX10_run_69 (by decide) ?_
              first | refine a_aload_n K dX10_run_71 rfl ?_ | refine a_aload_nN K dX10_run_71 rfl ?_
              refine a_iload K dX10_run_72 rfl ?_
              refine a_iconst K dX10_run_74 (v := 2) (by decide) ?_
              refine a_invV K (m_cell hq (i := nI i) (w := 2)) my_X5_cell ml_X10_384 im_X5_cell se_X5_cell (ci := 5) (by assumption) (by decide) ⟨_, _, rfl⟩ rfl (by omega) (by omega) (by omega) rfl (Nat.le_of_ble_eq_true rfl) dX10_run_75 ?_
              intro r9 S9 hp9
              obtain ⟨rfl, hS9⟩ := hp9
              obtain rfl := hS9.symm
              rw [show celA g9 (nI i) 2 = s 2 from celA_at hs9 h16 (k := 2) (by decide)]
              refine a_istore K dX10_run_78 (by decide) ?_
              first | refine a_aload_n K dX10_run_80 rfl ?_ | refine a_aload_nN K dX10_run_80 rfl ?_
              refine a_iload K dX10_run_81 rfl ?_
              refine a_iconst K dX10_run_83 (v := 3) (by decide) ?_
              refine a_invV K (m_cell hq (i := nI i) (w := 3)) my_X5_cell ml_X10_384 im_X5_cell se_X5_cell (ci := 5) (by assumption) (by decide) ⟨_, _, rfl⟩ rfl (by omega) (by omega) (by omega) rfl (Nat.le_of_ble_eq_true rfl) dX10_run_84 ?_
              intro r9 S9 hp9
              obtain ⟨rfl, hS9⟩ := hp9
              obtain rfl := hS9.symm
              rw [show celA g9 (nI i) 3 = s 3 from celA_at hs9 h16 (k := 3) (by decide)]
              refine a_istore K dX10_run_87 (by decide) ?_
              first | refine a_aload_n K dX10_run_89 rfl ?_ | refine a_aload_nN K dX10_run_89 rfl ?_
              refine a_iload K dX10_run_90 rfl ?_
              refine a_iconst K dX10_run_92 (v := 0) (by decide) ?_
              refine a_invV K (m_cell hq (i := nI i) (w := 0)) my_X5_cell ml_X10_384 im_X5_cell se_X5_cell (ci := 5) (by assumption) (by decide) ⟨_, _, rfl⟩ rfl (by omega) (by omega) (by omega) rfl (Nat.le_of_ble_eq_true rfl) dX10_run_93 ?_
              intro r9 S9 hp9
              obtain ⟨rfl, hS9⟩ := hp9
              obtain rfl := hS9.symm
              rw [show celA g9 (nI i) 0 = s 0 from celA_at hs9 h16 (k := 0) (by decide)]
              rw [e9]
              have eS : runS P j s = (true, setT P j (cutE (pW P) t (s 1) (s 1) (ent z.1 z.2) (z, pU P)) t f) := by
                unfold runS
                rw [hb]
                show runB P j s (z, t, f) = _
                unfold runB
                rw [if_neg (fun y => absurd (e9.symm.trans y) (by decide)), if_pos e9]
                rfl
              have hst := runB_ok hJ (by omega) hb hsok
              rw [show runB P j s (z, t, f) = (true, setT P j (cutE (pW P) t (s 1) (s 1) (ent z.1 z.2) (z, pU P)) t f) from by rw [← eS]; unfold runS; rw [hb]] at hst
              obtain ⟨w1, w2, w3, c9, w4, -⟩ := hst
              have hu2 := (runL_ok (g9.drop (i + 1)) (m9 + 1) _ c9 w1 (by rw [List.length_drop]; omega) w4 (fun y hy => hsall y (List.mem_of_mem_drop hy))).2.1
              rw [List.drop_eq_getElem_cons hi9, ← hsi, runL_y eS] at hAF
              have hfu : pU (runL j (g9.drop (i + 1)) (setT P j (cutE (pW P) t (s 1) (s 1) (ent z.1 z.2) (z, pU P)) t f)).2 = pU F := congrArg pU hAF.2
              rw [hfu] at hu2
              have hu1 : pU P ≤ (cutE (pW P) t (s 1) (s 1) (ent z.1 z.2) (z, pU P)).2 := w2
              have hu2 : (cutE (pW P) t (s 1) (s 1) (ent z.1 z.2) (z, pU P)).2 ≤ pU F := hu2
              refine a_tsIn K dX10_run_96 (off := 51) (tgt := 147) (by decide) (by decide) rfl (by decide) ?_
              first | refine a_aload_n K dX10_run_147 rfl ?_ | refine a_aload_nN K dX10_run_147 rfl ?_
              first | refine a_aload K dX10_run_148 rfl ?_ | refine a_aloadN K dX10_run_148 rfl ?_
              refine a_iload K dX10_run_150 rfl ?_
              refine a_iload K dX10_run_152 rfl ?_
              refine a_invV K (c_cutRangeX hT hP hj hb) my_X10_cutRange ml_X10_331 im_X10_cutRange se_X10_cutRange (ci := 10) (lw_i4 hL) (by decide) ⟨_, _, rfl⟩ rfl (by omega) (by omega) (by omega) rfl (Nat.le_of_ble_eq_true rfl) dX10_run_154 ?_
              intro r9 S9 hp9
              obtain ⟨ad2, ar2, rfl, h5, k5⟩ := hp9
              have hL := h5.L
              have w4x : pB (setT P j (cutE (pW P) t (s 1) (s 1) (ent z.1 z.2) (z, pU P)) t f) j = some ((cutE (pW P) t (s 1) (s 1) (ent z.1 z.2) (z, pU P)).1, t, f) := setT_B
              refine a_goto K dX10_run_157 (tgt := 220) (by decide) ?_
              refine a_iinc K dX10_run_220 (v := 1) rfl (by decide) (by decide) ?_
              refine a_goto K dX10_run_223 (tgt := 48) (by decide) ?_
              exact aw_locl rfl (ih (i + 1) _ S9 ad2 ar2 (setT P j (cutE (pW P) t (s 1) (s 1) (ent z.1 z.2) (z, pU P)) t f) _ _ (m9 + 1) (cutE (pW P) t (s 1) (s 1) (ent z.1 z.2) (z, pU P)).1 t f (nI_1 i) (by omega) h5 (kT.tr k5) w1 (by omega) hG w4x ⟨by rw [show i + 1 + (runL j (g9.drop (i + 1)) (setT P j (cutE (pW P) t (s 1) (s 1) (ent z.1 z.2) (z, pU P)) t f)).1 = i + ((runL j (g9.drop (i + 1)) (setT P j (cutE (pW P) t (s 1) (s 1) (ent z.1 z.2) (z, pU P)) t f)).1 + 1) by omega]; exact hAF.1, hAF.2⟩ (by show _ + 2 * (pU F - (cutE (pW P) t (s 1) (s 1) (ent z.1 z.2) (z, pU P)).2) ≤ _; omega) (by show _ + 19 * (pU F - (cutE (pW P) t (s 1) (s 1) (ent z.1 z.2) (z, pU P)).2) ≤ _; omega))
            · by_cases hf : ¬ valIn (ent z.1 z.2) (s 1) = -1000000 ∨ (ent z.1 z.2).length < 60
              · refine a_iload K dX10_run_48 rfl ?_
                first | refine a_aload_n K dX10_run_50 rfl ?_ | refine a_aload_nN K dX10_run_50 rfl ?_
                refine a_invV K (m_X5_size hq.1) my_X5_size ml_X10_387 im_X5_size se_X5_size (ci := 5) (by assumption) (by decide) ⟨_, _, rfl⟩ rfl (by omega) (by omega) (by omega) rfl (Nat.le_of_ble_eq_true rfl) dX10_run_51 ?_
                intro r9 S9 hp9
                obtain ⟨rfl, hS9⟩ := hp9
                obtain rfl := hS9.symm
                rw [hq.2.2.2.2.1]
                refine a_icmp_ge K dX10_run_54 (tgt := 226) (by decide) (fun c_54 => absurd c_54 (nI_ge (by omega) (by omega))) (fun c_54 => ?_)
                refine a_iload K dX10_run_57 rfl ?_
                refine a_if_eq K dX10_run_59 (tgt := 226) (by decide) (fun c_59 => absurd c_59 (by decide)) (fun c_59 => ?_)
                first | refine a_aload_n K dX10_run_62 rfl ?_ | refine a_aload_nN K dX10_run_62 rfl ?_
                refine a_iload K dX10_run_63 rfl ?_
                refine a_iconst K dX10_run_65 (v := 1) (by decide) ?_
                refine a_invV K (m_cell hq (i := nI i) (w := 1)) my_X5_cell ml_X10_384 im_X5_cell se_X5_cell (ci := 5) (by assumption) (by decide) ⟨_, _, rfl⟩ rfl (by omega) (by omega) (by omega) rfl (Nat.le_of_ble_eq_true rfl) dX10_run_66 ?_
                intro r9 S9 hp9
                obtain ⟨rfl, hS9⟩ := hp9
                obtain rfl := hS9.symm
                rw [show celA g9 (nI i) 1 = s 1 from celA_at hs9 h16 (k := 1) (by decide)]
                refine a_istore K dX10_run_69 (by decide) ?_
                first | refine a_aload_n K dX10_run_71 rfl ?_ | refine a_aload_nN K dX10_run_71 rfl ?_
                refine a_iload K dX10_run_72 rfl ?_
                refine a_iconst K dX10_run_74 (v := 2) (by decide) ?_
                refine a_invV K (m_cell hq (i := nI i) (w := 2)) my_X5_cell ml_X10_384 im_X5_cell se_X5_cell (ci := 5) (by assumption) (by decide) ⟨_, _, rfl⟩ rfl (by omega) (by omega) (by omega) rfl (Nat.le_of_ble_eq_true rfl) dX10_run_75 ?_
                intro r9 S9 hp9
                obtain ⟨rfl, hS9⟩ := hp9
                obtain rfl := hS9.symm
                rw [show celA g9 (nI i) 2 = s 2 from celA_at hs9 h16 (k := 2) (by decide)]
                refine a_istore K dX10_run_78 (by decide) ?_
                first | refine a_aload_n K dX10_run_80 rfl ?_ | refine a_aload_nN K dX10_run_80 rfl ?_
                refine a_iload K dX10_run_81 rfl ?_
                refine a_iconst K dX10_run_83 (v := 3) (by decide) ?_
                refine a_invV K (m_cell hq (i := nI i) (w := 3)) my_X5_cell ml_X10_384 im_X5_cell se_X5_cell (ci := 5) (by assumption) (by decide) ⟨_, _, rfl⟩ rfl (by omega) (by omega) (by omega) rfl (Nat.le_of_ble_eq_true rfl) dX10_run_84 ?_
                intro r9 S9 hp9
                obtain ⟨rfl, hS9⟩ := hp9
                obtain rfl := hS9.symm
                rw [show celA g9 (nI i) 3 = s 3 from celA_at hs9 h16 (k := 3) (by decide)]
                refine a_istore K dX10_run_87 (by decide) ?_
                first | refine a_aload_n K dX10_run_89 rfl ?_ | refine a_aload_nN K dX10_run_89 rfl ?_
                refine a_iload K dX10_run_90 rfl ?_
                refine a_iconst K dX10_run_92 (v := 0) (by decide) ?_
                refine a_invV K (m_cell hq (i := nI i) (w := 0)) my_X5_cell ml_X10_384 im_X5_cell se_X5_cell (ci := 5) (by assumption) (by decide) ⟨_, _, rfl⟩ rfl (by omega) (by omega) (by omega) rfl (Nat.le_of_ble_eq_true rfl) dX10_run_93 ?_
                intro r9 S9 hp9
                obtain ⟨rfl, hS9⟩ := hp9
                obtain rfl := hS9.symm
                rw [show celA g9 (nI i) 0 = s 0 from celA_at hs9 h16 (k := 0) (by decide)]
                rw [e9]
                have eS : runS P j s = (true, setT P j (putT (pW P) t (pU P) (s 1) (addV (ent z.1 z.2) (s 1) (s 2)) z) t f) := by
                  unfold runS
                  rw [hb]
                  show runB P j s (z, t, f) = _
                  unfold runB
                  rw [if_neg (fun y => absurd (e9.symm.trans y) (by decide)), if_neg (fun y => absurd (e9.symm.trans y) (by decide)), if_pos e9, if_pos hf]
                  rfl
                have hst := runB_ok hJ (by omega) hb hsok
                rw [show runB P j s (z, t, f) = (true, setT P j (putT (pW P) t (pU P) (s 1) (addV (ent z.1 z.2) (s 1) (s 2)) z) t f) from by rw [← eS]; unfold runS; rw [hb]] at hst
                obtain ⟨w1, w2, w3, c9, w4, -⟩ := hst
                have hu2 := (runL_ok (g9.drop (i + 1)) (m9 + 1) _ c9 w1 (by rw [List.length_drop]; omega) w4 (fun y hy => hsall y (List.mem_of_mem_drop hy))).2.1
                rw [List.drop_eq_getElem_cons hi9, ← hsi, runL_y eS] at hAF
                have hfu : pU (runL j (g9.drop (i + 1)) (setT P j (putT (pW P) t (pU P) (s 1) (addV (ent z.1 z.2) (s 1) (s 2)) z) t f)).2 = pU F := congrArg pU hAF.2
                rw [hfu] at hu2
                have hu1 : pU P ≤ (putT (pW P) t (pU P) (s 1) (addV (ent z.1 z.2) (s 1) (s 2)) z).2 := w2
                have hu2 : (putT (pW P) t (pU P) (s 1) (addV (ent z.1 z.2) (s 1) (s 2)) z).2 ≤ pU F := hu2
                refine a_tsIn K dX10_run_96 (off := 64) (tgt := 160) (by decide) (by decide) rfl (by decide) ?_
                first | refine a_aload_n K dX10_run_160 rfl ?_ | refine a_aload_nN K dX10_run_160 rfl ?_
                first | refine a_aload K dX10_run_161 rfl ?_ | refine a_aloadN K dX10_run_161 rfl ?_
                refine a_iload K dX10_run_163 rfl ?_
                refine a_iload K dX10_run_165 rfl ?_
                refine a_invV K (c_isAddedX_y hT hP hj hb ⟨qk, addV_ok qv⟩ hf) my_X10_isAdded ml_X10_335 im_X10_isAdded se_X10_isAdded (ci := 10) (lw_i4 hL) (by decide) ⟨_, _, rfl⟩ rfl (by omega) (by omega) (by omega) rfl (Nat.le_of_ble_eq_true rfl) dX10_run_167 ?_
                intro r9 S9 hp9
                obtain ⟨ad2, ar2, rfl, h5, k5⟩ := hp9
                have hL := h5.L
                have w4x : pB (setT P j (putT (pW P) t (pU P) (s 1) (addV (ent z.1 z.2) (s 1) (s 2)) z) t f) j = some ((putT (pW P) t (pU P) (s 1) (addV (ent z.1 z.2) (s 1) (s 2)) z).1, t, f) := setT_B
                refine a_istore K dX10_run_170 (by decide) ?_
                refine a_goto K dX10_run_172 (tgt := 220) (by decide) ?_
                refine a_iinc K dX10_run_220 (v := 1) rfl (by decide) (by decide) ?_
                refine a_goto K dX10_run_223 (tgt := 48) (by decide) ?_
                exact aw_locl rfl (ih (i + 1) _ S9 ad2 ar2 (setT P j (putT (pW P) t (pU P) (s 1) (addV (ent z.1 z.2) (s 1) (s 2)) z) t f) _ _ (m9 + 1) (putT (pW P) t (pU P) (s 1) (addV (ent z.1 z.2) (s 1) (s 2)) z).1 t f (nI_1 i) (by omega) h5 (kT.tr k5) w1 (by omega) hG w4x ⟨by rw [show i + 1 + (runL j (g9.drop (i + 1)) (setT P j (putT (pW P) t (pU P) (s 1) (addV (ent z.1 z.2) (s 1) (s 2)) z) t f)).1 = i + ((runL j (g9.drop (i + 1)) (setT P j (putT (pW P) t (pU P) (s 1) (addV (ent z.1 z.2) (s 1) (s 2)) z) t f)).1 + 1) by omega]; exact hAF.1, hAF.2⟩ (by show _ + 2 * (pU F - (putT (pW P) t (pU P) (s 1) (addV (ent z.1 z.2) (s 1) (s 2)) z).2) ≤ _; omega) (by show _ + 19 * (pU F - (putT (pW P) t (pU P) (s 1) (addV (ent z.1 z.2) (s 1) (s 2)) z).2) ≤ _; omega))
              · refine a_iload K dX10_run_48 rfl ?_
                first | refine a_aload_n K dX10_run_50 rfl ?_ | refine a_aload_nN K dX10_run_50 rfl ?_
                refine a_invV K (m_X5_size hq.1) my_X5_size ml_X10_387 im_X5_size se_X5_size (ci := 5) (by assumption) (by decide) ⟨_, _, rfl⟩ rfl (by omega) (by omega) (by omega) rfl (Nat.le_of_ble_eq_true rfl) dX10_run_51 ?_
                intro r9 S9 hp9
                obtain ⟨rfl, hS9⟩ := hp9
                obtain rfl := hS9.symm
                rw [hq.2.2.2.2.1]
                refine a_icmp_ge K dX10_run_54 (tgt := 226) (by decide) (fun c_54 => absurd c_54 (nI_ge (by omega) (by omega))) (fun c_54 => ?_)
                refine a_iload K dX10_run_57 rfl ?_
                refine a_if_eq K dX10_run_59 (tgt := 226) (by decide) (fun c_59 => absurd c_59 (by decide)) (fun c_59 => ?_)
                first | refine a_aload_n K dX10_run_62 rfl ?_ | refine a_aload_nN K dX10_run_62 rfl ?_
                refine a_iload K dX10_run_63 rfl ?_
                refine a_iconst K dX10_run_65 (v := 1) (by decide) ?_
                refine a_invV K (m_cell hq (i := nI i) (w := 1)) my_X5_cell ml_X10_384 im_X5_cell se_X5_cell (ci := 5) (by assumption) (by decide) ⟨_, _, rfl⟩ rfl (by omega) (by omega) (by omega) rfl (Nat.le_of_ble_eq_true rfl) dX10_run_66 ?_
                intro r9 S9 hp9
                obtain ⟨rfl, hS9⟩ := hp9
                obtain rfl := hS9.symm
                rw [show celA g9 (nI i) 1 = s 1 from celA_at hs9 h16 (k := 1) (by decide)]
                refine a_istore K dX10_run_69 (by decide) ?_
                first | refine a_aload_n K dX10_run_71 rfl ?_ | refine a_aload_nN K dX10_run_71 rfl ?_
                refine a_iload K dX10_run_72 rfl ?_
                refine a_iconst K dX10_run_74 (v := 2) (by decide) ?_
                refine a_invV K (m_cell hq (i := nI i) (w := 2)) my_X5_cell ml_X10_384 im_X5_cell se_X5_cell (ci := 5) (by assumption) (by decide) ⟨_, _, rfl⟩ rfl (by omega) (by omega) (by omega) rfl (Nat.le_of_ble_eq_true rfl) dX10_run_75 ?_
                intro r9 S9 hp9
                obtain ⟨rfl, hS9⟩ := hp9
                obtain rfl := hS9.symm
                rw [show celA g9 (nI i) 2 = s 2 from celA_at hs9 h16 (k := 2) (by decide)]
                refine a_istore K dX10_run_78 (by decide) ?_
                first | refine a_aload_n K dX10_run_80 rfl ?_ | refine a_aload_nN K dX10_run_80 rfl ?_
                refine a_iload K dX10_run_81 rfl ?_
                refine a_iconst K dX10_run_83 (v := 3) (by decide) ?_
                refine a_invV K (m_cell hq (i := nI i) (w := 3)) my_X5_cell ml_X10_384 im_X5_cell se_X5_cell (ci := 5) (by assumption) (by decide) ⟨_, _, rfl⟩ rfl (by omega) (by omega) (by omega) rfl (Nat.le_of_ble_eq_true rfl) dX10_run_84 ?_
                intro r9 S9 hp9
                obtain ⟨rfl, hS9⟩ := hp9
                obtain rfl := hS9.symm
                rw [show celA g9 (nI i) 3 = s 3 from celA_at hs9 h16 (k := 3) (by decide)]
                refine a_istore K dX10_run_87 (by decide) ?_
                first | refine a_aload_n K dX10_run_89 rfl ?_ | refine a_aload_nN K dX10_run_89 rfl ?_
                refine a_iload K dX10_run_90 rfl ?_
                refine a_iconst K dX10_run_92 (v := 0) (by decide) ?_
                refine a_invV K (m_cell hq (i := nI i) (w := 0)) my_X5_cell ml_X10_384 im_X5_cell se_X5_cell (ci := 5) (by assumption) (by decide) ⟨_, _, rfl⟩ rfl (by omega) (by omega) (by omega) rfl (Nat.le_of_ble_eq_true rfl) dX10_run_93 ?_
                intro r9 S9 hp9
                obtain ⟨rfl, hS9⟩ := hp9
                obtain rfl := hS9.symm
                rw [show celA g9 (nI i) 0 = s 0 from celA_at hs9 h16 (k := 0) (by decide)]
                rw [e9]
                have eS : runS P j s = (false, P) := by
                  unfold runS
                  rw [hb]
                  show runB P j s (z, t, f) = _
                  unfold runB
                  rw [if_neg (fun y => absurd (e9.symm.trans y) (by decide)), if_neg (fun y => absurd (e9.symm.trans y) (by decide)), if_pos e9, if_neg hf]
                rw [List.drop_eq_getElem_cons hi9, ← hsi, runL_n eS] at hAF
                refine a_tsIn K dX10_run_96 (off := 64) (tgt := 160) (by decide) (by decide) rfl (by decide) ?_
                first | refine a_aload_n K dX10_run_160 rfl ?_ | refine a_aload_nN K dX10_run_160 rfl ?_
                first | refine a_aload K dX10_run_161 rfl ?_ | refine a_aloadN K dX10_run_161 rfl ?_
                refine a_iload K dX10_run_163 rfl ?_
                refine a_iload K dX10_run_165 rfl ?_
                refine a_invV K (c_isAdded_n (v0 := s 2) hT hP hj hb hf) my_X10_isAdded ml_X10_335 im_X10_isAdded se_X10_isAdded (ci := 10) (lw_i4 hL) (by decide) ⟨_, _, rfl⟩ rfl (by omega) (by omega) (by omega) rfl (Nat.le_of_ble_eq_true rfl) dX10_run_167 ?_
                intro r9 S9 hp9
                obtain ⟨rfl, hS9⟩ := hp9
                obtain rfl := hS9.symm
                refine a_istore K dX10_run_170 (by decide) ?_
                refine a_goto K dX10_run_172 (tgt := 220) (by decide) ?_
                refine a_iinc K dX10_run_220 (v := 1) rfl (by decide) (by decide) ?_
                refine a_goto K dX10_run_223 (tgt := 48) (by decide) ?_
                exact aw_locl rfl (stop i _ T ad ar P _ _ (nI_1 i) hT kT hG hAF.1 hAF.2 (by omega) (by omega))
            · refine a_iload K dX10_run_48 rfl ?_
              first | refine a_aload_n K dX10_run_50 rfl ?_ | refine a_aload_nN K dX10_run_50 rfl ?_
              refine a_invV K (m_X5_size hq.1) my_X5_size ml_X10_387 im_X5_size se_X5_size (ci := 5) (by assumption) (by decide) ⟨_, _, rfl⟩ rfl (by omega) (by omega) (by omega) rfl (Nat.le_of_ble_eq_true rfl) dX10_run_51 ?_
              intro r9 S9 hp9
              obtain ⟨rfl, hS9⟩ := hp9
              obtain rfl := hS9.symm
              rw [hq.2.2.2.2.1]
              refine a_icmp_ge K dX10_run_54 (tgt := 226) (by decide) (fun c_54 => absurd c_54 (nI_ge (by omega) (by omega))) (fun c_54 => ?_)
              refine a_iload K dX10_run_57 rfl ?_
              refine a_if_eq K dX10_run_59 (tgt := 226) (by decide) (fun c_59 => absurd c_59 (by decide)) (fun c_59 => ?_)
              first | refine a_aload_n K dX10_run_62 rfl ?_ | refine a_aload_nN K dX10_run_62 rfl ?_
              refine a_iload K dX10_run_63 rfl ?_
              refine a_iconst K dX10_run_65 (v := 1) (by decide) ?_
              refine a_invV K (m_cell hq (i := nI i) (w := 1)) my_X5_cell ml_X10_384 im_X5_cell se_X5_cell (ci := 5) (by assumption) (by decide) ⟨_, _, rfl⟩ rfl (by omega) (by omega) (by omega) rfl (Nat.le_of_ble_eq_true rfl) dX10_run_66 ?_
              intro r9 S9 hp9
              obtain ⟨rfl, hS9⟩ := hp9
              obtain rfl := hS9.symm
              rw [show celA g9 (nI i) 1 = s 1 from celA_at hs9 h16 (k := 1) (by decide)]
              refine a_istore K dX10_run_69 (by decide) ?_
              first | refine a_aload_n K dX10_run_71 rfl ?_ | refine a_aload_nN K dX10_run_71 rfl ?_
              refine a_iload K dX10_run_72 rfl ?_
              refine a_iconst K dX10_run_74 (v := 2) (by decide) ?_
              refine a_invV K (m_cell hq (i := nI i) (w := 2)) my_X5_cell ml_X10_384 im_X5_cell se_X5_cell (ci := 5) (by assumption) (by decide) ⟨_, _, rfl⟩ rfl (by omega) (by omega) (by omega) rfl (Nat.le_of_ble_eq_true rfl) dX10_run_75 ?_
              intro r9 S9 hp9
              obtain ⟨rfl, hS9⟩ := hp9
              obtain rfl := hS9.symm
              rw [show celA g9 (nI i) 2 = s 2 from celA_at hs9 h16 (k := 2) (by decide)]
              refine a_istore K dX10_run_78 (by decide) ?_
              first | refine a_aload_n K dX10_run_80 rfl ?_ | refine a_aload_nN K dX10_run_80 rfl ?_
              refine a_iload K dX10_run_81 rfl ?_
              refine a_iconst K dX10_run_83 (v := 3) (by decide) ?_
              refine a_invV K (m_cell hq (i := nI i) (w := 3)) my_X5_cell ml_X10_384 im_X5_cell se_X5_cell (ci := 5) (by assumption) (by decide) ⟨_, _, rfl⟩ rfl (by omega) (by omega) (by omega) rfl (Nat.le_of_ble_eq_true rfl) dX10_run_84 ?_
              intro r9 S9 hp9
              obtain ⟨rfl, hS9⟩ := hp9
              obtain rfl := hS9.symm
              rw [show celA g9 (nI i) 3 = s 3 from celA_at hs9 h16 (k := 3) (by decide)]
              refine a_istore K dX10_run_87 (by decide) ?_
              first | refine a_aload_n K dX10_run_89 rfl ?_ | refine a_aload_nN K dX10_run_89 rfl ?_
              refine a_iload K dX10_run_90 rfl ?_
              refine a_iconst K dX10_run_92 (v := 0) (by decide) ?_
              refine a_invV K (m_cell hq (i := nI i) (w := 0)) my_X5_cell ml_X10_384 im_X5_cell se_X5_cell (ci := 5) (by assumption) (by decide) ⟨_, _, rfl⟩ rfl (by omega) (by omega) (by omega) rfl (Nat.le_of_ble_eq_true rfl) dX10_run_93 ?_
              intro r9 S9 hp9
              obtain ⟨rfl, hS9⟩ := hp9
              obtain rfl := hS9.symm
              rw [show celA g9 (nI i) 0 = s 0 from celA_at hs9 h16 (k := 0) (by decide)]
              rw [e9]
              have eS : runS P j s = (true, setT P j (cutE (pW P) t (s 1) (s 2) (ent z.1 z.2) (z, pU P)) t f) := by
                unfold runS
                rw [hb]
                show runB P j s (z, t, f) = _
                unfold runB
                rw [if_neg (fun y => absurd (e9.symm.trans y) (by decide)), if_neg (fun y => absurd (e9.symm.trans y) (by decide)), if_neg (fun y => absurd (e9.symm.trans y) (by decide)), if_pos e9]
                rfl
              have hst := runB_ok hJ (by omega) hb hsok
              rw [show runB P j s (z, t, f) = (true, setT P j (cutE (pW P) t (s 1) (s 2) (ent z.1 z.2) (z, pU P)) t f) from by rw [← eS]; unfold runS; rw [hb]] at hst
              obtain ⟨w1, w2, w3, c9, w4, -⟩ := hst
              have hu2 := (runL_ok (g9.drop (i + 1)) (m9 + 1) _ c9 w1 (by rw [List.length_drop]; omega) w4 (fun y hy => hsall y (List.mem_of_mem_drop hy))).2.1
              rw [List.drop_eq_getElem_cons hi9, ← hsi, runL_y eS] at hAF
              have hfu : pU (runL j (g9.drop (i + 1)) (setT P j (cutE (pW P) t (s 1) (s 2) (ent z.1 z.2) (z, pU P)) t f)).2 = pU F := congrArg pU hAF.2
              rw [hfu] at hu2
              have hu1 : pU P ≤ (cutE (pW P) t (s 1) (s 2) (ent z.1 z.2) (z, pU P)).2 := w2
              have hu2 : (cutE (pW P) t (s 1) (s 2) (ent z.1 z.2) (z, pU P)).2 ≤ pU F := hu2
              refine a_tsIn K dX10_run_96 (off := 79) (tgt := 175) (by decide) (by decide) rfl (by decide) ?_
              first | refine a_aload_n K dX10_run_175 rfl ?_ | refine a_aload_nN K dX10_run_175 rfl ?_
              first | refine a_aload K dX10_run_176 rfl ?_ | refine a_aloadN K dX10_run_176 rfl ?_
              refine a_iload K dX10_run_178 rfl ?_
              refine a_iload K dX10_run_180 rfl ?_
              refine a_invV K (c_cutRangeX hT hP hj hb) my_X10_cutRange ml_X10_331 im_X10_cutRange se_X10_cutRange (ci := 10) (lw_i4 hL) (by decide) ⟨_, _, rfl⟩ rfl (by omega) (by omega) (by omega) rfl (Nat.le_of_ble_eq_true rfl) dX10_run_182 ?_
              intro r9 S9 hp9
              obtain ⟨ad2, ar2, rfl, h5, k5⟩ := hp9
              have hL := h5.L
              have w4x : pB (setT P j (cutE (pW P) t (s 1) (s 2) (ent z.1 z.2) (z, pU P)) t f) j = some ((cutE (pW P) t (s 1) (s 2) (ent z.1 z.2) (z, pU P)).1, t, f) := setT_B
              refine a_goto K dX10_run_185 (tgt := 220) (by decide) ?_
              refine a_iinc K dX10_run_220 (v := 1) rfl (by decide) (by decide) ?_
              refine a_goto K dX10_run_223 (tgt := 48) (by decide) ?_
              exact aw_locl rfl (ih (i + 1) _ S9 ad2 ar2 (setT P j (cutE (pW P) t (s 1) (s 2) (ent z.1 z.2) (z, pU P)) t f) _ _ (m9 + 1) (cutE (pW P) t (s 1) (s 2) (ent z.1 z.2) (z, pU P)).1 t f (nI_1 i) (by omega) h5 (kT.tr k5) w1 (by omega) hG w4x ⟨by rw [show i + 1 + (runL j (g9.drop (i + 1)) (setT P j (cutE (pW P) t (s 1) (s 2) (ent z.1 z.2) (z, pU P)) t f)).1 = i + ((runL j (g9.drop (i + 1)) (setT P j (cutE (pW P) t (s 1) (s 2) (ent z.1 z.2) (z, pU P)) t f)).1 + 1) by omega]; exact hAF.1, hAF.2⟩ (by show _ + 2 * (pU F - (cutE (pW P) t (s 1) (s 2) (ent z.1 z.2) (z, pU P)).2) ≤ _; omega) (by show _ + 19 * (pU F - (cutE (pW P) t (s 1) (s 2) (ent z.1 z.2) (z, pU P)).2) ≤ _; omega))
            · refine a_iload K dX10_run_48 rfl ?_
              first | refine a_aload_n K dX10_run_50 rfl ?_ | refine a_aload_nN K dX10_run_50 rfl ?_
              refine a_invV K (m_X5_size hq.1) my_X5_size ml_X10_387 im_X5_size se_X5_size (ci := 5) (by assumption) (by decide) ⟨_, _, rfl⟩ rfl (by omega) (by omega) (by omega) rfl (Nat.le_of_ble_eq_true rfl) dX10_run_51 ?_
              intro r9 S9 hp9
              obtain ⟨rfl, hS9⟩ := hp9
              obtain rfl := hS9.symm
              rw [hq.2.2.2.2.1]
              refine a_icmp_ge K dX10_run_54 (tgt := 226) (by decide) (fun c_54 => absurd c_54 (nI_ge (by omega) (by omega))) (fun c_54 => ?_)
              refine a_iload K dX10_run_57 rfl ?_
              refine a_if_eq K dX10_run_59 (tgt := 226) (by decide) (fun c_59 => absurd c_59 (by decide)) (fun c_59 => ?_)
              first | refine a_aload_n K dX10_run_62 rfl ?_ | refine a_aload_nN K dX10_run_62 rfl ?_
              refine a_iload K dX10_run_63 rfl ?_
              refine a_iconst K dX10_run_65 (v := 1) (by decide) ?_
              refine a_invV K (m_cell hq (i := nI i) (w := 1)) my_X5_cell ml_X10_384 im_X5_cell se_X5_cell (ci := 5) (by assumption) (by decide) ⟨_, _, rfl⟩ rfl (by omega) (by omega) (by omega) rfl (Nat.le_of_ble_eq_true rfl) dX10_run_66 ?_
              intro r9 S9 hp9
              obtain ⟨rfl, hS9⟩ := hp9
              obtain rfl := hS9.symm
              rw [show celA g9 (nI i) 1 = s 1 from celA_at hs9 h16 (k := 1) (by decide)]
              refine a_istore K dX10_run_69 (by decide) ?_
              first | refine a_aload_n K dX10_run_71 rfl ?_ | refine a_aload_nN K dX10_run_71 rfl ?_
              refine a_iload K dX10_run_72 rfl ?_
              refine a_iconst K dX10_run_74 (v := 2) (by decide) ?_
              refine a_invV K (m_cell hq (i := nI i) (w := 2)) my_X5_cell ml_X10_384 im_X5_cell se_X5_cell (ci := 5) (by assumption) (by decide) ⟨_, _, rfl⟩ rfl (by omega) (by omega) (by omega) rfl (Nat.le_of_ble_eq_true rfl) dX10_run_75 ?_
              intro r9 S9 hp9
              obtain ⟨rfl, hS9⟩ := hp9
              obtain rfl := hS9.symm
              rw [show celA g9 (nI i) 2 = s 2 from celA_at hs9 h16 (k := 2) (by decide)]
              refine a_istore K dX10_run_78 (by decide) ?_
              first | refine a_aload_n K dX10_run_80 rfl ?_ | refine a_aload_nN K dX10_run_80 rfl ?_
              refine a_iload K dX10_run_81 rfl ?_
              refine a_iconst K dX10_run_83 (v := 3) (by decide) ?_
              refine a_invV K (m_cell hq (i := nI i) (w := 3)) my_X5_cell ml_X10_384 im_X5_cell se_X5_cell (ci := 5) (by assumption) (by decide) ⟨_, _, rfl⟩ rfl (by omega) (by omega) (by omega) rfl (Nat.le_of_ble_eq_true rfl) dX10_run_84 ?_
              intro r9 S9 hp9
              obtain ⟨rfl, hS9⟩ := hp9
              obtain rfl := hS9.symm
              rw [show celA g9 (nI i) 3 = s 3 from celA_at hs9 h16 (k := 3) (by decide)]
              refine a_istore K dX10_run_87 (by decide) ?_
              first | refine a_aload_n K dX10_run_89 rfl ?_ | refine a_aload_nN K dX10_run_89 rfl ?_
              refine a_iload K dX10_run_90 rfl ?_
              refine a_iconst K dX10_run_92 (v := 0) (by decide) ?_
              refine a_invV K (m_cell hq (i := nI i) (w := 0)) my_X5_cell ml_X10_384 im_X5_cell se_X5_cell (ci := 5) (by assumption) (by decide) ⟨_, _, rfl⟩ rfl (by omega) (by omega) (by omega) rfl (Nat.le_of_ble_eq_true rfl) dX10_run_93 ?_
              intro r9 S9 hp9
              obtain ⟨rfl, hS9⟩ := hp9
              obtain rfl := hS9.symm
              rw [show celA g9 (nI i) 0 = s 0 from celA_at hs9 h16 (k := 0) (by decide)]
              rw [e9]
              have eS : runS P j s = (true, setT P j (raiE (pW P) t (s 1) (s 2) (s 3) (ent z.1 z.2) (z, pU P)) t f) := by
                unfold runS
                rw [hb]
                show runB P j s (z, t, f) = _
                unfold runB
                rw [if_neg (fun y => absurd (e9.symm.trans y) (by decide)), if_neg (fun y => absurd (e9.symm.trans y) (by decide)), if_neg (fun y => absurd (e9.symm.trans y) (by decide)), if_neg (fun y => absurd (e9.symm.trans y) (by decide)), if_pos e9]
                rfl
              have hst := runB_ok hJ (by omega) hb hsok
              rw [show runB P j s (z, t, f) = (true, setT P j (raiE (pW P) t (s 1) (s 2) (s 3) (ent z.1 z.2) (z, pU P)) t f) from by rw [← eS]; unfold runS; rw [hb]] at hst
              obtain ⟨w1, w2, w3, c9, w4, -⟩ := hst
              have hu2 := (runL_ok (g9.drop (i + 1)) (m9 + 1) _ c9 w1 (by rw [List.length_drop]; omega) w4 (fun y hy => hsall y (List.mem_of_mem_drop hy))).2.1
              rw [List.drop_eq_getElem_cons hi9, ← hsi, runL_y eS] at hAF
              have hfu : pU (runL j (g9.drop (i + 1)) (setT P j (raiE (pW P) t (s 1) (s 2) (s 3) (ent z.1 z.2) (z, pU P)) t f)).2 = pU F := congrArg pU hAF.2
              rw [hfu] at hu2
              have hu1 : pU P ≤ (raiE (pW P) t (s 1) (s 2) (s 3) (ent z.1 z.2) (z, pU P)).2 := w2
              have hu2 : (raiE (pW P) t (s 1) (s 2) (s 3) (ent z.1 z.2) (z, pU P)).2 ≤ pU F := hu2
              refine a_tsIn K dX10_run_96 (off := 92) (tgt := 188) (by decide) (by decide) rfl (by decide) ?_
              first | refine a_aload_n K dX10_run_188 rfl ?_ | refine a_aload_nN K dX10_run_188 rfl ?_
              first | refine a_aload K dX10_run_189 rfl ?_ | refine a_aloadN K dX10_run_189 rfl ?_
              refine a_iload K dX10_run_191 rfl ?_
              refine a_iload K dX10_run_193 rfl ?_
              refine a_iload K dX10_run_195 rfl ?_
              refine a_invV K (c_raiseRangeX hT hP hj hb) my_X10_raiseRange ml_X10_338 im_X10_raiseRange se_X10_raiseRange (ci := 10) (lw_i4 hL) (by decide) ⟨_, _, rfl⟩ rfl (by omega) (by omega) (by omega) rfl (Nat.le_of_ble_eq_true rfl) dX10_run_197 ?_
              intro r9 S9 hp9
              obtain ⟨ad2, ar2, rfl, h5, k5⟩ := hp9
              have hL := h5.L
              have w4x : pB (setT P j (raiE (pW P) t (s 1) (s 2) (s 3) (ent z.1 z.2) (z, pU P)) t f) j = some ((raiE (pW P) t (s 1) (s 2) (s 3) (ent z.1 z.2) (z, pU P)).1, t, f) := setT_B
              refine a_goto K dX10_run_200 (tgt := 220) (by decide) ?_
              refine a_iinc K dX10_run_220 (v := 1) rfl (by decide) (by decide) ?_
              refine a_goto K dX10_run_223 (tgt := 48) (by decide) ?_
              exact aw_locl rfl (ih (i + 1) _ S9 ad2 ar2 (setT P j (raiE (pW P) t (s 1) (s 2) (s 3) (ent z.1 z.2) (z, pU P)) t f) _ _ (m9 + 1) (raiE (pW P) t (s 1) (s 2) (s 3) (ent z.1 z.2) (z, pU P)).1 t f (nI_1 i) (by omega) h5 (kT.tr k5) w1 (by omega) hG w4x ⟨by rw [show i + 1 + (runL j (g9.drop (i + 1)) (setT P j (raiE (pW P) t (s 1) (s 2) (s 3) (ent z.1 z.2) (z, pU P)) t f)).1 = i + ((runL j (g9.drop (i + 1)) (setT P j (raiE (pW P) t (s 1) (s 2) (s 3) (ent z.1 z.2) (z, pU P)) t f)).1 + 1) by omega]; exact hAF.1, hAF.2⟩ (by show _ + 2 * (pU F - (raiE (pW P) t (s 1) (s 2) (s 3) (ent z.1 z.2) (z, pU P)).2) ≤ _; omega) (by show _ + 19 * (pU F - (raiE (pW P) t (s 1) (s 2) (s 3) (ent z.1 z.2) (z, pU P)).2) ≤ _; omega))
            · by_cases hr : hcnt (pH P) < 16 ∧ (pM P).length < 999
              · refine a_iload K dX10_run_48 rfl ?_
                first | refine a_aload_n K dX10_run_50 rfl ?_ | refine a_aload_nN K dX10_run_50 rfl ?_
                refine a_invV K (m_X5_size hq.1) my_X5_size ml_X10_387 im_X5_size se_X5_size (ci := 5) (by assumption) (by decide) ⟨_, _, rfl⟩ rfl (by omega) (by omega) (by omega) rfl (Nat.le_of_ble_eq_true rfl) dX10_run_51 ?_
                intro r9 S9 hp9
                obtain ⟨rfl, hS9⟩ := hp9
                obtain rfl := hS9.symm
                rw [hq.2.2.2.2.1]
                refine a_icmp_ge K dX10_run_54 (tgt := 226) (by decide) (fun c_54 => absurd c_54 (nI_ge (by omega) (by omega))) (fun c_54 => ?_)
                refine a_iload K dX10_run_57 rfl ?_
                refine a_if_eq K dX10_run_59 (tgt := 226) (by decide) (fun c_59 => absurd c_59 (by decide)) (fun c_59 => ?_)
                first | refine a_aload_n K dX10_run_62 rfl ?_ | refine a_aload_nN K dX10_run_62 rfl ?_
                refine a_iload K dX10_run_63 rfl ?_
                refine a_iconst K dX10_run_65 (v := 1) (by decide) ?_
                refine a_invV K (m_cell hq (i := nI i) (w := 1)) my_X5_cell ml_X10_384 im_X5_cell se_X5_cell (ci := 5) (by assumption) (by decide) ⟨_, _, rfl⟩ rfl (by omega) (by omega) (by omega) rfl (Nat.le_of_ble_eq_true rfl) dX10_run_66 ?_
                intro r9 S9 hp9
                obtain ⟨rfl, hS9⟩ := hp9
                obtain rfl := hS9.symm
                rw [show celA g9 (nI i) 1 = s 1 from celA_at hs9 h16 (k := 1) (by decide)]
                refine a_istore K dX10_run_69 (by decide) ?_
                first | refine a_aload_n K dX10_run_71 rfl ?_ | refine a_aload_nN K dX10_run_71 rfl ?_
                refine a_iload K dX10_run_72 rfl ?_
                refine a_iconst K dX10_run_74 (v := 2) (by decide) ?_
                refine a_invV K (m_cell hq (i := nI i) (w := 2)) my_X5_cell ml_X10_384 im_X5_cell se_X5_cell (ci := 5) (by assumption) (by decide) ⟨_, _, rfl⟩ rfl (by omega) (by omega) (by omega) rfl (Nat.le_of_ble_eq_true rfl) dX10_run_75 ?_
                intro r9 S9 hp9
                obtain ⟨rfl, hS9⟩ := hp9
                obtain rfl := hS9.symm
                rw [show celA g9 (nI i) 2 = s 2 from celA_at hs9 h16 (k := 2) (by decide)]
                refine a_istore K dX10_run_78 (by decide) ?_
                first | refine a_aload_n K dX10_run_80 rfl ?_ | refine a_aload_nN K dX10_run_80 rfl ?_
                refine a_iload K dX10_run_81 rfl ?_
                refine a_iconst K dX10_run_83 (v := 3) (by decide) ?_
                refine a_invV K (m_cell hq (i := nI i) (w := 3)) my_X5_cell ml_X10_384 im_X5_cell se_X5_cell (ci := 5) (by assumption) (by decide) ⟨_, _, rfl⟩ rfl (by omega) (by omega) (by omega) rfl (Nat.le_of_ble_eq_true rfl) dX10_run_84 ?_
                intro r9 S9 hp9
                obtain ⟨rfl, hS9⟩ := hp9
                obtain rfl := hS9.symm
                rw [show celA g9 (nI i) 3 = s 3 from celA_at hs9 h16 (k := 3) (by decide)]
                refine a_istore K dX10_run_87 (by decide) ?_
                first | refine a_aload_n K dX10_run_89 rfl ?_ | refine a_aload_nN K dX10_run_89 rfl ?_
                refine a_iload K dX10_run_90 rfl ?_
                refine a_iconst K dX10_run_92 (v := 0) (by decide) ?_
                refine a_invV K (m_cell hq (i := nI i) (w := 0)) my_X5_cell ml_X10_384 im_X5_cell se_X5_cell (ci := 5) (by assumption) (by decide) ⟨_, _, rfl⟩ rfl (by omega) (by omega) (by omega) rfl (Nat.le_of_ble_eq_true rfl) dX10_run_93 ?_
                intro r9 S9 hp9
                obtain ⟨rfl, hS9⟩ := hp9
                obtain rfl := hS9.symm
                rw [show celA g9 (nI i) 0 = s 0 from celA_at hs9 h16 (k := 0) (by decide)]
                rw [e9]
                have eS : runS P j s = (true, snpP P j (z, t, f)) := by
                  unfold runS
                  rw [hb]
                  show runB P j s (z, t, f) = _
                  unfold runB
                  rw [if_neg (fun y => absurd (e9.symm.trans y) (by decide)), if_neg (fun y => absurd (e9.symm.trans y) (by decide)), if_neg (fun y => absurd (e9.symm.trans y) (by decide)), if_neg (fun y => absurd (e9.symm.trans y) (by decide)), if_neg (fun y => absurd (e9.symm.trans y) (by decide)), if_pos hr]
                have w1 := hJ.snp1 (by omega) hb hr
                have w4x : pB (snpP P j (z, t, f)) j = some (z, pTk P, nI (pM P).length) := if_pos rfl
                have hu2 := (runL_ok (g9.drop (i + 1)) (m9 + 1) _ _ w1 (by rw [List.length_drop]; omega) w4x (fun y hy => hsall y (List.mem_of_mem_drop hy))).2.1
                rw [List.drop_eq_getElem_cons hi9, ← hsi, runL_y eS] at hAF
                have hfu : pU (runL j (g9.drop (i + 1)) (snpP P j (z, t, f))).2 = pU F := congrArg pU hAF.2
                rw [hfu] at hu2
                have hu2 : pU P ≤ pU F := hu2
                have hlen := hT.2.2.1.2.1
                refine a_tsOut K dX10_run_96 (tgt := 203) (by decide) (by decide) ?_
                first | refine a_aload_n K dX10_run_203 rfl ?_ | refine a_aload_nN K dX10_run_203 rfl ?_
                first | refine a_aload K dX10_run_204 rfl ?_ | refine a_aloadN K dX10_run_204 rfl ?_
                refine a_invV K (c_snapped_y hT hj hb hr) my_X10_snapped ml_X10_355 im_X10_snapped se_X10_snapped (ci := 10) (lw_i4 hL) (by decide) ⟨_, _, rfl⟩ rfl (by omega) (by omega) (by omega) rfl (Nat.le_of_ble_eq_true rfl) dX10_run_206 ?_
                intro r9 S9 hp9
                obtain ⟨rfl, h5, k5⟩ := hp9
                have hL := h5.L
                refine a_iconst K dX10_run_209 (v := -1) (by decide) ?_
                refine a_icmp_eq K dX10_run_210 (tgt := 217) (by decide) (fun c_210 => absurd c_210 (nI_m1n (by omega))) (fun c_210 => ?_)
                refine a_iconst K dX10_run_213 (v := 1) (by decide) ?_
                refine a_goto K dX10_run_214 (tgt := 218) (by decide) ?_
                refine a_istore K dX10_run_218 (by decide) ?_
                refine a_iinc K dX10_run_220 (v := 1) rfl (by decide) (by decide) ?_
                refine a_goto K dX10_run_223 (tgt := 48) (by decide) ?_
                exact aw_locl rfl (ih (i + 1) _ S9 ad ar (snpP P j (z, t, f)) _ _ (m9 + 1) z (pTk P) (nI (pM P).length) (nI_1 i) (by omega) h5 (kT.tr k5) w1 (by omega) hG w4x ⟨by rw [show i + 1 + (runL j (g9.drop (i + 1)) (snpP P j (z, t, f))).1 = i + ((runL j (g9.drop (i + 1)) (snpP P j (z, t, f))).1 + 1) by omega]; exact hAF.1, hAF.2⟩ (by show _ + 2 * (pU F - pU P) ≤ _; omega) (by show _ + 19 * (pU F - pU P) ≤ _; omega))
              · refine a_iload K dX10_run_48 rfl ?_
                first | refine a_aload_n K dX10_run_50 rfl ?_ | refine a_aload_nN K dX10_run_50 rfl ?_
                refine a_invV K (m_X5_size hq.1) my_X5_size ml_X10_387 im_X5_size se_X5_size (ci := 5) (by assumption) (by decide) ⟨_, _, rfl⟩ rfl (by omega) (by omega) (by omega) rfl (Nat.le_of_ble_eq_true rfl) dX10_run_51 ?_
                intro r9 S9 hp9
                obtain ⟨rfl, hS9⟩ := hp9
                obtain rfl := hS9.symm
                rw [hq.2.2.2.2.1]
                refine a_icmp_ge K dX10_run_54 (tgt := 226) (by decide) (fun c_54 => absurd c_54 (nI_ge (by omega) (by omega))) (fun c_54 => ?_)
                refine a_iload K dX10_run_57 rfl ?_
                refine a_if_eq K dX10_run_59 (tgt := 226) (by decide) (fun c_59 => absurd c_59 (by decide)) (fun c_59 => ?_)
                first | refine a_aload_n K dX10_run_62 rfl ?_ | refine a_aload_nN K dX10_run_62 rfl ?_
                refine a_iload K dX10_run_63 rfl ?_
                refine a_iconst K dX10_run_65 (v := 1) (by decide) ?_
                refine a_invV K (m_cell hq (i := nI i) (w := 1)) my_X5_cell ml_X10_384 im_X5_cell se_X5_cell (ci := 5) (by assumption) (by decide) ⟨_, _, rfl⟩ rfl (by omega) (by omega) (by omega) rfl (Nat.le_of_ble_eq_true rfl) dX10_run_66 ?_
                intro r9 S9 hp9
                obtain ⟨rfl, hS9⟩ := hp9
                obtain rfl := hS9.symm
                rw [show celA g9 (nI i) 1 = s 1 from celA_at hs9 h16 (k := 1) (by decide)]
                refine a_istore K dX10_run_69 (by decide) ?_
                first | refine a_aload_n K dX10_run_71 rfl ?_ | refine a_aload_nN K dX10_run_71 rfl ?_
                refine a_iload K dX10_run_72 rfl ?_
                refine a_iconst K dX10_run_74 (v := 2) (by decide) ?_
                refine a_invV K (m_cell hq (i := nI i) (w := 2)) my_X5_cell ml_X10_384 im_X5_cell se_X5_cell (ci := 5) (by assumption) (by decide) ⟨_, _, rfl⟩ rfl (by omega) (by omega) (by omega) rfl (Nat.le_of_ble_eq_true rfl) dX10_run_75 ?_
                intro r9 S9 hp9
                obtain ⟨rfl, hS9⟩ := hp9
                obtain rfl := hS9.symm
                rw [show celA g9 (nI i) 2 = s 2 from celA_at hs9 h16 (k := 2) (by decide)]
                refine a_istore K dX10_run_78 (by decide) ?_
                first | refine a_aload_n K dX10_run_80 rfl ?_ | refine a_aload_nN K dX10_run_80 rfl ?_
                refine a_iload K dX10_run_81 rfl ?_
                refine a_iconst K dX10_run_83 (v := 3) (by decide) ?_
                refine a_invV K (m_cell hq (i := nI i) (w := 3)) my_X5_cell ml_X10_384 im_X5_cell se_X5_cell (ci := 5) (by assumption) (by decide) ⟨_, _, rfl⟩ rfl (by omega) (by omega) (by omega) rfl (Nat.le_of_ble_eq_true rfl) dX10_run_84 ?_
                intro r9 S9 hp9
                obtain ⟨rfl, hS9⟩ := hp9
                obtain rfl := hS9.symm
                rw [show celA g9 (nI i) 3 = s 3 from celA_at hs9 h16 (k := 3) (by decide)]
                refine a_istore K dX10_run_87 (by decide) ?_
                first | refine a_aload_n K dX10_run_89 rfl ?_ | refine a_aload_nN K dX10_run_89 rfl ?_
                refine a_iload K dX10_run_90 rfl ?_
                refine a_iconst K dX10_run_92 (v := 0) (by decide) ?_
                refine a_invV K (m_cell hq (i := nI i) (w := 0)) my_X5_cell ml_X10_384 im_X5_cell se_X5_cell (ci := 5) (by assumption) (by decide) ⟨_, _, rfl⟩ rfl (by omega) (by omega) (by omega) rfl (Nat.le_of_ble_eq_true rfl) dX10_run_93 ?_
                intro r9 S9 hp9
                obtain ⟨rfl, hS9⟩ := hp9
                obtain rfl := hS9.symm
                rw [show celA g9 (nI i) 0 = s 0 from celA_at hs9 h16 (k := 0) (by decide)]
                rw [e9]
                have eS : runS P j s = (false, P) := by
                  unfold runS
                  rw [hb]
                  show runB P j s (z, t, f) = _
                  unfold runB
                  rw [if_neg (fun y => absurd (e9.symm.trans y) (by decide)), if_neg (fun y => absurd (e9.symm.trans y) (by decide)), if_neg (fun y => absurd (e9.symm.trans y) (by decide)), if_neg (fun y => absurd (e9.symm.trans y) (by decide)), if_neg (fun y => absurd (e9.symm.trans y) (by decide)), if_neg hr]
                rw [List.drop_eq_getElem_cons hi9, ← hsi, runL_n eS] at hAF
                refine a_tsOut K dX10_run_96 (tgt := 203) (by decide) (by decide) ?_
                first | refine a_aload_n K dX10_run_203 rfl ?_ | refine a_aload_nN K dX10_run_203 rfl ?_
                first | refine a_aload K dX10_run_204 rfl ?_ | refine a_aloadN K dX10_run_204 rfl ?_
                refine a_invV K (c_snapped_n hT hj hb hr) my_X10_snapped ml_X10_355 im_X10_snapped se_X10_snapped (ci := 10) (lw_i4 hL) (by decide) ⟨_, _, rfl⟩ rfl (by omega) (by omega) (by omega) rfl (Nat.le_of_ble_eq_true rfl) dX10_run_206 ?_
                intro r9 S9 hp9
                obtain ⟨rfl, hS9⟩ := hp9
                obtain rfl := hS9.symm
                refine a_iconst K dX10_run_209 (v := -1) (by decide) ?_
                refine a_icmp_eq K dX10_run_210 (tgt := 217) (by decide) (fun c_210 => ?_) (fun c_210 => absurd c_210 (by decide))
                refine a_iconst K dX10_run_217 (v := 0) (by decide) ?_
                refine a_istore K dX10_run_218 (by decide) ?_
                refine a_iinc K dX10_run_220 (v := 1) rfl (by decide) (by decide) ?_
                refine a_goto K dX10_run_223 (tgt := 48) (by decide) ?_
                exact aw_locl rfl (stop i _ T ad ar P _ _ (nI_1 i) hT kT hG hAF.1 hAF.2 (by omega) (by omega))
        first | refine a_aload_n K dX10_run_0 rfl ?_ | refine a_aload_nN K dX10_run_0 rfl ?_
        refine a_iload_n K dX10_run_1 rfl ?_
        refine a_invV K (w_programAt hL (nI i0)) my_X10_programAt ml_X10_380 im_X10_programAt se_X10_programAt (ci := 10) (lw_i4 hL) (by decide) ⟨_, _, rfl⟩ rfl (by omega) (by omega) (by omega) rfl (Nat.le_of_ble_eq_true rfl) dX10_run_2 ?_
        intro r9 S9 hp9
        obtain ⟨hS9, rfl⟩ := hp9
        obtain rfl := hS9.symm
        rw [ep]
        first | refine a_astore_n K dX10_run_5 (by decide) ?_ | refine a_astore_nN K dX10_run_5 (by decide) ?_
        first | refine a_aload_n K dX10_run_6 rfl ?_ | refine a_aload_nN K dX10_run_6 rfl ?_
        refine a_iload_n K dX10_run_7 rfl ?_
        refine a_invV K (w_builderAt hL i) my_X10_builderAt ml_X10_313 im_X10_builderAt se_X10_builderAt (ci := 10) (lw_i4 hL) (by decide) ⟨_, _, rfl⟩ rfl (by omega) (by omega) (by omega) rfl (Nat.le_of_ble_eq_true rfl) dX10_run_8 ?_
        intro r9 S9 hp9
        obtain ⟨hS9, rfl⟩ := hp9
        obtain rfl := hS9.symm
        rw [e]
        first | refine a_astore K dX10_run_11 (by decide) ?_ | refine a_astoreN K dX10_run_11 (by decide) ?_
        first | refine a_aload_n K dX10_run_13 rfl ?_ | refine a_aload_nN K dX10_run_13 rfl ?_
        refine a_ifnull K dX10_run_14 ?_
        first | refine a_aload K dX10_run_17 rfl ?_ | refine a_aloadN K dX10_run_17 rfl ?_
        refine a_ifnonnull K dX10_run_19 (tgt := 28) (by decide) ?_
        first | refine a_aload K dX10_run_28 rfl ?_ | refine a_aloadN K dX10_run_28 rfl ?_
        refine a_invV K (m_X0_isStale_n ob qr) my_X0_isStale ml_X10_342 im_X0_isStale se_X0_isStale (ci := 0) (by assumption) (by decide) ⟨_, _, rfl⟩ rfl (by omega) (by omega) (by omega) rfl (Nat.le_of_ble_eq_true rfl) dX10_run_30 ?_
        intro r9 S9 hp9
        obtain ⟨rfl, hS9⟩ := hp9
        obtain rfl := hS9.symm
        refine a_if_eq K dX10_run_33 (tgt := 42) (by decide) (fun c_33 => ?_) (fun c_33 => absurd c_33 (by decide))
        refine a_iconst K dX10_run_42 (v := 1) (by decide) ?_
        refine a_istore K dX10_run_43 (by decide) ?_
        refine a_iconst K dX10_run_45 (v := 0) (by decide) ?_
        refine a_istore K dX10_run_46 (by decide) ?_
        exact aw_locl rfl (loop g9.length 0 _ S ad ar P0 0 0 n9 z t f nI_0.symm (by omega) h h.X hJ (by omega) rfl hp ⟨by rw [List.drop_zero, Nat.zero_add]; exact hA9, by rw [List.drop_zero]; exact hF9⟩ (by omega) (by omega))
