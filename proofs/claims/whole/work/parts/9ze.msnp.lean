/-! the model: a builder opened, snapped, frozen -/
def ob1 (x : Int32) (s : Bool) (i : Nat) : Int32 := if s = true then x ||| (1 : Int32) <<< (nI i &&& 31) else x
def obB (a b c d : Bool) : Int32 := ob1 (ob1 (ob1 (ob1 0 a 0) b 1) c 2) d 3
theorem obN_4 (P : PS) : obN P 4 = obB (pB P 0).isSome (pB P 1).isSome (pB P 2).isSome (pB P 3).isSome := rfl
theorem ob_y : ∀ a b c d : Bool, obB true b c d = obB a b c d ||| (1 : Int32) <<< (nI 0 &&& 31) ∧ obB a true c d = obB a b c d ||| (1 : Int32) <<< (nI 1 &&& 31) ∧ obB a b true d = obB a b c d ||| (1 : Int32) <<< (nI 2 &&& 31) ∧ obB a b c true = obB a b c d ||| (1 : Int32) <<< (nI 3 &&& 31) := by decide +kernel
theorem ob_n : ∀ a b c d : Bool, obB false b c d = obB a b c d &&& ((1 : Int32) <<< (nI 0 &&& 31) ^^^ -1) ∧ obB a false c d = obB a b c d &&& ((1 : Int32) <<< (nI 1 &&& 31) ^^^ -1) ∧ obB a b false d = obB a b c d &&& ((1 : Int32) <<< (nI 2 &&& 31) ^^^ -1) ∧ obB a b c false = obB a b c d &&& ((1 : Int32) <<< (nI 3 &&& 31) ^^^ -1) := by decide +kernel
theorem obN_or {P : PS} {j : Nat} {x : BI} (hj : j < 4) : obN (setB P j (some x)) 4 = obN P 4 ||| (1 : Int32) <<< (nI j &&& 31) := by
  rw [obN_4, obN_4]
  match j, hj with
  | 0, _ => exact (ob_y _ _ _ _).1
  | 1, _ => exact (ob_y _ _ _ _).2.1
  | 2, _ => exact (ob_y _ _ _ _).2.2.1
  | 3, _ => exact (ob_y _ _ _ _).2.2.2
theorem obN_cl {P : PS} {j : Nat} (hj : j < 4) : obN (setB P j none) 4 = obN P 4 &&& ((1 : Int32) <<< (nI j &&& 31) ^^^ -1) := by
  rw [obN_4, obN_4]
  match j, hj with
  | 0, _ => exact (ob_n _ _ _ _).1
  | 1, _ => exact (ob_n _ _ _ _).2.1
  | 2, _ => exact (ob_n _ _ _ _).2.2.1
  | 3, _ => exact (ob_n _ _ _ _).2.2.2
theorem obN_cg {P Q : PS} : ∀ n, (∀ j, (pB Q j).isSome = (pB P j).isSome) → obN Q n = obN P n
  | 0, _ => rfl
  | n + 1, h => by rw [obN, obN, obN_cg n h, h n]
theorem obN_st {P : PS} {j : Nat} {b c : BI} (hb : pB P j = some b) (n : Nat) : obN (setB P j (some c)) n = obN P n := obN_cg n (fun k => by
  show (if k = j then some c else pB P k).isSome = _
  by_cases q : k = j
  · rw [if_pos q, q, hb]
    rfl
  · rw [if_neg q])
/-- as RM, but the token of builder j isn't laid yet -/
def RMw (S : aw_S) (m ρ : Nat → Nat) (Z : List Nat × Nat) (mb : Nat) (P : PS) (j : Nat) : Prop := LM S m ∧ RBa S m P ∧ RBm S m ρ P ∧ (∀ (k : Nat) (c : BI), k < 4 → pB P k = some c → sA S (m 20) k = nI (ρ c.1.2.1) ∧ (k ≠ j → sA S (m 21) k = nI (c.2.1 + 1)) ∧ sA S (m 22) k = c.2.2) ∧ RBr S m P ∧ RBg S m P ∧ RN S m ρ Z P ∧ RK S m mb
theorem RMw_inc {S T : aw_S} {m ρ : Nat → Nat} {Z Z2 : List Nat × Nat} {mb m2 j : Nat} {P : PS} (h : RMw S m ρ Z mb P j) (f : frM S T m [7, 8] [721, 726]) (hN : RN T m ρ Z2 P) (hK : RK T m m2) : RMw (wI T 725 (m 33) (nI (pTk P + 1))) m ρ Z2 m2 (incT P) j ∧ frS S (wI T 725 (m 33) (nI (pTk P + 1))) (mQ m) := by
  obtain ⟨h1, ⟨a1, a2, a3, a4, a5, a6, a7, a8, a9, a10⟩, h3, h4, h5, h6, h7, h8⟩ := h
  have f2 : frM T (wI T 725 (m 33) (nI (pTk P + 1))) m [] [725] := frM_wI (by decide) (by decide)
  have hMT := f.lay h1
  have g : frM S (wI T 725 (m 33) (nI (pTk P + 1))) m [7, 8] [721, 725, 726] := (f.up (by decide) (by decide)).tr (f2.up (by decide) (by decide))
  refine ⟨⟨g.lay h1, ⟨a1.fr h1 g (by decide) (by decide) (by decide), (g.2 713 (by decide)).trans a2, (g.2 723 (by decide)).trans a3, wI_at, (g.2 745 (by decide)).trans a5, (g.2 746 (by decide)).trans a6, (g.2 747 (by decide)).trans a7, (g.2 748 (by decide)).trans a8, (g.2 758 (by decide)).trans a9, a10⟩, h3.fr (P := P) h1 g (by decide) (by decide) (by decide) (by decide), fun k c hk hc => ?_, h5.fr (P := P) h1 g (by decide) (by decide) (by decide) (by decide) (by decide), h6.fr (P := P) h1 g (by decide) (by decide) (by decide), (hN.fr hMT f2 (by decide) (by decide) (by decide) (by decide) (by decide) (by decide) (by decide) (by decide) (by decide) (by decide)).sub (P2 := incT P) (fun z hz => hz) rfl rfl, hK.fr hMT f2 (by decide) (by decide) (by decide)⟩, g.mq (by decide)⟩
  rw [g.A h1 (by decide) (by decide) (by decide), g.A h1 (by decide) (by decide) (by decide), g.A h1 (by decide) (by decide) (by decide)]
  exact h4 k c hk hc
theorem RMw.tok {S : aw_S} {m ρ : Nat → Nat} {Z : List Nat × Nat} {mb j : Nat} {P : PS} {c : BI} (h : RMw S m ρ Z mb P j) (hc : pB P j = some c) : RM (wA S (m 21) j (nI (c.2.1 + 1))) m ρ Z mb P ∧ frS S (wA S (m 21) j (nI (c.2.1 + 1))) (mQ m) := by
  obtain ⟨h1, h2, h3, h4, h5, h6, h7, h8⟩ := h
  have f : frM S (wA S (m 21) j (nI (c.2.1 + 1))) m [21] [] := frM_wA (by decide)
  refine ⟨⟨f.lay h1, h2.fr h1 f (by decide) (by decide) (by decide), h3.fr h1 f (by decide) (by decide) (by decide) (by decide), fun k x hk hx => ?_, h5.fr h1 f (by decide) (by decide) (by decide) (by decide) (by decide), h6.fr h1 f (by decide) (by decide) (by decide), h7.fr h1 f (by decide) (by decide) (by decide) (by decide) (by decide) (by decide) (by decide) (by decide) (by decide) (by decide), h8.fr h1 f (by decide) (by decide) (by decide)⟩, f.mq (by decide)⟩
  obtain ⟨e1, e2, e3⟩ := h4 k x hk hx
  refine ⟨?_, ?_, ?_⟩
  · rw [f.A h1 (by decide) (by decide) (by decide)]
    exact e1
  · rw [sA_wA]
    by_cases q : k = j
    · rw [if_pos ⟨rfl, q⟩]
      rw [q, hc] at hx
      rw [Option.some.inj hx]
    · rw [if_neg (fun z => q z.2)]
      exact e2 q
  · rw [f.A h1 (by decide) (by decide) (by decide)]
    exact e3
/-- a builder's root and what it comes from are laid -/
theorem RM.opn {S V : aw_S} {m ρ : Nat → Nat} {Z : List Nat × Nat} {mb j t2 : Nat} {P : PS} {z : Tz} {v : Int32} (h : RM S m ρ Z mb P) (hz : LvT P z) (f : frM S V m [20, 22] [747]) (e20 : ∀ k, k < 4 → sA V (m 20) k = if k = j then nI (ρ z.2.1) else sA S (m 20) k) (e22 : ∀ k, k < 4 → sA V (m 22) k = if k = j then v else sA S (m 22) k) (e747 : sI V 747 (m 33) = obN (setB P j (some (z, t2, v))) 4) : RMw V m ρ Z mb (setB P j (some (z, t2, v))) j ∧ frS S V (mQ m) := by
  obtain ⟨h1, ⟨a1, a2, a3, a4, a5, a6, a7, a8, a9, a10⟩, h3, h4, h5, h6, h7, h8⟩ := h
  have hT : ∀ y, LvT (setB P j (some (z, t2, v))) y → LvT P y := by
    intro y hy
    rcases hy with q | ⟨k, c, hk, hc, e⟩
    · exact Or.inl q
    · have hc : (if k = j then some (z, t2, v) else pB P k) = some c := hc
      by_cases q : k = j
      · rw [if_pos q] at hc
        rw [← e, ← Option.some.inj hc]
        exact hz
      · rw [if_neg q] at hc
        exact Or.inr ⟨k, c, hk, hc, e⟩
  refine ⟨⟨f.lay h1, ⟨a1.fr h1 f (by decide) (by decide) (by decide), (f.2 713 (by decide)).trans a2, (f.2 723 (by decide)).trans a3, (f.2 725 (by decide)).trans a4, (f.2 745 (by decide)).trans a5, (f.2 746 (by decide)).trans a6, e747, (f.2 748 (by decide)).trans a8, (f.2 758 (by decide)).trans a9, a10⟩, h3.fr (P := P) h1 f (by decide) (by decide) (by decide) (by decide), fun k c hk hc => ?_, h5.fr (P := P) h1 f (by decide) (by decide) (by decide) (by decide) (by decide), h6.fr (P := P) h1 f (by decide) (by decide) (by decide), (h7.fr h1 f (by decide) (by decide) (by decide) (by decide) (by decide) (by decide) (by decide) (by decide) (by decide) (by decide)).sub (P2 := setB P j (some (z, t2, v))) hT rfl rfl, h8.fr h1 f (by decide) (by decide) (by decide)⟩, f.mq (by decide)⟩
  have hc : (if k = j then some (z, t2, v) else pB P k) = some c := hc
  rw [e20 k hk, e22 k hk]
  by_cases q : k = j
  · rw [if_pos q] at hc ⊢
    rw [if_pos q, ← Option.some.inj hc]
    exact ⟨rfl, fun n => absurd q n, rfl⟩
  · rw [if_neg q] at hc ⊢
    rw [if_neg q, f.A h1 (by decide) (by decide) (by decide)]
    obtain ⟨b1, b2, b3⟩ := h4 k c hk hc
    exact ⟨b1, fun _ => b2, b3⟩
theorem szs_of {P Q : PS} (hP : PI P) (h : ∀ y, LvT Q y → (∃ x ∈ pM P, x.1 = y) ∨ ∃ j b, pB P j = some b ∧ b.1 = y) : ∀ y, LvT Q y → (ndl y.1 y.2).length ≤ 61 ∧ y.1 ≤ 4 := fun y hy => by
  have t : tok (pW P) (pU P) (pTk P) y := (h y hy).elim (fun ⟨x, hx, e⟩ => e ▸ hP.2.1 x hx) (fun ⟨j, b, hb, e⟩ => e ▸ (hP.2.2.1 j b hb).2.1)
  exact ⟨(t.h4 hP.1.1).2.2, (t.h4 hP.1.1).1⟩
theorem lvT_set {P : PS} {j : Nat} {b : BI} {y : Tz} (hy : LvT (setB P j (some b)) y) : LvT P y ∨ b.1 = y := by
  rcases hy with q | ⟨k, c, hk, hc, e⟩
  · exact Or.inl (Or.inl q)
  · have hc : (if k = j then some b else pB P k) = some c := hc
    by_cases q : k = j
    · rw [if_pos q] at hc
      exact Or.inr (by rw [Option.some.inj hc]; exact e)
    · rw [if_neg q] at hc
      exact Or.inl (Or.inr ⟨k, c, hk, hc, e⟩)
theorem lvT_in {P : PS} {y : Tz} (hy : LvT P y) : (∃ x ∈ pM P, x.1 = y) ∨ ∃ j b, pB P j = some b ∧ b.1 = y := hy.elim (fun ⟨i, x, hx, e, _⟩ => Or.inl ⟨x, List.mem_of_getElem? hx, e⟩) (fun ⟨j, b, _, hb, e⟩ => Or.inr ⟨j, b, hb, e⟩)
theorem lvT_add {P : PS} {z y : Tz} {a c : Int32} (hy : LvT (addM P z a c) y) : ((∃ x ∈ pM P, x.1 = y) ∨ ∃ j b, pB P j = some b ∧ b.1 = y) ∨ z = y := by
  rcases lvT_in hy with ⟨x, hx, e⟩ | q
  · have hx : x ∈ pM P ++ [(z, a, c)] := hx
    rcases List.mem_append.mp hx with q | q
    · exact Or.inl (Or.inl ⟨x, q, e⟩)
    · rw [List.mem_singleton.mp q] at e
      exact Or.inr e
  · exact Or.inl (Or.inr q)
set_option maxHeartbeats 4000000 in
set_option maxRecDepth 100000 in
theorem q_newTkW {S : aw_S} {m ρ : Nat → Nat} {Z : List Nat × Nat} {mb j : Nat} {P : PS} (h : RMw S m ρ Z mb P j) (hmb : mb + 1 < 2147483000) (hs : ∀ z, LvT P z → (ndl z.1 z.2).length ≤ 61 ∧ z.1 ≤ 4) (hc1 : hcnt (pH P) ≤ 16) (hc2 : hcnt (pI P) ≤ 16) (hl9 : (pM P).length ≤ 999) : aw_M yX11_newToken cX11_newToken 1 (some FieldType.int) 8 0 0 [.ref (m 33)] S (fun r S2 => r = some (.int (nI (pTk P + 1))) ∧ ∃ Z2, RMw S2 m ρ Z2 (mb + 1) (incT P) j ∧ 5000 < rmM Z2 ∧ frS S S2 (mQ m)) := by
  have hM := h.1
  refine aw_enter (by decide +kernel) (Nat.le_of_ble_eq_true rfl) (fun g K EE => ?_)
  first | refine a_aload_n K dX11_newToken_0 rfl ?_ | refine a_aload_nN K dX11_newToken_0 rfl ?_
  refine a_invV K (q_sweeps h.1 h.2.2.2.2.2.2.1 h.2.2.2.2.2.2.2 hmb (fun i x hx => (h.2.2.1 i x hx).1) (fun k c hk hc => (h.2.2.2.1 k c hk hc).1) h.2.2.2.2.1.2.1 h.2.2.2.2.1.2.2.1 h.2.1.2.2.2.2.1 h.2.1.2.2.2.2.2.2.1 h.2.1.2.2.2.2.2.2.2.1 hs hc1 hc2 hl9) my_X11_sweeps ml_X11_278 im_X11_sweeps se_X11_sweeps (ci := 11) (by exact lm_o hM) (by decide) ⟨_, _, rfl⟩ rfl (by omega) (by omega) (by omega) rfl (Nat.le_of_ble_eq_true rfl) dX11_newToken_1 ?_
  intro r9 T hp9
  obtain ⟨rfl, Z2, hN, hK, hrm, f⟩ := hp9
  have hM := f.lay h.1
  first | refine a_aload_n K dX11_newToken_4 rfl ?_ | refine a_aload_nN K dX11_newToken_4 rfl ?_
  refine a_dup K dX11_newToken_5 rfl ?_
  refine a_getI K fd_X11_281 (by exact lm_o hM) (Or.inl rfl) dX11_newToken_6 ?_
  rw [show sI T 725 (m 33) = nI (pTk P) from (f.2 725 (by decide)).trans h.2.1.2.2.2.1]
  refine a_iconst K dX11_newToken_9 (v := 1) (by decide) ?_
  refine a_iadd K dX11_newToken_10 ?_
  rw [nI_1]
  refine a_putI K fd_X11_281 (by exact lm_o hM) rfl dX11_newToken_11 ?_
  first | refine a_aload_n K dX11_newToken_14 rfl ?_ | refine a_aload_nN K dX11_newToken_14 rfl ?_
  refine a_getI K fd_X11_281 (by exact lm_o hM) (Or.inl rfl) dX11_newToken_15 ?_
  rw [wI_at]
  exact a_iret K EE rfl (by omega) (by omega) dX11_newToken_18 ⟨rfl, Z2, (RMw_inc h f hN hK).1, hrm, (RMw_inc h f hN hK).2⟩
set_option maxHeartbeats 4000000 in
set_option maxRecDepth 100000 in
theorem q_snapped {S : aw_S} {m ρ : Nat → Nat} {Z : List Nat × Nat} {mb n9 j : Nat} {P : PS} {b : BI} (h : RM S m ρ Z mb P) (hJ : PJ n9 P) (hmb : mb + 1 < 2147483000) (hb : pB P j = some b) (hj : j < 4) (hr : hcnt (pH P) < 16 ∧ (pM P).length < 999) : aw_M yX11_snapped cX11_snapped 3 (some FieldType.int) 9 0 0 [.ref (m 33), .int (nI j)] S (fun r S2 => ∃ Z2, r = some (.int (nI (pM P).length)) ∧ RM S2 m ρ Z2 (mb + 1) (snpP P j b) ∧ frS S S2 (mQ m) ∧ 5000 < rmM Z2) := by
  have hP := hJ.1
  have hM := h.1
  have hbl := bui_live hj hb
  have hpH := hJ.2.2.2.2.2.1.1
  have hPH : PH (setB (addM P b.1 b.2.2 (-1)) j (some (b.1, pTk P, nI (pM P).length))) := PH_add hJ.2.2.2.2.2.1 (Q := (setB (addM P b.1 b.2.2 (-1)) j (some (b.1, pTk P, nI (pM P).length)))) (x := (b.1, b.2.2, -1)) rfl rfl rfl hr
  have hsz : ∀ z, LvT (setB (addM P b.1 b.2.2 (-1)) j (some (b.1, pTk P, nI (pM P).length))) z → (ndl z.1 z.2).length ≤ 61 ∧ z.1 ≤ 4 := szs_of hP (fun y hy => (lvT_set hy).elim (fun q => (lvT_add q).elim id (fun e => Or.inr ⟨j, b, hb, e⟩)) (fun e => Or.inr ⟨j, b, hb, e⟩))
  refine aw_enter (by decide +kernel) (Nat.le_of_ble_eq_true rfl) (fun g K EE => ?_)
  first | refine a_aload_n K dX11_snapped_0 rfl ?_ | refine a_aload_nN K dX11_snapped_0 rfl ?_
  first | refine a_aload_n K dX11_snapped_1 rfl ?_ | refine a_aload_nN K dX11_snapped_1 rfl ?_
  refine a_getRs K fd_X11_76 (by exact lm_o hM) (Or.inr ⟨_, rfl⟩) (by exact lm_r739 hM) dX11_snapped_2 ?_
  refine a_iload_n K dX11_snapped_5 rfl ?_
  refine a_iald K (by exact lm_kk hM (by decide) (by decide)) (by show vp_in _ (sN S (m 20)); exact lm_ix (z := 4) hM (by decide) (by decide) (show j < 4 by omega) (by decide)) dX11_snapped_6 ?_
  rw [nI_clamp (by omega)]
  rw [(h.bro hj hb).1]
  first | refine a_aload_n K dX11_snapped_7 rfl ?_ | refine a_aload_nN K dX11_snapped_7 rfl ?_
  refine a_getRs K fd_X11_82 (by exact lm_o hM) (Or.inr ⟨_, rfl⟩) (by exact lm_r741 hM) dX11_snapped_8 ?_
  refine a_iload_n K dX11_snapped_11 rfl ?_
  refine a_iald K (by exact lm_kk hM (by decide) (by decide)) (by show vp_in _ (sN S (m 22)); exact lm_ix (z := 4) hM (by decide) (by decide) (show j < 4 by omega) (by decide)) dX11_snapped_12 ?_
  rw [nI_clamp (by omega)]
  rw [(h.bro hj hb).2.2]
  refine a_iconst K dX11_snapped_13 (v := -1) (by decide) ?_
  refine a_invV K (q_newMapR h hpH hr.2 (h.rep hbl) ⟨LvN P, h.N.2.2.1, fun i hi => hi, live_in hbl⟩) my_X11_newMap ml_X11_302 im_X11_newMap se_X11_newMap (ci := 11) (by exact lm_o hM) (by decide) ⟨_, _, rfl⟩ rfl (by omega) (by omega) (by omega) rfl (Nat.le_of_ble_eq_true rfl) dX11_snapped_14 ?_
  intro r9 S1 hp9
  obtain ⟨rfl, h1, q1⟩ := hp9
  have hM := h1.1
  refine a_istore_n K dX11_snapped_17 (by decide) ?_
  first | refine a_aload_n K dX11_snapped_18 rfl ?_ | refine a_aload_nN K dX11_snapped_18 rfl ?_
  refine a_getRs K fd_X11_82 (by exact lm_o hM) (Or.inr ⟨_, rfl⟩) (by exact lm_r741 hM) dX11_snapped_19 ?_
  refine a_iload_n K dX11_snapped_22 rfl ?_
  refine a_iload_n K dX11_snapped_23 rfl ?_
  refine a_iast K (by exact lm_kk hM (by decide) (by decide)) (by show vp_in _ (sN S1 (m 22)); exact lm_ix (z := 4) hM (by decide) (by decide) (show j < 4 by omega) (by decide)) dX11_snapped_24 ?_
  rw [nI_clamp (by omega)]
  have fV : frM S1 (wA S1 (m 22) j (nI (pM P).length)) m [20, 22] [747] := frM_wA (by decide)
  obtain ⟨hw, qw⟩ := h1.opn (P := (addM P b.1 b.2.2 (-1))) (j := j) (t2 := pTk P) (z := b.1) (v := nI (pM P).length) (bui_live hj hb) fV (fun k hk => by
    rw [sA_wA, if_neg (fun q => lm_ne hM (by decide) (by decide) (by decide) q.1)]
    by_cases q : k = j
    · rw [if_pos q, q]
      exact (h1.bro (P := (addM P b.1 b.2.2 (-1))) hj hb).1
    · rw [if_neg q]) (fun k hk => by
    rw [sA_wA]
    by_cases q : k = j
    · rw [if_pos q, if_pos ⟨rfl, q⟩]
    · rw [if_neg q, if_neg (fun z => q z.2)]) ((h1.ob (P := (addM P b.1 b.2.2 (-1)))).trans (obN_st (P := (addM P b.1 b.2.2 (-1))) hb 4).symm)
  have hM := hw.1
  first | refine a_aload_n K dX11_snapped_25 rfl ?_ | refine a_aload_nN K dX11_snapped_25 rfl ?_
  refine a_getRs K fd_X11_79 (by exact lm_o hM) (Or.inr ⟨_, rfl⟩) (by exact lm_r740 hM) dX11_snapped_26 ?_
  refine a_iload_n K dX11_snapped_29 rfl ?_
  first | refine a_aload_n K dX11_snapped_30 rfl ?_ | refine a_aload_nN K dX11_snapped_30 rfl ?_
  refine a_invV K (q_newTkW hw hmb hsz hPH.2.1 hPH.2.2.1 hPH.2.2.2) my_X11_newToken ml_X11_295 im_X11_newToken se_X11_newToken (ci := 11) (by exact lm_o hM) (by decide) ⟨_, _, rfl⟩ rfl (by omega) (by omega) (by omega) rfl (Nat.le_of_ble_eq_true rfl) dX11_snapped_31 ?_
  intro r9 S2 hp9
  obtain ⟨rfl, Z2, h2, hrm2, q2⟩ := hp9
  have hM := h2.1
  refine a_iast K (by exact lm_kk hM (by decide) (by decide)) (by show vp_in _ (sN S2 (m 21)); exact lm_ix (z := 4) hM (by decide) (by decide) (show j < 4 by omega) (by decide)) dX11_snapped_34 ?_
  rw [nI_clamp (by omega)]
  obtain ⟨h3, q3⟩ := h2.tok (P := incT (setB (addM P b.1 b.2.2 (-1)) j (some (b.1, pTk P, nI (pM P).length)))) (j := j) (c := (b.1, pTk P, nI (pM P).length)) (if_pos rfl)
  have hM := h3.1
  refine a_iload_n K dX11_snapped_35 rfl ?_
  exact a_iret K EE rfl (by omega) (by omega) dX11_snapped_36 ⟨Z2, rfl, h3, mQ_tr q1 (mQ_tr qw (mQ_tr q2 q3)), hrm2⟩
set_option maxHeartbeats 4000000 in
set_option maxRecDepth 100000 in
theorem q_snap {S : aw_S} {m ρ : Nat → Nat} {Z : List Nat × Nat} {mb n9 : Nat} {P : PS} (h0 : RM S m ρ Z mb P) (hJ : PJ n9 P) (hmb : mb + 1 < 2147483000) {i : Int32} : aw_M yX11_snap cX11_snap 3 (some FieldType.int) 10 0 0 [.ref (m 33), .int i] S (fun r S2 => ∃ ρ2 Z2, r = some (.int (bld P i True (snpF P)).1) ∧ RM S2 m ρ2 Z2 (mb + 1) (bld P i True (snpF P)).2 ∧ frS S S2 (mQ m)) := by
  have hP := hJ.1
  have hw3 := hP.1.1
  have hM := h0.1
  have hl9 := hJ.ln
  have hw6 := hP.1.2
  have hpH := hJ.2.2.2.2.2.1.1
  have hc16 := hJ.2.2.2.2.2.1.2.1
  refine aw_enter (by decide +kernel) (Nat.le_of_ble_eq_true rfl) (fun g K EE => ?_)
  rcases stp_cs (P := P) (i := i) (ok := true) with ⟨hA, hv⟩ | ⟨j, hA, hob, hv⟩ | ⟨j, hA, hob, hb, hv⟩ | ⟨j, b, hA, hob, hb, hv⟩
  · have hE : bld P i True (snpF P) = (-1, refP P 0) := bld_0 hA
    first | refine a_aload_n K dX11_snap_0 rfl ?_ | refine a_aload_nN K dX11_snap_0 rfl ?_
    refine a_iconst K dX11_snap_1 (v := 0) (by decide) ?_
    refine a_putI K fd_X11_116 (by exact lm_o hM) rfl dX11_snap_2 ?_
    have f0 : frM S (wI S 704 (m 33) 0) m [] [704] := frM_wI (by decide) (by decide)
    obtain ⟨T, hT⟩ : ∃ T, T = wI S 704 (m 33) 0 := ⟨_, rfl⟩
    rw [← hT] at f0 ⊢
    obtain ⟨h, q0⟩ := h0.scr hP f0 (by decide) (by decide)
    have hM := h.1
    first | refine a_aload_n K dX11_snap_5 rfl ?_ | refine a_aload_nN K dX11_snap_5 rfl ?_
    refine a_iload_n K dX11_snap_6 rfl ?_
    refine a_iconst K dX11_snap_7 (v := 1) (by decide) ?_
    refine a_invV K (q_stp1 (v := nI 0) h hv) my_X11_stops ml_X11_393 im_X11_stops se_X11_stops (ci := 11) (by exact lm_o hM) (by decide) ⟨_, _, rfl⟩ rfl (by omega) (by omega) (by omega) rfl (Nat.le_of_ble_eq_true rfl) dX11_snap_8 ?_
    intro r9 S9 hp9
    obtain ⟨rfl, hS9⟩ := hp9
    obtain rfl := hS9.symm
    refine a_istore_n K dX11_snap_11 (by decide) ?_
    refine a_iload_n K dX11_snap_12 rfl ?_
    refine a_iconst K dX11_snap_13 (v := -1) (by decide) ?_
    refine a_icmp_ne K dX11_snap_14 (tgt := 26) (by decide) (fun c_14 => ?_) (fun c_14 => absurd c_14 (by decide))
    refine a_iload_n K dX11_snap_26 rfl ?_
    refine a_iconst K dX11_snap_27 (v := -1) (by decide) ?_
    refine a_icmp_ne K dX11_snap_28 (tgt := 39) (by decide) (fun c_28 => ?_) (fun c_28 => absurd c_28 (by decide))
    first | refine a_aload_n K dX11_snap_39 rfl ?_ | refine a_aload_nN K dX11_snap_39 rfl ?_
    refine a_iload_n K dX11_snap_40 rfl ?_
    refine a_invV K (q_refP h (k := 0) (by decide)) my_X11_refused ml_X11_292 im_X11_refused se_X11_refused (ci := 11) (by exact lm_o hM) (by decide) ⟨_, _, rfl⟩ rfl (by omega) (by omega) (by omega) rfl (Nat.le_of_ble_eq_true rfl) dX11_snap_41 ?_
    intro r9 S9 hp9
    obtain ⟨rfl, hR, qR⟩ := hp9
    exact a_iret K EE rfl (by omega) (by omega) dX11_snap_44 ⟨ρ, Z, by rw [hE], by rw [hE]; exact hR.up (Nat.le_succ mb) (by omega), mQ_tr q0 qR⟩
  · exact absurd hob (by decide)
  · have hE : bld P i True (snpF P) = (-1, refP P 2) := bld_2 hA trivial hb
    first | refine a_aload_n K dX11_snap_0 rfl ?_ | refine a_aload_nN K dX11_snap_0 rfl ?_
    refine a_iconst K dX11_snap_1 (v := 0) (by decide) ?_
    refine a_putI K fd_X11_116 (by exact lm_o hM) rfl dX11_snap_2 ?_
    have f0 : frM S (wI S 704 (m 33) 0) m [] [704] := frM_wI (by decide) (by decide)
    obtain ⟨T, hT⟩ : ∃ T, T = wI S 704 (m 33) 0 := ⟨_, rfl⟩
    rw [← hT] at f0 ⊢
    obtain ⟨h, q0⟩ := h0.scr hP f0 (by decide) (by decide)
    have hM := h.1
    first | refine a_aload_n K dX11_snap_5 rfl ?_ | refine a_aload_nN K dX11_snap_5 rfl ?_
    refine a_iload_n K dX11_snap_6 rfl ?_
    refine a_iconst K dX11_snap_7 (v := 1) (by decide) ?_
    refine a_invV K (q_stp1 (v := nI 2) h hv) my_X11_stops ml_X11_393 im_X11_stops se_X11_stops (ci := 11) (by exact lm_o hM) (by decide) ⟨_, _, rfl⟩ rfl (by omega) (by omega) (by omega) rfl (Nat.le_of_ble_eq_true rfl) dX11_snap_8 ?_
    intro r9 S9 hp9
    obtain ⟨rfl, hS9⟩ := hp9
    obtain rfl := hS9.symm
    refine a_istore_n K dX11_snap_11 (by decide) ?_
    refine a_iload_n K dX11_snap_12 rfl ?_
    refine a_iconst K dX11_snap_13 (v := -1) (by decide) ?_
    refine a_icmp_ne K dX11_snap_14 (tgt := 26) (by decide) (fun c_14 => ?_) (fun c_14 => absurd c_14 (by decide))
    refine a_iload_n K dX11_snap_26 rfl ?_
    refine a_iconst K dX11_snap_27 (v := -1) (by decide) ?_
    refine a_icmp_ne K dX11_snap_28 (tgt := 39) (by decide) (fun c_28 => ?_) (fun c_28 => absurd c_28 (by decide))
    first | refine a_aload_n K dX11_snap_39 rfl ?_ | refine a_aload_nN K dX11_snap_39 rfl ?_
    refine a_iload_n K dX11_snap_40 rfl ?_
    refine a_invV K (q_refP h (k := 2) (by decide)) my_X11_refused ml_X11_292 im_X11_refused se_X11_refused (ci := 11) (by exact lm_o hM) (by decide) ⟨_, _, rfl⟩ rfl (by omega) (by omega) (by omega) rfl (Nat.le_of_ble_eq_true rfl) dX11_snap_41 ?_
    intro r9 S9 hp9
    obtain ⟨rfl, hR, qR⟩ := hp9
    exact a_iret K EE rfl (by omega) (by omega) dX11_snap_44 ⟨ρ, Z, by rw [hE], by rw [hE]; exact hR.up (Nat.le_succ mb) (by omega), mQ_tr q0 qR⟩
  · obtain ⟨rfl, hj⟩ := bAt_some hA
    by_cases hr : hcnt (pH P) < 16 ∧ (pM P).length < 999
    · have hE : bld P (nI j) True (snpF P) = (nI (pM P).length, snpP P j b) := (bld_9 hA trivial hb).trans (if_pos hr)
      first | refine a_aload_n K dX11_snap_0 rfl ?_ | refine a_aload_nN K dX11_snap_0 rfl ?_
      refine a_iconst K dX11_snap_1 (v := 0) (by decide) ?_
      refine a_putI K fd_X11_116 (by exact lm_o hM) rfl dX11_snap_2 ?_
      have f0 : frM S (wI S 704 (m 33) 0) m [] [704] := frM_wI (by decide) (by decide)
      obtain ⟨T, hT⟩ : ∃ T, T = wI S 704 (m 33) 0 := ⟨_, rfl⟩
      rw [← hT] at f0 ⊢
      obtain ⟨h, q0⟩ := h0.scr hP f0 (by decide) (by decide)
      have hM := h.1
      first | refine a_aload_n K dX11_snap_5 rfl ?_ | refine a_aload_nN K dX11_snap_5 rfl ?_
      refine a_iload_n K dX11_snap_6 rfl ?_
      refine a_iconst K dX11_snap_7 (v := 1) (by decide) ?_
      refine a_invV K (q_stp1 (v := -1) h hv) my_X11_stops ml_X11_393 im_X11_stops se_X11_stops (ci := 11) (by exact lm_o hM) (by decide) ⟨_, _, rfl⟩ rfl (by omega) (by omega) (by omega) rfl (Nat.le_of_ble_eq_true rfl) dX11_snap_8 ?_
      intro r9 S9 hp9
      obtain ⟨rfl, hS9⟩ := hp9
      obtain rfl := hS9.symm
      refine a_istore_n K dX11_snap_11 (by decide) ?_
      refine a_iload_n K dX11_snap_12 rfl ?_
      refine a_iconst K dX11_snap_13 (v := -1) (by decide) ?_
      refine a_icmp_ne K dX11_snap_14 (tgt := 26) (by decide) (fun c_14 => absurd c_14 (fun z => z rfl)) (fun c_14 => ?_)
      first | refine a_aload_n K dX11_snap_17 rfl ?_ | refine a_aload_nN K dX11_snap_17 rfl ?_
      refine a_invV K ((h.room hl9 hc16).1 hr) my_X11_hasRoom ml_X11_289 im_X11_hasRoom se_X11_hasRoom (ci := 11) (by exact lm_o hM) (by decide) ⟨_, _, rfl⟩ rfl (by omega) (by omega) (by omega) rfl (Nat.le_of_ble_eq_true rfl) dX11_snap_18 ?_
      intro r9 S9 hp9
      obtain ⟨rfl, hS9⟩ := hp9
      obtain rfl := hS9.symm
      refine a_if_ne K dX11_snap_21 (tgt := 26) (by decide) (fun c_21 => ?_) (fun c_21 => absurd c_21 (by decide))
      refine a_iload_n K dX11_snap_26 rfl ?_
      refine a_iconst K dX11_snap_27 (v := -1) (by decide) ?_
      refine a_icmp_ne K dX11_snap_28 (tgt := 39) (by decide) (fun c_28 => absurd c_28 (fun z => z rfl)) (fun c_28 => ?_)
      first | refine a_aload_n K dX11_snap_31 rfl ?_ | refine a_aload_nN K dX11_snap_31 rfl ?_
      refine a_iload_n K dX11_snap_32 rfl ?_
      refine a_invV K (q_snapped h hJ hmb hb hj hr) my_X11_snapped ml_X11_407 im_X11_snapped se_X11_snapped (ci := 11) (by exact lm_o hM) (by decide) ⟨_, _, rfl⟩ rfl (by omega) (by omega) (by omega) rfl (Nat.le_of_ble_eq_true rfl) dX11_snap_33 ?_
      intro r9 S1 hp9
      obtain ⟨Z1, rfl, h1, q1, -⟩ := hp9
      refine a_goto K dX11_snap_36 (tgt := 44) (by decide) ?_
      exact a_iret K EE rfl (by omega) (by omega) dX11_snap_44 ⟨ρ, Z1, by rw [hE], by rw [hE]; exact h1, mQ_tr q0 q1⟩
    · have hE : bld P (nI j) True (snpF P) = (-1, refP P 4) := (bld_9 hA trivial hb).trans (if_neg hr)
      first | refine a_aload_n K dX11_snap_0 rfl ?_ | refine a_aload_nN K dX11_snap_0 rfl ?_
      refine a_iconst K dX11_snap_1 (v := 0) (by decide) ?_
      refine a_putI K fd_X11_116 (by exact lm_o hM) rfl dX11_snap_2 ?_
      have f0 : frM S (wI S 704 (m 33) 0) m [] [704] := frM_wI (by decide) (by decide)
      obtain ⟨T, hT⟩ : ∃ T, T = wI S 704 (m 33) 0 := ⟨_, rfl⟩
      rw [← hT] at f0 ⊢
      obtain ⟨h, q0⟩ := h0.scr hP f0 (by decide) (by decide)
      have hM := h.1
      first | refine a_aload_n K dX11_snap_5 rfl ?_ | refine a_aload_nN K dX11_snap_5 rfl ?_
      refine a_iload_n K dX11_snap_6 rfl ?_
      refine a_iconst K dX11_snap_7 (v := 1) (by decide) ?_
      refine a_invV K (q_stp1 (v := -1) h hv) my_X11_stops ml_X11_393 im_X11_stops se_X11_stops (ci := 11) (by exact lm_o hM) (by decide) ⟨_, _, rfl⟩ rfl (by omega) (by omega) (by omega) rfl (Nat.le_of_ble_eq_true rfl) dX11_snap_8 ?_
      intro r9 S9 hp9
      obtain ⟨rfl, hS9⟩ := hp9
      obtain rfl := hS9.symm
      refine a_istore_n K dX11_snap_11 (by decide) ?_
      refine a_iload_n K dX11_snap_12 rfl ?_
      refine a_iconst K dX11_snap_13 (v := -1) (by decide) ?_
      refine a_icmp_ne K dX11_snap_14 (tgt := 26) (by decide) (fun c_14 => absurd c_14 (fun z => z rfl)) (fun c_14 => ?_)
      first | refine a_aload_n K dX11_snap_17 rfl ?_ | refine a_aload_nN K dX11_snap_17 rfl ?_
      refine a_invV K ((h.room hl9 hc16).2 hr) my_X11_hasRoom ml_X11_289 im_X11_hasRoom se_X11_hasRoom (ci := 11) (by exact lm_o hM) (by decide) ⟨_, _, rfl⟩ rfl (by omega) (by omega) (by omega) rfl (Nat.le_of_ble_eq_true rfl) dX11_snap_18 ?_
      intro r9 S9 hp9
      obtain ⟨rfl, hS9⟩ := hp9
      obtain rfl := hS9.symm
      refine a_if_ne K dX11_snap_21 (tgt := 26) (by decide) (fun c_21 => absurd c_21 (fun z => z rfl)) (fun c_21 => ?_)
      refine a_iconst K dX11_snap_24 (v := 4) (by decide) ?_
      refine a_istore_n K dX11_snap_25 (by decide) ?_
      refine a_iload_n K dX11_snap_26 rfl ?_
      refine a_iconst K dX11_snap_27 (v := -1) (by decide) ?_
      refine a_icmp_ne K dX11_snap_28 (tgt := 39) (by decide) (fun c_28 => ?_) (fun c_28 => absurd c_28 (by decide))
      first | refine a_aload_n K dX11_snap_39 rfl ?_ | refine a_aload_nN K dX11_snap_39 rfl ?_
      refine a_iload_n K dX11_snap_40 rfl ?_
      rw [show (4 : Int32) = nI 4 from rfl]
      refine a_invV K (q_refP h (k := 4) (by decide)) my_X11_refused ml_X11_292 im_X11_refused se_X11_refused (ci := 11) (by exact lm_o hM) (by decide) ⟨_, _, rfl⟩ rfl (by omega) (by omega) (by omega) rfl (Nat.le_of_ble_eq_true rfl) dX11_snap_41 ?_
      intro r9 S9 hp9
      obtain ⟨rfl, hR, qR⟩ := hp9
      exact a_iret K EE rfl (by omega) (by omega) dX11_snap_44 ⟨ρ, Z, by rw [hE], by rw [hE]; exact hR.up (Nat.le_succ mb) (by omega), mQ_tr q0 qR⟩
set_option maxHeartbeats 4000000 in
set_option maxRecDepth 100000 in
theorem q_freeze {S : aw_S} {m ρ : Nat → Nat} {Z : List Nat × Nat} {mb n9 : Nat} {P : PS} (h0 : RM S m ρ Z mb P) (hJ : PJ n9 P) (hmb : mb + 1 < 2147483000) {i : Int32} : aw_M yX11_freeze cX11_freeze 3 (some FieldType.int) 11 0 0 [.ref (m 33), .int i] S (fun r S2 => ∃ ρ2 Z2, r = some (.int (bld P i True (frzF P)).1) ∧ RM S2 m ρ2 Z2 (mb + 1) (bld P i True (frzF P)).2 ∧ frS S S2 (mQ m)) := by
  have hP := hJ.1
  have hw3 := hP.1.1
  have hM := h0.1
  have hl9 := hJ.ln
  have hw6 := hP.1.2
  have hpH := hJ.2.2.2.2.2.1.1
  have hc16 := hJ.2.2.2.2.2.1.2.1
  refine aw_enter (by decide +kernel) (Nat.le_of_ble_eq_true rfl) (fun g K EE => ?_)
  rcases stp_cs (P := P) (i := i) (ok := true) with ⟨hA, hv⟩ | ⟨j, hA, hob, hv⟩ | ⟨j, hA, hob, hb, hv⟩ | ⟨j, b, hA, hob, hb, hv⟩
  · have hE : bld P i True (snpF P) = (-1, refP P 0) := bld_0 hA
    have hE2 : bld P i True (frzF P) = (-1, refP P 0) := bld_0 hA
    first | refine a_aload_n K dX11_freeze_0 rfl ?_ | refine a_aload_nN K dX11_freeze_0 rfl ?_
    refine a_iload_n K dX11_freeze_1 rfl ?_
    refine a_invV K (q_snap h0 hJ hmb) my_X11_snap ml_X11_410 im_X11_snap se_X11_snap (ci := 11) (by exact lm_o hM) (by decide) ⟨_, _, rfl⟩ rfl (by omega) (by omega) (by omega) rfl (Nat.le_of_ble_eq_true rfl) dX11_freeze_2 ?_
    intro r9 S1 hp9
    obtain ⟨ρ2, Z2, rfl, h1, q1⟩ := hp9
    rw [hE] at h1 ⊢
    have hM := h1.1
    refine a_istore_n K dX11_freeze_5 (by decide) ?_
    refine a_iload_n K dX11_freeze_6 rfl ?_
    refine a_iconst K dX11_freeze_7 (v := -1) (by decide) ?_
    refine a_icmp_eq K dX11_freeze_8 (tgt := 25) (by decide) (fun c_8 => ?_) (fun c_8 => absurd c_8 (fun z => z rfl))
    refine a_iload_n K dX11_freeze_25 rfl ?_
    exact a_iret K EE rfl (by omega) (by omega) dX11_freeze_26 ⟨ρ2, Z2, by rw [hE2], by rw [hE2]; exact h1, q1⟩
  · exact absurd hob (by decide)
  · have hE : bld P i True (snpF P) = (-1, refP P 2) := bld_2 hA trivial hb
    have hE2 : bld P i True (frzF P) = (-1, refP P 2) := bld_2 hA trivial hb
    first | refine a_aload_n K dX11_freeze_0 rfl ?_ | refine a_aload_nN K dX11_freeze_0 rfl ?_
    refine a_iload_n K dX11_freeze_1 rfl ?_
    refine a_invV K (q_snap h0 hJ hmb) my_X11_snap ml_X11_410 im_X11_snap se_X11_snap (ci := 11) (by exact lm_o hM) (by decide) ⟨_, _, rfl⟩ rfl (by omega) (by omega) (by omega) rfl (Nat.le_of_ble_eq_true rfl) dX11_freeze_2 ?_
    intro r9 S1 hp9
    obtain ⟨ρ2, Z2, rfl, h1, q1⟩ := hp9
    rw [hE] at h1 ⊢
    have hM := h1.1
    refine a_istore_n K dX11_freeze_5 (by decide) ?_
    refine a_iload_n K dX11_freeze_6 rfl ?_
    refine a_iconst K dX11_freeze_7 (v := -1) (by decide) ?_
    refine a_icmp_eq K dX11_freeze_8 (tgt := 25) (by decide) (fun c_8 => ?_) (fun c_8 => absurd c_8 (fun z => z rfl))
    refine a_iload_n K dX11_freeze_25 rfl ?_
    exact a_iret K EE rfl (by omega) (by omega) dX11_freeze_26 ⟨ρ2, Z2, by rw [hE2], by rw [hE2]; exact h1, q1⟩
  · obtain ⟨rfl, hj⟩ := bAt_some hA
    by_cases hr : hcnt (pH P) < 16 ∧ (pM P).length < 999
    · have hE : bld P (nI j) True (snpF P) = (nI (pM P).length, snpP P j b) := (bld_9 hA trivial hb).trans (if_pos hr)
      have hE2 : bld P (nI j) True (frzF P) = (nI (pM P).length, setB (snpP P j b) j none) := (bld_9 hA trivial hb).trans (if_pos hr)
      first | refine a_aload_n K dX11_freeze_0 rfl ?_ | refine a_aload_nN K dX11_freeze_0 rfl ?_
      refine a_iload_n K dX11_freeze_1 rfl ?_
      refine a_invV K (q_snap h0 hJ hmb) my_X11_snap ml_X11_410 im_X11_snap se_X11_snap (ci := 11) (by exact lm_o hM) (by decide) ⟨_, _, rfl⟩ rfl (by omega) (by omega) (by omega) rfl (Nat.le_of_ble_eq_true rfl) dX11_freeze_2 ?_
      intro r9 S1 hp9
      obtain ⟨ρ2, Z2, rfl, h1, q1⟩ := hp9
      rw [hE] at h1 ⊢
      have hM := h1.1
      refine a_istore_n K dX11_freeze_5 (by decide) ?_
      refine a_iload_n K dX11_freeze_6 rfl ?_
      refine a_iconst K dX11_freeze_7 (v := -1) (by decide) ?_
      refine a_icmp_eq K dX11_freeze_8 (tgt := 25) (by decide) (fun c_8 => absurd c_8 (nI_m1n (by omega))) (fun c_8 => ?_)
      first | refine a_aload_n K dX11_freeze_11 rfl ?_ | refine a_aload_nN K dX11_freeze_11 rfl ?_
      refine a_dup K dX11_freeze_12 rfl ?_
      refine a_getI K fd_X11_268 (by exact lm_o hM) (Or.inl rfl) dX11_freeze_13 ?_
      rw [h1.ob]
      refine a_iconst K dX11_freeze_16 (v := 1) (by decide) ?_
      refine a_iload_n K dX11_freeze_17 rfl ?_
      refine a_ishl K dX11_freeze_18 ?_
      refine a_iconst K dX11_freeze_19 (v := -1) (by decide) ?_
      refine a_ixor K dX11_freeze_20 ?_
      refine a_iand K dX11_freeze_21 ?_
      refine a_putI K fd_X11_268 (by exact lm_o hM) rfl dX11_freeze_22 ?_
      have f9 : frM S1 (wI S1 747 (m 33) (obN (snpP P j b) 4 &&& ((1 : Int32) <<< (nI j &&& 31) ^^^ -1))) m [24, 25] [746, 747, 748] := frM_wI (by decide) (by decide)
      have f8 : frM S1 (wI S1 747 (m 33) (obN (snpP P j b) 4 &&& ((1 : Int32) <<< (nI j &&& 31) ^^^ -1))) m [] [747] := frM_wI (by decide) (by decide)
      obtain ⟨h9, q9⟩ := RM_hold (P := (snpP P j b)) h1 f9 (hd := pH (snpP P j b)) (im := pI (snpP P j b)) (yy := pY (snpP P j b)) (bb := fun k => if k = j then none else pB (snpP P j b) k) ((f8.2 746 (by decide)).trans h1.hc) (wI_at.trans (obN_cl (P := (snpP P j b)) hj).symm) ((f8.2 748 (by decide)).trans h1.im) h1.2.2.2.2.1.2.1 h1.2.2.2.2.1.2.2.1 (fun k q => q) (fun k c hc => by
        by_cases q : k = j
        · rw [if_pos q] at hc
          exact absurd hc (by simp)
        · rw [if_neg q] at hc
          exact hc)
      have hM := h9.1
      refine a_iload_n K dX11_freeze_25 rfl ?_
      exact a_iret K EE rfl (by omega) (by omega) dX11_freeze_26 ⟨ρ2, Z2, by rw [hE2], by rw [hE2]; exact h9, mQ_tr q1 q9⟩
    · have hE : bld P (nI j) True (snpF P) = (-1, refP P 4) := (bld_9 hA trivial hb).trans (if_neg hr)
      have hE2 : bld P (nI j) True (frzF P) = (-1, refP P 4) := (bld_9 hA trivial hb).trans (if_neg hr)
      first | refine a_aload_n K dX11_freeze_0 rfl ?_ | refine a_aload_nN K dX11_freeze_0 rfl ?_
      refine a_iload_n K dX11_freeze_1 rfl ?_
      refine a_invV K (q_snap h0 hJ hmb) my_X11_snap ml_X11_410 im_X11_snap se_X11_snap (ci := 11) (by exact lm_o hM) (by decide) ⟨_, _, rfl⟩ rfl (by omega) (by omega) (by omega) rfl (Nat.le_of_ble_eq_true rfl) dX11_freeze_2 ?_
      intro r9 S1 hp9
      obtain ⟨ρ2, Z2, rfl, h1, q1⟩ := hp9
      rw [hE] at h1 ⊢
      have hM := h1.1
      refine a_istore_n K dX11_freeze_5 (by decide) ?_
      refine a_iload_n K dX11_freeze_6 rfl ?_
      refine a_iconst K dX11_freeze_7 (v := -1) (by decide) ?_
      refine a_icmp_eq K dX11_freeze_8 (tgt := 25) (by decide) (fun c_8 => ?_) (fun c_8 => absurd c_8 (fun z => z rfl))
      refine a_iload_n K dX11_freeze_25 rfl ?_
      exact a_iret K EE rfl (by omega) (by omega) dX11_freeze_26 ⟨ρ2, Z2, by rw [hE2], by rw [hE2]; exact h1, q1⟩
theorem q_isBldY {S : aw_S} {m : Nat → Nat} {x : Int32} (h : bld4 x) : aw_M yX11_isBuilder cX11_isBuilder 2 (some FieldType.boolean) 1 0 0 [.ref (m 33), .int x] S (fun r S2 => r = some (.int 1) ∧ S2 = S) := q_isBuilder.post (fun r S2 hp => ⟨bR_y h hp.2, hp.1⟩)
theorem q_isBldN {S : aw_S} {m : Nat → Nat} {x : Int32} (h : ¬ bld4 x) : aw_M yX11_isBuilder cX11_isBuilder 2 (some FieldType.boolean) 1 0 0 [.ref (m 33), .int x] S (fun r S2 => r = some (.int 0) ∧ S2 = S) := q_isBuilder.post (fun r S2 hp => ⟨bR_n h hp.2, hp.1⟩)
set_option maxHeartbeats 4000000 in
set_option maxRecDepth 100000 in
theorem q_build {S : aw_S} {m ρ : Nat → Nat} {Z : List Nat × Nat} {mb n9 : Nat} {P : PS} (h0 : RM S m ρ Z mb P) (hJ : PJ n9 P) (hmb : mb + 1 < 2147483000) (hn9 : n9 + 20 < 1000000000) {i mm : Int32} : aw_M yX11_build cX11_build 3 (some FieldType.int) 10 0 0 [.ref (m 33), .int i, .int mm] S (fun r S2 => ∃ ρ2 Z2, r = some (.int (bldB P i mm).1) ∧ RM S2 m ρ2 Z2 (mb + 1) (bldB P i mm).2 ∧ frS S S2 (mQ m)) := by
  have hP := hJ.1
  have hw3 := hP.1.1
  have hM := h0.1
  have hl9 := hJ.ln
  have hw6 := hP.1.2
  have hpH := hJ.2.2.2.2.2.1.1
  have hc16 := hJ.2.2.2.2.2.1.2.1
  refine aw_enter (by decide +kernel) (Nat.le_of_ble_eq_true rfl) (fun g K EE => ?_)
  cases hA : bAt i with
  | none =>
    have hE : bldB P i mm = (-1, refP P 0) := by
      unfold bldB
      rw [hA]
    first | refine a_aload_n K dX11_build_0 rfl ?_ | refine a_aload_nN K dX11_build_0 rfl ?_
    refine a_iconst K dX11_build_1 (v := 0) (by decide) ?_
    refine a_putI K fd_X11_116 (by exact lm_o hM) rfl dX11_build_2 ?_
    have f0 : frM S (wI S 704 (m 33) 0) m [] [704] := frM_wI (by decide) (by decide)
    obtain ⟨T, hT⟩ : ∃ T, T = wI S 704 (m 33) 0 := ⟨_, rfl⟩
    rw [← hT] at f0 ⊢
    obtain ⟨h, q0⟩ := h0.scr hP f0 (by decide) (by decide)
    have hM := h.1
    first | refine a_aload_n K dX11_build_5 rfl ?_ | refine a_aload_nN K dX11_build_5 rfl ?_
    refine a_iload_n K dX11_build_6 rfl ?_
    refine a_invV K (q_isBldN (bAt_none hA)) my_X11_isBuilder ml_X11_381 im_X11_isBuilder se_X11_isBuilder (ci := 11) (by exact lm_o hM) (by decide) ⟨_, _, rfl⟩ rfl (by omega) (by omega) (by omega) rfl (Nat.le_of_ble_eq_true rfl) dX11_build_7 ?_
    intro r9 S9 hp9
    obtain ⟨rfl, hS9⟩ := hp9
    obtain rfl := hS9.symm
    refine a_if_eq K dX11_build_10 (tgt := 21) (by decide) (fun c_10 => ?_) (fun c_10 => absurd c_10 (fun z => z rfl))
    first | refine a_aload_n K dX11_build_21 rfl ?_ | refine a_aload_nN K dX11_build_21 rfl ?_
    refine a_iconst K dX11_build_22 (v := 0) (by decide) ?_
    rw [show (0 : Int32) = nI 0 from rfl]
    refine a_invV K (q_refP h (k := 0) (by decide)) my_X11_refused ml_X11_292 im_X11_refused se_X11_refused (ci := 11) (by exact lm_o hM) (by decide) ⟨_, _, rfl⟩ rfl (by omega) (by omega) (by omega) rfl (Nat.le_of_ble_eq_true rfl) dX11_build_23 ?_
    intro r9 S9 hp9
    obtain ⟨rfl, hR, qR⟩ := hp9
    exact a_iret K EE rfl (by omega) (by omega) dX11_build_26 ⟨ρ, Z, by rw [hE], by rw [hE]; exact hR.up (Nat.le_succ mb) (by omega), mQ_tr q0 qR⟩
  | some j =>
    obtain ⟨rfl, hj⟩ := bAt_some hA
    cases hz : rootP P mm with
    | none =>
      have hE : bldB P (nI j) mm = (-1, refP P 0) := by
        unfold bldB
        rw [hA]
        unfold bldC
        rw [hz]
      first | refine a_aload_n K dX11_build_0 rfl ?_ | refine a_aload_nN K dX11_build_0 rfl ?_
      refine a_iconst K dX11_build_1 (v := 0) (by decide) ?_
      refine a_putI K fd_X11_116 (by exact lm_o hM) rfl dX11_build_2 ?_
      have f0 : frM S (wI S 704 (m 33) 0) m [] [704] := frM_wI (by decide) (by decide)
      obtain ⟨T, hT⟩ : ∃ T, T = wI S 704 (m 33) 0 := ⟨_, rfl⟩
      rw [← hT] at f0 ⊢
      obtain ⟨h, q0⟩ := h0.scr hP f0 (by decide) (by decide)
      have hM := h.1
      first | refine a_aload_n K dX11_build_5 rfl ?_ | refine a_aload_nN K dX11_build_5 rfl ?_
      refine a_iload_n K dX11_build_6 rfl ?_
      refine a_invV K (q_isBldY (bld4_nI hj)) my_X11_isBuilder ml_X11_381 im_X11_isBuilder se_X11_isBuilder (ci := 11) (by exact lm_o hM) (by decide) ⟨_, _, rfl⟩ rfl (by omega) (by omega) (by omega) rfl (Nat.le_of_ble_eq_true rfl) dX11_build_7 ?_
      intro r9 S9 hp9
      obtain ⟨rfl, hS9⟩ := hp9
      obtain rfl := hS9.symm
      refine a_if_eq K dX11_build_10 (tgt := 21) (by decide) (fun c_10 => absurd c_10 (by decide)) (fun c_10 => ?_)
      first | refine a_aload_n K dX11_build_13 rfl ?_ | refine a_aload_nN K dX11_build_13 rfl ?_
      refine a_iload_n K dX11_build_14 rfl ?_
      refine a_invV K (q_mapN h hl9 hz) my_X11_isMap ml_X11_309 im_X11_isMap se_X11_isMap (ci := 11) (by exact lm_o hM) (by decide) ⟨_, _, rfl⟩ rfl (by omega) (by omega) (by omega) rfl (Nat.le_of_ble_eq_true rfl) dX11_build_15 ?_
      intro r9 S9 hp9
      obtain ⟨rfl, hS9⟩ := hp9
      obtain rfl := hS9.symm
      refine a_if_ne K dX11_build_18 (tgt := 27) (by decide) (fun c_18 => absurd c_18 (fun z => z rfl)) (fun c_18 => ?_)
      first | refine a_aload_n K dX11_build_21 rfl ?_ | refine a_aload_nN K dX11_build_21 rfl ?_
      refine a_iconst K dX11_build_22 (v := 0) (by decide) ?_
      rw [show (0 : Int32) = nI 0 from rfl]
      refine a_invV K (q_refP h (k := 0) (by decide)) my_X11_refused ml_X11_292 im_X11_refused se_X11_refused (ci := 11) (by exact lm_o hM) (by decide) ⟨_, _, rfl⟩ rfl (by omega) (by omega) (by omega) rfl (Nat.le_of_ble_eq_true rfl) dX11_build_23 ?_
      intro r9 S9 hp9
      obtain ⟨rfl, hR, qR⟩ := hp9
      exact a_iret K EE rfl (by omega) (by omega) dX11_build_26 ⟨ρ, Z, by rw [hE], by rw [hE]; exact hR.up (Nat.le_succ mb) (by omega), mQ_tr q0 qR⟩
    | some z =>
      obtain ⟨k, hik, hk, -⟩ := h0.root hz
      subst hik
      have tz := hP.tz (rootP_live hz)
      have h4z := tz.h4 hw3
      have e60z := tz.2.2.1
      have hE : bldB P (nI j) (nI k) = (nI (sub z.1 z.2).length, setB (incT P) j (some (z, pTk P, nI k))) := by
        unfold bldB
        rw [hA]
        unfold bldC
        rw [hz]
      have hPJ := PJ_bldB hJ hn9 (nI j) (nI k) (fun j h => bAt_lt h)
      rw [hE] at hPJ
      have hsz : ∀ y, LvT (setB P j (some (z, pTk P, nI k))) y → (ndl y.1 y.2).length ≤ 61 ∧ y.1 ≤ 4 := szs_of hP (fun y hy => (lvT_set hy).elim lvT_in (fun e => e ▸ lvT_in (rootP_live hz)))
      first | refine a_aload_n K dX11_build_0 rfl ?_ | refine a_aload_nN K dX11_build_0 rfl ?_
      refine a_iconst K dX11_build_1 (v := 0) (by decide) ?_
      refine a_putI K fd_X11_116 (by exact lm_o hM) rfl dX11_build_2 ?_
      have f0 : frM S (wI S 704 (m 33) 0) m [] [704] := frM_wI (by decide) (by decide)
      obtain ⟨T, hT⟩ : ∃ T, T = wI S 704 (m 33) 0 := ⟨_, rfl⟩
      rw [← hT] at f0 ⊢
      obtain ⟨h, q0⟩ := h0.scr hP f0 (by decide) (by decide)
      have hM := h.1
      first | refine a_aload_n K dX11_build_5 rfl ?_ | refine a_aload_nN K dX11_build_5 rfl ?_
      refine a_iload_n K dX11_build_6 rfl ?_
      refine a_invV K (q_isBldY (bld4_nI hj)) my_X11_isBuilder ml_X11_381 im_X11_isBuilder se_X11_isBuilder (ci := 11) (by exact lm_o hM) (by decide) ⟨_, _, rfl⟩ rfl (by omega) (by omega) (by omega) rfl (Nat.le_of_ble_eq_true rfl) dX11_build_7 ?_
      intro r9 S9 hp9
      obtain ⟨rfl, hS9⟩ := hp9
      obtain rfl := hS9.symm
      refine a_if_eq K dX11_build_10 (tgt := 21) (by decide) (fun c_10 => absurd c_10 (by decide)) (fun c_10 => ?_)
      first | refine a_aload_n K dX11_build_13 rfl ?_ | refine a_aload_nN K dX11_build_13 rfl ?_
      refine a_iload_n K dX11_build_14 rfl ?_
      refine a_invV K (q_mapY h hl9 hz) my_X11_isMap ml_X11_309 im_X11_isMap se_X11_isMap (ci := 11) (by exact lm_o hM) (by decide) ⟨_, _, rfl⟩ rfl (by omega) (by omega) (by omega) rfl (Nat.le_of_ble_eq_true rfl) dX11_build_15 ?_
      intro r9 S9 hp9
      obtain ⟨rfl, hS9⟩ := hp9
      obtain rfl := hS9.symm
      refine a_if_ne K dX11_build_18 (tgt := 27) (by decide) (fun c_18 => ?_) (fun c_18 => absurd c_18 (by decide))
      first | refine a_aload_n K dX11_build_27 rfl ?_ | refine a_aload_nN K dX11_build_27 rfl ?_
      refine a_getRs K fd_X11_76 (by exact lm_o hM) (Or.inr ⟨_, rfl⟩) (by exact lm_r739 hM) dX11_build_28 ?_
      refine a_iload_n K dX11_build_31 rfl ?_
      first | refine a_aload_n K dX11_build_32 rfl ?_ | refine a_aload_nN K dX11_build_32 rfl ?_
      refine a_getRs K fd_X11_67 (by exact lm_o hM) (Or.inr ⟨_, rfl⟩) (by exact lm_r736 hM) dX11_build_33 ?_
      refine a_iload_n K dX11_build_36 rfl ?_
      refine a_iald K (by exact lm_kk hM (by decide) (by decide)) (by show vp_in _ (sN T (m 17)); exact lm_ix (z := 999) hM (by decide) (by decide) (show k < 999 by omega) (by decide)) dX11_build_37 ?_
      rw [nI_clamp (by omega)]
      rw [h.root2 hz (by omega)]
      refine a_iast K (by exact lm_kk hM (by decide) (by decide)) (by show vp_in _ (sN T (m 20)); exact lm_ix (z := 4) hM (by decide) (by decide) (show j < 4 by omega) (by decide)) dX11_build_38 ?_
      rw [nI_clamp (by omega)]
      first | refine a_aload_n K dX11_build_39 rfl ?_ | refine a_aload_nN K dX11_build_39 rfl ?_
      refine a_getRs K fd_X11_82 (by exact lm_o hM) (Or.inr ⟨_, rfl⟩) (by exact lm_r741 hM) dX11_build_40 ?_
      refine a_iload_n K dX11_build_43 rfl ?_
      refine a_iload_n K dX11_build_44 rfl ?_
      refine a_iast K (by exact lm_kk hM (by decide) (by decide)) (by show vp_in _ (sN T (m 22)); exact lm_ix (z := 4) hM (by decide) (by decide) (show j < 4 by omega) (by decide)) dX11_build_45 ?_
      rw [nI_clamp (by omega)]
      first | refine a_aload_n K dX11_build_46 rfl ?_ | refine a_aload_nN K dX11_build_46 rfl ?_
      refine a_dup K dX11_build_47 rfl ?_
      refine a_getI K fd_X11_268 (by exact lm_o hM) (Or.inl rfl) dX11_build_48 ?_
      rw [show sI (wA (wA T (m 20) j (nI (ρ z.2.1))) (m 22) j (nI k)) 747 (m 33) = obN P 4 from h.ob]
      refine a_iconst K dX11_build_51 (v := 1) (by decide) ?_
      refine a_iload_n K dX11_build_52 rfl ?_
      refine a_ishl K dX11_build_53 ?_
      refine a_ior K dX11_build_54 ?_
      refine a_putI K fd_X11_268 (by exact lm_o hM) rfl dX11_build_55 ?_
      have fV : frM T (wI (wA (wA T (m 20) j (nI (ρ z.2.1))) (m 22) j (nI k)) 747 (m 33) (obN P 4 ||| (1 : Int32) <<< (nI j &&& 31))) m [20, 22] [747] := ((frM_wA (by decide)).tr (frM_wA (by decide))).tr (frM_wI (by decide) (by decide))
      have hM0 := h.1
      obtain ⟨hw, qw⟩ := h.opn (P := P) (j := j) (t2 := pTk P) (z := z) (v := nI k) (rootP_live hz) fV (fun i hi => by
        rw [sA_wI_, sA_wA, if_neg (fun q => lm_ne hM0 (by decide) (by decide) (by decide) q.1), sA_wA]
        by_cases q : i = j
        · rw [if_pos q, if_pos ⟨rfl, q⟩]
        · rw [if_neg q, if_neg (fun z => q z.2)]) (fun i hi => by
        rw [sA_wI_, sA_wA]
        by_cases q : i = j
        · rw [if_pos q, if_pos ⟨rfl, q⟩]
        · rw [if_neg q, if_neg (fun z => q z.2), sA_wA, if_neg (fun q => lm_ne hM0 (by decide) (by decide) (by decide) q.1)]) (wI_at.trans (obN_or (P := P) hj).symm)
      have hM := hw.1
      first | refine a_aload_n K dX11_build_58 rfl ?_ | refine a_aload_nN K dX11_build_58 rfl ?_
      refine a_getRs K fd_X11_79 (by exact lm_o hM) (Or.inr ⟨_, rfl⟩) (by exact lm_r740 hM) dX11_build_59 ?_
      refine a_iload_n K dX11_build_62 rfl ?_
      first | refine a_aload_n K dX11_build_63 rfl ?_ | refine a_aload_nN K dX11_build_63 rfl ?_
      refine a_invV K (q_newTkW hw hmb hsz hc16 hJ.2.2.2.2.2.1.2.2.1 hl9) my_X11_newToken ml_X11_295 im_X11_newToken se_X11_newToken (ci := 11) (by exact lm_o hM) (by decide) ⟨_, _, rfl⟩ rfl (by omega) (by omega) (by omega) rfl (Nat.le_of_ble_eq_true rfl) dX11_build_64 ?_
      intro r9 S2 hp9
      obtain ⟨rfl, Z2, h2, hrm2, q2⟩ := hp9
      have hM := h2.1
      refine a_iast K (by exact lm_kk hM (by decide) (by decide)) (by show vp_in _ (sN S2 (m 21)); exact lm_ix (z := 4) hM (by decide) (by decide) (show j < 4 by omega) (by decide)) dX11_build_67 ?_
      rw [nI_clamp (by omega)]
      obtain ⟨h3, q3⟩ : RM (wA S2 (m 21) j (nI (pTk (setB P j (some (z, pTk P, nI k))) + 1))) m ρ Z2 (mb + 1) (incT (setB P j (some (z, pTk P, nI k)))) ∧ frS S2 (wA S2 (m 21) j (nI (pTk (setB P j (some (z, pTk P, nI k))) + 1))) (mQ m) := h2.tok (P := incT (setB P j (some (z, pTk P, nI k)))) (j := j) (c := (z, pTk P, nI k)) (if_pos rfl)
      have hM := h3.1
      first | refine a_aload_n K dX11_build_68 rfl ?_ | refine a_aload_nN K dX11_build_68 rfl ?_
      first | refine a_aload_n K dX11_build_69 rfl ?_ | refine a_aload_nN K dX11_build_69 rfl ?_
      refine a_getRs K fd_X11_67 (by exact lm_o hM) (Or.inr ⟨_, rfl⟩) (by exact lm_r736 hM) dX11_build_70 ?_
      refine a_iload_n K dX11_build_73 rfl ?_
      refine a_iald K (by exact lm_kk hM (by decide) (by decide)) (by show vp_in _ (sN S2 (m 17)); exact lm_ix (z := 999) hM (by decide) (by decide) (show k < 999 by omega) (by decide)) dX11_build_74 ?_
      rw [nI_clamp (by omega)]
      rw [h3.root2 (P := incT (setB P j (some (z, pTk P, nI k)))) hz (by omega)]
      refine a_invV K (m_laysTree hM (h3.rep (P := incT (setB P j (some (z, pTk P, nI k)))) (z := z) (bui_live (b := (z, pTk P, nI k)) hj (if_pos rfl))) (by omega) (by omega) (by omega)) my_X11_laysTree ml_X11_252 im_X11_laysTree se_X11_laysTree (ci := 11) (by exact lm_o hM) (by decide) ⟨_, _, rfl⟩ rfl (by omega) (by omega) (by omega) rfl (Nat.le_of_ble_eq_true rfl) dX11_build_75 ?_
      intro r9 S5 hp9
      obtain ⟨rfl, hLy, f5⟩ := hp9
      obtain ⟨h5, q5⟩ := h3.scr (P := incT (setB P j (some (z, pTk P, nI k)))) hPJ.1 f5 (by decide) (by decide)
      have hM := h5.1
      first | refine a_aload_n K dX11_build_78 rfl ?_ | refine a_aload_nN K dX11_build_78 rfl ?_
      refine a_getI K fd_X11_243 (by exact lm_o hM) (Or.inl rfl) dX11_build_79 ?_
      rw [hLy.2.1, dpT_len, ← sub_ndl, List.length_map]
      exact a_iret K EE rfl (by omega) (by omega) dX11_build_82 ⟨ρ, Z2, by rw [hE], by rw [hE]; exact h5, mQ_tr q0 (mQ_tr qw (mQ_tr q2 (mQ_tr q3 q5)))⟩
