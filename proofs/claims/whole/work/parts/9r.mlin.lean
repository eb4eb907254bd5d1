/-! the model: where maps come from -/
def Ln (n : Nat) (f : Nat → Int32) (A B : Nat → Prop) : Prop := ∀ k, k < n → bt4 (f k) (A k) (B k)
theorem Ln.iff {n : Nat} {f : Nat → Int32} {A B C D : Nat → Prop} (h : Ln n f A B) (e1 : ∀ k, k < n → (A k ↔ C k)) (e2 : ∀ k, k < n → (B k ↔ D k)) : Ln n f C D := fun k hk => (h k hk).iff (e1 k hk) (e2 k hk)
theorem Ln_or {S : aw_S} {a n j : Nat} {A B : Nat → Prop} {line : Int32} {p q : Prop} (h : Ln n (sA S a) A B) (hl : bt4 line p q) : Ln n (sA (wA S a j (sA S a j ||| line)) a) (fun k => A k ∨ (p ∧ k = j)) (fun k => B k ∨ (q ∧ k = j)) := fun k hk => by
  rw [sA_wA]
  by_cases c : k = j
  · rw [if_pos ⟨rfl, c⟩, ← c]
    exact ((h k hk).or hl).iff ⟨fun z => z.imp id (fun y => ⟨y, rfl⟩), fun z => z.imp id And.left⟩ ⟨fun z => z.imp id (fun y => ⟨y, rfl⟩), fun z => z.imp id And.left⟩
  · rw [if_neg (fun z => c z.2)]
    exact (h k hk).iff ⟨Or.inl, fun z => z.elim id (fun y => absurd y.2 c)⟩ ⟨Or.inl, fun z => z.elim id (fun y => absurd y.2 c)⟩
theorem eqn {n j k : Nat} (hn : n ≤ 999) (hk : k < n) (hj : j < n) {v : Int32} (e : v = nI j) : k = j ↔ v = nI k := ⟨fun c => by rw [c, e], fun c => nI_inj (by omega) (by omega) (c.symm.trans e)⟩
theorem Ln_frm {S : aw_S} {a n j : Nat} {A B : Nat → Prop} {line v : Int32} {p q : Prop} (h : Ln n (sA S a) A B) (hl : bt4 line p q) (hn : n ≤ 999) (hj : j < n) (e : v = nI j) : Ln n (sA (wA S a j (sA S a j ||| line)) a) (fun k => A k ∨ (p ∧ v = nI k)) (fun k => B k ∨ (q ∧ v = nI k)) := (Ln_or h hl).iff (fun k hk => by rw [eqn hn hk hj e]) (fun k hk => by rw [eqn hn hk hj e])
theorem Ln_no {f : Nat → Int32} {n : Nat} {A B : Nat → Prop} {v : Int32} {p q : Prop} (h : Ln n f A B) (hn : n ≤ 999) (e : v = -1) : Ln n f (fun k => A k ∨ (p ∧ v = nI k)) (fun k => B k ∨ (q ∧ v = nI k)) := h.iff (fun k hk => ⟨Or.inl, fun z => z.elim id (fun y => absurd (y.2.symm.trans e) (nI_m1n (by omega)))⟩) (fun k hk => ⟨Or.inl, fun z => z.elim id (fun y => absurd (y.2.symm.trans e) (nI_m1n (by omega)))⟩)
theorem bt4_and {x line : Int32} {A B U p q : Prop} (h : bt4 x (A ∨ (p ∧ U)) (B ∨ (q ∧ U))) (hl : bt4 line p q) (h0 : ¬ (p ∧ q)) (h1 : p ∨ q) (hA : p → ¬ A) (hB : q → ¬ B) : x &&& line = 0 ↔ ¬ U := by
  rcases hl with ⟨rfl, a, b⟩ | ⟨rfl, a, b⟩ | ⟨rfl, a, b⟩ | ⟨rfl, a, b⟩
  · exact absurd h1 (fun z => z.elim a b)
  · rcases h with ⟨rfl, c, d⟩ | ⟨rfl, c, d⟩ | ⟨rfl, c, d⟩ | ⟨rfl, c, d⟩
    · exact ⟨fun _ u => c (Or.inr ⟨a, u⟩), fun _ => by decide⟩
    · exact ⟨fun e => absurd e (by decide), fun u => absurd (c.elim (fun z => absurd z (hA a)) And.right) u⟩
    · exact ⟨fun _ u => c (Or.inr ⟨a, u⟩), fun _ => by decide⟩
    · exact ⟨fun e => absurd e (by decide), fun u => absurd (c.elim (fun z => absurd z (hA a)) And.right) u⟩
  · rcases h with ⟨rfl, c, d⟩ | ⟨rfl, c, d⟩ | ⟨rfl, c, d⟩ | ⟨rfl, c, d⟩
    · exact ⟨fun _ u => d (Or.inr ⟨b, u⟩), fun _ => by decide⟩
    · exact ⟨fun _ u => d (Or.inr ⟨b, u⟩), fun _ => by decide⟩
    · exact ⟨fun e => absurd e (by decide), fun u => absurd (d.elim (fun z => absurd z (hB b)) And.right) u⟩
    · exact ⟨fun e => absurd e (by decide), fun u => absurd (d.elim (fun z => absurd z (hB b)) And.right) u⟩
  · exact absurd ⟨a, b⟩ h0
theorem bt4_3 {x : Int32} {p q : Prop} (h : bt4 x p q) : x = 3 ↔ p ∧ q := by
  rcases h with ⟨rfl, c, d⟩ | ⟨rfl, c, d⟩ | ⟨rfl, c, d⟩ | ⟨rfl, c, d⟩
  · exact ⟨fun e => absurd e (by decide), fun z => absurd z.1 c⟩
  · exact ⟨fun e => absurd e (by decide), fun z => absurd z.2 d⟩
  · exact ⟨fun e => absurd e (by decide), fun z => absurd z.1 c⟩
  · exact ⟨fun _ => ⟨c, d⟩, fun _ => rfl⟩
theorem lin_iff {A p U1 U N a b : Prop} (h : ((U1 ∨ (N ∧ a)) ∨ (N ∧ b)) ↔ U) (hN : N) : (((A ∨ (p ∧ U1)) ∨ (p ∧ a)) ∨ (p ∧ b)) ↔ (A ∨ (p ∧ U)) := ⟨fun z => z.elim (fun z => z.elim (fun z => z.imp id (fun w => ⟨w.1, h.mp (Or.inl (Or.inl w.2))⟩)) (fun w => Or.inr ⟨w.1, h.mp (Or.inl (Or.inr ⟨hN, w.2⟩))⟩)) (fun w => Or.inr ⟨w.1, h.mp (Or.inr ⟨hN, w.2⟩)⟩), fun z => z.elim (fun y => Or.inl (Or.inl (Or.inl y))) (fun w => (h.mpr w.2).elim (fun y => y.elim (fun u => Or.inl (Or.inl (Or.inr ⟨w.1, u⟩))) (fun u => Or.inl (Or.inr ⟨w.1, u.2⟩))) (fun u => Or.inr ⟨w.1, u.2⟩))⟩
theorem upto_a {P : PS} (hL : PL P) (hl : (pM P).length ≤ 999) {a k : Nat} : k = a ↔ upto P a (a + 1) k := ⟨Or.inl, fun z => z.elim id (fun ⟨c, h1, h2, _⟩ => by
  have := h2.le hL hl
  omega)⟩
theorem upto_0 {P : PS} {a k : Nat} : upto P a 0 k ↔ AN P a k := ⟨fun z => z.elim (fun e => by rw [e]; exact AN.self P a) (fun ⟨c, _, h1, h2⟩ => h1.up h2), fun z => z.cases.imp id (fun ⟨c, h1, h2⟩ => ⟨c, Nat.zero_le _, h1, h2⟩)⟩
theorem RM.frm {S : aw_S} {m ρ : Nat → Nat} {Z : List Nat × Nat} {mb : Nat} {P : PS} (h : RM S m ρ Z mb P) {i : Nat} {x : MI} (hx : (pM P)[i]? = some x) : sA S (m 18) i = x.2.1 ∧ sA S (m 19) i = x.2.2 := ⟨(h.2.2.1 i x hx).2.1, (h.2.2.1 i x hx).2.2⟩
set_option maxHeartbeats 4000000 in
set_option maxRecDepth 100000 in
theorem q_laysSources {S : aw_S} {m ρ : Nat → Nat} {Z : List Nat × Nat} {mb : Nat} {P : PS} (h : RM S m ρ Z mb P) (hPL : PL P) (hl9 : (pM P).length ≤ 999) {a : Nat} (ha : a < (pM P).length) {A B : Nat → Prop} {line : Int32} {p q : Prop} (hl : bt4 line p q) (hpq0 : ¬ (p ∧ q)) (hpq1 : p ∨ q) (hA0 : p → ∀ k, ¬ A k) (hB0 : q → ∀ k, ¬ B k) (hln0 : Ln (pM P).length (sA S (m 32)) A B) : aw_M yX11_laysSources cX11_laysSources 4 (none : Option FieldType) 0 0 0 [.ref (m 33), .int (nI a), .int line] S (fun r S2 => r = none ∧ frM S S2 m [32] [] ∧ Ln (pM P).length (sA S2 (m 32)) (fun k => A k ∨ (p ∧ AN P a k)) (fun k => B k ∨ (q ∧ AN P a k))) := by
  have hM := h.1
  refine aw_enter (by decide +kernel) (Nat.le_of_ble_eq_true rfl) (fun g K EE => ?_)
  first | refine a_aload_n K dX11_laysSources_0 rfl ?_ | refine a_aload_nN K dX11_laysSources_0 rfl ?_
  refine a_getRs K fd_X11_113 (by exact lm_o hM) (Or.inr ⟨_, rfl⟩) (by exact lm_r759 hM) dX11_laysSources_1 ?_
  refine a_iload_n K dX11_laysSources_4 rfl ?_
  refine a_dup2 K dX11_laysSources_5 rfl rfl ?_
  refine a_iald K (by exact lm_kk hM (by decide) (by decide)) (by show vp_in _ (sN S (m 32)); exact lm_ix (z := 999) hM (by decide) (by decide) (show a < 999 by omega) (by decide)) dX11_laysSources_6 ?_
  rw [nI_clamp (by omega)]
  refine a_iload_n K dX11_laysSources_7 rfl ?_
  refine a_ior K dX11_laysSources_8 ?_
  refine a_iast K (by exact lm_kk hM (by decide) (by decide)) (by show vp_in _ (sN S (m 32)); exact lm_ix (z := 999) hM (by decide) (by decide) (show a < 999 by omega) (by decide)) dX11_laysSources_9 ?_
  rw [nI_clamp (by omega)]
  refine a_iload_n K dX11_laysSources_10 rfl ?_
  refine a_istore_n K dX11_laysSources_11 (by decide) ?_
  have loop : ∀ (i : Nat) (V : aw_S), i ≤ (pM P).length → frM S V m [32] [] → Ln (pM P).length (sA V (m 32)) (fun k => A k ∨ (p ∧ upto P a i k)) (fun k => B k ∨ (q ∧ upto P a i k)) → aw g 4 V 0 0 [(3, .int (dnI i)), (2, .int line), (0, .ref (m 33))] [] 12 := by
    intro i
    induction i with
    | zero =>
      intro V hi f hln
      have hM := f.lay h.1
      refine a_iload_n K dX11_laysSources_12 rfl ?_
      refine a_if_lt K dX11_laysSources_13 (tgt := 86) (by decide) (fun c_13 => ?_) (fun c_13 => absurd c_13 (by decide))
      exact a_vret K EE (by omega) (by omega) dX11_laysSources_86 ⟨rfl, f, hln.iff (fun k _ => by rw [upto_0]) (fun k _ => by rw [upto_0])⟩
    | succ i ih =>
      intro V hi f hln
      have hM := f.lay h.1
      have e18 : sA V (m 18) = sA S (m 18) := f.A h.1 (by decide) (by decide) (by decide)
      have e19 : sA V (m 19) = sA S (m 19) := f.A h.1 (by decide) (by decide) (by decide)
      have hx := List.getElem?_eq_getElem (show i < (pM P).length by omega)
      generalize (pM P)[i] = x at hx
      have hand : sA V (m 32) i &&& line = 0 ↔ ¬ AN P a i := by
        rw [← upto_at hPL hl9 (a := a)]
        exact bt4_and (hln i (by omega)) hl hpq0 hpq1 (fun z => hA0 z i) (fun z => hB0 z i)
      rw [show dnI (i + 1) = nI i from rfl]
      by_cases hA : AN P a i
      · have hPx := hPL i x hx
        by_cases c1 : x.2.1 = -1
        · by_cases c2 : x.2.2 = -1
          · refine a_iload_n K dX11_laysSources_12 rfl ?_
            refine a_if_lt K dX11_laysSources_13 (tgt := 86) (by decide) (fun c_13 => absurd c_13 (nI_pos (by omega))) (fun c_13 => ?_)
            first | refine a_aload_n K dX11_laysSources_16 rfl ?_ | refine a_aload_nN K dX11_laysSources_16 rfl ?_
            refine a_getRs K fd_X11_113 (by exact lm_o hM) (Or.inr ⟨_, rfl⟩) (by exact lm_r759 hM) dX11_laysSources_17 ?_
            refine a_iload_n K dX11_laysSources_20 rfl ?_
            refine a_iald K (by exact lm_kk hM (by decide) (by decide)) (by show vp_in _ (sN V (m 32)); exact lm_ix (z := 999) hM (by decide) (by decide) (show i < 999 by omega) (by decide)) dX11_laysSources_21 ?_
            rw [nI_clamp (by omega)]
            refine a_iload_n K dX11_laysSources_22 rfl ?_
            refine a_iand K dX11_laysSources_23 ?_
            refine a_if_ne K dX11_laysSources_24 (tgt := 30) (by decide) (fun c_24 => ?_) (fun c_24 => absurd c_24 (fun z => absurd hA (hand.mp z)))
            first | refine a_aload_n K dX11_laysSources_30 rfl ?_ | refine a_aload_nN K dX11_laysSources_30 rfl ?_
            refine a_getRs K fd_X11_70 (by exact lm_o hM) (Or.inr ⟨_, rfl⟩) (by exact lm_r737 hM) dX11_laysSources_31 ?_
            refine a_iload_n K dX11_laysSources_34 rfl ?_
            refine a_iald K (by exact lm_kk hM (by decide) (by decide)) (by show vp_in _ (sN V (m 18)); exact lm_ix (z := 999) hM (by decide) (by decide) (show i < 999 by omega) (by decide)) dX11_laysSources_35 ?_
            rw [nI_clamp (by omega)]
            rw [e18, (h.frm hx).1]
            refine a_iconst K dX11_laysSources_36 (v := -1) (by decide) ?_
            refine a_icmp_eq K dX11_laysSources_37 (tgt := 55) (by decide) (fun c_37 => ?_) (fun c_37 => absurd c_37 (fun z => z c1))
            first | refine a_aload_n K dX11_laysSources_55 rfl ?_ | refine a_aload_nN K dX11_laysSources_55 rfl ?_
            refine a_getRs K fd_X11_73 (by exact lm_o hM) (Or.inr ⟨_, rfl⟩) (by exact lm_r738 hM) dX11_laysSources_56 ?_
            refine a_iload_n K dX11_laysSources_59 rfl ?_
            refine a_iald K (by exact lm_kk hM (by decide) (by decide)) (by show vp_in _ (sN V (m 19)); exact lm_ix (z := 999) hM (by decide) (by decide) (show i < 999 by omega) (by decide)) dX11_laysSources_60 ?_
            rw [nI_clamp (by omega)]
            rw [e19, (h.frm hx).2]
            refine a_iconst K dX11_laysSources_61 (v := -1) (by decide) ?_
            refine a_icmp_eq K dX11_laysSources_62 (tgt := 80) (by decide) (fun c_62 => ?_) (fun c_62 => absurd c_62 (fun z => z c2))
            refine a_iinc K dX11_laysSources_80 (v := -1) rfl (by decide) (by decide) ?_
            refine a_goto K dX11_laysSources_83 (tgt := 12) (by decide) ?_
            exact aw_locl (by rw [← dn_m]; rfl) (ih V (by omega) f ((Ln_no (Ln_no hln hl9 c1) hl9 c2).iff (fun k hk => lin_iff (upl9 hx k (by omega)) hA) (fun k hk => lin_iff (upl9 hx k (by omega)) hA)))
          obtain ⟨j2, hj2, hj2e⟩ := hPx.2.resolve_left c2
          refine a_iload_n K dX11_laysSources_12 rfl ?_
          refine a_if_lt K dX11_laysSources_13 (tgt := 86) (by decide) (fun c_13 => absurd c_13 (nI_pos (by omega))) (fun c_13 => ?_)
          first | refine a_aload_n K dX11_laysSources_16 rfl ?_ | refine a_aload_nN K dX11_laysSources_16 rfl ?_
          refine a_getRs K fd_X11_113 (by exact lm_o hM) (Or.inr ⟨_, rfl⟩) (by exact lm_r759 hM) dX11_laysSources_17 ?_
          refine a_iload_n K dX11_laysSources_20 rfl ?_
          refine a_iald K (by exact lm_kk hM (by decide) (by decide)) (by show vp_in _ (sN V (m 32)); exact lm_ix (z := 999) hM (by decide) (by decide) (show i < 999 by omega) (by decide)) dX11_laysSources_21 ?_
          rw [nI_clamp (by omega)]
          refine a_iload_n K dX11_laysSources_22 rfl ?_
          refine a_iand K dX11_laysSources_23 ?_
          refine a_if_ne K dX11_laysSources_24 (tgt := 30) (by decide) (fun c_24 => ?_) (fun c_24 => absurd c_24 (fun z => absurd hA (hand.mp z)))
          first | refine a_aload_n K dX11_laysSources_30 rfl ?_ | refine a_aload_nN K dX11_laysSources_30 rfl ?_
          refine a_getRs K fd_X11_70 (by exact lm_o hM) (Or.inr ⟨_, rfl⟩) (by exact lm_r737 hM) dX11_laysSources_31 ?_
          refine a_iload_n K dX11_laysSources_34 rfl ?_
          refine a_iald K (by exact lm_kk hM (by decide) (by decide)) (by show vp_in _ (sN V (m 18)); exact lm_ix (z := 999) hM (by decide) (by decide) (show i < 999 by omega) (by decide)) dX11_laysSources_35 ?_
          rw [nI_clamp (by omega)]
          rw [e18, (h.frm hx).1]
          refine a_iconst K dX11_laysSources_36 (v := -1) (by decide) ?_
          refine a_icmp_eq K dX11_laysSources_37 (tgt := 55) (by decide) (fun c_37 => ?_) (fun c_37 => absurd c_37 (fun z => z c1))
          first | refine a_aload_n K dX11_laysSources_55 rfl ?_ | refine a_aload_nN K dX11_laysSources_55 rfl ?_
          refine a_getRs K fd_X11_73 (by exact lm_o hM) (Or.inr ⟨_, rfl⟩) (by exact lm_r738 hM) dX11_laysSources_56 ?_
          refine a_iload_n K dX11_laysSources_59 rfl ?_
          refine a_iald K (by exact lm_kk hM (by decide) (by decide)) (by show vp_in _ (sN V (m 19)); exact lm_ix (z := 999) hM (by decide) (by decide) (show i < 999 by omega) (by decide)) dX11_laysSources_60 ?_
          rw [nI_clamp (by omega)]
          rw [e19, (h.frm hx).2]
          refine a_iconst K dX11_laysSources_61 (v := -1) (by decide) ?_
          refine a_icmp_eq K dX11_laysSources_62 (tgt := 80) (by decide) (fun c_62 => absurd c_62 (c2)) (fun c_62 => ?_)
          first | refine a_aload_n K dX11_laysSources_65 rfl ?_ | refine a_aload_nN K dX11_laysSources_65 rfl ?_
          refine a_getRs K fd_X11_113 (by exact lm_o hM) (Or.inr ⟨_, rfl⟩) (by exact lm_r759 hM) dX11_laysSources_66 ?_
          first | refine a_aload_n K dX11_laysSources_69 rfl ?_ | refine a_aload_nN K dX11_laysSources_69 rfl ?_
          refine a_getRs K fd_X11_73 (by exact lm_o hM) (Or.inr ⟨_, rfl⟩) (by exact lm_r738 hM) dX11_laysSources_70 ?_
          refine a_iload_n K dX11_laysSources_73 rfl ?_
          refine a_iald K (by exact lm_kk hM (by decide) (by decide)) (by show vp_in _ (sN V (m 19)); exact lm_ix (z := 999) hM (by decide) (by decide) (show i < 999 by omega) (by decide)) dX11_laysSources_74 ?_
          rw [nI_clamp (by omega)]
          rw [e19, (h.frm hx).2, hj2e]
          refine a_dup2 K dX11_laysSources_75 rfl rfl ?_
          refine a_iald K (by exact lm_kk hM (by decide) (by decide)) (by show vp_in _ (sN V (m 32)); exact lm_ix (z := 999) hM (by decide) (by decide) (show j2 < 999 by omega) (by decide)) dX11_laysSources_76 ?_
          rw [nI_clamp (by omega)]
          refine a_iload_n K dX11_laysSources_77 rfl ?_
          refine a_ior K dX11_laysSources_78 ?_
          refine a_iast K (by exact lm_kk hM (by decide) (by decide)) (by show vp_in _ (sN V (m 32)); exact lm_ix (z := 999) hM (by decide) (by decide) (show j2 < 999 by omega) (by decide)) dX11_laysSources_79 ?_
          rw [nI_clamp (by omega)]
          refine a_iinc K dX11_laysSources_80 (v := -1) rfl (by decide) (by decide) ?_
          refine a_goto K dX11_laysSources_83 (tgt := 12) (by decide) ?_
          exact aw_locl (by rw [← dn_m]; rfl) (ih (wA V (m 32) j2 (sA V (m 32) j2 ||| line)) (by omega) (f.tr (frM_wA (by decide))) ((Ln_frm (Ln_no hln hl9 c1) hl hl9 (by omega) hj2e).iff (fun k hk => lin_iff (upl9 hx k (by omega)) hA) (fun k hk => lin_iff (upl9 hx k (by omega)) hA)))
        obtain ⟨j1, hj1, hj1e⟩ := hPx.1.resolve_left c1
        by_cases c2 : x.2.2 = -1
        · refine a_iload_n K dX11_laysSources_12 rfl ?_
          refine a_if_lt K dX11_laysSources_13 (tgt := 86) (by decide) (fun c_13 => absurd c_13 (nI_pos (by omega))) (fun c_13 => ?_)
          first | refine a_aload_n K dX11_laysSources_16 rfl ?_ | refine a_aload_nN K dX11_laysSources_16 rfl ?_
          refine a_getRs K fd_X11_113 (by exact lm_o hM) (Or.inr ⟨_, rfl⟩) (by exact lm_r759 hM) dX11_laysSources_17 ?_
          refine a_iload_n K dX11_laysSources_20 rfl ?_
          refine a_iald K (by exact lm_kk hM (by decide) (by decide)) (by show vp_in _ (sN V (m 32)); exact lm_ix (z := 999) hM (by decide) (by decide) (show i < 999 by omega) (by decide)) dX11_laysSources_21 ?_
          rw [nI_clamp (by omega)]
          refine a_iload_n K dX11_laysSources_22 rfl ?_
          refine a_iand K dX11_laysSources_23 ?_
          refine a_if_ne K dX11_laysSources_24 (tgt := 30) (by decide) (fun c_24 => ?_) (fun c_24 => absurd c_24 (fun z => absurd hA (hand.mp z)))
          first | refine a_aload_n K dX11_laysSources_30 rfl ?_ | refine a_aload_nN K dX11_laysSources_30 rfl ?_
          refine a_getRs K fd_X11_70 (by exact lm_o hM) (Or.inr ⟨_, rfl⟩) (by exact lm_r737 hM) dX11_laysSources_31 ?_
          refine a_iload_n K dX11_laysSources_34 rfl ?_
          refine a_iald K (by exact lm_kk hM (by decide) (by decide)) (by show vp_in _ (sN V (m 18)); exact lm_ix (z := 999) hM (by decide) (by decide) (show i < 999 by omega) (by decide)) dX11_laysSources_35 ?_
          rw [nI_clamp (by omega)]
          rw [e18, (h.frm hx).1]
          refine a_iconst K dX11_laysSources_36 (v := -1) (by decide) ?_
          refine a_icmp_eq K dX11_laysSources_37 (tgt := 55) (by decide) (fun c_37 => absurd c_37 (c1)) (fun c_37 => ?_)
          first | refine a_aload_n K dX11_laysSources_40 rfl ?_ | refine a_aload_nN K dX11_laysSources_40 rfl ?_
          refine a_getRs K fd_X11_113 (by exact lm_o hM) (Or.inr ⟨_, rfl⟩) (by exact lm_r759 hM) dX11_laysSources_41 ?_
          first | refine a_aload_n K dX11_laysSources_44 rfl ?_ | refine a_aload_nN K dX11_laysSources_44 rfl ?_
          refine a_getRs K fd_X11_70 (by exact lm_o hM) (Or.inr ⟨_, rfl⟩) (by exact lm_r737 hM) dX11_laysSources_45 ?_
          refine a_iload_n K dX11_laysSources_48 rfl ?_
          refine a_iald K (by exact lm_kk hM (by decide) (by decide)) (by show vp_in _ (sN V (m 18)); exact lm_ix (z := 999) hM (by decide) (by decide) (show i < 999 by omega) (by decide)) dX11_laysSources_49 ?_
          rw [nI_clamp (by omega)]
          rw [e18, (h.frm hx).1, hj1e]
          refine a_dup2 K dX11_laysSources_50 rfl rfl ?_
          refine a_iald K (by exact lm_kk hM (by decide) (by decide)) (by show vp_in _ (sN V (m 32)); exact lm_ix (z := 999) hM (by decide) (by decide) (show j1 < 999 by omega) (by decide)) dX11_laysSources_51 ?_
          rw [nI_clamp (by omega)]
          refine a_iload_n K dX11_laysSources_52 rfl ?_
          refine a_ior K dX11_laysSources_53 ?_
          refine a_iast K (by exact lm_kk hM (by decide) (by decide)) (by show vp_in _ (sN V (m 32)); exact lm_ix (z := 999) hM (by decide) (by decide) (show j1 < 999 by omega) (by decide)) dX11_laysSources_54 ?_
          rw [nI_clamp (by omega)]
          have hM := (frM_wA (S := V) (m := m) (ks := [32]) (Fs := []) (k := 32) (i := j1) (v := sA V (m 32) j1 ||| line) (by decide)).lay hM
          first | refine a_aload_n K dX11_laysSources_55 rfl ?_ | refine a_aload_nN K dX11_laysSources_55 rfl ?_
          refine a_getRs K fd_X11_73 (by exact lm_o hM) (Or.inr ⟨_, rfl⟩) (by exact lm_r738 hM) dX11_laysSources_56 ?_
          refine a_iload_n K dX11_laysSources_59 rfl ?_
          refine a_iald K (by exact lm_kk hM (by decide) (by decide)) (by show vp_in _ (sN (wA V (m 32) j1 (sA V (m 32) j1 ||| line)) (m 19)); exact lm_ix (z := 999) hM (by decide) (by decide) (show i < 999 by omega) (by decide)) dX11_laysSources_60 ?_
          rw [nI_clamp (by omega)]
          rw [show sA (wA V (m 32) j1 (sA V (m 32) j1 ||| line)) (m 19) = sA V (m 19) from by funext k; rw [sA_wA, if_neg (fun z => lm_ne h.1 (by decide) (by decide) (by decide) z.1)]]
          rw [e19, (h.frm hx).2]
          refine a_iconst K dX11_laysSources_61 (v := -1) (by decide) ?_
          refine a_icmp_eq K dX11_laysSources_62 (tgt := 80) (by decide) (fun c_62 => ?_) (fun c_62 => absurd c_62 (fun z => z c2))
          refine a_iinc K dX11_laysSources_80 (v := -1) rfl (by decide) (by decide) ?_
          refine a_goto K dX11_laysSources_83 (tgt := 12) (by decide) ?_
          exact aw_locl (by rw [← dn_m]; rfl) (ih (wA V (m 32) j1 (sA V (m 32) j1 ||| line)) (by omega) (f.tr (frM_wA (by decide))) ((Ln_no (Ln_frm hln hl hl9 (by omega) hj1e) hl9 c2).iff (fun k hk => lin_iff (upl9 hx k (by omega)) hA) (fun k hk => lin_iff (upl9 hx k (by omega)) hA)))
        obtain ⟨j2, hj2, hj2e⟩ := hPx.2.resolve_left c2
        refine a_iload_n K dX11_laysSources_12 rfl ?_
        refine a_if_lt K dX11_laysSources_13 (tgt := 86) (by decide) (fun c_13 => absurd c_13 (nI_pos (by omega))) (fun c_13 => ?_)
        first | refine a_aload_n K dX11_laysSources_16 rfl ?_ | refine a_aload_nN K dX11_laysSources_16 rfl ?_
        refine a_getRs K fd_X11_113 (by exact lm_o hM) (Or.inr ⟨_, rfl⟩) (by exact lm_r759 hM) dX11_laysSources_17 ?_
        refine a_iload_n K dX11_laysSources_20 rfl ?_
        refine a_iald K (by exact lm_kk hM (by decide) (by decide)) (by show vp_in _ (sN V (m 32)); exact lm_ix (z := 999) hM (by decide) (by decide) (show i < 999 by omega) (by decide)) dX11_laysSources_21 ?_
        rw [nI_clamp (by omega)]
        refine a_iload_n K dX11_laysSources_22 rfl ?_
        refine a_iand K dX11_laysSources_23 ?_
        refine a_if_ne K dX11_laysSources_24 (tgt := 30) (by decide) (fun c_24 => ?_) (fun c_24 => absurd c_24 (fun z => absurd hA (hand.mp z)))
        first | refine a_aload_n K dX11_laysSources_30 rfl ?_ | refine a_aload_nN K dX11_laysSources_30 rfl ?_
        refine a_getRs K fd_X11_70 (by exact lm_o hM) (Or.inr ⟨_, rfl⟩) (by exact lm_r737 hM) dX11_laysSources_31 ?_
        refine a_iload_n K dX11_laysSources_34 rfl ?_
        refine a_iald K (by exact lm_kk hM (by decide) (by decide)) (by show vp_in _ (sN V (m 18)); exact lm_ix (z := 999) hM (by decide) (by decide) (show i < 999 by omega) (by decide)) dX11_laysSources_35 ?_
        rw [nI_clamp (by omega)]
        rw [e18, (h.frm hx).1]
        refine a_iconst K dX11_laysSources_36 (v := -1) (by decide) ?_
        refine a_icmp_eq K dX11_laysSources_37 (tgt := 55) (by decide) (fun c_37 => absurd c_37 (c1)) (fun c_37 => ?_)
        first | refine a_aload_n K dX11_laysSources_40 rfl ?_ | refine a_aload_nN K dX11_laysSources_40 rfl ?_
        refine a_getRs K fd_X11_113 (by exact lm_o hM) (Or.inr ⟨_, rfl⟩) (by exact lm_r759 hM) dX11_laysSources_41 ?_
        first | refine a_aload_n K dX11_laysSources_44 rfl ?_ | refine a_aload_nN K dX11_laysSources_44 rfl ?_
        refine a_getRs K fd_X11_70 (by exact lm_o hM) (Or.inr ⟨_, rfl⟩) (by exact lm_r737 hM) dX11_laysSources_45 ?_
        refine a_iload_n K dX11_laysSources_48 rfl ?_
        refine a_iald K (by exact lm_kk hM (by decide) (by decide)) (by show vp_in _ (sN V (m 18)); exact lm_ix (z := 999) hM (by decide) (by decide) (show i < 999 by omega) (by decide)) dX11_laysSources_49 ?_
        rw [nI_clamp (by omega)]
        rw [e18, (h.frm hx).1, hj1e]
        refine a_dup2 K dX11_laysSources_50 rfl rfl ?_
        refine a_iald K (by exact lm_kk hM (by decide) (by decide)) (by show vp_in _ (sN V (m 32)); exact lm_ix (z := 999) hM (by decide) (by decide) (show j1 < 999 by omega) (by decide)) dX11_laysSources_51 ?_
        rw [nI_clamp (by omega)]
        refine a_iload_n K dX11_laysSources_52 rfl ?_
        refine a_ior K dX11_laysSources_53 ?_
        refine a_iast K (by exact lm_kk hM (by decide) (by decide)) (by show vp_in _ (sN V (m 32)); exact lm_ix (z := 999) hM (by decide) (by decide) (show j1 < 999 by omega) (by decide)) dX11_laysSources_54 ?_
        rw [nI_clamp (by omega)]
        have hM := (frM_wA (S := V) (m := m) (ks := [32]) (Fs := []) (k := 32) (i := j1) (v := sA V (m 32) j1 ||| line) (by decide)).lay hM
        first | refine a_aload_n K dX11_laysSources_55 rfl ?_ | refine a_aload_nN K dX11_laysSources_55 rfl ?_
        refine a_getRs K fd_X11_73 (by exact lm_o hM) (Or.inr ⟨_, rfl⟩) (by exact lm_r738 hM) dX11_laysSources_56 ?_
        refine a_iload_n K dX11_laysSources_59 rfl ?_
        refine a_iald K (by exact lm_kk hM (by decide) (by decide)) (by show vp_in _ (sN (wA V (m 32) j1 (sA V (m 32) j1 ||| line)) (m 19)); exact lm_ix (z := 999) hM (by decide) (by decide) (show i < 999 by omega) (by decide)) dX11_laysSources_60 ?_
        rw [nI_clamp (by omega)]
        rw [show sA (wA V (m 32) j1 (sA V (m 32) j1 ||| line)) (m 19) = sA V (m 19) from by funext k; rw [sA_wA, if_neg (fun z => lm_ne h.1 (by decide) (by decide) (by decide) z.1)]]
        rw [e19, (h.frm hx).2]
        refine a_iconst K dX11_laysSources_61 (v := -1) (by decide) ?_
        refine a_icmp_eq K dX11_laysSources_62 (tgt := 80) (by decide) (fun c_62 => absurd c_62 (c2)) (fun c_62 => ?_)
        first | refine a_aload_n K dX11_laysSources_65 rfl ?_ | refine a_aload_nN K dX11_laysSources_65 rfl ?_
        refine a_getRs K fd_X11_113 (by exact lm_o hM) (Or.inr ⟨_, rfl⟩) (by exact lm_r759 hM) dX11_laysSources_66 ?_
        first | refine a_aload_n K dX11_laysSources_69 rfl ?_ | refine a_aload_nN K dX11_laysSources_69 rfl ?_
        refine a_getRs K fd_X11_73 (by exact lm_o hM) (Or.inr ⟨_, rfl⟩) (by exact lm_r738 hM) dX11_laysSources_70 ?_
        refine a_iload_n K dX11_laysSources_73 rfl ?_
        refine a_iald K (by exact lm_kk hM (by decide) (by decide)) (by show vp_in _ (sN (wA V (m 32) j1 (sA V (m 32) j1 ||| line)) (m 19)); exact lm_ix (z := 999) hM (by decide) (by decide) (show i < 999 by omega) (by decide)) dX11_laysSources_74 ?_
        rw [nI_clamp (by omega)]
        rw [show sA (wA V (m 32) j1 (sA V (m 32) j1 ||| line)) (m 19) = sA V (m 19) from by funext k; rw [sA_wA, if_neg (fun z => lm_ne h.1 (by decide) (by decide) (by decide) z.1)]]
        rw [e19, (h.frm hx).2, hj2e]
        refine a_dup2 K dX11_laysSources_75 rfl rfl ?_
        refine a_iald K (by exact lm_kk hM (by decide) (by decide)) (by show vp_in _ (sN (wA V (m 32) j1 (sA V (m 32) j1 ||| line)) (m 32)); exact lm_ix (z := 999) hM (by decide) (by decide) (show j2 < 999 by omega) (by decide)) dX11_laysSources_76 ?_
        rw [nI_clamp (by omega)]
        refine a_iload_n K dX11_laysSources_77 rfl ?_
        refine a_ior K dX11_laysSources_78 ?_
        refine a_iast K (by exact lm_kk hM (by decide) (by decide)) (by show vp_in _ (sN (wA V (m 32) j1 (sA V (m 32) j1 ||| line)) (m 32)); exact lm_ix (z := 999) hM (by decide) (by decide) (show j2 < 999 by omega) (by decide)) dX11_laysSources_79 ?_
        rw [nI_clamp (by omega)]
        refine a_iinc K dX11_laysSources_80 (v := -1) rfl (by decide) (by decide) ?_
        refine a_goto K dX11_laysSources_83 (tgt := 12) (by decide) ?_
        exact aw_locl (by rw [← dn_m]; rfl) (ih (wA (wA V (m 32) j1 (sA V (m 32) j1 ||| line)) (m 32) j2 (sA (wA V (m 32) j1 (sA V (m 32) j1 ||| line)) (m 32) j2 ||| line)) (by omega) ((f.tr (frM_wA (by decide))).tr (frM_wA (by decide))) ((Ln_frm (Ln_frm hln hl hl9 (by omega) hj1e) hl hl9 (by omega) hj2e).iff (fun k hk => lin_iff (upl9 hx k (by omega)) hA) (fun k hk => lin_iff (upl9 hx k (by omega)) hA)))
      · refine a_iload_n K dX11_laysSources_12 rfl ?_
        refine a_if_lt K dX11_laysSources_13 (tgt := 86) (by decide) (fun c_13 => absurd c_13 (nI_pos (by omega))) (fun c_13 => ?_)
        first | refine a_aload_n K dX11_laysSources_16 rfl ?_ | refine a_aload_nN K dX11_laysSources_16 rfl ?_
        refine a_getRs K fd_X11_113 (by exact lm_o hM) (Or.inr ⟨_, rfl⟩) (by exact lm_r759 hM) dX11_laysSources_17 ?_
        refine a_iload_n K dX11_laysSources_20 rfl ?_
        refine a_iald K (by exact lm_kk hM (by decide) (by decide)) (by show vp_in _ (sN V (m 32)); exact lm_ix (z := 999) hM (by decide) (by decide) (show i < 999 by omega) (by decide)) dX11_laysSources_21 ?_
        rw [nI_clamp (by omega)]
        refine a_iload_n K dX11_laysSources_22 rfl ?_
        refine a_iand K dX11_laysSources_23 ?_
        refine a_if_ne K dX11_laysSources_24 (tgt := 30) (by decide) (fun c_24 => absurd c_24 (fun z => z (hand.mpr hA))) (fun c_24 => ?_)
        refine a_goto K dX11_laysSources_27 (tgt := 80) (by decide) ?_
        refine a_iinc K dX11_laysSources_80 (v := -1) rfl (by decide) (by decide) ?_
        refine a_goto K dX11_laysSources_83 (tgt := 12) (by decide) ?_
        exact aw_locl (by rw [← dn_m]; rfl) (ih V (by omega) f (hln.iff (fun k _ => by rw [upto_n hA]) (fun k _ => by rw [upto_n hA])))
  exact aw_locl rfl (loop (a + 1) _ (by omega) (frM_wA (by decide)) ((Ln_or hln0 hl).iff (fun k _ => by rw [upto_a hPL hl9]) (fun k _ => by rw [upto_a hPL hl9])))
set_option maxHeartbeats 4000000 in
set_option maxRecDepth 100000 in
theorem q_fork {S : aw_S} {m ρ : Nat → Nat} {Z : List Nat × Nat} {mb n9 : Nat} {P : PS} (h0 : RM S m ρ Z mb P) (hJ : PJ n9 P) {i k : Int32} : aw_M yX11_fork cX11_fork 5 (some FieldType.int) 4 0 0 [.ref (m 33), .int i, .int k] S (fun r S2 => r = some (.int (aFork P i k)) ∧ RM S2 m ρ Z mb P ∧ frS S S2 (mQ m)) := by
  have hP := hJ.1
  have hw3 := hP.1.1
  have hM := h0.1
  have hl9 := hJ.ln
  have hPL : PL P := hJ.2.1
  refine aw_enter (by decide +kernel) (Nat.le_of_ble_eq_true rfl) (fun g K EE => ?_)
  cases hz : rootP P i with
  | none =>
    first | refine a_aload_n K dX11_fork_0 rfl ?_ | refine a_aload_nN K dX11_fork_0 rfl ?_
    refine a_iconst K dX11_fork_1 (v := 0) (by decide) ?_
    refine a_putI K fd_X11_116 (by exact lm_o hM) rfl dX11_fork_2 ?_
    have f0 : frM S (wI S 704 (m 33) 0) m [] [704] := frM_wI (by decide) (by decide)
    obtain ⟨T, hT⟩ : ∃ T, T = wI S 704 (m 33) 0 := ⟨_, rfl⟩
    rw [← hT] at f0 ⊢
    obtain ⟨h, q0⟩ := h0.scr hP f0 (by decide) (by decide)
    have hM := h.1
    first | refine a_aload_n K dX11_fork_5 rfl ?_ | refine a_aload_nN K dX11_fork_5 rfl ?_
    refine a_iload_n K dX11_fork_6 rfl ?_
    refine a_invV K (q_mapN h hl9 hz) my_X11_isMap ml_X11_309 im_X11_isMap se_X11_isMap (ci := 11) (by exact lm_o hM) (by decide) ⟨_, _, rfl⟩ rfl (by omega) (by omega) (by omega) rfl (Nat.le_of_ble_eq_true rfl) dX11_fork_7 ?_
    intro r9 S9 hp9
    obtain ⟨rfl, hS9⟩ := hp9
    obtain rfl := hS9.symm
    refine a_if_eq K dX11_fork_10 (tgt := 21) (by decide) (fun c_10 => ?_) (fun c_10 => absurd c_10 (fun q => q rfl))
    refine a_iconst K dX11_fork_21 (v := -1) (by decide) ?_
    exact a_iret K EE rfl (by omega) (by omega) dX11_fork_22 ⟨by unfold aFork; rw [hz], h, q0⟩
  | some z =>
    cases hy : rootP P k with
    | none =>
      first | refine a_aload_n K dX11_fork_0 rfl ?_ | refine a_aload_nN K dX11_fork_0 rfl ?_
      refine a_iconst K dX11_fork_1 (v := 0) (by decide) ?_
      refine a_putI K fd_X11_116 (by exact lm_o hM) rfl dX11_fork_2 ?_
      have f0 : frM S (wI S 704 (m 33) 0) m [] [704] := frM_wI (by decide) (by decide)
      obtain ⟨T, hT⟩ : ∃ T, T = wI S 704 (m 33) 0 := ⟨_, rfl⟩
      rw [← hT] at f0 ⊢
      obtain ⟨h, q0⟩ := h0.scr hP f0 (by decide) (by decide)
      have hM := h.1
      first | refine a_aload_n K dX11_fork_5 rfl ?_ | refine a_aload_nN K dX11_fork_5 rfl ?_
      refine a_iload_n K dX11_fork_6 rfl ?_
      refine a_invV K (q_mapY h hl9 hz) my_X11_isMap ml_X11_309 im_X11_isMap se_X11_isMap (ci := 11) (by exact lm_o hM) (by decide) ⟨_, _, rfl⟩ rfl (by omega) (by omega) (by omega) rfl (Nat.le_of_ble_eq_true rfl) dX11_fork_7 ?_
      intro r9 S9 hp9
      obtain ⟨rfl, hS9⟩ := hp9
      obtain rfl := hS9.symm
      refine a_if_eq K dX11_fork_10 (tgt := 21) (by decide) (fun c_10 => absurd c_10 (by decide)) (fun c_10 => ?_)
      first | refine a_aload_n K dX11_fork_13 rfl ?_ | refine a_aload_nN K dX11_fork_13 rfl ?_
      refine a_iload_n K dX11_fork_14 rfl ?_
      refine a_invV K (q_mapN h hl9 hy) my_X11_isMap ml_X11_309 im_X11_isMap se_X11_isMap (ci := 11) (by exact lm_o hM) (by decide) ⟨_, _, rfl⟩ rfl (by omega) (by omega) (by omega) rfl (Nat.le_of_ble_eq_true rfl) dX11_fork_15 ?_
      intro r9 S9 hp9
      obtain ⟨rfl, hS9⟩ := hp9
      obtain rfl := hS9.symm
      refine a_if_ne K dX11_fork_18 (tgt := 23) (by decide) (fun c_18 => absurd c_18 (fun q => q rfl)) (fun c_18 => ?_)
      refine a_iconst K dX11_fork_21 (v := -1) (by decide) ?_
      exact a_iret K EE rfl (by omega) (by omega) dX11_fork_22 ⟨by unfold aFork; rw [hz, hy], h, q0⟩
    | some y =>
      obtain ⟨jm, hijm, hjm, -⟩ := h0.root hz
      subst hijm
      obtain ⟨jo, hijo, hjo, -⟩ := h0.root hy
      subst hijo
      first | refine a_aload_n K dX11_fork_0 rfl ?_ | refine a_aload_nN K dX11_fork_0 rfl ?_
      refine a_iconst K dX11_fork_1 (v := 0) (by decide) ?_
      refine a_putI K fd_X11_116 (by exact lm_o hM) rfl dX11_fork_2 ?_
      have f0 : frM S (wI S 704 (m 33) 0) m [] [704] := frM_wI (by decide) (by decide)
      obtain ⟨T, hT⟩ : ∃ T, T = wI S 704 (m 33) 0 := ⟨_, rfl⟩
      rw [← hT] at f0 ⊢
      obtain ⟨h, q0⟩ := h0.scr hP f0 (by decide) (by decide)
      have hM := h.1
      first | refine a_aload_n K dX11_fork_5 rfl ?_ | refine a_aload_nN K dX11_fork_5 rfl ?_
      refine a_iload_n K dX11_fork_6 rfl ?_
      refine a_invV K (q_mapY h hl9 hz) my_X11_isMap ml_X11_309 im_X11_isMap se_X11_isMap (ci := 11) (by exact lm_o hM) (by decide) ⟨_, _, rfl⟩ rfl (by omega) (by omega) (by omega) rfl (Nat.le_of_ble_eq_true rfl) dX11_fork_7 ?_
      intro r9 S9 hp9
      obtain ⟨rfl, hS9⟩ := hp9
      obtain rfl := hS9.symm
      refine a_if_eq K dX11_fork_10 (tgt := 21) (by decide) (fun c_10 => absurd c_10 (by decide)) (fun c_10 => ?_)
      first | refine a_aload_n K dX11_fork_13 rfl ?_ | refine a_aload_nN K dX11_fork_13 rfl ?_
      refine a_iload_n K dX11_fork_14 rfl ?_
      refine a_invV K (q_mapY h hl9 hy) my_X11_isMap ml_X11_309 im_X11_isMap se_X11_isMap (ci := 11) (by exact lm_o hM) (by decide) ⟨_, _, rfl⟩ rfl (by omega) (by omega) (by omega) rfl (Nat.le_of_ble_eq_true rfl) dX11_fork_15 ?_
      intro r9 S9 hp9
      obtain ⟨rfl, hS9⟩ := hp9
      obtain rfl := hS9.symm
      refine a_if_ne K dX11_fork_18 (tgt := 23) (by decide) (fun c_18 => ?_) (fun c_18 => absurd c_18 (by decide))
      refine a_iconst K dX11_fork_23 (v := 0) (by decide) ?_
      refine a_istore_n K dX11_fork_24 (by decide) ?_
      have loop0 : ∀ (n i : Nat) (x : Int32) (V : aw_S), x = nI i → i + n = (pM P).length → frM T V m [32] [] → (∀ k, k < i → sA V (m 32) k = 0) → aw g 5 V 0 0 [(3, .int x), (2, .int (nI jo)), (1, .int (nI jm)), (0, .ref (m 33))] [] 25 := by
        intro n
        induction n with
        | zero =>
          intro i x V hx9 hn f hA
          subst hx9
          have hM := f.lay h.1
          refine a_iload_n K dX11_fork_25 rfl ?_
          first | refine a_aload_n K dX11_fork_26 rfl ?_ | refine a_aload_nN K dX11_fork_26 rfl ?_
          refine a_getI K fd_X11_261 (by exact lm_o hM) (Or.inl rfl) dX11_fork_27 ?_
          rw [show sI V 745 (m 33) = nI (pM P).length from (f.2 745 (by decide)).trans h.nlen]
          refine a_icmp_ge K dX11_fork_30 (tgt := 46) (by decide) (fun c_30 => ?_) (fun c_30 => absurd c_30 (fun z9 => z9 (nI_le (a := (pM P).length) (b := i) (by omega) (by omega))))
          obtain ⟨hV, qV⟩ := h.scr hP f (by decide) (by decide)
          have hz0 : Ln (pM P).length (sA V (m 32)) (fun _ => False) (fun _ => False) := fun k hk => by
            rw [hA k (by omega)]
            exact Or.inl ⟨rfl, id, id⟩
          first | refine a_aload_n K dX11_fork_46 rfl ?_ | refine a_aload_nN K dX11_fork_46 rfl ?_
          refine a_iload_n K dX11_fork_47 rfl ?_
          refine a_iconst K dX11_fork_48 (v := 1) (by decide) ?_
          refine a_invV K (q_laysSources hV hPL hl9 hjm (A := fun _ => False) (B := fun _ => False) (line := 1) (p := True) (q := False) (Or.inr (Or.inl ⟨rfl, trivial, id⟩)) (fun z => z.2) (Or.inl trivial) (fun _ _ z => z) (fun z => z.elim) hz0) my_X11_laysSources ml_X11_456 im_X11_laysSources se_X11_laysSources (ci := 11) (by exact lm_o hM) (by decide) ⟨_, _, rfl⟩ rfl (by omega) (by omega) (by omega) rfl (Nat.le_of_ble_eq_true rfl) dX11_fork_49 ?_
          intro r9 V2 hp9
          obtain ⟨rfl, f2, ln2⟩ := hp9
          obtain ⟨h2, q2⟩ := hV.scr hP f2 (by decide) (by decide)
          have hM := h2.1
          first | refine a_aload_n K dX11_fork_52 rfl ?_ | refine a_aload_nN K dX11_fork_52 rfl ?_
          refine a_iload_n K dX11_fork_53 rfl ?_
          refine a_iconst K dX11_fork_54 (v := 2) (by decide) ?_
          refine a_invV K (q_laysSources h2 hPL hl9 hjo (line := 2) (p := False) (q := True) (Or.inr (Or.inr (Or.inl ⟨rfl, id, trivial⟩))) (fun z => z.1) (Or.inr trivial) (fun z => z.elim) (fun _ k z => z.elim id (fun y => y.1)) ln2) my_X11_laysSources ml_X11_456 im_X11_laysSources se_X11_laysSources (ci := 11) (by exact lm_o hM) (by decide) ⟨_, _, rfl⟩ rfl (by omega) (by omega) (by omega) rfl (Nat.le_of_ble_eq_true rfl) dX11_fork_55 ?_
          intro r9 V3 hp9
          obtain ⟨rfl, f3, ln3⟩ := hp9
          obtain ⟨h3, q3⟩ := h2.scr hP f3 (by decide) (by decide)
          have hM := h3.1
          have ln4 : Ln (pM P).length (sA V3 (m 32)) (AN P jm) (AN P jo) := ln3.iff (fun k _ => ⟨fun z => z.elim (fun y => y.elim False.elim And.right) (fun y => y.1.elim), fun z => Or.inl (Or.inr ⟨trivial, z⟩)⟩) (fun k _ => ⟨fun z => z.elim (fun y => y.elim False.elim (fun w => w.1.elim)) And.right, fun z => Or.inr ⟨trivial, z⟩⟩)
          refine a_iconst K dX11_fork_58 (v := -1) (by decide) ?_
          refine a_istore_n K dX11_fork_59 (by decide) ?_
          refine a_iconst K dX11_fork_60 (v := 0) (by decide) ?_
          refine a_istore K dX11_fork_61 (by decide) ?_
          have loop1 : ∀ (n i : Nat) (x b : Int32), x = nI i → i + n = (pM P).length → ((∃ k, k < i ∧ b = nI k ∧ (AN P jm k ∧ AN P jo k) ∧ ∀ j, k < j → j < i → ¬ (AN P jm j ∧ AN P jo j)) ∨ (b = -1 ∧ ∀ j, j < i → ¬ (AN P jm j ∧ AN P jo j))) → aw g 5 V3 0 0 [(4, .int x), (3, .int b), (0, .ref (m 33))] [] 63 := by
            intro n
            induction n with
            | zero =>
              intro i x b hx9 hn hb
              subst hx9
              have hfr : b = frkV P jm jo := by
                rcases hb with ⟨k, hk, e, hk2, hk3⟩ | ⟨e, hk3⟩
                · exact e.trans (frkV_y hk2 (fun j h5 h6 => if c : j < i then hk3 j h5 c h6 else by have := h6.1.le hPL hl9; omega)).symm
                · exact e.trans (frkV_n (fun j h6 => if c : j < i then hk3 j c h6 else by have := h6.1.le hPL hl9; omega)).symm
              refine a_iload K dX11_fork_63 rfl ?_
              first | refine a_aload_n K dX11_fork_65 rfl ?_ | refine a_aload_nN K dX11_fork_65 rfl ?_
              refine a_getI K fd_X11_261 (by exact lm_o hM) (Or.inl rfl) dX11_fork_66 ?_
              rw [h3.nlen]
              refine a_icmp_ge K dX11_fork_69 (tgt := 96) (by decide) (fun c_69 => ?_) (fun c_69 => absurd c_69 (fun z9 => z9 (nI_le (a := (pM P).length) (b := i) (by omega) (by omega))))
              refine a_iload_n K dX11_fork_96 rfl ?_
              exact a_iret K EE rfl (by omega) (by omega) dX11_fork_97 ⟨by unfold aFork; rw [hz, hy]; show _ = some (Value.int (frkV P (nI jm).toNatClampNeg (nI jo).toNatClampNeg)); rw [nI_clamp (by omega), nI_clamp (by omega), hfr], h3, mQ_tr q0 (mQ_tr qV (mQ_tr q2 q3))⟩
            | succ n ih =>
              intro i x b hx9 hn hb
              subst hx9
              have h33 := bt4_3 (ln4 i (by omega))
              by_cases hbo : AN P jm i ∧ AN P jo i
              · refine a_iload K dX11_fork_63 rfl ?_
                first | refine a_aload_n K dX11_fork_65 rfl ?_ | refine a_aload_nN K dX11_fork_65 rfl ?_
                refine a_getI K fd_X11_261 (by exact lm_o hM) (Or.inl rfl) dX11_fork_66 ?_
                rw [h3.nlen]
                refine a_icmp_ge K dX11_fork_69 (tgt := 96) (by decide) (fun c_69 => absurd c_69 (nI_ge (a := i) (b := (pM P).length) (by omega) (by omega))) (fun c_69 => ?_)
                first | refine a_aload_n K dX11_fork_72 rfl ?_ | refine a_aload_nN K dX11_fork_72 rfl ?_
                refine a_getRs K fd_X11_113 (by exact lm_o hM) (Or.inr ⟨_, rfl⟩) (by exact lm_r759 hM) dX11_fork_73 ?_
                refine a_iload K dX11_fork_76 rfl ?_
                refine a_iald K (by exact lm_kk hM (by decide) (by decide)) (by show vp_in _ (sN V3 (m 32)); exact lm_ix (z := 999) hM (by decide) (by decide) (show i < 999 by omega) (by decide)) dX11_fork_78 ?_
                rw [nI_clamp (by omega)]
                refine a_iconst K dX11_fork_79 (v := 3) (by decide) ?_
                refine a_icmp_ne K dX11_fork_80 (tgt := 88) (by decide) (fun c_80 => absurd c_80 (fun z => z (h33.mpr hbo))) (fun c_80 => ?_)
                refine a_iload K dX11_fork_83 rfl ?_
                refine a_goto K dX11_fork_85 (tgt := 89) (by decide) ?_
                refine a_istore_n K dX11_fork_89 (by decide) ?_
                refine a_iinc K dX11_fork_90 (v := 1) rfl (by decide) (by decide) ?_
                refine a_goto K dX11_fork_93 (tgt := 63) (by decide) ?_
                exact aw_locl rfl (ih (i + 1) _ _ (nI_1 i) (by omega) (Or.inl ⟨i, Nat.lt_succ_self i, rfl, hbo, fun j h5 h6 => by omega⟩))
              · refine a_iload K dX11_fork_63 rfl ?_
                first | refine a_aload_n K dX11_fork_65 rfl ?_ | refine a_aload_nN K dX11_fork_65 rfl ?_
                refine a_getI K fd_X11_261 (by exact lm_o hM) (Or.inl rfl) dX11_fork_66 ?_
                rw [h3.nlen]
                refine a_icmp_ge K dX11_fork_69 (tgt := 96) (by decide) (fun c_69 => absurd c_69 (nI_ge (a := i) (b := (pM P).length) (by omega) (by omega))) (fun c_69 => ?_)
                first | refine a_aload_n K dX11_fork_72 rfl ?_ | refine a_aload_nN K dX11_fork_72 rfl ?_
                refine a_getRs K fd_X11_113 (by exact lm_o hM) (Or.inr ⟨_, rfl⟩) (by exact lm_r759 hM) dX11_fork_73 ?_
                refine a_iload K dX11_fork_76 rfl ?_
                refine a_iald K (by exact lm_kk hM (by decide) (by decide)) (by show vp_in _ (sN V3 (m 32)); exact lm_ix (z := 999) hM (by decide) (by decide) (show i < 999 by omega) (by decide)) dX11_fork_78 ?_
                rw [nI_clamp (by omega)]
                refine a_iconst K dX11_fork_79 (v := 3) (by decide) ?_
                refine a_icmp_ne K dX11_fork_80 (tgt := 88) (by decide) (fun c_80 => ?_) (fun c_80 => absurd c_80 (fun z => hbo (h33.mp z)))
                refine a_iload_n K dX11_fork_88 rfl ?_
                refine a_istore_n K dX11_fork_89 (by decide) ?_
                refine a_iinc K dX11_fork_90 (v := 1) rfl (by decide) (by decide) ?_
                refine a_goto K dX11_fork_93 (tgt := 63) (by decide) ?_
                exact aw_locl rfl (ih (i + 1) _ _ (nI_1 i) (by omega) (hb.imp (fun ⟨k, hk, e, hk2, hk3⟩ => ⟨k, Nat.lt_succ_of_lt hk, e, hk2, fun j h5 h6 => if c : j = i then (by rw [c]; exact hbo) else hk3 j h5 (by omega)⟩) (fun ⟨e, hk3⟩ => ⟨e, fun j h6 => if c : j = i then (by rw [c]; exact hbo) else hk3 j (by omega)⟩)))
          exact aw_locl rfl (loop1 (pM P).length 0 _ _ nI_0.symm (Nat.zero_add _) (Or.inr ⟨rfl, fun j hj => absurd hj (Nat.not_lt_zero j)⟩))
        | succ n ih =>
          intro i x V hx9 hn f hA
          subst hx9
          have hM := f.lay h.1
          refine a_iload_n K dX11_fork_25 rfl ?_
          first | refine a_aload_n K dX11_fork_26 rfl ?_ | refine a_aload_nN K dX11_fork_26 rfl ?_
          refine a_getI K fd_X11_261 (by exact lm_o hM) (Or.inl rfl) dX11_fork_27 ?_
          rw [show sI V 745 (m 33) = nI (pM P).length from (f.2 745 (by decide)).trans h.nlen]
          refine a_icmp_ge K dX11_fork_30 (tgt := 46) (by decide) (fun c_30 => absurd c_30 (nI_ge (a := i) (b := (pM P).length) (by omega) (by omega))) (fun c_30 => ?_)
          first | refine a_aload_n K dX11_fork_33 rfl ?_ | refine a_aload_nN K dX11_fork_33 rfl ?_
          refine a_getRs K fd_X11_113 (by exact lm_o hM) (Or.inr ⟨_, rfl⟩) (by exact lm_r759 hM) dX11_fork_34 ?_
          refine a_iload_n K dX11_fork_37 rfl ?_
          refine a_iconst K dX11_fork_38 (v := 0) (by decide) ?_
          refine a_iast K (by exact lm_kk hM (by decide) (by decide)) (by show vp_in _ (sN V (m 32)); exact lm_ix (z := 999) hM (by decide) (by decide) (show i < 999 by omega) (by decide)) dX11_fork_39 ?_
          rw [nI_clamp (by omega)]
          refine a_iinc K dX11_fork_40 (v := 1) rfl (by decide) (by decide) ?_
          refine a_goto K dX11_fork_43 (tgt := 25) (by decide) ?_
          exact aw_locl rfl (ih (i + 1) _ _ (nI_1 i) (by omega) (f.tr (frM_wA (by decide))) (fun k hk => by
            rw [sA_wA]
            by_cases c : k = i
            · rw [if_pos ⟨rfl, c⟩]
            · rw [if_neg (fun z => c z.2)]
              exact hA k (by omega)))
      exact aw_locl rfl (loop0 (pM P).length 0 _ T nI_0.symm (Nat.zero_add _) frM.rf (fun k hk => absurd hk (Nat.not_lt_zero k)))
set_option maxHeartbeats 4000000 in
set_option maxRecDepth 100000 in
theorem q_comesFrom {S : aw_S} {m ρ : Nat → Nat} {Z : List Nat × Nat} {mb n9 : Nat} {P : PS} (h0 : RM S m ρ Z mb P) (hJ : PJ n9 P) {i k : Int32} : aw_M yX11_comesFrom cX11_comesFrom 4 (some FieldType.int) 4 0 0 [.ref (m 33), .int i, .int k] S (fun r S2 => r = some (.int (aComes P i k)) ∧ RM S2 m ρ Z mb P ∧ frS S S2 (mQ m)) := by
  have hP := hJ.1
  have hw3 := hP.1.1
  have hM := h0.1
  have hl9 := hJ.ln
  have hPL : PL P := hJ.2.1
  refine aw_enter (by decide +kernel) (Nat.le_of_ble_eq_true rfl) (fun g K EE => ?_)
  cases hz : rootP P i with
  | none =>
    first | refine a_aload_n K dX11_comesFrom_0 rfl ?_ | refine a_aload_nN K dX11_comesFrom_0 rfl ?_
    refine a_iconst K dX11_comesFrom_1 (v := 0) (by decide) ?_
    refine a_putI K fd_X11_116 (by exact lm_o hM) rfl dX11_comesFrom_2 ?_
    have f0 : frM S (wI S 704 (m 33) 0) m [] [704] := frM_wI (by decide) (by decide)
    obtain ⟨T, hT⟩ : ∃ T, T = wI S 704 (m 33) 0 := ⟨_, rfl⟩
    rw [← hT] at f0 ⊢
    obtain ⟨h, q0⟩ := h0.scr hP f0 (by decide) (by decide)
    have hM := h.1
    first | refine a_aload_n K dX11_comesFrom_5 rfl ?_ | refine a_aload_nN K dX11_comesFrom_5 rfl ?_
    refine a_iload_n K dX11_comesFrom_6 rfl ?_
    refine a_invV K (q_mapN h hl9 hz) my_X11_isMap ml_X11_309 im_X11_isMap se_X11_isMap (ci := 11) (by exact lm_o hM) (by decide) ⟨_, _, rfl⟩ rfl (by omega) (by omega) (by omega) rfl (Nat.le_of_ble_eq_true rfl) dX11_comesFrom_7 ?_
    intro r9 S9 hp9
    obtain ⟨rfl, hS9⟩ := hp9
    obtain rfl := hS9.symm
    refine a_if_eq K dX11_comesFrom_10 (tgt := 29) (by decide) (fun c_10 => ?_) (fun c_10 => absurd c_10 (fun q => q rfl))
    refine a_iconst K dX11_comesFrom_29 (v := -1) (by decide) ?_
    exact a_iret K EE rfl (by omega) (by omega) dX11_comesFrom_30 ⟨by unfold aComes; rw [hz], h, q0⟩
  | some z =>
    obtain ⟨jm, hijm, hjm, -⟩ := h0.root hz
    subst hijm
    by_cases hin : ¬ (0 ≤ k.toInt ∧ k.toInt ≤ (((pM P).length - 1 : Nat) : Int))
    · first | refine a_aload_n K dX11_comesFrom_0 rfl ?_ | refine a_aload_nN K dX11_comesFrom_0 rfl ?_
      refine a_iconst K dX11_comesFrom_1 (v := 0) (by decide) ?_
      refine a_putI K fd_X11_116 (by exact lm_o hM) rfl dX11_comesFrom_2 ?_
      have f0 : frM S (wI S 704 (m 33) 0) m [] [704] := frM_wI (by decide) (by decide)
      obtain ⟨T, hT⟩ : ∃ T, T = wI S 704 (m 33) 0 := ⟨_, rfl⟩
      rw [← hT] at f0 ⊢
      obtain ⟨h, q0⟩ := h0.scr hP f0 (by decide) (by decide)
      have hM := h.1
      first | refine a_aload_n K dX11_comesFrom_5 rfl ?_ | refine a_aload_nN K dX11_comesFrom_5 rfl ?_
      refine a_iload_n K dX11_comesFrom_6 rfl ?_
      refine a_invV K (q_mapY h hl9 hz) my_X11_isMap ml_X11_309 im_X11_isMap se_X11_isMap (ci := 11) (by exact lm_o hM) (by decide) ⟨_, _, rfl⟩ rfl (by omega) (by omega) (by omega) rfl (Nat.le_of_ble_eq_true rfl) dX11_comesFrom_7 ?_
      intro r9 S9 hp9
      obtain ⟨rfl, hS9⟩ := hp9
      obtain rfl := hS9.symm
      refine a_if_eq K dX11_comesFrom_10 (tgt := 29) (by decide) (fun c_10 => absurd c_10 (by decide)) (fun c_10 => ?_)
      refine a_iload_n K dX11_comesFrom_13 rfl ?_
      refine a_i2l K dX11_comesFrom_14 ?_
      refine a_lconst K dX11_comesFrom_15 (v := 0) (by decide) ?_
      first | refine a_aload_n K dX11_comesFrom_16 rfl ?_ | refine a_aload_nN K dX11_comesFrom_16 rfl ?_
      refine a_getI K fd_X11_261 (by exact lm_o hM) (Or.inl rfl) dX11_comesFrom_17 ?_
      rw [h.nlen]
      refine a_iconst K dX11_comesFrom_20 (v := 1) (by decide) ?_
      refine a_isub K dX11_comesFrom_21 ?_
      rw [show nI (pM P).length - 1 = nI ((pM P).length - 1) from by rw [show (1 : Int32) = nI 1 from rfl, nI_sub (by omega)]]
      refine a_i2l K dX11_comesFrom_22 ?_
      refine a_invS K (q_inN (p := 0) (q := (((pM P).length - 1 : Nat) : Int)) (by decide) (by rw [Int32.toInt_toInt64, t_nI (by omega)]) hin) my_X11_isIn ml_X11_174 st_X11_isIn rfl (by omega) (by omega) (by omega) rfl (Nat.le_of_ble_eq_true rfl) dX11_comesFrom_23 ?_
      intro r9 S9 hp9
      obtain ⟨rfl, hS9⟩ := hp9
      obtain rfl := hS9.symm
      refine a_if_ne K dX11_comesFrom_26 (tgt := 31) (by decide) (fun c_26 => absurd c_26 (fun q => q rfl)) (fun c_26 => ?_)
      refine a_iconst K dX11_comesFrom_29 (v := -1) (by decide) ?_
      exact a_iret K EE rfl (by omega) (by omega) dX11_comesFrom_30 ⟨by unfold aComes; rw [hz]; exact congrArg (fun v => some (Value.int v)) (if_neg (fun q => hin ⟨q.1, by have := q.2; omega⟩)).symm, h, q0⟩
    have hin := Classical.not_not.mp hin
    obtain ⟨jn, hjn, rfl⟩ : ∃ jn, jn < (pM P).length ∧ k = nI jn := ⟨k.toInt.toNat, by omega, Int32.toInt_inj.mp (by rw [t_nI (by omega)]; omega)⟩
    first | refine a_aload_n K dX11_comesFrom_0 rfl ?_ | refine a_aload_nN K dX11_comesFrom_0 rfl ?_
    refine a_iconst K dX11_comesFrom_1 (v := 0) (by decide) ?_
    refine a_putI K fd_X11_116 (by exact lm_o hM) rfl dX11_comesFrom_2 ?_
    have f0 : frM S (wI S 704 (m 33) 0) m [] [704] := frM_wI (by decide) (by decide)
    obtain ⟨T, hT⟩ : ∃ T, T = wI S 704 (m 33) 0 := ⟨_, rfl⟩
    rw [← hT] at f0 ⊢
    obtain ⟨h, q0⟩ := h0.scr hP f0 (by decide) (by decide)
    have hM := h.1
    first | refine a_aload_n K dX11_comesFrom_5 rfl ?_ | refine a_aload_nN K dX11_comesFrom_5 rfl ?_
    refine a_iload_n K dX11_comesFrom_6 rfl ?_
    refine a_invV K (q_mapY h hl9 hz) my_X11_isMap ml_X11_309 im_X11_isMap se_X11_isMap (ci := 11) (by exact lm_o hM) (by decide) ⟨_, _, rfl⟩ rfl (by omega) (by omega) (by omega) rfl (Nat.le_of_ble_eq_true rfl) dX11_comesFrom_7 ?_
    intro r9 S9 hp9
    obtain ⟨rfl, hS9⟩ := hp9
    obtain rfl := hS9.symm
    refine a_if_eq K dX11_comesFrom_10 (tgt := 29) (by decide) (fun c_10 => absurd c_10 (by decide)) (fun c_10 => ?_)
    refine a_iload_n K dX11_comesFrom_13 rfl ?_
    refine a_i2l K dX11_comesFrom_14 ?_
    refine a_lconst K dX11_comesFrom_15 (v := 0) (by decide) ?_
    first | refine a_aload_n K dX11_comesFrom_16 rfl ?_ | refine a_aload_nN K dX11_comesFrom_16 rfl ?_
    refine a_getI K fd_X11_261 (by exact lm_o hM) (Or.inl rfl) dX11_comesFrom_17 ?_
    rw [h.nlen]
    refine a_iconst K dX11_comesFrom_20 (v := 1) (by decide) ?_
    refine a_isub K dX11_comesFrom_21 ?_
    rw [show nI (pM P).length - 1 = nI ((pM P).length - 1) from by rw [show (1 : Int32) = nI 1 from rfl, nI_sub (by omega)]]
    refine a_i2l K dX11_comesFrom_22 ?_
    refine a_invS K (q_inY (p := 0) (q := (((pM P).length - 1 : Nat) : Int)) (by decide) (by rw [Int32.toInt_toInt64, t_nI (by omega)]) hin) my_X11_isIn ml_X11_174 st_X11_isIn rfl (by omega) (by omega) (by omega) rfl (Nat.le_of_ble_eq_true rfl) dX11_comesFrom_23 ?_
    intro r9 S9 hp9
    obtain ⟨rfl, hS9⟩ := hp9
    obtain rfl := hS9.symm
    refine a_if_ne K dX11_comesFrom_26 (tgt := 31) (by decide) (fun c_26 => ?_) (fun c_26 => absurd c_26 (by decide))
    refine a_iconst K dX11_comesFrom_31 (v := 0) (by decide) ?_
    refine a_istore_n K dX11_comesFrom_32 (by decide) ?_
    have loop0 : ∀ (n i : Nat) (x : Int32) (V : aw_S), x = nI i → i + n = (pM P).length → frM T V m [32] [] → (∀ k, k < i → sA V (m 32) k = 0) → aw g 4 V 0 0 [(3, .int x), (2, .int (nI jn)), (1, .int (nI jm)), (0, .ref (m 33))] [] 33 := by
      intro n
      induction n with
      | zero =>
        intro i x V hx9 hn f hA
        subst hx9
        have hM := f.lay h.1
        refine a_iload_n K dX11_comesFrom_33 rfl ?_
        first | refine a_aload_n K dX11_comesFrom_34 rfl ?_ | refine a_aload_nN K dX11_comesFrom_34 rfl ?_
        refine a_getI K fd_X11_261 (by exact lm_o hM) (Or.inl rfl) dX11_comesFrom_35 ?_
        rw [show sI V 745 (m 33) = nI (pM P).length from (f.2 745 (by decide)).trans h.nlen]
        refine a_icmp_ge K dX11_comesFrom_38 (tgt := 54) (by decide) (fun c_38 => ?_) (fun c_38 => absurd c_38 (fun z9 => z9 (nI_le (a := (pM P).length) (b := i) (by omega) (by omega))))
        obtain ⟨hV, qV⟩ := h.scr hP f (by decide) (by decide)
        have hz0 : Ln (pM P).length (sA V (m 32)) (fun _ => False) (fun _ => False) := fun k hk => by
          rw [hA k (by omega)]
          exact Or.inl ⟨rfl, id, id⟩
        first | refine a_aload_n K dX11_comesFrom_54 rfl ?_ | refine a_aload_nN K dX11_comesFrom_54 rfl ?_
        refine a_iload_n K dX11_comesFrom_55 rfl ?_
        refine a_iconst K dX11_comesFrom_56 (v := 1) (by decide) ?_
        refine a_invV K (q_laysSources hV hPL hl9 hjm (A := fun _ => False) (B := fun _ => False) (line := 1) (p := True) (q := False) (Or.inr (Or.inl ⟨rfl, trivial, id⟩)) (fun z => z.2) (Or.inl trivial) (fun _ _ z => z) (fun z => z.elim) hz0) my_X11_laysSources ml_X11_456 im_X11_laysSources se_X11_laysSources (ci := 11) (by exact lm_o hM) (by decide) ⟨_, _, rfl⟩ rfl (by omega) (by omega) (by omega) rfl (Nat.le_of_ble_eq_true rfl) dX11_comesFrom_57 ?_
        intro r9 V2 hp9
        obtain ⟨rfl, f2, ln2⟩ := hp9
        obtain ⟨h2, q2⟩ := hV.scr hP f2 (by decide) (by decide)
        have hM := h2.1
        have ln4 : Ln (pM P).length (sA V2 (m 32)) (AN P jm) (fun _ => False) := ln2.iff (fun k _ => ⟨fun z => z.elim False.elim And.right, fun z => Or.inr ⟨trivial, z⟩⟩) (fun k _ => ⟨fun z => z.elim id And.left, False.elim⟩)
        have hval : sA V2 (m 32) jn = cmfV P jm jn := by
          rcases ln4 jn hjn with ⟨e, c, d⟩ | ⟨e, c, d⟩ | ⟨e, c, d⟩ | ⟨e, c, d⟩
          · exact e.trans (cmfV_n c).symm
          · exact e.trans (cmfV_y c).symm
          · exact d.elim
          · exact d.elim
        first | refine a_aload_n K dX11_comesFrom_60 rfl ?_ | refine a_aload_nN K dX11_comesFrom_60 rfl ?_
        refine a_getRs K fd_X11_113 (by exact lm_o hM) (Or.inr ⟨_, rfl⟩) (by exact lm_r759 hM) dX11_comesFrom_61 ?_
        refine a_iload_n K dX11_comesFrom_64 rfl ?_
        refine a_iald K (by exact lm_kk hM (by decide) (by decide)) (by show vp_in _ (sN V2 (m 32)); exact lm_ix (z := 999) hM (by decide) (by decide) (show jn < 999 by omega) (by decide)) dX11_comesFrom_65 ?_
        rw [nI_clamp (by omega)]
        rw [hval]
        exact a_iret K EE rfl (by omega) (by omega) dX11_comesFrom_66 ⟨by unfold aComes; rw [hz]; show _ = some (Value.int (if 0 ≤ (nI jn).toInt ∧ (nI jn).toInt < (pM P).length then cmfV P (nI jm).toNatClampNeg (nI jn).toNatClampNeg else -1)); rw [if_pos (by rw [t_nI (by omega)]; omega), nI_clamp (by omega), nI_clamp (by omega)], h2, mQ_tr q0 (mQ_tr qV q2)⟩
      | succ n ih =>
        intro i x V hx9 hn f hA
        subst hx9
        have hM := f.lay h.1
        refine a_iload_n K dX11_comesFrom_33 rfl ?_
        first | refine a_aload_n K dX11_comesFrom_34 rfl ?_ | refine a_aload_nN K dX11_comesFrom_34 rfl ?_
        refine a_getI K fd_X11_261 (by exact lm_o hM) (Or.inl rfl) dX11_comesFrom_35 ?_
        rw [show sI V 745 (m 33) = nI (pM P).length from (f.2 745 (by decide)).trans h.nlen]
        refine a_icmp_ge K dX11_comesFrom_38 (tgt := 54) (by decide) (fun c_38 => absurd c_38 (nI_ge (a := i) (b := (pM P).length) (by omega) (by omega))) (fun c_38 => ?_)
        first | refine a_aload_n K dX11_comesFrom_41 rfl ?_ | refine a_aload_nN K dX11_comesFrom_41 rfl ?_
        refine a_getRs K fd_X11_113 (by exact lm_o hM) (Or.inr ⟨_, rfl⟩) (by exact lm_r759 hM) dX11_comesFrom_42 ?_
        refine a_iload_n K dX11_comesFrom_45 rfl ?_
        refine a_iconst K dX11_comesFrom_46 (v := 0) (by decide) ?_
        refine a_iast K (by exact lm_kk hM (by decide) (by decide)) (by show vp_in _ (sN V (m 32)); exact lm_ix (z := 999) hM (by decide) (by decide) (show i < 999 by omega) (by decide)) dX11_comesFrom_47 ?_
        rw [nI_clamp (by omega)]
        refine a_iinc K dX11_comesFrom_48 (v := 1) rfl (by decide) (by decide) ?_
        refine a_goto K dX11_comesFrom_51 (tgt := 33) (by decide) ?_
        exact aw_locl rfl (ih (i + 1) _ _ (nI_1 i) (by omega) (f.tr (frM_wA (by decide))) (fun k hk => by
          rw [sA_wA]
          by_cases c : k = i
          · rw [if_pos ⟨rfl, c⟩]
          · rw [if_neg (fun z => c z.2)]
            exact hA k (by omega)))
    exact aw_locl rfl (loop0 (pM P).length 0 _ T nI_0.symm (Nat.zero_add _) frM.rf (fun k hk => absurd hk (Nat.not_lt_zero k)))
