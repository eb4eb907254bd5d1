/-! the model: a node's row -/
def eM (S : aw_S) (m : Nat → Nat) (r k : Nat) : KV := (g1 S m r k, g2 S m r k)
/-- what stands in a row -/
def RwM (S : aw_S) (m : Nat → Nat) (r : Nat) (l : List KV) : Prop := gN S m r = nI l.length ∧ ∀ k x, l[k]? = some x → eM S m r k = x
abbrev ksN : List Nat := [4, 5, 6, 9, 10]
/-- rows R of nodes are written, fields Fs, nothing else -/
def frR (S S2 : aw_S) (m : Nat → Nat) (R : Nat → Prop) (Fs : List Nat) : Prop := frM S S2 m ksN Fs ∧ ∀ q, q < 12000 → ¬ R q → gL S2 m q = gL S m q ∧ gN S2 m q = gN S m q ∧ gT S2 m q = gT S m q ∧ ∀ k, k < 7 → eM S2 m q k = eM S m q k
theorem frR.rf {S : aw_S} {m : Nat → Nat} {R : Nat → Prop} {Fs : List Nat} : frR S S m R Fs := ⟨frM.rf, fun _ _ _ => ⟨rfl, rfl, rfl, fun _ _ => rfl⟩⟩
theorem frR.tr {S S2 S3 : aw_S} {m : Nat → Nat} {R : Nat → Prop} {Fs : List Nat} (h : frR S S2 m R Fs) (k : frR S2 S3 m R Fs) : frR S S3 m R Fs := ⟨h.1.tr k.1, fun q hq hR => by
  obtain ⟨a1, a2, a3, a4⟩ := h.2 q hq hR
  obtain ⟨b1, b2, b3, b4⟩ := k.2 q hq hR
  exact ⟨b1.trans a1, b2.trans a2, b3.trans a3, fun k hk => (b4 k hk).trans (a4 k hk)⟩⟩
theorem frR.up {S S2 : aw_S} {m : Nat → Nat} {R R2 : Nat → Prop} {Fs Fs2 : List Nat} (h : frR S S2 m R Fs) (h1 : ∀ q, R q → R2 q) (h2 : ∀ F ∈ Fs, F ∈ Fs2) : frR S S2 m R2 Fs2 := ⟨h.1.up (fun _ z => z) h2, fun q hq hR => h.2 q hq (fun z => hR (h1 q z))⟩
/-- an entry written -/
def stM (T : aw_S) (m : Nat → Nat) (r k : Nat) (a b : Int32) : aw_S := wA (wA T (m 9) (7 * r + k) a) (m 10) (7 * r + k) b
theorem eM_st {T : aw_S} {m : Nat → Nat} (hM : LM T m) {r i : Nat} {a b : Int32} (hi : i < 7) {p k : Nat} (hk : k < 7) : eM (stM T m r i a b) m p k = if p = r ∧ k = i then (a, b) else eM T m p k := by
  have n1 : m 9 ≠ m 10 := lm_ne hM (by decide) (by decide) (by decide)
  unfold eM g1 g2 stM
  rw [sA_wA, sA_wA, sA_wA, sA_wA, if_neg (fun z => n1 z.1)]
  by_cases e : p = r ∧ k = i
  · obtain ⟨rfl, rfl⟩ := e
    rw [if_pos ⟨rfl, rfl⟩, if_pos ⟨rfl, rfl⟩, if_pos ⟨rfl, rfl⟩]
  · have e2 : ¬ 7 * p + k = 7 * r + i := fun z => e (by omega)
    rw [if_neg (fun z => e2 z.2), if_neg (fun z => e2 z.2), if_neg e, if_neg (fun z => n1 z.1.symm)]
theorem st_fr {T : aw_S} {m : Nat → Nat} (hM : LM T m) {r i : Nat} {a b : Int32} (hi : i < 7) : frR T (stM T m r i a b) m (fun q => q = r) [] ∧ (∀ q, gL (stM T m r i a b) m q = gL T m q ∧ gN (stM T m r i a b) m q = gN T m q ∧ gT (stM T m r i a b) m q = gT T m q) := by
  have n : ∀ j, j < 34 → j ≠ 9 → j ≠ 10 → sA (stM T m r i a b) (m j) = sA T (m j) := fun j hj h9 h10 => by
    funext k
    unfold stM
    rw [sA_wA, sA_wA, if_neg (fun z => lm_ne hM hj (by decide) h10 z.1), if_neg (fun z => lm_ne hM hj (by decide) h9 z.1)]
  have hg : ∀ q, gL (stM T m r i a b) m q = gL T m q ∧ gN (stM T m r i a b) m q = gN T m q ∧ gT (stM T m r i a b) m q = gT T m q := fun q => ⟨congrFun (n 4 (by decide) (by decide) (by decide)) q, congrFun (n 5 (by decide) (by decide) (by decide)) q, congrFun (n 6 (by decide) (by decide) (by decide)) q⟩
  exact ⟨⟨(frM_wA (by decide)).tr (frM_wA (by decide)), fun q hq hR => ⟨(hg q).1, (hg q).2.1, (hg q).2.2, fun k hk => by rw [eM_st hM hi hk, if_neg (fun z => hR z.1)]⟩⟩, hg⟩
/-- how many, written -/
theorem n_fr {T : aw_S} {m : Nat → Nat} (hM : LM T m) {r : Nat} {v : Int32} : frR T (wA T (m 5) r v) m (fun q => q = r) [] ∧ gN (wA T (m 5) r v) m r = v ∧ (∀ q, gL (wA T (m 5) r v) m q = gL T m q ∧ gT (wA T (m 5) r v) m q = gT T m q) ∧ ∀ q k, eM (wA T (m 5) r v) m q k = eM T m q k := by
  have n : ∀ j, j < 34 → j ≠ 5 → sA (wA T (m 5) r v) (m j) = sA T (m j) := fun j hj h5 => by
    funext k
    rw [sA_wA, if_neg (fun z => lm_ne hM hj (by decide) h5 z.1)]
  have h1 : ∀ q, gL (wA T (m 5) r v) m q = gL T m q ∧ gT (wA T (m 5) r v) m q = gT T m q := fun q => ⟨congrFun (n 4 (by decide) (by decide)) q, congrFun (n 6 (by decide) (by decide)) q⟩
  have h2 : ∀ q k, eM (wA T (m 5) r v) m q k = eM T m q k := fun q k => by
    unfold eM g1 g2
    rw [n 9 (by decide) (by decide), n 10 (by decide) (by decide)]
  refine ⟨⟨frM_wA (by decide), fun q hq hR => ⟨(h1 q).1, ?_, (h1 q).2, fun k _ => h2 q k⟩⟩, ?_, h1, h2⟩
  · unfold gN
    rw [sA_wA, if_neg (fun z => hR z.2)]
  · unfold gN
    rw [sA_wA, if_pos ⟨rfl, rfl⟩]
theorem ins_get {l : List KV} {k : Nat} {x y : KV} (hk : k ≤ l.length) {j : Nat} (h : (l.take k ++ x :: l.drop k)[j]? = some y) : (j < k ∧ l[j]? = some y) ∨ (j = k ∧ y = x) ∨ (k < j ∧ j ≤ l.length ∧ l[j - 1]? = some y) := by
  have hl : (l.take k).length = k := by rw [List.length_take]; omega
  by_cases h1 : j < k
  · rw [List.getElem?_append_left (by omega), List.getElem?_take, if_pos h1] at h
    exact Or.inl ⟨h1, h⟩
  · rw [List.getElem?_append_right (by omega), hl] at h
    by_cases h2 : j = k
    · subst h2
      rw [Nat.sub_self] at h
      exact Or.inr (Or.inl ⟨rfl, (Option.some.inj h).symm⟩)
    · obtain ⟨i, rfl⟩ : ∃ i, j = k + (i + 1) := ⟨j - k - 1, by omega⟩
      rw [show k + (i + 1) - k = i + 1 by omega, List.getElem?_cons_succ, List.getElem?_drop] at h
      have h3 := (List.getElem?_eq_some_iff.mp h).1
      exact Or.inr (Or.inr ⟨by omega, by omega, by rw [show k + (i + 1) - 1 = k + i by omega]; exact h⟩)
theorem del_get {l : List KV} {k : Nat} {y : KV} (hk : k < l.length) {j : Nat} (h : (l.take k ++ l.drop (k + 1))[j]? = some y) : (j < k ∧ l[j]? = some y) ∨ (k ≤ j ∧ j + 1 < l.length ∧ l[j + 1]? = some y) := by
  have hl : (l.take k).length = k := by rw [List.length_take]; omega
  by_cases h1 : j < k
  · rw [List.getElem?_append_left (by omega), List.getElem?_take, if_pos h1] at h
    exact Or.inl ⟨h1, h⟩
  · rw [List.getElem?_append_right (by omega), hl, List.getElem?_drop, show k + 1 + (j - k) = j + 1 by omega] at h
    exact Or.inr ⟨by omega, (List.getElem?_eq_some_iff.mp h).1, h⟩
set_option maxHeartbeats 4000000 in
set_option maxRecDepth 100000 in
theorem m_putsIn {S : aw_S} {m : Nat → Nat} (hM : LM S m) {r k : Nat} {l : List KV} (hr : r < 12000) (hl : RwM S m r l) (h6 : l.length ≤ 6) (hk : k ≤ l.length) {a b : Int32} : aw_M yX11_putsIn cX11_putsIn 6 (none : Option FieldType) 0 0 0 [.ref (m 33), .int (nI r), .int (nI k), .int a, .int b] S (fun q S2 => q = none ∧ RwM S2 m r (l.take k ++ (a, b) :: l.drop k) ∧ gL S2 m r = gL S m r ∧ gT S2 m r = gT S m r ∧ frR S S2 m (fun q => q = r) []) := by
  refine aw_enter (by decide +kernel) (Nat.le_of_ble_eq_true rfl) (fun g K EE => ?_)
  have loop : ∀ (n : Nat) (x : Int32) (T : aw_S), x = nI (k + n) → k + n ≤ l.length → LM T m → (∀ j, j < 7 → eM T m r j = if k + n < j ∧ j ≤ l.length then eM S m r (j - 1) else eM S m r j) → (gN T m r = nI l.length ∧ gL T m r = gL S m r ∧ gT T m r = gT S m r) → frR S T m (fun q => q = r) [] → aw g 6 T 0 0 [(5, .int x), (4, .int b), (3, .int a), (2, .int (nI k)), (1, .int (nI r)), (0, .ref (m 33))] [] 8 := by
    intro n
    induction n with
    | zero =>
      intro x T hx hn hM he hg f
      subst hx
      refine a_iload K dX11_putsIn_8 rfl ?_
      refine a_iload_n K dX11_putsIn_10 rfl ?_
      refine a_icmp_le K dX11_putsIn_11 (tgt := 72) (by decide) (fun c_11 => ?_) (fun c_11 => absurd c_11 (fun z => z (nI_le (a := k + 0) (b := k) (by omega) (by omega))))
      first | refine a_aload_n K dX11_putsIn_72 rfl ?_ | refine a_aload_nN K dX11_putsIn_72 rfl ?_
      refine a_getRs K fd_X11_39 (by exact lm_o hM) (Or.inr ⟨_, rfl⟩) (by exact lm_r719 hM) dX11_putsIn_73 ?_
      refine a_bipush K dX11_putsIn_76 (v := 7) (by decide) ?_
      refine a_iload_n K dX11_putsIn_78 rfl ?_
      refine a_imul K dX11_putsIn_79 ?_
      rw [nI_7]
      refine a_iload_n K dX11_putsIn_80 rfl ?_
      refine a_iadd K dX11_putsIn_81 ?_
      rw [nI_add]
      refine a_iload_n K dX11_putsIn_82 rfl ?_
      refine a_iast K (by exact lm_kk hM (by decide) (by decide)) (by show vp_in _ (sN T (m 9)); exact lm_ix (z := 84000) hM (by decide) (by decide) (show 7 * r + k < 84000 by omega) (by decide)) dX11_putsIn_83 ?_
      rw [nI_clamp (by omega)]
      first | refine a_aload_n K dX11_putsIn_84 rfl ?_ | refine a_aload_nN K dX11_putsIn_84 rfl ?_
      refine a_getRs K fd_X11_42 (by exact lm_o hM) (Or.inr ⟨_, rfl⟩) (by exact lm_r720 hM) dX11_putsIn_85 ?_
      refine a_bipush K dX11_putsIn_88 (v := 7) (by decide) ?_
      refine a_iload_n K dX11_putsIn_90 rfl ?_
      refine a_imul K dX11_putsIn_91 ?_
      rw [nI_7]
      refine a_iload_n K dX11_putsIn_92 rfl ?_
      refine a_iadd K dX11_putsIn_93 ?_
      rw [nI_add]
      refine a_iload K dX11_putsIn_94 rfl ?_
      refine a_iast K (by exact lm_kk hM (by decide) (by decide)) (by show vp_in _ (sN T (m 10)); exact lm_ix (z := 84000) hM (by decide) (by decide) (show 7 * r + k < 84000 by omega) (by decide)) dX11_putsIn_96 ?_
      rw [nI_clamp (by omega)]
      first | refine a_aload_n K dX11_putsIn_97 rfl ?_ | refine a_aload_nN K dX11_putsIn_97 rfl ?_
      refine a_getRs K fd_X11_26 (by exact lm_o hM) (Or.inr ⟨_, rfl⟩) (by exact lm_r715 hM) dX11_putsIn_98 ?_
      refine a_iload_n K dX11_putsIn_101 rfl ?_
      refine a_dup2 K dX11_putsIn_102 rfl rfl ?_
      refine a_iald K (by exact lm_kk hM (by decide) (by decide)) (by show vp_in _ (sN T (m 5)); exact lm_ix (z := 12000) hM (by decide) (by decide) (show r < 12000 by omega) (by decide)) dX11_putsIn_103 ?_
      rw [nI_clamp (by omega)]
      rw [show sA (wA (wA T (m 9) (7 * r + k) a) (m 10) (7 * r + k) b) (m 5) r = nI l.length from ((st_fr (T := T) (r := r) (i := k) (a := a) (b := b) hM (by omega)).2 r).2.1.trans hg.1]
      refine a_iconst K dX11_putsIn_104 (v := 1) (by decide) ?_
      refine a_iadd K dX11_putsIn_105 ?_
      rw [nI_1]
      refine a_iast K (by exact lm_kk hM (by decide) (by decide)) (by show vp_in _ (sN T (m 5)); exact lm_ix (z := 12000) hM (by decide) (by decide) (show r < 12000 by omega) (by decide)) dX11_putsIn_106 ?_
      rw [nI_clamp (by omega)]
      exact a_vret K EE (by omega) (by omega) dX11_putsIn_107 (by
        obtain ⟨s1, s2⟩ := st_fr (T := T) (r := r) (i := k) (a := a) (b := b) hM (by omega)
        have hM2 : LM (stM T m r k a b) m := hM.fr s1.1.1
        obtain ⟨t1, t2, t3, t4⟩ := n_fr (T := stM T m r k a b) (r := r) (v := nI (l.length + 1)) hM2
        refine ⟨rfl, ⟨by rw [List.length_append, List.length_cons, List.length_take, List.length_drop, show min k l.length + (l.length - k + 1) = l.length + 1 by omega]; exact t2, fun j y hj => ?_⟩, (t3 r).1.trans ((s2 r).1.trans hg.2.1), (t3 r).2.trans ((s2 r).2.2.trans hg.2.2), f.tr (s1.tr t1)⟩
        have hj7 : j < 7 := by
          have h9 := (List.getElem?_eq_some_iff.mp hj).1
          rw [List.length_append, List.length_cons, List.length_take, List.length_drop] at h9
          omega
        refine (t4 r j).trans ((eM_st (T := T) (r := r) (i := k) (a := a) (b := b) hM (by omega) hj7).trans ?_)
        rcases ins_get hk hj with ⟨h1, h2⟩ | ⟨h1, h2⟩ | ⟨h1, h2, h3⟩
        · rw [if_neg (fun z => by omega), he j hj7, if_neg (by omega)]
          exact hl.2 j y h2
        · rw [if_pos ⟨rfl, h1⟩, h2]
        · rw [if_neg (fun z => by omega), he j hj7, if_pos ⟨by omega, h2⟩]
          exact hl.2 (j - 1) y h3)
    | succ n ih =>
      intro x T hx hn hM he hg f
      subst hx
      refine a_iload K dX11_putsIn_8 rfl ?_
      refine a_iload_n K dX11_putsIn_10 rfl ?_
      refine a_icmp_le K dX11_putsIn_11 (tgt := 72) (by decide) (fun c_11 => absurd c_11 (nI_ge (a := k) (b := k + (n + 1)) (by omega) (by omega))) (fun c_11 => ?_)
      first | refine a_aload_n K dX11_putsIn_14 rfl ?_ | refine a_aload_nN K dX11_putsIn_14 rfl ?_
      refine a_getRs K fd_X11_39 (by exact lm_o hM) (Or.inr ⟨_, rfl⟩) (by exact lm_r719 hM) dX11_putsIn_15 ?_
      refine a_bipush K dX11_putsIn_18 (v := 7) (by decide) ?_
      refine a_iload_n K dX11_putsIn_20 rfl ?_
      refine a_imul K dX11_putsIn_21 ?_
      rw [nI_7]
      refine a_iload K dX11_putsIn_22 rfl ?_
      refine a_iadd K dX11_putsIn_24 ?_
      rw [nI_add]
      first | refine a_aload_n K dX11_putsIn_25 rfl ?_ | refine a_aload_nN K dX11_putsIn_25 rfl ?_
      refine a_getRs K fd_X11_39 (by exact lm_o hM) (Or.inr ⟨_, rfl⟩) (by exact lm_r719 hM) dX11_putsIn_26 ?_
      refine a_bipush K dX11_putsIn_29 (v := 7) (by decide) ?_
      refine a_iload_n K dX11_putsIn_31 rfl ?_
      refine a_imul K dX11_putsIn_32 ?_
      rw [nI_7]
      refine a_iload K dX11_putsIn_33 rfl ?_
      refine a_iadd K dX11_putsIn_35 ?_
      rw [nI_add]
      refine a_iconst K dX11_putsIn_36 (v := 1) (by decide) ?_
      refine a_isub K dX11_putsIn_37 ?_
      rw [show nI (7 * r + (k + (n + 1))) - 1 = nI (7 * r + (k + n)) from nI_pred (7 * r + (k + n))]
      refine a_iald K (by exact lm_kk hM (by decide) (by decide)) (by show vp_in _ (sN T (m 9)); exact lm_ix (z := 84000) hM (by decide) (by decide) (show 7 * r + (k + n) < 84000 by omega) (by decide)) dX11_putsIn_38 ?_
      rw [nI_clamp (by omega)]
      refine a_iast K (by exact lm_kk hM (by decide) (by decide)) (by show vp_in _ (sN T (m 9)); exact lm_ix (z := 84000) hM (by decide) (by decide) (show 7 * r + (k + (n + 1)) < 84000 by omega) (by decide)) dX11_putsIn_39 ?_
      rw [nI_clamp (by omega)]
      first | refine a_aload_n K dX11_putsIn_40 rfl ?_ | refine a_aload_nN K dX11_putsIn_40 rfl ?_
      refine a_getRs K fd_X11_42 (by exact lm_o hM) (Or.inr ⟨_, rfl⟩) (by exact lm_r720 hM) dX11_putsIn_41 ?_
      refine a_bipush K dX11_putsIn_44 (v := 7) (by decide) ?_
      refine a_iload_n K dX11_putsIn_46 rfl ?_
      refine a_imul K dX11_putsIn_47 ?_
      rw [nI_7]
      refine a_iload K dX11_putsIn_48 rfl ?_
      refine a_iadd K dX11_putsIn_50 ?_
      rw [nI_add]
      first | refine a_aload_n K dX11_putsIn_51 rfl ?_ | refine a_aload_nN K dX11_putsIn_51 rfl ?_
      refine a_getRs K fd_X11_42 (by exact lm_o hM) (Or.inr ⟨_, rfl⟩) (by exact lm_r720 hM) dX11_putsIn_52 ?_
      refine a_bipush K dX11_putsIn_55 (v := 7) (by decide) ?_
      refine a_iload_n K dX11_putsIn_57 rfl ?_
      refine a_imul K dX11_putsIn_58 ?_
      rw [nI_7]
      refine a_iload K dX11_putsIn_59 rfl ?_
      refine a_iadd K dX11_putsIn_61 ?_
      rw [nI_add]
      refine a_iconst K dX11_putsIn_62 (v := 1) (by decide) ?_
      refine a_isub K dX11_putsIn_63 ?_
      rw [show nI (7 * r + (k + (n + 1))) - 1 = nI (7 * r + (k + n)) from nI_pred (7 * r + (k + n))]
      refine a_iald K (by exact lm_kk hM (by decide) (by decide)) (by show vp_in _ (sN T (m 10)); exact lm_ix (z := 84000) hM (by decide) (by decide) (show 7 * r + (k + n) < 84000 by omega) (by decide)) dX11_putsIn_64 ?_
      rw [nI_clamp (by omega)]
      rw [show sA (wA T (m 9) (7 * r + (k + (n + 1))) (sA T (m 9) (7 * r + (k + n)))) (m 10) (7 * r + (k + n)) = g2 T m r (k + n) from by rw [sA_wA, if_neg (fun z => lm_ne hM (by decide) (by decide) (by decide) z.1)]; rfl]
      refine a_iast K (by exact lm_kk hM (by decide) (by decide)) (by show vp_in _ (sN T (m 10)); exact lm_ix (z := 84000) hM (by decide) (by decide) (show 7 * r + (k + (n + 1)) < 84000 by omega) (by decide)) dX11_putsIn_65 ?_
      rw [nI_clamp (by omega)]
      refine a_iinc K dX11_putsIn_66 (v := -1) rfl (by decide) (by decide) ?_
      refine a_goto K dX11_putsIn_69 (tgt := 8) (by decide) ?_
      have e1 : nI (k + (n + 1)) + -1 = nI (k + n) := nI_m1 (k + n)
      obtain ⟨s1, s2⟩ := st_fr (T := T) (r := r) (i := k + (n + 1)) (a := g1 T m r (k + n)) (b := g2 T m r (k + n)) hM (by omega)
      exact aw_locl rfl (ih _ (stM T m r (k + (n + 1)) (g1 T m r (k + n)) (g2 T m r (k + n))) e1 (by omega) (hM.fr s1.1.1) (fun j hj => by
        rw [eM_st hM (by omega) hj]
        by_cases e : j = k + (n + 1)
        · rw [if_pos ⟨rfl, e⟩, if_pos ⟨by omega, by omega⟩, show j - 1 = k + n by omega]
          refine (he (k + n) (by omega)).trans (if_neg (by omega))
        · rw [if_neg (fun z => e z.2), he j hj]
          by_cases e2 : k + (n + 1) < j ∧ j ≤ l.length
          · rw [if_pos e2, if_pos ⟨by omega, e2.2⟩]
          · rw [if_neg e2, if_neg (fun z => e2 ⟨by omega, z.2⟩)]) ⟨(s2 r).2.1.trans hg.1, (s2 r).1.trans hg.2.1, (s2 r).2.2.trans hg.2.2⟩ (f.tr s1))
  first | refine a_aload_n K dX11_putsIn_0 rfl ?_ | refine a_aload_nN K dX11_putsIn_0 rfl ?_
  refine a_getRs K fd_X11_26 (by exact lm_o hM) (Or.inr ⟨_, rfl⟩) (by exact lm_r715 hM) dX11_putsIn_1 ?_
  refine a_iload_n K dX11_putsIn_4 rfl ?_
  refine a_iald K (by exact lm_kk hM (by decide) (by decide)) (by show vp_in _ (sN S (m 5)); exact lm_ix (z := 12000) hM (by decide) (by decide) (show r < 12000 by omega) (by decide)) dX11_putsIn_5 ?_
  rw [nI_clamp (by omega)]
  rw [show sA S (m 5) r = nI l.length from hl.1]
  refine a_istore K dX11_putsIn_6 (by decide) ?_
  exact aw_locl rfl (loop (l.length - k) _ S (by rw [show k + (l.length - k) = l.length by omega]) (by omega) hM (fun j hj => by rw [if_neg (fun z => by omega)]) ⟨hl.1, rfl, rfl⟩ frR.rf)
set_option maxHeartbeats 4000000 in
set_option maxRecDepth 100000 in
theorem m_takesFrom {S : aw_S} {m : Nat → Nat} (hM : LM S m) {r k : Nat} {l : List KV} (hr : r < 12000) (hl : RwM S m r l) (h7 : l.length ≤ 7) (hk : k < l.length) : aw_M yX11_takesFrom cX11_takesFrom 4 (none : Option FieldType) 0 0 0 [.ref (m 33), .int (nI r), .int (nI k)] S (fun q S2 => q = none ∧ RwM S2 m r (l.take k ++ l.drop (k + 1)) ∧ gL S2 m r = gL S m r ∧ gT S2 m r = gT S m r ∧ frR S S2 m (fun q => q = r) []) := by
  refine aw_enter (by decide +kernel) (Nat.le_of_ble_eq_true rfl) (fun g K EE => ?_)
  have loop : ∀ (n i : Nat) (x : Int32) (T : aw_S), x = nI i → i + n = l.length - 1 → k ≤ i → LM T m → (∀ j, j < 7 → eM T m r j = if k ≤ j ∧ j < i then eM S m r (j + 1) else eM S m r j) → (gN T m r = nI (l.length - 1) ∧ gL T m r = gL S m r ∧ gT T m r = gT S m r) → frR S T m (fun q => q = r) [] → aw g 4 T 0 0 [(3, .int x), (2, .int (nI k)), (1, .int (nI r)), (0, .ref (m 33))] [] 12 := by
    intro n
    induction n with
    | zero =>
      intro i x T hx hn hki hM he hg f
      subst hx
      refine a_iload_n K dX11_takesFrom_12 rfl ?_
      first | refine a_aload_n K dX11_takesFrom_13 rfl ?_ | refine a_aload_nN K dX11_takesFrom_13 rfl ?_
      refine a_getRs K fd_X11_26 (by exact lm_o hM) (Or.inr ⟨_, rfl⟩) (by exact lm_r715 hM) dX11_takesFrom_14 ?_
      refine a_iload_n K dX11_takesFrom_17 rfl ?_
      refine a_iald K (by exact lm_kk hM (by decide) (by decide)) (by show vp_in _ (sN T (m 5)); exact lm_ix (z := 12000) hM (by decide) (by decide) (show r < 12000 by omega) (by decide)) dX11_takesFrom_18 ?_
      rw [nI_clamp (by omega)]
      rw [show sA T (m 5) r = nI (l.length - 1) from hg.1]
      refine a_icmp_ge K dX11_takesFrom_19 (tgt := 76) (by decide) (fun c_19 => ?_) (fun c_19 => absurd c_19 (fun z => z (nI_le (a := l.length - 1) (b := i) (by omega) (by omega))))
      exact a_vret K EE (by omega) (by omega) dX11_takesFrom_76 (by
        refine ⟨rfl, ⟨by rw [hg.1, List.length_append, List.length_take, List.length_drop]; exact congrArg nI (by omega), fun j y hj => ?_⟩, hg.2.1, hg.2.2, f⟩
        rcases del_get hk hj with ⟨h1, h2⟩ | ⟨h1, h2, h3⟩
        · rw [he j (by omega), if_neg (by omega)]
          exact hl.2 j y h2
        · rw [he j (by omega), if_pos ⟨h1, by omega⟩]
          exact hl.2 (j + 1) y h3)
    | succ n ih =>
      intro i x T hx hn hki hM he hg f
      subst hx
      refine a_iload_n K dX11_takesFrom_12 rfl ?_
      first | refine a_aload_n K dX11_takesFrom_13 rfl ?_ | refine a_aload_nN K dX11_takesFrom_13 rfl ?_
      refine a_getRs K fd_X11_26 (by exact lm_o hM) (Or.inr ⟨_, rfl⟩) (by exact lm_r715 hM) dX11_takesFrom_14 ?_
      refine a_iload_n K dX11_takesFrom_17 rfl ?_
      refine a_iald K (by exact lm_kk hM (by decide) (by decide)) (by show vp_in _ (sN T (m 5)); exact lm_ix (z := 12000) hM (by decide) (by decide) (show r < 12000 by omega) (by decide)) dX11_takesFrom_18 ?_
      rw [nI_clamp (by omega)]
      rw [show sA T (m 5) r = nI (l.length - 1) from hg.1]
      refine a_icmp_ge K dX11_takesFrom_19 (tgt := 76) (by decide) (fun c_19 => absurd c_19 (nI_ge (a := i) (b := l.length - 1) (by omega) (by omega))) (fun c_19 => ?_)
      first | refine a_aload_n K dX11_takesFrom_22 rfl ?_ | refine a_aload_nN K dX11_takesFrom_22 rfl ?_
      refine a_getRs K fd_X11_39 (by exact lm_o hM) (Or.inr ⟨_, rfl⟩) (by exact lm_r719 hM) dX11_takesFrom_23 ?_
      refine a_bipush K dX11_takesFrom_26 (v := 7) (by decide) ?_
      refine a_iload_n K dX11_takesFrom_28 rfl ?_
      refine a_imul K dX11_takesFrom_29 ?_
      rw [nI_7]
      refine a_iload_n K dX11_takesFrom_30 rfl ?_
      refine a_iadd K dX11_takesFrom_31 ?_
      rw [nI_add]
      first | refine a_aload_n K dX11_takesFrom_32 rfl ?_ | refine a_aload_nN K dX11_takesFrom_32 rfl ?_
      refine a_getRs K fd_X11_39 (by exact lm_o hM) (Or.inr ⟨_, rfl⟩) (by exact lm_r719 hM) dX11_takesFrom_33 ?_
      refine a_bipush K dX11_takesFrom_36 (v := 7) (by decide) ?_
      refine a_iload_n K dX11_takesFrom_38 rfl ?_
      refine a_imul K dX11_takesFrom_39 ?_
      rw [nI_7]
      refine a_iload_n K dX11_takesFrom_40 rfl ?_
      refine a_iadd K dX11_takesFrom_41 ?_
      rw [nI_add]
      refine a_iconst K dX11_takesFrom_42 (v := 1) (by decide) ?_
      refine a_iadd K dX11_takesFrom_43 ?_
      rw [nI_1]
      refine a_iald K (by exact lm_kk hM (by decide) (by decide)) (by show vp_in _ (sN T (m 9)); exact lm_ix (z := 84000) hM (by decide) (by decide) (show 7 * r + i + 1 < 84000 by omega) (by decide)) dX11_takesFrom_44 ?_
      rw [nI_clamp (by omega)]
      refine a_iast K (by exact lm_kk hM (by decide) (by decide)) (by show vp_in _ (sN T (m 9)); exact lm_ix (z := 84000) hM (by decide) (by decide) (show 7 * r + i < 84000 by omega) (by decide)) dX11_takesFrom_45 ?_
      rw [nI_clamp (by omega)]
      first | refine a_aload_n K dX11_takesFrom_46 rfl ?_ | refine a_aload_nN K dX11_takesFrom_46 rfl ?_
      refine a_getRs K fd_X11_42 (by exact lm_o hM) (Or.inr ⟨_, rfl⟩) (by exact lm_r720 hM) dX11_takesFrom_47 ?_
      refine a_bipush K dX11_takesFrom_50 (v := 7) (by decide) ?_
      refine a_iload_n K dX11_takesFrom_52 rfl ?_
      refine a_imul K dX11_takesFrom_53 ?_
      rw [nI_7]
      refine a_iload_n K dX11_takesFrom_54 rfl ?_
      refine a_iadd K dX11_takesFrom_55 ?_
      rw [nI_add]
      first | refine a_aload_n K dX11_takesFrom_56 rfl ?_ | refine a_aload_nN K dX11_takesFrom_56 rfl ?_
      refine a_getRs K fd_X11_42 (by exact lm_o hM) (Or.inr ⟨_, rfl⟩) (by exact lm_r720 hM) dX11_takesFrom_57 ?_
      refine a_bipush K dX11_takesFrom_60 (v := 7) (by decide) ?_
      refine a_iload_n K dX11_takesFrom_62 rfl ?_
      refine a_imul K dX11_takesFrom_63 ?_
      rw [nI_7]
      refine a_iload_n K dX11_takesFrom_64 rfl ?_
      refine a_iadd K dX11_takesFrom_65 ?_
      rw [nI_add]
      refine a_iconst K dX11_takesFrom_66 (v := 1) (by decide) ?_
      refine a_iadd K dX11_takesFrom_67 ?_
      rw [nI_1]
      refine a_iald K (by exact lm_kk hM (by decide) (by decide)) (by show vp_in _ (sN T (m 10)); exact lm_ix (z := 84000) hM (by decide) (by decide) (show 7 * r + i + 1 < 84000 by omega) (by decide)) dX11_takesFrom_68 ?_
      rw [nI_clamp (by omega)]
      rw [show sA (wA T (m 9) (7 * r + i) (sA T (m 9) (7 * r + i + 1))) (m 10) (7 * r + i + 1) = g2 T m r (i + 1) from by rw [sA_wA, if_neg (fun z => lm_ne hM (by decide) (by decide) (by decide) z.1)]; rfl]
      refine a_iast K (by exact lm_kk hM (by decide) (by decide)) (by show vp_in _ (sN T (m 10)); exact lm_ix (z := 84000) hM (by decide) (by decide) (show 7 * r + i < 84000 by omega) (by decide)) dX11_takesFrom_69 ?_
      rw [nI_clamp (by omega)]
      refine a_iinc K dX11_takesFrom_70 (v := 1) rfl (by decide) (by decide) ?_
      refine a_goto K dX11_takesFrom_73 (tgt := 12) (by decide) ?_
      obtain ⟨s1, s2⟩ := st_fr (T := T) (r := r) (i := i) (a := g1 T m r (i + 1)) (b := g2 T m r (i + 1)) hM (by omega)
      exact aw_locl rfl (ih (i + 1) _ (stM T m r i (g1 T m r (i + 1)) (g2 T m r (i + 1))) (nI_1 i) (by omega) (by omega) (hM.fr s1.1.1) (fun j hj => by
        rw [eM_st hM (by omega) hj]
        by_cases e : j = i
        · rw [if_pos ⟨rfl, e⟩, if_pos ⟨by omega, by omega⟩, e]
          exact (he (i + 1) (by omega)).trans (if_neg (by omega))
        · rw [if_neg (fun z => e z.2), he j hj]
          by_cases e2 : k ≤ j ∧ j < i
          · rw [if_pos e2, if_pos ⟨e2.1, by omega⟩]
          · rw [if_neg e2, if_neg (fun z => e2 ⟨z.1, by omega⟩)]) ⟨(s2 r).2.1.trans hg.1, (s2 r).1.trans hg.2.1, (s2 r).2.2.trans hg.2.2⟩ (f.tr s1))
  first | refine a_aload_n K dX11_takesFrom_0 rfl ?_ | refine a_aload_nN K dX11_takesFrom_0 rfl ?_
  refine a_getRs K fd_X11_26 (by exact lm_o hM) (Or.inr ⟨_, rfl⟩) (by exact lm_r715 hM) dX11_takesFrom_1 ?_
  refine a_iload_n K dX11_takesFrom_4 rfl ?_
  refine a_dup2 K dX11_takesFrom_5 rfl rfl ?_
  refine a_iald K (by exact lm_kk hM (by decide) (by decide)) (by show vp_in _ (sN S (m 5)); exact lm_ix (z := 12000) hM (by decide) (by decide) (show r < 12000 by omega) (by decide)) dX11_takesFrom_6 ?_
  rw [nI_clamp (by omega)]
  rw [show sA S (m 5) r = nI l.length from hl.1]
  refine a_iconst K dX11_takesFrom_7 (v := 1) (by decide) ?_
  refine a_isub K dX11_takesFrom_8 ?_
  rw [show nI l.length - 1 = nI (l.length - 1) from by rw [show l.length = l.length - 1 + 1 by omega]; exact nI_pred _]
  refine a_iast K (by exact lm_kk hM (by decide) (by decide)) (by show vp_in _ (sN S (m 5)); exact lm_ix (z := 12000) hM (by decide) (by decide) (show r < 12000 by omega) (by decide)) dX11_takesFrom_9 ?_
  rw [nI_clamp (by omega)]
  refine a_iload_n K dX11_takesFrom_10 rfl ?_
  refine a_istore_n K dX11_takesFrom_11 (by decide) ?_
  obtain ⟨t1, t2, t3, t4⟩ := n_fr (T := S) (r := r) (v := nI (l.length - 1)) hM
  exact aw_locl rfl (loop (l.length - 1 - k) k _ (wA S (m 5) r (nI (l.length - 1))) rfl (by omega) (Nat.le_refl _) (hM.fr t1.1.1) (fun j hj => by rw [if_neg (fun z => by omega)]; exact t4 r j) ⟨t2, (t3 r).1, (t3 r).2⟩ t1)
