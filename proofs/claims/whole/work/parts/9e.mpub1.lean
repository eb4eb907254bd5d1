/-! the model: calls that read -/
theorem PJ.ln {n : Nat} {P : PS} (h : PJ n P) : (pM P).length ≤ 999 := h.2.2.2.2.2.1.2.2.2
theorem rootP_at {P : PS} {j : Nat} {z : Tz} (hj : j < 999) (hz : rootP P (nI j) = some z) : ∃ x : MI, (pM P)[j]? = some x ∧ x.1 = z ∧ pH P j = true := by
  unfold rootP at hz
  rw [nI_toInt (by omega), nI_clamp (by omega)] at hz
  by_cases c : 0 ≤ (j : Int) ∧ (j : Int) < (pM P).length
  · rw [if_pos c] at hz
    by_cases c2 : pH P j = true
    · rw [if_pos c2] at hz
      cases hx : (pM P)[j]? with
      | none => rw [hx] at hz; exact absurd hz (by simp)
      | some x =>
        rw [hx] at hz
        exact ⟨x, rfl, Option.some.inj hz, c2⟩
    · rw [if_neg c2] at hz
      exact absurd hz (by simp)
  · rw [if_neg c] at hz
    exact absurd hz (by simp)
theorem RM.root2 {S : aw_S} {m ρ : Nat → Nat} {Z : List Nat × Nat} {mb : Nat} {P : PS} (h : RM S m ρ Z mb P) {j : Nat} {z : Tz} (hz : rootP P (nI j) = some z) (hj : j < 999) : sA S (m 17) j = nI (ρ z.2.1) := by
  obtain ⟨x, h3, h4, -⟩ := rootP_at hj hz
  rw [← h4]
  exact (h.2.2.1 j x h3).1
theorem q_mapY {S : aw_S} {m ρ : Nat → Nat} {Z : List Nat × Nat} {mb : Nat} {P : PS} (h : RM S m ρ Z mb P) (hl : (pM P).length ≤ 999) {i : Int32} {z : Tz} (hz : rootP P i = some z) : aw_M yX11_isMap cX11_isMap 2 (some FieldType.boolean) 0 0 0 [.ref (m 33), .int i] S (fun r S2 => r = some (.int 1) ∧ S2 = S) := (q_isMap h.1 h.nlen hl h.2.2.2.2.1.2.1).post (fun r S2 hp => ⟨bR_y (rootP_is.mpr ⟨z, hz⟩) hp.2, hp.1⟩)
theorem q_mapN {S : aw_S} {m ρ : Nat → Nat} {Z : List Nat × Nat} {mb : Nat} {P : PS} (h : RM S m ρ Z mb P) (hl : (pM P).length ≤ 999) {i : Int32} (hz : rootP P i = none) : aw_M yX11_isMap cX11_isMap 2 (some FieldType.boolean) 0 0 0 [.ref (m 33), .int i] S (fun r S2 => r = some (.int 0) ∧ S2 = S) := (q_isMap h.1 h.nlen hl h.2.2.2.2.1.2.1).post (fun r S2 hp => ⟨bR_n (fun z => by obtain ⟨y, hy⟩ := rootP_is.mp z; rw [hz] at hy; exact absurd hy (by simp)) hp.2, hp.1⟩)
theorem q_inY {S : aw_S} {x : Int32} {a b : Int64} {p q : Int} (ha : a.toInt = p) (hb : b.toInt = q) (h : p ≤ x.toInt ∧ x.toInt ≤ q) : aw_M yX11_isIn cX11_isIn 6 (some FieldType.boolean) 0 0 0 [.long x.toInt64, .long a, .long b] S (fun r S2 => r = some (.int 1) ∧ S2 = S) := q_isIn.post (fun r S2 hp => ⟨bR_y ⟨(i64_ge ha).mpr h.1, (i64_le hb).mpr h.2⟩ hp.2, hp.1⟩)
theorem q_inN {S : aw_S} {x : Int32} {a b : Int64} {p q : Int} (ha : a.toInt = p) (hb : b.toInt = q) (h : ¬ (p ≤ x.toInt ∧ x.toInt ≤ q)) : aw_M yX11_isIn cX11_isIn 6 (some FieldType.boolean) 0 0 0 [.long x.toInt64, .long a, .long b] S (fun r S2 => r = some (.int 0) ∧ S2 = S) := q_isIn.post (fun r S2 hp => ⟨bR_n (fun z => h ⟨(i64_ge ha).mp z.1, (i64_le hb).mp z.2⟩) hp.2, hp.1⟩)
theorem tok.hs {w u tk : Nat} {z : Tz} (t : tok w u tk z) : srt (ent z.1 z.2) := t.1.2.2.2.1
theorem sub_repM {S : aw_S} {m ρ : Nat → Nat} : ∀ (h : Nat) {t : Tr h}, RepM S m ρ h t → ∀ y ∈ sub h t, RepM S m ρ y.1 y.2
  | 0, t, r, y, hy => by rw [List.mem_singleton.mp hy]; exact r
  | h + 1, t, r, y, hy => by
    rcases List.mem_cons.mp hy with e | hy
    · rw [e]; exact r
    · obtain ⟨c, hc, hy⟩ := List.mem_flatMap.mp hy
      exact sub_repM h (r.2 c hc) y hy
theorem sub_hl : ∀ (h : Nat) (t : Tr h), ∀ y ∈ sub h t, y.1 ≤ h
  | 0, t, y, hy => by rw [List.mem_singleton.mp hy]; exact Nat.le_refl _
  | h + 1, t, y, hy => by
    rcases List.mem_cons.mp hy with e | hy
    · rw [e]; exact Nat.le_refl _
    · obtain ⟨c, hc, hy⟩ := List.mem_flatMap.mp hy
      exact Nat.le_succ_of_le (sub_hl h c y hy)
/-- nodes with their depths, by what stands below -/
theorem dpT_sub : ∀ (h : Nat) (t : Tr h) (d : Nat), dpT h t d = (sub h t).map (fun y => (y.2.1, d + (h - y.1)))
  | 0, t, d => by
    show [(t.1, d)] = [(t.1, d + (0 - 0))]
    rfl
  | h + 1, t, d => by
    show (t.1, d) :: (kds t).flatMap (fun c => dpT h c (d + 1)) = (t.1, d + (h + 1 - (h + 1))) :: ((kds t).flatMap (sub h)).map (fun y => (y.2.1, d + (h + 1 - y.1)))
    have e0 : d + (h + 1 - (h + 1)) = d := by omega
    rw [e0]
    refine congrArg (List.cons (t.1, d)) ?_
    rw [List.map_flatMap]
    rw [List.flatMap_def, List.flatMap_def]
    congr 1
    refine List.map_congr_left (fun c hc => ?_)
    rw [dpT_sub h c (d + 1)]
    refine List.map_congr_left (fun y hy => ?_)
    have := sub_hl h c y hy
    rw [show d + 1 + (h - y.1) = d + (h + 1 - y.1) by omega]
theorem lvF_le {b : Nat} : ∀ (N : List (Nat × Nat)) (a : Nat), (∀ y ∈ N, y.2 + 1 ≤ b) → a ≤ b → lvF N a ≤ b
  | [], a, _, h => h
  | y :: r, a, hy, h => by
    rw [lvF]
    refine lvF_le r _ (fun z hz => hy z (List.mem_cons_of_mem _ hz)) ?_
    have := hy y List.mem_cons_self
    split <;> omega
theorem lvF_ge : ∀ (N : List (Nat × Nat)) (a : Nat), a ≤ lvF N a ∧ ∀ y ∈ N, y.2 + 1 ≤ lvF N a
  | [], a => ⟨Nat.le_refl _, fun y hy => absurd hy (by simp)⟩
  | y :: r, a => by
    rw [lvF]
    generalize hb : (if a < y.2 + 1 then y.2 + 1 else a) = b
    have hb1 : a ≤ b ∧ y.2 + 1 ≤ b := by rw [← hb]; split <;> omega
    obtain ⟨h1, h2⟩ := lvF_ge r b
    refine ⟨by omega, fun z hz => ?_⟩
    rcases List.mem_cons.mp hz with e | hz
    · rw [e]
      omega
    · exact h2 z hz
theorem lvF_tree {w : Nat} {z : Tz} (hw : 3 ≤ w) (r : rok w z) : lvF (dpT z.1 z.2 0) 0 = z.1 + 1 := by
  rw [dpT_sub]
  have h1 := lvF_le (b := z.1 + 1) ((sub z.1 z.2).map (fun y => (y.2.1, 0 + (z.1 - y.1)))) 0 (fun y hy => by
    obtain ⟨q, hq, e⟩ := List.mem_map.mp hy
    rw [← e]
    show 0 + (z.1 - q.1) + 1 ≤ z.1 + 1
    omega) (by omega)
  obtain ⟨y, hy, hy0⟩ := sub_lastZ hw r
  have h2 := (lvF_ge ((sub z.1 z.2).map (fun y => (y.2.1, 0 + (z.1 - y.1)))) 0).2 _ (List.mem_map.mpr ⟨y, List.mem_of_getElem? hy, rfl⟩)
  have h2 : 0 + (z.1 - y.1) + 1 ≤ lvF ((sub z.1 z.2).map (fun y => (y.2.1, 0 + (z.1 - y.1)))) 0 := h2
  rw [hy0] at h2
  omega
theorem lfN_lvC {lf : Nat → Bool} {f : Tz → Nat} : ∀ (L : List Tz) (a : Nat), (∀ y ∈ L, (lf y.2.1 = true ↔ y.1 = 0)) → lfN lf (L.map (fun y => (y.2.1, f y))) a = lvC L a
  | [], a, _ => rfl
  | y :: r, a, h => by
    rw [List.map_cons, lfN, lvC, ← lfN_lvC (lf := lf) (f := f) r _ (fun z hz => h z (List.mem_cons_of_mem _ hz))]
    have h1 := h y List.mem_cons_self
    congr 1
    by_cases e : y.1 = 0
    · rw [if_pos (h1.mpr e), if_pos e]
    · rw [if_neg (fun z => e (h1.mp z)), if_neg e]; rfl
/-- the latest key that is low enough, the first that is high enough -/
def nlo (k w : Int32) : List KV → Int32 → Int32
  | [], a => a
  | x :: r, a => nlo k w r (if x.1 < k ∨ (w = 0 ∧ x.1 = k) then x.1 else a)
def nhi (k w : Int32) : List KV → Int32 → Int32
  | [], a => a
  | x :: r, a => nhi k w r (if a = -1 ∧ (k < x.1 ∨ (w = 1 ∧ x.1 = k)) then x.1 else a)
theorem nlo_at {k w : Int32} {E : List KV} {i : Nat} {a : Int32} (hi : i < E.length) : nlo k w (E.drop i) a = nlo k w (E.drop (i + 1)) (if E[i].1 < k ∨ (w = 0 ∧ E[i].1 = k) then E[i].1 else a) := by rw [List.drop_eq_getElem_cons hi, nlo]
theorem nhi_at {k w : Int32} {E : List KV} {i : Nat} {a : Int32} (hi : i < E.length) : nhi k w (E.drop i) a = nhi k w (E.drop (i + 1)) (if a = -1 ∧ (k < E[i].1 ∨ (w = 1 ∧ E[i].1 = k)) then E[i].1 else a) := by rw [List.drop_eq_getElem_cons hi, nhi]
theorem nlo_hi {k w : Int32} : ∀ (E : List KV) (a : Int32), (∀ x ∈ E, ¬ x.1 < k ∧ ¬ (w = 0 ∧ x.1 = k)) → nlo k w E a = a
  | [], a, _ => rfl
  | x :: r, a, h => by
    rw [nlo, if_neg (fun z => z.elim (h x List.mem_cons_self).1 (h x List.mem_cons_self).2)]
    exact nlo_hi r a (fun y hy => h y (List.mem_cons_of_mem _ hy))
theorem nhi_set {k w : Int32} : ∀ (E : List KV) (a : Int32), ¬ a = -1 → nhi k w E a = a
  | [], a, _ => rfl
  | x :: r, a, h => by
    rw [nhi, if_neg (fun z => h z.1)]
    exact nhi_set r a h
theorem keyPr_cons (x : KV) (r : List KV) (p : Nat) : keyPr (x :: r) (p + 1) = if p = 0 then x.1 else keyPr r p := by
  cases p with
  | zero => rfl
  | succ p => rfl
theorem near_lo {k w : Int32} : ∀ (E : List KV) (a : Int32), srt E → nlo k w E a = if w = 0 ∧ kpl E k < E.length ∧ keyAtL E (kpl E k) = k then keyAtL E (kpl E k) else if kpl E k = 0 then a else keyPr E (kpl E k)
  | [], a, _ => by
    rw [if_neg (fun z => absurd z.2.1 (by simp))]
    rfl
  | x :: r, a, hs => by
    have hr : srt r := (List.pairwise_cons.mp hs).2
    have hx := (List.pairwise_cons.mp hs).1
    rw [nlo]
    by_cases c : x.1 < k
    · have e : kpl (x :: r) k = kpl r k + 1 := by rw [kpl, if_pos c]
      rw [if_pos (Or.inl c), near_lo r x.1 hr, e, List.length_cons, if_neg (Nat.succ_ne_zero _), keyPr_cons]
      have e2 : keyAtL (x :: r) (kpl r k + 1) = keyAtL r (kpl r k) := rfl
      rw [e2]
      by_cases d : w = 0 ∧ kpl r k < r.length ∧ keyAtL r (kpl r k) = k
      · rw [if_pos d, if_pos ⟨d.1, by omega, d.2.2⟩]
      · rw [if_neg d, if_neg (show ¬ (w = 0 ∧ kpl r k + 1 < r.length + 1 ∧ keyAtL r (kpl r k) = k) from fun z => d ⟨z.1, by omega, z.2.2⟩)]
    · have e : kpl (x :: r) k = 0 := by rw [kpl, if_neg c]
      have e2 : keyAtL (x :: r) 0 = x.1 := rfl
      rw [e, if_pos rfl, e2, List.length_cons]
      have hno : ∀ y ∈ r, ¬ y.1 < k ∧ ¬ (w = 0 ∧ y.1 = k) := fun y hy => ⟨fun z => c (lt_tr (hx y hy) z), fun z => c (by rw [← z.2]; exact hx y hy)⟩
      rw [nlo_hi r _ hno]
      by_cases d : w = 0 ∧ x.1 = k
      · rw [if_pos (Or.inr d), if_pos ⟨d.1, by omega, d.2⟩]
      · rw [if_neg (fun z => z.elim c d), if_neg (fun z => d ⟨z.1, z.2.2⟩)]
theorem near_hi {k w : Int32} : ∀ (E : List KV), srt E → (∀ x ∈ E, okE x) → nhi k w E (-1) = if kpl E k < E.length ∧ keyAtL E (kpl E k) = k ∧ ¬ w = 1 then keyAtL E (kpl E k + 1) else keyAtL E (kpl E k)
  | [], _, _ => by
    rw [if_neg (fun z => absurd z.1 (by simp))]
    rfl
  | x :: r, hs, ok => by
    have hr : srt r := (List.pairwise_cons.mp hs).2
    have hx := (List.pairwise_cons.mp hs).1
    have nm : ∀ y : KV, okE y → ¬ y.1 = -1 := fun y hy => by
      obtain ⟨n, hn, e⟩ := hy.1
      rw [e]
      exact nI_m1n (by omega)
    rw [nhi]
    by_cases c : x.1 < k
    · have e : kpl (x :: r) k = kpl r k + 1 := by rw [kpl, if_pos c]
      rw [if_neg (fun z => z.2.elim (fun y => lt_no c y) (fun y => by rw [y.2] at c; exact lt_ir k c)), near_hi r hr (fun y hy => ok y (List.mem_cons_of_mem _ hy)), e, List.length_cons]
      have e2 : keyAtL (x :: r) (kpl r k + 1) = keyAtL r (kpl r k) := rfl
      have e3 : keyAtL (x :: r) (kpl r k + 1 + 1) = keyAtL r (kpl r k + 1) := rfl
      rw [e2, e3]
      by_cases d : kpl r k < r.length ∧ keyAtL r (kpl r k) = k ∧ ¬ w = 1
      · rw [if_pos d, if_pos ⟨by omega, d.2⟩]
      · rw [if_neg d, if_neg (fun z => d ⟨by omega, z.2⟩)]
    · have e : kpl (x :: r) k = 0 := by rw [kpl, if_neg c]
      have e2 : keyAtL (x :: r) 0 = x.1 := rfl
      have e3 : keyAtL (x :: r) (0 + 1) = keyAtL r 0 := rfl
      rw [e, e2, e3, List.length_cons]
      by_cases d : x.1 = k
      · by_cases hw : w = 1
        · rw [if_pos ⟨rfl, Or.inr ⟨hw, d⟩⟩, if_neg (fun z => z.2.2 hw)]
          exact nhi_set r _ (nm x (ok x List.mem_cons_self))
        · rw [if_neg (fun z => z.2.elim (fun y => by rw [d] at y; exact lt_ir k y) (fun y => hw y.1)), if_pos ⟨by omega, d, hw⟩]
          cases r with
          | nil => rfl
          | cons y r2 =>
            rw [nhi, if_pos ⟨rfl, Or.inl (by rw [← d]; exact hx y List.mem_cons_self)⟩]
            exact nhi_set r2 _ (nm y (ok y (List.mem_cons_of_mem _ List.mem_cons_self)))
      · rw [if_pos ⟨rfl, Or.inl (lt_3 c d)⟩, if_neg (fun z => d z.2.1)]
        exact nhi_set r _ (nm x (ok x List.mem_cons_self))
set_option maxHeartbeats 4000000 in
set_option maxRecDepth 100000 in
theorem q_find {S : aw_S} {m ρ : Nat → Nat} {Z : List Nat × Nat} {mb n9 : Nat} {P : PS} (h0 : RM S m ρ Z mb P) (hJ : PJ n9 P) {i k : Int32} : aw_M yX11_find cX11_find 3 (some FieldType.int) 5 0 0 [.ref (m 33), .int i, .int k] S (fun r S2 => r = some (.int (aFind P i k)) ∧ RM S2 m ρ Z mb P ∧ frS S S2 (mQ m)) := by
  have hP := hJ.1
  have hw3 := hP.1.1
  have hM := h0.1
  have hl9 := hJ.ln
  refine aw_enter (by decide +kernel) (Nat.le_of_ble_eq_true rfl) (fun g K EE => ?_)
  cases hz : rootP P i with
  | none =>
    first | refine a_aload_n K dX11_find_0 rfl ?_ | refine a_aload_nN K dX11_find_0 rfl ?_
    refine a_iconst K dX11_find_1 (v := 0) (by decide) ?_
    refine a_putI K fd_X11_116 (by exact lm_o hM) rfl dX11_find_2 ?_
    have f0 : frM S (wI S 704 (m 33) 0) m [] [704] := frM_wI (by decide) (by decide)
    obtain ⟨T, hT⟩ : ∃ T, T = wI S 704 (m 33) 0 := ⟨_, rfl⟩
    rw [← hT] at f0 ⊢
    obtain ⟨h, q0⟩ := h0.scr hP f0 (by decide) (by decide)
    have hM := h.1
    first | refine a_aload_n K dX11_find_5 rfl ?_ | refine a_aload_nN K dX11_find_5 rfl ?_
    refine a_iload_n K dX11_find_6 rfl ?_
    refine a_invV K (q_mapN h hl9 hz) my_X11_isMap ml_X11_309 im_X11_isMap se_X11_isMap (ci := 11) (by exact lm_o hM) (by decide) ⟨_, _, rfl⟩ rfl (by omega) (by omega) (by omega) rfl (Nat.le_of_ble_eq_true rfl) dX11_find_7 ?_
    intro r9 S9 hp9
    obtain ⟨rfl, hS9⟩ := hp9
    obtain rfl := hS9.symm
    refine a_if_eq K dX11_find_10 (tgt := 27) (by decide) (fun c_10 => ?_) (fun c_10 => absurd c_10 (by decide))
    refine a_ldc K kc_X11_170 dX11_find_27 ?_
    exact a_iret K EE rfl (by omega) (by omega) dX11_find_29 ⟨by unfold aFind; rw [hz], h, q0⟩
  | some z =>
    obtain ⟨j, hij, hj, -⟩ := h0.root hz
    subst hij
    have tz := hP.tz (rootP_live hz)
    have h4z := tz.h4 hw3
    have e60z := tz.2.2.1
    first | refine a_aload_n K dX11_find_0 rfl ?_ | refine a_aload_nN K dX11_find_0 rfl ?_
    refine a_iconst K dX11_find_1 (v := 0) (by decide) ?_
    refine a_putI K fd_X11_116 (by exact lm_o hM) rfl dX11_find_2 ?_
    have f0 : frM S (wI S 704 (m 33) 0) m [] [704] := frM_wI (by decide) (by decide)
    obtain ⟨T, hT⟩ : ∃ T, T = wI S 704 (m 33) 0 := ⟨_, rfl⟩
    rw [← hT] at f0 ⊢
    obtain ⟨h, q0⟩ := h0.scr hP f0 (by decide) (by decide)
    have hM := h.1
    first | refine a_aload_n K dX11_find_5 rfl ?_ | refine a_aload_nN K dX11_find_5 rfl ?_
    refine a_iload_n K dX11_find_6 rfl ?_
    refine a_invV K (q_mapY h hl9 hz) my_X11_isMap ml_X11_309 im_X11_isMap se_X11_isMap (ci := 11) (by exact lm_o hM) (by decide) ⟨_, _, rfl⟩ rfl (by omega) (by omega) (by omega) rfl (Nat.le_of_ble_eq_true rfl) dX11_find_7 ?_
    intro r9 S9 hp9
    obtain ⟨rfl, hS9⟩ := hp9
    obtain rfl := hS9.symm
    refine a_if_eq K dX11_find_10 (tgt := 27) (by decide) (fun c_10 => absurd c_10 (by decide)) (fun c_10 => ?_)
    first | refine a_aload_n K dX11_find_13 rfl ?_ | refine a_aload_nN K dX11_find_13 rfl ?_
    first | refine a_aload_n K dX11_find_14 rfl ?_ | refine a_aload_nN K dX11_find_14 rfl ?_
    refine a_getRs K fd_X11_67 (by exact lm_o hM) (Or.inr ⟨_, rfl⟩) (by exact lm_r736 hM) dX11_find_15 ?_
    refine a_iload_n K dX11_find_18 rfl ?_
    refine a_iald K (by exact lm_kk hM (by decide) (by decide)) (by show vp_in _ (sN T (m 17)); exact lm_ix (z := 999) hM (by decide) (by decide) (show j < 999 by omega) (by decide)) dX11_find_19 ?_
    rw [nI_clamp (by omega)]
    rw [h.root2 hz (by omega)]
    refine a_iload_n K dX11_find_20 rfl ?_
    refine a_invV K (m_valueAt hM (h.rep (rootP_live hz)) (tz.1.ne hw3) tz.hs (key := k)) my_X11_valueAt ml_X11_218 im_X11_valueAt se_X11_valueAt (ci := 11) (by exact lm_o hM) (by decide) ⟨_, _, rfl⟩ rfl (by omega) (by omega) (by omega) rfl (Nat.le_of_ble_eq_true rfl) dX11_find_21 ?_
    intro r9 S9 hp9
    obtain ⟨rfl, hS9⟩ := hp9
    obtain rfl := hS9.symm
    rw [tz.1.val hw3 k]
    refine a_goto K dX11_find_24 (tgt := 29) (by decide) ?_
    exact a_iret K EE rfl (by omega) (by omega) dX11_find_29 ⟨by unfold aFind; rw [hz], h, q0⟩
set_option maxHeartbeats 4000000 in
set_option maxRecDepth 100000 in
theorem q_below {S : aw_S} {m ρ : Nat → Nat} {Z : List Nat × Nat} {mb n9 : Nat} {P : PS} (h0 : RM S m ρ Z mb P) (hJ : PJ n9 P) {i k : Int32} : aw_M yX11_below cX11_below 4 (some FieldType.int) 7 0 0 [.ref (m 33), .int i, .int k] S (fun r S2 => r = some (.int (aBelow P i k)) ∧ RM S2 m ρ Z mb P ∧ frS S S2 (mQ m)) := by
  have hP := hJ.1
  have hw3 := hP.1.1
  have hM := h0.1
  have hl9 := hJ.ln
  refine aw_enter (by decide +kernel) (Nat.le_of_ble_eq_true rfl) (fun g K EE => ?_)
  cases hz : rootP P i with
  | none =>
    first | refine a_aload_n K dX11_below_0 rfl ?_ | refine a_aload_nN K dX11_below_0 rfl ?_
    refine a_iconst K dX11_below_1 (v := 0) (by decide) ?_
    refine a_putI K fd_X11_116 (by exact lm_o hM) rfl dX11_below_2 ?_
    have f0 : frM S (wI S 704 (m 33) 0) m [] [704] := frM_wI (by decide) (by decide)
    obtain ⟨T, hT⟩ : ∃ T, T = wI S 704 (m 33) 0 := ⟨_, rfl⟩
    rw [← hT] at f0 ⊢
    obtain ⟨h, q0⟩ := h0.scr hP f0 (by decide) (by decide)
    have hM := h.1
    first | refine a_aload_n K dX11_below_5 rfl ?_ | refine a_aload_nN K dX11_below_5 rfl ?_
    refine a_iload_n K dX11_below_6 rfl ?_
    refine a_invV K (q_mapN h hl9 hz) my_X11_isMap ml_X11_309 im_X11_isMap se_X11_isMap (ci := 11) (by exact lm_o hM) (by decide) ⟨_, _, rfl⟩ rfl (by omega) (by omega) (by omega) rfl (Nat.le_of_ble_eq_true rfl) dX11_below_7 ?_
    intro r9 S9 hp9
    obtain ⟨rfl, hS9⟩ := hp9
    obtain rfl := hS9.symm
    refine a_if_ne K dX11_below_10 (tgt := 15) (by decide) (fun c_10 => absurd c_10 (fun z => z rfl)) (fun c_10 => ?_)
    refine a_iconst K dX11_below_13 (v := -1) (by decide) ?_
    exact a_iret K EE rfl (by omega) (by omega) dX11_below_14 ⟨by unfold aBelow; rw [hz], h, q0⟩
  | some z =>
    obtain ⟨j, hij, hj, -⟩ := h0.root hz
    subst hij
    have tz := hP.tz (rootP_live hz)
    have h4z := tz.h4 hw3
    have e60z := tz.2.2.1
    first | refine a_aload_n K dX11_below_0 rfl ?_ | refine a_aload_nN K dX11_below_0 rfl ?_
    refine a_iconst K dX11_below_1 (v := 0) (by decide) ?_
    refine a_putI K fd_X11_116 (by exact lm_o hM) rfl dX11_below_2 ?_
    have f0 : frM S (wI S 704 (m 33) 0) m [] [704] := frM_wI (by decide) (by decide)
    obtain ⟨T, hT⟩ : ∃ T, T = wI S 704 (m 33) 0 := ⟨_, rfl⟩
    rw [← hT] at f0 ⊢
    obtain ⟨h, q0⟩ := h0.scr hP f0 (by decide) (by decide)
    have hM := h.1
    first | refine a_aload_n K dX11_below_5 rfl ?_ | refine a_aload_nN K dX11_below_5 rfl ?_
    refine a_iload_n K dX11_below_6 rfl ?_
    refine a_invV K (q_mapY h hl9 hz) my_X11_isMap ml_X11_309 im_X11_isMap se_X11_isMap (ci := 11) (by exact lm_o hM) (by decide) ⟨_, _, rfl⟩ rfl (by omega) (by omega) (by omega) rfl (Nat.le_of_ble_eq_true rfl) dX11_below_7 ?_
    intro r9 S9 hp9
    obtain ⟨rfl, hS9⟩ := hp9
    obtain rfl := hS9.symm
    refine a_if_ne K dX11_below_10 (tgt := 15) (by decide) (fun c_10 => ?_) (fun c_10 => absurd c_10 (by decide))
    first | refine a_aload_n K dX11_below_15 rfl ?_ | refine a_aload_nN K dX11_below_15 rfl ?_
    first | refine a_aload_n K dX11_below_16 rfl ?_ | refine a_aload_nN K dX11_below_16 rfl ?_
    refine a_getRs K fd_X11_67 (by exact lm_o hM) (Or.inr ⟨_, rfl⟩) (by exact lm_r736 hM) dX11_below_17 ?_
    refine a_iload_n K dX11_below_20 rfl ?_
    refine a_iald K (by exact lm_kk hM (by decide) (by decide)) (by show vp_in _ (sN T (m 17)); exact lm_ix (z := 999) hM (by decide) (by decide) (show j < 999 by omega) (by decide)) dX11_below_21 ?_
    rw [nI_clamp (by omega)]
    rw [h.root2 hz (by omega)]
    refine a_invV K (m_laysTree hM (h.rep (rootP_live hz)) (by omega) (by omega) (by omega)) my_X11_laysTree ml_X11_252 im_X11_laysTree se_X11_laysTree (ci := 11) (by exact lm_o hM) (by decide) ⟨_, _, rfl⟩ rfl (by omega) (by omega) (by omega) rfl (Nat.le_of_ble_eq_true rfl) dX11_below_22 ?_
    intro r9 S9 hp9
    obtain ⟨rfl, hLy, f9⟩ := hp9
    obtain ⟨h9, q9⟩ := h.scr hP f9 (by decide) (by decide)
    have hM := h9.1
    refine a_iconst K dX11_below_25 (v := 0) (by decide) ?_
    refine a_istore_n K dX11_below_26 (by decide) ?_
    have hkl := kpl_le k (ent z.1 z.2)
    have loop : ∀ (n i : Nat) (x : Int32), x = nI i → i + n = kpl (ent z.1 z.2) k → aw g 4 S9 0 0 [(3, .int x), (2, .int k), (0, .ref (m 33))] [] 27 := by
      intro n
      induction n with
      | zero =>
        intro i x hx9 hn
        subst hx9
        have hn : i = kpl (ent z.1 z.2) k := hn
        by_cases hil : i < (ent z.1 z.2).length
        · have hx := List.getElem?_eq_getElem hil
          have hge : ¬ (ent z.1 z.2)[i].1 < k := kpl_ge k (ent z.1 z.2) _ (by rw [← hn]; exact hx)
          refine a_iload_n K dX11_below_27 rfl ?_
          first | refine a_aload_n K dX11_below_28 rfl ?_ | refine a_aload_nN K dX11_below_28 rfl ?_
          refine a_getI K fd_X11_249 (by exact lm_o hM) (Or.inl rfl) dX11_below_29 ?_
          rw [hLy.1]
          refine a_icmp_ge K dX11_below_32 (tgt := 51) (by decide) (fun c_32 => absurd c_32 (nI_ge (a := i) (b := (ent z.1 z.2).length) (by omega) (by omega))) (fun c_32 => ?_)
          first | refine a_aload_n K dX11_below_35 rfl ?_ | refine a_aload_nN K dX11_below_35 rfl ?_
          refine a_getRs K fd_X11_55 (by exact lm_o hM) (Or.inr ⟨_, rfl⟩) (by exact lm_r730 hM) dX11_below_36 ?_
          refine a_iload_n K dX11_below_39 rfl ?_
          refine a_iald K (by exact lm_kk hM (by decide) (by decide)) (by show vp_in _ (sN S9 (m 13)); exact lm_ix (z := 140) hM (by decide) (by decide) (show i < 140 by omega) (by decide)) dX11_below_40 ?_
          rw [nI_clamp (by omega)]
          rw [show sA S9 (m 13) i = (ent z.1 z.2)[i].1 from (hLy.2.2.1 i _ hx).1]
          refine a_iload_n K dX11_below_41 rfl ?_
          refine a_icmp_ge K dX11_below_42 (tgt := 51) (by decide) (fun c_42 => ?_) (fun c_42 => absurd c_42 (fun q => q (Int32.not_lt.mp hge)))
          refine a_iload_n K dX11_below_51 rfl ?_
          exact a_iret K EE rfl (by omega) (by omega) dX11_below_52 ⟨by unfold aBelow; rw [hz]; show some (Value.int (nI i)) = some (Value.int (nI (kpl (ent z.1 z.2) k))); rw [hn], h9, mQ_tr q0 q9⟩
        · refine a_iload_n K dX11_below_27 rfl ?_
          first | refine a_aload_n K dX11_below_28 rfl ?_ | refine a_aload_nN K dX11_below_28 rfl ?_
          refine a_getI K fd_X11_249 (by exact lm_o hM) (Or.inl rfl) dX11_below_29 ?_
          rw [hLy.1]
          refine a_icmp_ge K dX11_below_32 (tgt := 51) (by decide) (fun c_32 => ?_) (fun c_32 => absurd c_32 (fun q => q (nI_le (a := (ent z.1 z.2).length) (b := i) (by omega) (by omega))))
          refine a_iload_n K dX11_below_51 rfl ?_
          exact a_iret K EE rfl (by omega) (by omega) dX11_below_52 ⟨by unfold aBelow; rw [hz]; show some (Value.int (nI i)) = some (Value.int (nI (kpl (ent z.1 z.2) k))); rw [hn], h9, mQ_tr q0 q9⟩
      | succ n ih =>
        intro i x hx9 hn
        subst hx9
        have hil : i < (ent z.1 z.2).length := by omega
        have hx := List.getElem?_eq_getElem hil
        have hlt : (ent z.1 z.2)[i].1 < k := kpl_lt k (ent z.1 z.2) i _ (by omega) hx
        refine a_iload_n K dX11_below_27 rfl ?_
        first | refine a_aload_n K dX11_below_28 rfl ?_ | refine a_aload_nN K dX11_below_28 rfl ?_
        refine a_getI K fd_X11_249 (by exact lm_o hM) (Or.inl rfl) dX11_below_29 ?_
        rw [hLy.1]
        refine a_icmp_ge K dX11_below_32 (tgt := 51) (by decide) (fun c_32 => absurd c_32 (nI_ge (a := i) (b := (ent z.1 z.2).length) (by omega) (by omega))) (fun c_32 => ?_)
        first | refine a_aload_n K dX11_below_35 rfl ?_ | refine a_aload_nN K dX11_below_35 rfl ?_
        refine a_getRs K fd_X11_55 (by exact lm_o hM) (Or.inr ⟨_, rfl⟩) (by exact lm_r730 hM) dX11_below_36 ?_
        refine a_iload_n K dX11_below_39 rfl ?_
        refine a_iald K (by exact lm_kk hM (by decide) (by decide)) (by show vp_in _ (sN S9 (m 13)); exact lm_ix (z := 140) hM (by decide) (by decide) (show i < 140 by omega) (by decide)) dX11_below_40 ?_
        rw [nI_clamp (by omega)]
        rw [show sA S9 (m 13) i = (ent z.1 z.2)[i].1 from (hLy.2.2.1 i _ hx).1]
        refine a_iload_n K dX11_below_41 rfl ?_
        refine a_icmp_ge K dX11_below_42 (tgt := 51) (by decide) (fun c_42 => absurd c_42 (fun q => absurd hlt (Int32.not_lt.mpr q))) (fun c_42 => ?_)
        refine a_iinc K dX11_below_45 (v := 1) rfl (by decide) (by decide) ?_
        refine a_goto K dX11_below_48 (tgt := 27) (by decide) ?_
        exact aw_locl rfl (ih (i + 1) _ (nI_1 i) (by omega))
    exact aw_locl rfl (loop (kpl (ent z.1 z.2) k) 0 _ nI_0.symm (Nat.zero_add _))
set_option maxHeartbeats 4000000 in
set_option maxRecDepth 100000 in
theorem q_total {S : aw_S} {m ρ : Nat → Nat} {Z : List Nat × Nat} {mb n9 : Nat} {P : PS} (h0 : RM S m ρ Z mb P) (hJ : PJ n9 P) {i f t0 : Int32} : aw_M yX11_total cX11_total 4 (some FieldType.int) 7 0 0 [.ref (m 33), .int i, .int f, .int t0] S (fun r S2 => r = some (.int (aTotal P i f t0)) ∧ RM S2 m ρ Z mb P ∧ frS S S2 (mQ m)) := by
  have hP := hJ.1
  have hw3 := hP.1.1
  have hM := h0.1
  have hl9 := hJ.ln
  refine aw_enter (by decide +kernel) (Nat.le_of_ble_eq_true rfl) (fun g K EE => ?_)
  cases hz : rootP P i with
  | none =>
    first | refine a_aload_n K dX11_total_0 rfl ?_ | refine a_aload_nN K dX11_total_0 rfl ?_
    refine a_iconst K dX11_total_1 (v := 0) (by decide) ?_
    refine a_putI K fd_X11_116 (by exact lm_o hM) rfl dX11_total_2 ?_
    have f0 : frM S (wI S 704 (m 33) 0) m [] [704] := frM_wI (by decide) (by decide)
    obtain ⟨T, hT⟩ : ∃ T, T = wI S 704 (m 33) 0 := ⟨_, rfl⟩
    rw [← hT] at f0 ⊢
    obtain ⟨h, q0⟩ := h0.scr hP f0 (by decide) (by decide)
    have hM := h.1
    first | refine a_aload_n K dX11_total_5 rfl ?_ | refine a_aload_nN K dX11_total_5 rfl ?_
    refine a_iload_n K dX11_total_6 rfl ?_
    refine a_invV K (q_mapN h hl9 hz) my_X11_isMap ml_X11_309 im_X11_isMap se_X11_isMap (ci := 11) (by exact lm_o hM) (by decide) ⟨_, _, rfl⟩ rfl (by omega) (by omega) (by omega) rfl (Nat.le_of_ble_eq_true rfl) dX11_total_7 ?_
    intro r9 S9 hp9
    obtain ⟨rfl, hS9⟩ := hp9
    obtain rfl := hS9.symm
    refine a_if_ne K dX11_total_10 (tgt := 16) (by decide) (fun c_10 => absurd c_10 (fun z => z rfl)) (fun c_10 => ?_)
    refine a_ldc K kc_X11_170 dX11_total_13 ?_
    exact a_iret K EE rfl (by omega) (by omega) dX11_total_15 ⟨by unfold aTotal; rw [hz], h, q0⟩
  | some z =>
    obtain ⟨j, hij, hj, -⟩ := h0.root hz
    subst hij
    have tz := hP.tz (rootP_live hz)
    have h4z := tz.h4 hw3
    have e60z := tz.2.2.1
    first | refine a_aload_n K dX11_total_0 rfl ?_ | refine a_aload_nN K dX11_total_0 rfl ?_
    refine a_iconst K dX11_total_1 (v := 0) (by decide) ?_
    refine a_putI K fd_X11_116 (by exact lm_o hM) rfl dX11_total_2 ?_
    have f0 : frM S (wI S 704 (m 33) 0) m [] [704] := frM_wI (by decide) (by decide)
    obtain ⟨T, hT⟩ : ∃ T, T = wI S 704 (m 33) 0 := ⟨_, rfl⟩
    rw [← hT] at f0 ⊢
    obtain ⟨h, q0⟩ := h0.scr hP f0 (by decide) (by decide)
    have hM := h.1
    first | refine a_aload_n K dX11_total_5 rfl ?_ | refine a_aload_nN K dX11_total_5 rfl ?_
    refine a_iload_n K dX11_total_6 rfl ?_
    refine a_invV K (q_mapY h hl9 hz) my_X11_isMap ml_X11_309 im_X11_isMap se_X11_isMap (ci := 11) (by exact lm_o hM) (by decide) ⟨_, _, rfl⟩ rfl (by omega) (by omega) (by omega) rfl (Nat.le_of_ble_eq_true rfl) dX11_total_7 ?_
    intro r9 S9 hp9
    obtain ⟨rfl, hS9⟩ := hp9
    obtain rfl := hS9.symm
    refine a_if_ne K dX11_total_10 (tgt := 16) (by decide) (fun c_10 => ?_) (fun c_10 => absurd c_10 (by decide))
    first | refine a_aload_n K dX11_total_16 rfl ?_ | refine a_aload_nN K dX11_total_16 rfl ?_
    first | refine a_aload_n K dX11_total_17 rfl ?_ | refine a_aload_nN K dX11_total_17 rfl ?_
    refine a_getRs K fd_X11_67 (by exact lm_o hM) (Or.inr ⟨_, rfl⟩) (by exact lm_r736 hM) dX11_total_18 ?_
    refine a_iload_n K dX11_total_21 rfl ?_
    refine a_iald K (by exact lm_kk hM (by decide) (by decide)) (by show vp_in _ (sN T (m 17)); exact lm_ix (z := 999) hM (by decide) (by decide) (show j < 999 by omega) (by decide)) dX11_total_22 ?_
    rw [nI_clamp (by omega)]
    rw [h.root2 hz (by omega)]
    refine a_invV K (m_laysTree hM (h.rep (rootP_live hz)) (by omega) (by omega) (by omega)) my_X11_laysTree ml_X11_252 im_X11_laysTree se_X11_laysTree (ci := 11) (by exact lm_o hM) (by decide) ⟨_, _, rfl⟩ rfl (by omega) (by omega) (by omega) rfl (Nat.le_of_ble_eq_true rfl) dX11_total_23 ?_
    intro r9 S9 hp9
    obtain ⟨rfl, hLy, f9⟩ := hp9
    obtain ⟨h9, q9⟩ := h.scr hP f9 (by decide) (by decide)
    have hM := h9.1
    first | refine a_aload_n K dX11_total_26 rfl ?_ | refine a_aload_nN K dX11_total_26 rfl ?_
    refine a_iload_n K dX11_total_27 rfl ?_
    refine a_iload_n K dX11_total_28 rfl ?_
    refine a_invV K (q_sumOf hM hLy (by omega)) my_X11_sumOf ml_X11_324 im_X11_sumOf se_X11_sumOf (ci := 11) (by exact lm_o hM) (by decide) ⟨_, _, rfl⟩ rfl (by omega) (by omega) (by omega) rfl (Nat.le_of_ble_eq_true rfl) dX11_total_29 ?_
    intro r8 S8 hp8
    obtain ⟨rfl, hS8⟩ := hp8
    obtain rfl := hS8.symm
    exact a_iret K EE rfl (by omega) (by omega) dX11_total_32 ⟨by unfold aTotal; rw [hz], h9, mQ_tr q0 q9⟩
theorem aAbout_out {P : PS} {i w : Int32} (h : ¬ (0 ≤ w.toInt ∧ w.toInt ≤ 6)) : aAbout P i w = -1000000 := by
  unfold aAbout
  cases hz : rootP P i with
  | none => rfl
  | some z =>
    have n : ∀ c : Int32, 0 ≤ c.toInt → c.toInt ≤ 6 → ¬ w = c := fun c h1 h2 e => h (by rw [e]; exact ⟨h1, h2⟩)
    show (if w = 0 then _ else _) = _
    rw [if_neg (n 0 (by decide) (by decide)), if_neg (n 1 (by decide) (by decide)), if_neg (n 2 (by decide) (by decide)), if_neg (n 3 (by decide) (by decide)), if_neg (n 4 (by decide) (by decide)), if_neg (n 5 (by decide) (by decide)), if_neg (n 6 (by decide) (by decide))]
theorem i32_of {w : Int32} {n : Nat} (hn : n < 2 ^ 31) (h : w.toInt = n) : w = nI n := Int32.toInt_inj.mp (by rw [h, nI_toInt hn])
theorem RM.lf {S : aw_S} {m ρ : Nat → Nat} {z : Tz} (r : RepM S m ρ z.1 z.2) : (∀ y ∈ dpT z.1 z.2 0, ρ y.1 < 12000 ∧ gL S m (ρ y.1) = nI (if decide (gL S m (ρ y.1) = 1) = true then 1 else 0)) ∧ ∀ y ∈ sub z.1 z.2, (decide (gL S m (ρ y.2.1) = 1) = true ↔ y.1 = 0) := by
  have hs : ∀ y ∈ sub z.1 z.2, ρ y.2.1 < 12000 ∧ gL S m (ρ y.2.1) = (if y.1 = 0 then 1 else 0) := fun y hy => by
    have n := (sub_repM z.1 r y hy).own
    exact ⟨n.1, n.2.1⟩
  refine ⟨fun y hy => ?_, fun y hy => ?_⟩
  · rw [dpT_sub] at hy
    obtain ⟨q, hq, e⟩ := List.mem_map.mp hy
    obtain ⟨h1, h2⟩ := hs q hq
    rw [← e]
    refine ⟨h1, ?_⟩
    show gL S m (ρ q.2.1) = nI (if decide (gL S m (ρ q.2.1) = 1) = true then 1 else 0)
    rw [h2]
    by_cases c : q.1 = 0
    · rw [if_pos c]; rfl
    · rw [if_neg c]; rfl
  · rw [(hs y hy).2]
    by_cases c : y.1 = 0
    · rw [if_pos c]; simp [c]
    · rw [if_neg c]; simp [c]
theorem mapAt_in {P : PS} {j : Nat} {x : MI} (hj : j < 999) (hx : (pM P)[j]? = some x) : mapAt P (nI j) = some x := by
  have hl := (List.getElem?_eq_some_iff.mp hx).1
  unfold mapAt
  rw [nI_toInt (by omega), nI_clamp (by omega), if_pos (by omega), hx]
theorem RM.from1 {S : aw_S} {m ρ : Nat → Nat} {Z : List Nat × Nat} {mb : Nat} {P : PS} (h : RM S m ρ Z mb P) {j : Nat} {z : Tz} (hz : rootP P (nI j) = some z) (hj : j < 999) : sA S (m 18) j = oneM P (nI j) ∧ sA S (m 19) j = twoM P (nI j) := by
  obtain ⟨x, h3, h4, -⟩ := rootP_at hj hz
  obtain ⟨-, h5, h6⟩ := h.2.2.1 j x h3
  unfold oneM twoM
  rw [mapAt_in hj h3]
  exact ⟨h5, h6⟩
set_option maxHeartbeats 4000000 in
set_option maxRecDepth 100000 in
theorem q_about {S : aw_S} {m ρ : Nat → Nat} {Z : List Nat × Nat} {mb n9 : Nat} {P : PS} (h0 : RM S m ρ Z mb P) (hJ : PJ n9 P) {i w : Int32} : aw_M yX11_about cX11_about 3 (some FieldType.int) 8 0 0 [.ref (m 33), .int i, .int w] S (fun r S2 => r = some (.int (aAbout P i w)) ∧ RM S2 m ρ Z mb P ∧ frS S S2 (mQ m)) := by
  have hP := hJ.1
  have hw3 := hP.1.1
  have hM := h0.1
  have hl9 := hJ.ln
  refine aw_enter (by decide +kernel) (Nat.le_of_ble_eq_true rfl) (fun g K EE => ?_)
  cases hz : rootP P i with
  | none =>
    first | refine a_aload_n K dX11_about_0 rfl ?_ | refine a_aload_nN K dX11_about_0 rfl ?_
    refine a_iconst K dX11_about_1 (v := 0) (by decide) ?_
    refine a_putI K fd_X11_116 (by exact lm_o hM) rfl dX11_about_2 ?_
    have f0 : frM S (wI S 704 (m 33) 0) m [] [704] := frM_wI (by decide) (by decide)
    obtain ⟨T, hT⟩ : ∃ T, T = wI S 704 (m 33) 0 := ⟨_, rfl⟩
    rw [← hT] at f0 ⊢
    obtain ⟨h, q0⟩ := h0.scr hP f0 (by decide) (by decide)
    have hM := h.1
    first | refine a_aload_n K dX11_about_5 rfl ?_ | refine a_aload_nN K dX11_about_5 rfl ?_
    refine a_iload_n K dX11_about_6 rfl ?_
    refine a_invV K (q_mapN h hl9 hz) my_X11_isMap ml_X11_309 im_X11_isMap se_X11_isMap (ci := 11) (by exact lm_o hM) (by decide) ⟨_, _, rfl⟩ rfl (by omega) (by omega) (by omega) rfl (Nat.le_of_ble_eq_true rfl) dX11_about_7 ?_
    intro r9 S9 hp9
    obtain ⟨rfl, hS9⟩ := hp9
    obtain rfl := hS9.symm
    refine a_if_eq K dX11_about_10 (tgt := 25) (by decide) (fun c_10 => ?_) (fun c_10 => absurd c_10 (by decide))
    refine a_ldc K kc_X11_170 dX11_about_25 ?_
    exact a_iret K EE rfl (by omega) (by omega) dX11_about_27 ⟨by unfold aAbout; rw [hz], h, q0⟩
  | some z =>
    obtain ⟨j, hij, hj, -⟩ := h0.root hz
    subst hij
    have tz := hP.tz (rootP_live hz)
    have h4z := tz.h4 hw3
    have e60z := tz.2.2.1
    by_cases hw : ¬ (0 ≤ w.toInt ∧ w.toInt ≤ 6)
    · first | refine a_aload_n K dX11_about_0 rfl ?_ | refine a_aload_nN K dX11_about_0 rfl ?_
      refine a_iconst K dX11_about_1 (v := 0) (by decide) ?_
      refine a_putI K fd_X11_116 (by exact lm_o hM) rfl dX11_about_2 ?_
      have f0 : frM S (wI S 704 (m 33) 0) m [] [704] := frM_wI (by decide) (by decide)
      obtain ⟨T, hT⟩ : ∃ T, T = wI S 704 (m 33) 0 := ⟨_, rfl⟩
      rw [← hT] at f0 ⊢
      obtain ⟨h, q0⟩ := h0.scr hP f0 (by decide) (by decide)
      have hM := h.1
      first | refine a_aload_n K dX11_about_5 rfl ?_ | refine a_aload_nN K dX11_about_5 rfl ?_
      refine a_iload_n K dX11_about_6 rfl ?_
      refine a_invV K (q_mapY h hl9 hz) my_X11_isMap ml_X11_309 im_X11_isMap se_X11_isMap (ci := 11) (by exact lm_o hM) (by decide) ⟨_, _, rfl⟩ rfl (by omega) (by omega) (by omega) rfl (Nat.le_of_ble_eq_true rfl) dX11_about_7 ?_
      intro r9 S9 hp9
      obtain ⟨rfl, hS9⟩ := hp9
      obtain rfl := hS9.symm
      refine a_if_eq K dX11_about_10 (tgt := 25) (by decide) (fun c_10 => absurd c_10 (by decide)) (fun c_10 => ?_)
      refine a_iload_n K dX11_about_13 rfl ?_
      refine a_i2l K dX11_about_14 ?_
      refine a_lconst K dX11_about_15 (v := 0) (by decide) ?_
      refine a_ldc2 K kc_X11_307 dX11_about_16 ?_
      refine a_invS K (q_inN (p := 0) (q := 6) (by decide) (by decide) (by first | assumption | omega)) my_X11_isIn ml_X11_174 st_X11_isIn rfl (by omega) (by omega) (by omega) rfl (Nat.le_of_ble_eq_true rfl) dX11_about_19 ?_
      intro r9 S9 hp9
      obtain ⟨rfl, hS9⟩ := hp9
      obtain rfl := hS9.symm
      refine a_if_ne K dX11_about_22 (tgt := 28) (by decide) (fun c_22 => absurd c_22 (fun z => z rfl)) (fun c_22 => ?_)
      refine a_ldc K kc_X11_170 dX11_about_25 ?_
      exact a_iret K EE rfl (by omega) (by omega) dX11_about_27 ⟨by rw [aAbout_out hw], h, q0⟩
    have hw := Classical.not_not.mp hw
    have h9w : w = 0 ∨ w = 1 ∨ w = 2 ∨ w = 3 ∨ w = 4 ∨ w = 5 ∨ w = 6 := by
      obtain ⟨n, hn⟩ : ∃ n : Nat, w.toInt = n := ⟨w.toInt.toNat, by omega⟩
      have hn7 : n = 0 ∨ n = 1 ∨ n = 2 ∨ n = 3 ∨ n = 4 ∨ n = 5 ∨ n = 6 := by omega
      have e := i32_of (by omega) hn
      rcases hn7 with q | q | q | q | q | q | q <;> rw [e, q] <;> decide
    rcases h9w with e | e | e | e | e | e | e
    · subst e
      first | refine a_aload_n K dX11_about_0 rfl ?_ | refine a_aload_nN K dX11_about_0 rfl ?_
      refine a_iconst K dX11_about_1 (v := 0) (by decide) ?_
      refine a_putI K fd_X11_116 (by exact lm_o hM) rfl dX11_about_2 ?_
      have f0 : frM S (wI S 704 (m 33) 0) m [] [704] := frM_wI (by decide) (by decide)
      obtain ⟨T, hT⟩ : ∃ T, T = wI S 704 (m 33) 0 := ⟨_, rfl⟩
      rw [← hT] at f0 ⊢
      obtain ⟨h, q0⟩ := h0.scr hP f0 (by decide) (by decide)
      have hM := h.1
      first | refine a_aload_n K dX11_about_5 rfl ?_ | refine a_aload_nN K dX11_about_5 rfl ?_
      refine a_iload_n K dX11_about_6 rfl ?_
      refine a_invV K (q_mapY h hl9 hz) my_X11_isMap ml_X11_309 im_X11_isMap se_X11_isMap (ci := 11) (by exact lm_o hM) (by decide) ⟨_, _, rfl⟩ rfl (by omega) (by omega) (by omega) rfl (Nat.le_of_ble_eq_true rfl) dX11_about_7 ?_
      intro r9 S9 hp9
      obtain ⟨rfl, hS9⟩ := hp9
      obtain rfl := hS9.symm
      refine a_if_eq K dX11_about_10 (tgt := 25) (by decide) (fun c_10 => absurd c_10 (by decide)) (fun c_10 => ?_)
      refine a_iload_n K dX11_about_13 rfl ?_
      refine a_i2l K dX11_about_14 ?_
      refine a_lconst K dX11_about_15 (v := 0) (by decide) ?_
      refine a_ldc2 K kc_X11_307 dX11_about_16 ?_
      refine a_invS K (q_inY (p := 0) (q := 6) (by decide) (by decide) (by first | assumption | omega)) my_X11_isIn ml_X11_174 st_X11_isIn rfl (by omega) (by omega) (by omega) rfl (Nat.le_of_ble_eq_true rfl) dX11_about_19 ?_
      intro r9 S9 hp9
      obtain ⟨rfl, hS9⟩ := hp9
      obtain rfl := hS9.symm
      refine a_if_ne K dX11_about_22 (tgt := 28) (by decide) (fun c_22 => ?_) (fun c_22 => absurd c_22 (by decide))
      first | refine a_aload_n K dX11_about_28 rfl ?_ | refine a_aload_nN K dX11_about_28 rfl ?_
      first | refine a_aload_n K dX11_about_29 rfl ?_ | refine a_aload_nN K dX11_about_29 rfl ?_
      refine a_getRs K fd_X11_67 (by exact lm_o hM) (Or.inr ⟨_, rfl⟩) (by exact lm_r736 hM) dX11_about_30 ?_
      refine a_iload_n K dX11_about_33 rfl ?_
      refine a_iald K (by exact lm_kk hM (by decide) (by decide)) (by show vp_in _ (sN T (m 17)); exact lm_ix (z := 999) hM (by decide) (by decide) (show j < 999 by omega) (by decide)) dX11_about_34 ?_
      rw [nI_clamp (by omega)]
      rw [h.root2 hz (by omega)]
      refine a_invV K (m_laysTree hM (h.rep (rootP_live hz)) (by omega) (by omega) (by omega)) my_X11_laysTree ml_X11_252 im_X11_laysTree se_X11_laysTree (ci := 11) (by exact lm_o hM) (by decide) ⟨_, _, rfl⟩ rfl (by omega) (by omega) (by omega) rfl (Nat.le_of_ble_eq_true rfl) dX11_about_35 ?_
      intro r9 S9 hp9
      obtain ⟨rfl, hLy, f9⟩ := hp9
      obtain ⟨h9, q9⟩ := h.scr hP f9 (by decide) (by decide)
      have hM := h9.1
      refine a_iload_n K dX11_about_38 rfl ?_
      refine a_tsIn K dX11_about_39 (off := 37) (tgt := 76) (by decide) (by decide) rfl (by decide) ?_
      first | refine a_aload_n K dX11_about_76 rfl ?_ | refine a_aload_nN K dX11_about_76 rfl ?_
      refine a_getI K fd_X11_249 (by exact lm_o hM) (Or.inl rfl) dX11_about_77 ?_
      rw [hLy.1]
      exact a_iret K EE rfl (by omega) (by omega) dX11_about_80 ⟨by unfold aAbout; rw [hz]; rfl, h9, mQ_tr q0 q9⟩
    · subst e
      first | refine a_aload_n K dX11_about_0 rfl ?_ | refine a_aload_nN K dX11_about_0 rfl ?_
      refine a_iconst K dX11_about_1 (v := 0) (by decide) ?_
      refine a_putI K fd_X11_116 (by exact lm_o hM) rfl dX11_about_2 ?_
      have f0 : frM S (wI S 704 (m 33) 0) m [] [704] := frM_wI (by decide) (by decide)
      obtain ⟨T, hT⟩ : ∃ T, T = wI S 704 (m 33) 0 := ⟨_, rfl⟩
      rw [← hT] at f0 ⊢
      obtain ⟨h, q0⟩ := h0.scr hP f0 (by decide) (by decide)
      have hM := h.1
      first | refine a_aload_n K dX11_about_5 rfl ?_ | refine a_aload_nN K dX11_about_5 rfl ?_
      refine a_iload_n K dX11_about_6 rfl ?_
      refine a_invV K (q_mapY h hl9 hz) my_X11_isMap ml_X11_309 im_X11_isMap se_X11_isMap (ci := 11) (by exact lm_o hM) (by decide) ⟨_, _, rfl⟩ rfl (by omega) (by omega) (by omega) rfl (Nat.le_of_ble_eq_true rfl) dX11_about_7 ?_
      intro r9 S9 hp9
      obtain ⟨rfl, hS9⟩ := hp9
      obtain rfl := hS9.symm
      refine a_if_eq K dX11_about_10 (tgt := 25) (by decide) (fun c_10 => absurd c_10 (by decide)) (fun c_10 => ?_)
      refine a_iload_n K dX11_about_13 rfl ?_
      refine a_i2l K dX11_about_14 ?_
      refine a_lconst K dX11_about_15 (v := 0) (by decide) ?_
      refine a_ldc2 K kc_X11_307 dX11_about_16 ?_
      refine a_invS K (q_inY (p := 0) (q := 6) (by decide) (by decide) (by first | assumption | omega)) my_X11_isIn ml_X11_174 st_X11_isIn rfl (by omega) (by omega) (by omega) rfl (Nat.le_of_ble_eq_true rfl) dX11_about_19 ?_
      intro r9 S9 hp9
      obtain ⟨rfl, hS9⟩ := hp9
      obtain rfl := hS9.symm
      refine a_if_ne K dX11_about_22 (tgt := 28) (by decide) (fun c_22 => ?_) (fun c_22 => absurd c_22 (by decide))
      first | refine a_aload_n K dX11_about_28 rfl ?_ | refine a_aload_nN K dX11_about_28 rfl ?_
      first | refine a_aload_n K dX11_about_29 rfl ?_ | refine a_aload_nN K dX11_about_29 rfl ?_
      refine a_getRs K fd_X11_67 (by exact lm_o hM) (Or.inr ⟨_, rfl⟩) (by exact lm_r736 hM) dX11_about_30 ?_
      refine a_iload_n K dX11_about_33 rfl ?_
      refine a_iald K (by exact lm_kk hM (by decide) (by decide)) (by show vp_in _ (sN T (m 17)); exact lm_ix (z := 999) hM (by decide) (by decide) (show j < 999 by omega) (by decide)) dX11_about_34 ?_
      rw [nI_clamp (by omega)]
      rw [h.root2 hz (by omega)]
      refine a_invV K (m_laysTree hM (h.rep (rootP_live hz)) (by omega) (by omega) (by omega)) my_X11_laysTree ml_X11_252 im_X11_laysTree se_X11_laysTree (ci := 11) (by exact lm_o hM) (by decide) ⟨_, _, rfl⟩ rfl (by omega) (by omega) (by omega) rfl (Nat.le_of_ble_eq_true rfl) dX11_about_35 ?_
      intro r9 S9 hp9
      obtain ⟨rfl, hLy, f9⟩ := hp9
      obtain ⟨h9, q9⟩ := h.scr hP f9 (by decide) (by decide)
      have hM := h9.1
      refine a_iload_n K dX11_about_38 rfl ?_
      refine a_tsIn K dX11_about_39 (off := 42) (tgt := 81) (by decide) (by decide) rfl (by decide) ?_
      first | refine a_aload_n K dX11_about_81 rfl ?_ | refine a_aload_nN K dX11_about_81 rfl ?_
      refine a_invV K (q_levels hM hLy (by rw [dpT_len]; omega) (fun y hy => by rw [dpT_sub] at hy; obtain ⟨q, hq, e⟩ := List.mem_map.mp hy; rw [← e]; show 0 + (z.1 - q.1) < 1000; omega)) my_X11_levels ml_X11_318 im_X11_levels se_X11_levels (ci := 11) (by exact lm_o hM) (by decide) ⟨_, _, rfl⟩ rfl (by omega) (by omega) (by omega) rfl (Nat.le_of_ble_eq_true rfl) dX11_about_82 ?_
      intro r8 S8 hp8
      obtain ⟨rfl, hS8⟩ := hp8
      obtain rfl := hS8.symm
      rw [lvF_tree hw3 tz.1]
      exact a_iret K EE rfl (by omega) (by omega) dX11_about_85 ⟨by unfold aAbout; rw [hz]; rfl, h9, mQ_tr q0 q9⟩
    · subst e
      first | refine a_aload_n K dX11_about_0 rfl ?_ | refine a_aload_nN K dX11_about_0 rfl ?_
      refine a_iconst K dX11_about_1 (v := 0) (by decide) ?_
      refine a_putI K fd_X11_116 (by exact lm_o hM) rfl dX11_about_2 ?_
      have f0 : frM S (wI S 704 (m 33) 0) m [] [704] := frM_wI (by decide) (by decide)
      obtain ⟨T, hT⟩ : ∃ T, T = wI S 704 (m 33) 0 := ⟨_, rfl⟩
      rw [← hT] at f0 ⊢
      obtain ⟨h, q0⟩ := h0.scr hP f0 (by decide) (by decide)
      have hM := h.1
      first | refine a_aload_n K dX11_about_5 rfl ?_ | refine a_aload_nN K dX11_about_5 rfl ?_
      refine a_iload_n K dX11_about_6 rfl ?_
      refine a_invV K (q_mapY h hl9 hz) my_X11_isMap ml_X11_309 im_X11_isMap se_X11_isMap (ci := 11) (by exact lm_o hM) (by decide) ⟨_, _, rfl⟩ rfl (by omega) (by omega) (by omega) rfl (Nat.le_of_ble_eq_true rfl) dX11_about_7 ?_
      intro r9 S9 hp9
      obtain ⟨rfl, hS9⟩ := hp9
      obtain rfl := hS9.symm
      refine a_if_eq K dX11_about_10 (tgt := 25) (by decide) (fun c_10 => absurd c_10 (by decide)) (fun c_10 => ?_)
      refine a_iload_n K dX11_about_13 rfl ?_
      refine a_i2l K dX11_about_14 ?_
      refine a_lconst K dX11_about_15 (v := 0) (by decide) ?_
      refine a_ldc2 K kc_X11_307 dX11_about_16 ?_
      refine a_invS K (q_inY (p := 0) (q := 6) (by decide) (by decide) (by first | assumption | omega)) my_X11_isIn ml_X11_174 st_X11_isIn rfl (by omega) (by omega) (by omega) rfl (Nat.le_of_ble_eq_true rfl) dX11_about_19 ?_
      intro r9 S9 hp9
      obtain ⟨rfl, hS9⟩ := hp9
      obtain rfl := hS9.symm
      refine a_if_ne K dX11_about_22 (tgt := 28) (by decide) (fun c_22 => ?_) (fun c_22 => absurd c_22 (by decide))
      first | refine a_aload_n K dX11_about_28 rfl ?_ | refine a_aload_nN K dX11_about_28 rfl ?_
      first | refine a_aload_n K dX11_about_29 rfl ?_ | refine a_aload_nN K dX11_about_29 rfl ?_
      refine a_getRs K fd_X11_67 (by exact lm_o hM) (Or.inr ⟨_, rfl⟩) (by exact lm_r736 hM) dX11_about_30 ?_
      refine a_iload_n K dX11_about_33 rfl ?_
      refine a_iald K (by exact lm_kk hM (by decide) (by decide)) (by show vp_in _ (sN T (m 17)); exact lm_ix (z := 999) hM (by decide) (by decide) (show j < 999 by omega) (by decide)) dX11_about_34 ?_
      rw [nI_clamp (by omega)]
      rw [h.root2 hz (by omega)]
      refine a_invV K (m_laysTree hM (h.rep (rootP_live hz)) (by omega) (by omega) (by omega)) my_X11_laysTree ml_X11_252 im_X11_laysTree se_X11_laysTree (ci := 11) (by exact lm_o hM) (by decide) ⟨_, _, rfl⟩ rfl (by omega) (by omega) (by omega) rfl (Nat.le_of_ble_eq_true rfl) dX11_about_35 ?_
      intro r9 S9 hp9
      obtain ⟨rfl, hLy, f9⟩ := hp9
      obtain ⟨h9, q9⟩ := h.scr hP f9 (by decide) (by decide)
      have hM := h9.1
      refine a_iload_n K dX11_about_38 rfl ?_
      refine a_tsIn K dX11_about_39 (off := 47) (tgt := 86) (by decide) (by decide) rfl (by decide) ?_
      first | refine a_aload_n K dX11_about_86 rfl ?_ | refine a_aload_nN K dX11_about_86 rfl ?_
      refine a_getI K fd_X11_243 (by exact lm_o hM) (Or.inl rfl) dX11_about_87 ?_
      rw [hLy.2.1, dpT_len, ← sub_len]
      exact a_iret K EE rfl (by omega) (by omega) dX11_about_90 ⟨by unfold aAbout; rw [hz]; rfl, h9, mQ_tr q0 q9⟩
    · subst e
      first | refine a_aload_n K dX11_about_0 rfl ?_ | refine a_aload_nN K dX11_about_0 rfl ?_
      refine a_iconst K dX11_about_1 (v := 0) (by decide) ?_
      refine a_putI K fd_X11_116 (by exact lm_o hM) rfl dX11_about_2 ?_
      have f0 : frM S (wI S 704 (m 33) 0) m [] [704] := frM_wI (by decide) (by decide)
      obtain ⟨T, hT⟩ : ∃ T, T = wI S 704 (m 33) 0 := ⟨_, rfl⟩
      rw [← hT] at f0 ⊢
      obtain ⟨h, q0⟩ := h0.scr hP f0 (by decide) (by decide)
      have hM := h.1
      first | refine a_aload_n K dX11_about_5 rfl ?_ | refine a_aload_nN K dX11_about_5 rfl ?_
      refine a_iload_n K dX11_about_6 rfl ?_
      refine a_invV K (q_mapY h hl9 hz) my_X11_isMap ml_X11_309 im_X11_isMap se_X11_isMap (ci := 11) (by exact lm_o hM) (by decide) ⟨_, _, rfl⟩ rfl (by omega) (by omega) (by omega) rfl (Nat.le_of_ble_eq_true rfl) dX11_about_7 ?_
      intro r9 S9 hp9
      obtain ⟨rfl, hS9⟩ := hp9
      obtain rfl := hS9.symm
      refine a_if_eq K dX11_about_10 (tgt := 25) (by decide) (fun c_10 => absurd c_10 (by decide)) (fun c_10 => ?_)
      refine a_iload_n K dX11_about_13 rfl ?_
      refine a_i2l K dX11_about_14 ?_
      refine a_lconst K dX11_about_15 (v := 0) (by decide) ?_
      refine a_ldc2 K kc_X11_307 dX11_about_16 ?_
      refine a_invS K (q_inY (p := 0) (q := 6) (by decide) (by decide) (by first | assumption | omega)) my_X11_isIn ml_X11_174 st_X11_isIn rfl (by omega) (by omega) (by omega) rfl (Nat.le_of_ble_eq_true rfl) dX11_about_19 ?_
      intro r9 S9 hp9
      obtain ⟨rfl, hS9⟩ := hp9
      obtain rfl := hS9.symm
      refine a_if_ne K dX11_about_22 (tgt := 28) (by decide) (fun c_22 => ?_) (fun c_22 => absurd c_22 (by decide))
      first | refine a_aload_n K dX11_about_28 rfl ?_ | refine a_aload_nN K dX11_about_28 rfl ?_
      first | refine a_aload_n K dX11_about_29 rfl ?_ | refine a_aload_nN K dX11_about_29 rfl ?_
      refine a_getRs K fd_X11_67 (by exact lm_o hM) (Or.inr ⟨_, rfl⟩) (by exact lm_r736 hM) dX11_about_30 ?_
      refine a_iload_n K dX11_about_33 rfl ?_
      refine a_iald K (by exact lm_kk hM (by decide) (by decide)) (by show vp_in _ (sN T (m 17)); exact lm_ix (z := 999) hM (by decide) (by decide) (show j < 999 by omega) (by decide)) dX11_about_34 ?_
      rw [nI_clamp (by omega)]
      rw [h.root2 hz (by omega)]
      refine a_invV K (m_laysTree hM (h.rep (rootP_live hz)) (by omega) (by omega) (by omega)) my_X11_laysTree ml_X11_252 im_X11_laysTree se_X11_laysTree (ci := 11) (by exact lm_o hM) (by decide) ⟨_, _, rfl⟩ rfl (by omega) (by omega) (by omega) rfl (Nat.le_of_ble_eq_true rfl) dX11_about_35 ?_
      intro r9 S9 hp9
      obtain ⟨rfl, hLy, f9⟩ := hp9
      obtain ⟨h9, q9⟩ := h.scr hP f9 (by decide) (by decide)
      have hM := h9.1
      refine a_iload_n K dX11_about_38 rfl ?_
      refine a_tsIn K dX11_about_39 (off := 52) (tgt := 91) (by decide) (by decide) rfl (by decide) ?_
      first | refine a_aload_n K dX11_about_91 rfl ?_ | refine a_aload_nN K dX11_about_91 rfl ?_
      refine a_invV K (q_leaves (lf := fun i => decide (gL S9 m (ρ i) = 1)) hM hLy (by rw [dpT_len]; omega) (RM.lf (h9.rep (rootP_live hz))).1) my_X11_leaves ml_X11_321 im_X11_leaves se_X11_leaves (ci := 11) (by exact lm_o hM) (by decide) ⟨_, _, rfl⟩ rfl (by omega) (by omega) (by omega) rfl (Nat.le_of_ble_eq_true rfl) dX11_about_92 ?_
      intro r8 S8 hp8
      obtain ⟨rfl, hS8⟩ := hp8
      obtain rfl := hS8.symm
      rw [dpT_sub]
      rw [lfN_lvC (sub z.1 z.2) 0 (RM.lf (h9.rep (rootP_live hz))).2]
      exact a_iret K EE rfl (by omega) (by omega) dX11_about_95 ⟨by unfold aAbout; rw [hz]; rfl, h9, mQ_tr q0 q9⟩
    · subst e
      first | refine a_aload_n K dX11_about_0 rfl ?_ | refine a_aload_nN K dX11_about_0 rfl ?_
      refine a_iconst K dX11_about_1 (v := 0) (by decide) ?_
      refine a_putI K fd_X11_116 (by exact lm_o hM) rfl dX11_about_2 ?_
      have f0 : frM S (wI S 704 (m 33) 0) m [] [704] := frM_wI (by decide) (by decide)
      obtain ⟨T, hT⟩ : ∃ T, T = wI S 704 (m 33) 0 := ⟨_, rfl⟩
      rw [← hT] at f0 ⊢
      obtain ⟨h, q0⟩ := h0.scr hP f0 (by decide) (by decide)
      have hM := h.1
      first | refine a_aload_n K dX11_about_5 rfl ?_ | refine a_aload_nN K dX11_about_5 rfl ?_
      refine a_iload_n K dX11_about_6 rfl ?_
      refine a_invV K (q_mapY h hl9 hz) my_X11_isMap ml_X11_309 im_X11_isMap se_X11_isMap (ci := 11) (by exact lm_o hM) (by decide) ⟨_, _, rfl⟩ rfl (by omega) (by omega) (by omega) rfl (Nat.le_of_ble_eq_true rfl) dX11_about_7 ?_
      intro r9 S9 hp9
      obtain ⟨rfl, hS9⟩ := hp9
      obtain rfl := hS9.symm
      refine a_if_eq K dX11_about_10 (tgt := 25) (by decide) (fun c_10 => absurd c_10 (by decide)) (fun c_10 => ?_)
      refine a_iload_n K dX11_about_13 rfl ?_
      refine a_i2l K dX11_about_14 ?_
      refine a_lconst K dX11_about_15 (v := 0) (by decide) ?_
      refine a_ldc2 K kc_X11_307 dX11_about_16 ?_
      refine a_invS K (q_inY (p := 0) (q := 6) (by decide) (by decide) (by first | assumption | omega)) my_X11_isIn ml_X11_174 st_X11_isIn rfl (by omega) (by omega) (by omega) rfl (Nat.le_of_ble_eq_true rfl) dX11_about_19 ?_
      intro r9 S9 hp9
      obtain ⟨rfl, hS9⟩ := hp9
      obtain rfl := hS9.symm
      refine a_if_ne K dX11_about_22 (tgt := 28) (by decide) (fun c_22 => ?_) (fun c_22 => absurd c_22 (by decide))
      first | refine a_aload_n K dX11_about_28 rfl ?_ | refine a_aload_nN K dX11_about_28 rfl ?_
      first | refine a_aload_n K dX11_about_29 rfl ?_ | refine a_aload_nN K dX11_about_29 rfl ?_
      refine a_getRs K fd_X11_67 (by exact lm_o hM) (Or.inr ⟨_, rfl⟩) (by exact lm_r736 hM) dX11_about_30 ?_
      refine a_iload_n K dX11_about_33 rfl ?_
      refine a_iald K (by exact lm_kk hM (by decide) (by decide)) (by show vp_in _ (sN T (m 17)); exact lm_ix (z := 999) hM (by decide) (by decide) (show j < 999 by omega) (by decide)) dX11_about_34 ?_
      rw [nI_clamp (by omega)]
      rw [h.root2 hz (by omega)]
      refine a_invV K (m_laysTree hM (h.rep (rootP_live hz)) (by omega) (by omega) (by omega)) my_X11_laysTree ml_X11_252 im_X11_laysTree se_X11_laysTree (ci := 11) (by exact lm_o hM) (by decide) ⟨_, _, rfl⟩ rfl (by omega) (by omega) (by omega) rfl (Nat.le_of_ble_eq_true rfl) dX11_about_35 ?_
      intro r9 S9 hp9
      obtain ⟨rfl, hLy, f9⟩ := hp9
      obtain ⟨h9, q9⟩ := h.scr hP f9 (by decide) (by decide)
      have hM := h9.1
      refine a_iload_n K dX11_about_38 rfl ?_
      refine a_tsIn K dX11_about_39 (off := 57) (tgt := 96) (by decide) (by decide) rfl (by decide) ?_
      first | refine a_aload_n K dX11_about_96 rfl ?_ | refine a_aload_nN K dX11_about_96 rfl ?_
      refine a_iconst K dX11_about_97 (v := 0) (by decide) ?_
      refine a_sipush K dX11_about_98 (v := 999) (by decide) ?_
      refine a_invV K (q_sumOf hM hLy (by omega)) my_X11_sumOf ml_X11_324 im_X11_sumOf se_X11_sumOf (ci := 11) (by exact lm_o hM) (by decide) ⟨_, _, rfl⟩ rfl (by omega) (by omega) (by omega) rfl (Nat.le_of_ble_eq_true rfl) dX11_about_101 ?_
      intro r8 S8 hp8
      obtain ⟨rfl, hS8⟩ := hp8
      obtain rfl := hS8.symm
      exact a_iret K EE rfl (by omega) (by omega) dX11_about_104 ⟨by unfold aAbout; rw [hz]; rfl, h9, mQ_tr q0 q9⟩
    · subst e
      first | refine a_aload_n K dX11_about_0 rfl ?_ | refine a_aload_nN K dX11_about_0 rfl ?_
      refine a_iconst K dX11_about_1 (v := 0) (by decide) ?_
      refine a_putI K fd_X11_116 (by exact lm_o hM) rfl dX11_about_2 ?_
      have f0 : frM S (wI S 704 (m 33) 0) m [] [704] := frM_wI (by decide) (by decide)
      obtain ⟨T, hT⟩ : ∃ T, T = wI S 704 (m 33) 0 := ⟨_, rfl⟩
      rw [← hT] at f0 ⊢
      obtain ⟨h, q0⟩ := h0.scr hP f0 (by decide) (by decide)
      have hM := h.1
      first | refine a_aload_n K dX11_about_5 rfl ?_ | refine a_aload_nN K dX11_about_5 rfl ?_
      refine a_iload_n K dX11_about_6 rfl ?_
      refine a_invV K (q_mapY h hl9 hz) my_X11_isMap ml_X11_309 im_X11_isMap se_X11_isMap (ci := 11) (by exact lm_o hM) (by decide) ⟨_, _, rfl⟩ rfl (by omega) (by omega) (by omega) rfl (Nat.le_of_ble_eq_true rfl) dX11_about_7 ?_
      intro r9 S9 hp9
      obtain ⟨rfl, hS9⟩ := hp9
      obtain rfl := hS9.symm
      refine a_if_eq K dX11_about_10 (tgt := 25) (by decide) (fun c_10 => absurd c_10 (by decide)) (fun c_10 => ?_)
      refine a_iload_n K dX11_about_13 rfl ?_
      refine a_i2l K dX11_about_14 ?_
      refine a_lconst K dX11_about_15 (v := 0) (by decide) ?_
      refine a_ldc2 K kc_X11_307 dX11_about_16 ?_
      refine a_invS K (q_inY (p := 0) (q := 6) (by decide) (by decide) (by first | assumption | omega)) my_X11_isIn ml_X11_174 st_X11_isIn rfl (by omega) (by omega) (by omega) rfl (Nat.le_of_ble_eq_true rfl) dX11_about_19 ?_
      intro r9 S9 hp9
      obtain ⟨rfl, hS9⟩ := hp9
      obtain rfl := hS9.symm
      refine a_if_ne K dX11_about_22 (tgt := 28) (by decide) (fun c_22 => ?_) (fun c_22 => absurd c_22 (by decide))
      first | refine a_aload_n K dX11_about_28 rfl ?_ | refine a_aload_nN K dX11_about_28 rfl ?_
      first | refine a_aload_n K dX11_about_29 rfl ?_ | refine a_aload_nN K dX11_about_29 rfl ?_
      refine a_getRs K fd_X11_67 (by exact lm_o hM) (Or.inr ⟨_, rfl⟩) (by exact lm_r736 hM) dX11_about_30 ?_
      refine a_iload_n K dX11_about_33 rfl ?_
      refine a_iald K (by exact lm_kk hM (by decide) (by decide)) (by show vp_in _ (sN T (m 17)); exact lm_ix (z := 999) hM (by decide) (by decide) (show j < 999 by omega) (by decide)) dX11_about_34 ?_
      rw [nI_clamp (by omega)]
      rw [h.root2 hz (by omega)]
      refine a_invV K (m_laysTree hM (h.rep (rootP_live hz)) (by omega) (by omega) (by omega)) my_X11_laysTree ml_X11_252 im_X11_laysTree se_X11_laysTree (ci := 11) (by exact lm_o hM) (by decide) ⟨_, _, rfl⟩ rfl (by omega) (by omega) (by omega) rfl (Nat.le_of_ble_eq_true rfl) dX11_about_35 ?_
      intro r9 S9 hp9
      obtain ⟨rfl, hLy, f9⟩ := hp9
      obtain ⟨h9, q9⟩ := h.scr hP f9 (by decide) (by decide)
      have hM := h9.1
      refine a_iload_n K dX11_about_38 rfl ?_
      refine a_tsIn K dX11_about_39 (off := 66) (tgt := 105) (by decide) (by decide) rfl (by decide) ?_
      first | refine a_aload_n K dX11_about_105 rfl ?_ | refine a_aload_nN K dX11_about_105 rfl ?_
      refine a_getRs K fd_X11_70 (by exact lm_o hM) (Or.inr ⟨_, rfl⟩) (by exact lm_r737 hM) dX11_about_106 ?_
      refine a_iload_n K dX11_about_109 rfl ?_
      refine a_iald K (by exact lm_kk hM (by decide) (by decide)) (by show vp_in _ (sN S9 (m 18)); exact lm_ix (z := 999) hM (by decide) (by decide) (show j < 999 by omega) (by decide)) dX11_about_110 ?_
      rw [nI_clamp (by omega)]
      rw [(h9.from1 hz (by omega)).1]
      exact a_iret K EE rfl (by omega) (by omega) dX11_about_111 ⟨by unfold aAbout; rw [hz]; rfl, h9, mQ_tr q0 q9⟩
    · subst e
      first | refine a_aload_n K dX11_about_0 rfl ?_ | refine a_aload_nN K dX11_about_0 rfl ?_
      refine a_iconst K dX11_about_1 (v := 0) (by decide) ?_
      refine a_putI K fd_X11_116 (by exact lm_o hM) rfl dX11_about_2 ?_
      have f0 : frM S (wI S 704 (m 33) 0) m [] [704] := frM_wI (by decide) (by decide)
      obtain ⟨T, hT⟩ : ∃ T, T = wI S 704 (m 33) 0 := ⟨_, rfl⟩
      rw [← hT] at f0 ⊢
      obtain ⟨h, q0⟩ := h0.scr hP f0 (by decide) (by decide)
      have hM := h.1
      first | refine a_aload_n K dX11_about_5 rfl ?_ | refine a_aload_nN K dX11_about_5 rfl ?_
      refine a_iload_n K dX11_about_6 rfl ?_
      refine a_invV K (q_mapY h hl9 hz) my_X11_isMap ml_X11_309 im_X11_isMap se_X11_isMap (ci := 11) (by exact lm_o hM) (by decide) ⟨_, _, rfl⟩ rfl (by omega) (by omega) (by omega) rfl (Nat.le_of_ble_eq_true rfl) dX11_about_7 ?_
      intro r9 S9 hp9
      obtain ⟨rfl, hS9⟩ := hp9
      obtain rfl := hS9.symm
      refine a_if_eq K dX11_about_10 (tgt := 25) (by decide) (fun c_10 => absurd c_10 (by decide)) (fun c_10 => ?_)
      refine a_iload_n K dX11_about_13 rfl ?_
      refine a_i2l K dX11_about_14 ?_
      refine a_lconst K dX11_about_15 (v := 0) (by decide) ?_
      refine a_ldc2 K kc_X11_307 dX11_about_16 ?_
      refine a_invS K (q_inY (p := 0) (q := 6) (by decide) (by decide) (by first | assumption | omega)) my_X11_isIn ml_X11_174 st_X11_isIn rfl (by omega) (by omega) (by omega) rfl (Nat.le_of_ble_eq_true rfl) dX11_about_19 ?_
      intro r9 S9 hp9
      obtain ⟨rfl, hS9⟩ := hp9
      obtain rfl := hS9.symm
      refine a_if_ne K dX11_about_22 (tgt := 28) (by decide) (fun c_22 => ?_) (fun c_22 => absurd c_22 (by decide))
      first | refine a_aload_n K dX11_about_28 rfl ?_ | refine a_aload_nN K dX11_about_28 rfl ?_
      first | refine a_aload_n K dX11_about_29 rfl ?_ | refine a_aload_nN K dX11_about_29 rfl ?_
      refine a_getRs K fd_X11_67 (by exact lm_o hM) (Or.inr ⟨_, rfl⟩) (by exact lm_r736 hM) dX11_about_30 ?_
      refine a_iload_n K dX11_about_33 rfl ?_
      refine a_iald K (by exact lm_kk hM (by decide) (by decide)) (by show vp_in _ (sN T (m 17)); exact lm_ix (z := 999) hM (by decide) (by decide) (show j < 999 by omega) (by decide)) dX11_about_34 ?_
      rw [nI_clamp (by omega)]
      rw [h.root2 hz (by omega)]
      refine a_invV K (m_laysTree hM (h.rep (rootP_live hz)) (by omega) (by omega) (by omega)) my_X11_laysTree ml_X11_252 im_X11_laysTree se_X11_laysTree (ci := 11) (by exact lm_o hM) (by decide) ⟨_, _, rfl⟩ rfl (by omega) (by omega) (by omega) rfl (Nat.le_of_ble_eq_true rfl) dX11_about_35 ?_
      intro r9 S9 hp9
      obtain ⟨rfl, hLy, f9⟩ := hp9
      obtain ⟨h9, q9⟩ := h.scr hP f9 (by decide) (by decide)
      have hM := h9.1
      refine a_iload_n K dX11_about_38 rfl ?_
      refine a_tsOut K dX11_about_39 (tgt := 112) (by decide) (by decide) ?_
      first | refine a_aload_n K dX11_about_112 rfl ?_ | refine a_aload_nN K dX11_about_112 rfl ?_
      refine a_getRs K fd_X11_73 (by exact lm_o hM) (Or.inr ⟨_, rfl⟩) (by exact lm_r738 hM) dX11_about_113 ?_
      refine a_iload_n K dX11_about_116 rfl ?_
      refine a_iald K (by exact lm_kk hM (by decide) (by decide)) (by show vp_in _ (sN S9 (m 19)); exact lm_ix (z := 999) hM (by decide) (by decide) (show j < 999 by omega) (by decide)) dX11_about_117 ?_
      rw [nI_clamp (by omega)]
      rw [(h9.from1 hz (by omega)).2]
      exact a_iret K EE rfl (by omega) (by omega) dX11_about_118 ⟨by unfold aAbout; rw [hz]; rfl, h9, mQ_tr q0 q9⟩
theorem aNear_out {P : PS} {i k w : Int32} (h : ¬ (0 ≤ w.toInt ∧ w.toInt ≤ 3)) : aNear P i k w = -1 := by
  unfold aNear
  cases hz : rootP P i with
  | none => rfl
  | some z =>
    have n : ∀ c : Int32, 0 ≤ c.toInt → c.toInt ≤ 3 → ¬ w = c := fun c h1 h2 e => h (by rw [e]; exact ⟨h1, h2⟩)
    show nearE (ent z.1 z.2) k w = _
    unfold nearE
    rw [if_neg (n 0 (by decide) (by decide)), if_neg (n 1 (by decide) (by decide)), if_neg (n 2 (by decide) (by decide)), if_neg (n 3 (by decide) (by decide))]
theorem nearE_nl {k w : Int32} {E : List KV} (hs : srt E) (ok : ∀ x ∈ E, okE x) (h : w = 0 ∨ w = 1 ∨ w = 2 ∨ w = 3) : nearE E k w = if w = 0 ∨ w = 2 then nlo k w E (-1) else nhi k w E (-1) := by
  have pr0 : ∀ p, (if p = 0 then (-1 : Int32) else keyPr E p) = keyPr E p := fun p => by
    cases p with
    | zero => rfl
    | succ p => rfl
  rw [near_lo E (-1) hs, near_hi E hs ok, pr0]
  unfold nearE
  rcases h with e | e | e | e
  · subst e
    rw [if_pos rfl, if_pos (Or.inl rfl)]
    by_cases c : kpl E k < E.length ∧ keyAtL E (kpl E k) = k
    · rw [if_pos c, if_pos ⟨rfl, c⟩]
    · rw [if_neg c, if_neg (fun z => c z.2)]
  · subst e
    rw [if_neg (by decide), if_pos rfl, if_neg (by decide), if_neg (fun z => z.2.2 rfl)]
  · subst e
    rw [if_neg (by decide), if_neg (by decide), if_pos rfl, if_pos (Or.inr rfl), if_neg (fun z => absurd z.1 (by decide))]
  · subst e
    rw [if_neg (show ¬ (3 : Int32) = 0 by decide), if_neg (show ¬ (3 : Int32) = 1 by decide), if_neg (show ¬ (3 : Int32) = 2 by decide), if_pos rfl, if_neg (show ¬ ((3 : Int32) = 0 ∨ (3 : Int32) = 2) by decide)]
    by_cases c : kpl E k < E.length ∧ keyAtL E (kpl E k) = k
    · rw [if_pos c, if_pos ⟨c.1, c.2, by decide⟩]
    · rw [if_neg c, if_neg (fun z => c ⟨z.1, z.2.1⟩)]
set_option maxHeartbeats 4000000 in
set_option maxRecDepth 100000 in
theorem q_near {S : aw_S} {m ρ : Nat → Nat} {Z : List Nat × Nat} {mb n9 : Nat} {P : PS} (h0 : RM S m ρ Z mb P) (hJ : PJ n9 P) {i k w : Int32} : aw_M yX11_near cX11_near 7 (some FieldType.int) 7 0 0 [.ref (m 33), .int i, .int k, .int w] S (fun r S2 => r = some (.int (aNear P i k w)) ∧ RM S2 m ρ Z mb P ∧ frS S S2 (mQ m)) := by
  have hP := hJ.1
  have hw3 := hP.1.1
  have hM := h0.1
  have hl9 := hJ.ln
  refine aw_enter (by decide +kernel) (Nat.le_of_ble_eq_true rfl) (fun g K EE => ?_)
  cases hz : rootP P i with
  | none =>
    first | refine a_aload_n K dX11_near_0 rfl ?_ | refine a_aload_nN K dX11_near_0 rfl ?_
    refine a_iconst K dX11_near_1 (v := 0) (by decide) ?_
    refine a_putI K fd_X11_116 (by exact lm_o hM) rfl dX11_near_2 ?_
    have f0 : frM S (wI S 704 (m 33) 0) m [] [704] := frM_wI (by decide) (by decide)
    obtain ⟨T, hT⟩ : ∃ T, T = wI S 704 (m 33) 0 := ⟨_, rfl⟩
    rw [← hT] at f0 ⊢
    obtain ⟨h, q0⟩ := h0.scr hP f0 (by decide) (by decide)
    have hM := h.1
    first | refine a_aload_n K dX11_near_5 rfl ?_ | refine a_aload_nN K dX11_near_5 rfl ?_
    refine a_iload_n K dX11_near_6 rfl ?_
    refine a_invV K (q_mapN h hl9 hz) my_X11_isMap ml_X11_309 im_X11_isMap se_X11_isMap (ci := 11) (by exact lm_o hM) (by decide) ⟨_, _, rfl⟩ rfl (by omega) (by omega) (by omega) rfl (Nat.le_of_ble_eq_true rfl) dX11_near_7 ?_
    intro r9 S9 hp9
    obtain ⟨rfl, hS9⟩ := hp9
    obtain rfl := hS9.symm
    refine a_if_eq K dX11_near_10 (tgt := 25) (by decide) (fun c_10 => ?_) (fun c_10 => absurd c_10 (by decide))
    refine a_iconst K dX11_near_25 (v := -1) (by decide) ?_
    exact a_iret K EE rfl (by omega) (by omega) dX11_near_26 ⟨by unfold aNear; rw [hz], h, q0⟩
  | some z =>
    obtain ⟨j, hij, hj, -⟩ := h0.root hz
    subst hij
    have tz := hP.tz (rootP_live hz)
    have h4z := tz.h4 hw3
    have e60z := tz.2.2.1
    by_cases hw : ¬ (0 ≤ w.toInt ∧ w.toInt ≤ 3)
    · first | refine a_aload_n K dX11_near_0 rfl ?_ | refine a_aload_nN K dX11_near_0 rfl ?_
      refine a_iconst K dX11_near_1 (v := 0) (by decide) ?_
      refine a_putI K fd_X11_116 (by exact lm_o hM) rfl dX11_near_2 ?_
      have f0 : frM S (wI S 704 (m 33) 0) m [] [704] := frM_wI (by decide) (by decide)
      obtain ⟨T, hT⟩ : ∃ T, T = wI S 704 (m 33) 0 := ⟨_, rfl⟩
      rw [← hT] at f0 ⊢
      obtain ⟨h, q0⟩ := h0.scr hP f0 (by decide) (by decide)
      have hM := h.1
      first | refine a_aload_n K dX11_near_5 rfl ?_ | refine a_aload_nN K dX11_near_5 rfl ?_
      refine a_iload_n K dX11_near_6 rfl ?_
      refine a_invV K (q_mapY h hl9 hz) my_X11_isMap ml_X11_309 im_X11_isMap se_X11_isMap (ci := 11) (by exact lm_o hM) (by decide) ⟨_, _, rfl⟩ rfl (by omega) (by omega) (by omega) rfl (Nat.le_of_ble_eq_true rfl) dX11_near_7 ?_
      intro r9 S9 hp9
      obtain ⟨rfl, hS9⟩ := hp9
      obtain rfl := hS9.symm
      refine a_if_eq K dX11_near_10 (tgt := 25) (by decide) (fun c_10 => absurd c_10 (by decide)) (fun c_10 => ?_)
      refine a_iload_n K dX11_near_13 rfl ?_
      refine a_i2l K dX11_near_14 ?_
      refine a_lconst K dX11_near_15 (v := 0) (by decide) ?_
      refine a_ldc2 K kc_X11_305 dX11_near_16 ?_
      refine a_invS K (q_inN (p := 0) (q := 3) (by decide) (by decide) (by first | assumption | omega)) my_X11_isIn ml_X11_174 st_X11_isIn rfl (by omega) (by omega) (by omega) rfl (Nat.le_of_ble_eq_true rfl) dX11_near_19 ?_
      intro r9 S9 hp9
      obtain ⟨rfl, hS9⟩ := hp9
      obtain rfl := hS9.symm
      refine a_if_ne K dX11_near_22 (tgt := 27) (by decide) (fun c_22 => absurd c_22 (fun z => z rfl)) (fun c_22 => ?_)
      refine a_iconst K dX11_near_25 (v := -1) (by decide) ?_
      exact a_iret K EE rfl (by omega) (by omega) dX11_near_26 ⟨by rw [aNear_out hw], h, q0⟩
    have hw := Classical.not_not.mp hw
    have h9w : w = 0 ∨ w = 1 ∨ w = 2 ∨ w = 3 := by
      obtain ⟨n, hn⟩ : ∃ n : Nat, w.toInt = n := ⟨w.toInt.toNat, by omega⟩
      have hn7 : n = 0 ∨ n = 1 ∨ n = 2 ∨ n = 3 := by omega
      have e := i32_of (by omega) hn
      rcases hn7 with q | q | q | q <;> rw [e, q] <;> decide
    have hne := nearE_nl (k := k) tz.hs tz.2.1 h9w
    obtain ⟨RL, hRL⟩ : ∃ RL, nlo k w (ent z.1 z.2) (-1) = RL := ⟨_, rfl⟩
    obtain ⟨RH, hRH⟩ : ∃ RH, nhi k w (ent z.1 z.2) (-1) = RH := ⟨_, rfl⟩
    first | refine a_aload_n K dX11_near_0 rfl ?_ | refine a_aload_nN K dX11_near_0 rfl ?_
    refine a_iconst K dX11_near_1 (v := 0) (by decide) ?_
    refine a_putI K fd_X11_116 (by exact lm_o hM) rfl dX11_near_2 ?_
    have f0 : frM S (wI S 704 (m 33) 0) m [] [704] := frM_wI (by decide) (by decide)
    obtain ⟨T, hT⟩ : ∃ T, T = wI S 704 (m 33) 0 := ⟨_, rfl⟩
    rw [← hT] at f0 ⊢
    obtain ⟨h, q0⟩ := h0.scr hP f0 (by decide) (by decide)
    have hM := h.1
    first | refine a_aload_n K dX11_near_5 rfl ?_ | refine a_aload_nN K dX11_near_5 rfl ?_
    refine a_iload_n K dX11_near_6 rfl ?_
    refine a_invV K (q_mapY h hl9 hz) my_X11_isMap ml_X11_309 im_X11_isMap se_X11_isMap (ci := 11) (by exact lm_o hM) (by decide) ⟨_, _, rfl⟩ rfl (by omega) (by omega) (by omega) rfl (Nat.le_of_ble_eq_true rfl) dX11_near_7 ?_
    intro r9 S9 hp9
    obtain ⟨rfl, hS9⟩ := hp9
    obtain rfl := hS9.symm
    refine a_if_eq K dX11_near_10 (tgt := 25) (by decide) (fun c_10 => absurd c_10 (by decide)) (fun c_10 => ?_)
    refine a_iload_n K dX11_near_13 rfl ?_
    refine a_i2l K dX11_near_14 ?_
    refine a_lconst K dX11_near_15 (v := 0) (by decide) ?_
    refine a_ldc2 K kc_X11_305 dX11_near_16 ?_
    refine a_invS K (q_inY (p := 0) (q := 3) (by decide) (by decide) (by first | assumption | omega)) my_X11_isIn ml_X11_174 st_X11_isIn rfl (by omega) (by omega) (by omega) rfl (Nat.le_of_ble_eq_true rfl) dX11_near_19 ?_
    intro r9 S9 hp9
    obtain ⟨rfl, hS9⟩ := hp9
    obtain rfl := hS9.symm
    refine a_if_ne K dX11_near_22 (tgt := 27) (by decide) (fun c_22 => ?_) (fun c_22 => absurd c_22 (by decide))
    first | refine a_aload_n K dX11_near_27 rfl ?_ | refine a_aload_nN K dX11_near_27 rfl ?_
    first | refine a_aload_n K dX11_near_28 rfl ?_ | refine a_aload_nN K dX11_near_28 rfl ?_
    refine a_getRs K fd_X11_67 (by exact lm_o hM) (Or.inr ⟨_, rfl⟩) (by exact lm_r736 hM) dX11_near_29 ?_
    refine a_iload_n K dX11_near_32 rfl ?_
    refine a_iald K (by exact lm_kk hM (by decide) (by decide)) (by show vp_in _ (sN T (m 17)); exact lm_ix (z := 999) hM (by decide) (by decide) (show j < 999 by omega) (by decide)) dX11_near_33 ?_
    rw [nI_clamp (by omega)]
    rw [h.root2 hz (by omega)]
    refine a_invV K (m_laysTree hM (h.rep (rootP_live hz)) (by omega) (by omega) (by omega)) my_X11_laysTree ml_X11_252 im_X11_laysTree se_X11_laysTree (ci := 11) (by exact lm_o hM) (by decide) ⟨_, _, rfl⟩ rfl (by omega) (by omega) (by omega) rfl (Nat.le_of_ble_eq_true rfl) dX11_near_34 ?_
    intro r9 S9 hp9
    obtain ⟨rfl, hLy, f9⟩ := hp9
    obtain ⟨h9, q9⟩ := h.scr hP f9 (by decide) (by decide)
    have hM := h9.1
    refine a_iconst K dX11_near_37 (v := -1) (by decide) ?_
    refine a_istore K dX11_near_38 (by decide) ?_
    refine a_iconst K dX11_near_40 (v := -1) (by decide) ?_
    refine a_istore K dX11_near_41 (by decide) ?_
    refine a_iconst K dX11_near_43 (v := 0) (by decide) ?_
    refine a_istore K dX11_near_44 (by decide) ?_
    have loop : ∀ (n i : Nat) (x lo hi : Int32), x = nI i → i + n = (ent z.1 z.2).length → nlo k w ((ent z.1 z.2).drop i) lo = RL → nhi k w ((ent z.1 z.2).drop i) hi = RH → aw g 7 S9 0 0 [(6, .int x), (5, .int hi), (4, .int lo), (3, .int w), (2, .int k), (0, .ref (m 33))] [] 46 := by
      intro n
      induction n with
      | zero =>
        intro i x lo hi hx9 hn hlo hhi
        subst hx9
        refine a_iload K dX11_near_46 rfl ?_
        first | refine a_aload_n K dX11_near_48 rfl ?_ | refine a_aload_nN K dX11_near_48 rfl ?_
        refine a_getI K fd_X11_249 (by exact lm_o hM) (Or.inl rfl) dX11_near_49 ?_
        rw [hLy.1]
        refine a_icmp_ge K dX11_near_52 (tgt := 138) (by decide) (fun c_52 => ?_) (fun c_52 => absurd c_52 (fun q => q (nI_le (a := (ent z.1 z.2).length) (b := i) (by omega) (by omega))))
        refine a_iload_n K dX11_near_138 rfl ?_
        refine a_if_eq K dX11_near_139 (tgt := 147) (by decide) (fun c_139 => ?_) (fun c_139 => ?_)
        · have cc : w = 0 ∨ w = 2 := Or.inl c_139
          refine a_iload K dX11_near_147 rfl ?_
          refine a_goto K dX11_near_149 (tgt := 154) (by decide) ?_
          exact a_iret K EE rfl (by omega) (by omega) dX11_near_154 (by first | exact ⟨by rw [show i = (ent z.1 z.2).length by omega, List.drop_length] at hlo hhi; unfold aNear; rw [hz]; show some (Value.int lo) = some (Value.int (nearE (ent z.1 z.2) k w)); rw [hne, if_pos cc, hRL]; exact congrArg (fun q => some (Value.int q)) hlo, h9, mQ_tr q0 q9⟩ | exact ⟨by rw [show i = (ent z.1 z.2).length by omega, List.drop_length] at hlo hhi; unfold aNear; rw [hz]; show some (Value.int hi) = some (Value.int (nearE (ent z.1 z.2) k w)); rw [hne, if_neg cc, hRH]; exact congrArg (fun q => some (Value.int q)) hhi, h9, mQ_tr q0 q9⟩)
        · refine a_iload_n K dX11_near_142 rfl ?_
          refine a_iconst K dX11_near_143 (v := 2) (by decide) ?_
          refine a_icmp_ne K dX11_near_144 (tgt := 152) (by decide) (fun c_144 => ?_) (fun c_144 => ?_)
          · have cc : ¬ (w = 0 ∨ w = 2) := fun q => q.elim c_139 c_144
            refine a_iload K dX11_near_152 rfl ?_
            exact a_iret K EE rfl (by omega) (by omega) dX11_near_154 (by first | exact ⟨by rw [show i = (ent z.1 z.2).length by omega, List.drop_length] at hlo hhi; unfold aNear; rw [hz]; show some (Value.int lo) = some (Value.int (nearE (ent z.1 z.2) k w)); rw [hne, if_pos cc, hRL]; exact congrArg (fun q => some (Value.int q)) hlo, h9, mQ_tr q0 q9⟩ | exact ⟨by rw [show i = (ent z.1 z.2).length by omega, List.drop_length] at hlo hhi; unfold aNear; rw [hz]; show some (Value.int hi) = some (Value.int (nearE (ent z.1 z.2) k w)); rw [hne, if_neg cc, hRH]; exact congrArg (fun q => some (Value.int q)) hhi, h9, mQ_tr q0 q9⟩)
          · have cc : w = 0 ∨ w = 2 := Or.inr (by first | exact c_144 | exact Classical.not_not.mp c_144)
            refine a_iload K dX11_near_147 rfl ?_
            refine a_goto K dX11_near_149 (tgt := 154) (by decide) ?_
            exact a_iret K EE rfl (by omega) (by omega) dX11_near_154 (by first | exact ⟨by rw [show i = (ent z.1 z.2).length by omega, List.drop_length] at hlo hhi; unfold aNear; rw [hz]; show some (Value.int lo) = some (Value.int (nearE (ent z.1 z.2) k w)); rw [hne, if_pos cc, hRL]; exact congrArg (fun q => some (Value.int q)) hlo, h9, mQ_tr q0 q9⟩ | exact ⟨by rw [show i = (ent z.1 z.2).length by omega, List.drop_length] at hlo hhi; unfold aNear; rw [hz]; show some (Value.int hi) = some (Value.int (nearE (ent z.1 z.2) k w)); rw [hne, if_neg cc, hRH]; exact congrArg (fun q => some (Value.int q)) hhi, h9, mQ_tr q0 q9⟩)
      | succ n ih =>
        intro i x lo hi hx9 hn hlo hhi
        subst hx9
        have hil : i < (ent z.1 z.2).length := by omega
        have hx := List.getElem?_eq_getElem hil
        have second : ∀ lo2 : Int32, nlo k w ((ent z.1 z.2).drop (i + 1)) lo2 = RL → aw g 7 S9 0 0 [(6, .int (nI i)), (5, .int hi), (4, .int lo2), (3, .int w), (2, .int k), (0, .ref (m 33))] [] 90 := by
          intro lo2 hlo2
          refine a_iload K dX11_near_90 rfl ?_
          refine a_iconst K dX11_near_92 (v := -1) (by decide) ?_
          refine a_icmp_ne K dX11_near_93 (tgt := 132) (by decide) (fun c_93 => ?_) (fun c_93 => ?_)
          · refine a_iinc K dX11_near_132 (v := 1) rfl (by decide) (by decide) ?_
            refine a_goto K dX11_near_135 (tgt := 46) (by decide) ?_
            exact aw_locl rfl (ih (i + 1) _ _ _ (nI_1 i) (by omega) hlo2 (by rw [nhi_at hil] at hhi; first | (rw [if_pos (by first | exact ⟨by assumption, Or.inl (by assumption)⟩ | exact ⟨by assumption, Or.inr ⟨by assumption, by assumption⟩⟩)] at hhi; exact hhi) | (rw [if_neg (fun q => by first | exact absurd q.1 (by assumption) | exact q.2.elim (by assumption) (fun y => by first | exact absurd y.1 (by assumption) | exact absurd y.2 (by assumption)))] at hhi; exact hhi)))
          · first | refine a_aload_n K dX11_near_96 rfl ?_ | refine a_aload_nN K dX11_near_96 rfl ?_
            refine a_getRs K fd_X11_55 (by exact lm_o hM) (Or.inr ⟨_, rfl⟩) (by exact lm_r730 hM) dX11_near_97 ?_
            refine a_iload K dX11_near_100 rfl ?_
            refine a_iald K (by exact lm_kk hM (by decide) (by decide)) (by show vp_in _ (sN S9 (m 13)); exact lm_ix (z := 140) hM (by decide) (by decide) (show i < 140 by omega) (by decide)) dX11_near_102 ?_
            rw [nI_clamp (by omega)]
            rw [show sA S9 (m 13) i = (ent z.1 z.2)[i].1 from (hLy.2.2.1 i _ hx).1]
            refine a_iload_n K dX11_near_103 rfl ?_
            refine a_icmp_gt K dX11_near_104 (tgt := 123) (by decide) (fun c_104 => ?_) (fun c_104 => ?_)
            · first | refine a_aload_n K dX11_near_123 rfl ?_ | refine a_aload_nN K dX11_near_123 rfl ?_
              refine a_getRs K fd_X11_55 (by exact lm_o hM) (Or.inr ⟨_, rfl⟩) (by exact lm_r730 hM) dX11_near_124 ?_
              refine a_iload K dX11_near_127 rfl ?_
              refine a_iald K (by exact lm_kk hM (by decide) (by decide)) (by show vp_in _ (sN S9 (m 13)); exact lm_ix (z := 140) hM (by decide) (by decide) (show i < 140 by omega) (by decide)) dX11_near_129 ?_
              rw [nI_clamp (by omega)]
              rw [show sA S9 (m 13) i = (ent z.1 z.2)[i].1 from (hLy.2.2.1 i _ hx).1]
              refine a_istore K dX11_near_130 (by decide) ?_
              refine a_iinc K dX11_near_132 (v := 1) rfl (by decide) (by decide) ?_
              refine a_goto K dX11_near_135 (tgt := 46) (by decide) ?_
              exact aw_locl rfl (ih (i + 1) _ _ _ (nI_1 i) (by omega) hlo2 (by rw [nhi_at hil] at hhi; first | (rw [if_pos (by first | exact ⟨by assumption, Or.inl (by assumption)⟩ | exact ⟨by assumption, Or.inr ⟨by assumption, by assumption⟩⟩)] at hhi; exact hhi) | (rw [if_neg (fun q => by first | exact absurd q.1 (by assumption) | exact q.2.elim (by assumption) (fun y => by first | exact absurd y.1 (by assumption) | exact absurd y.2 (by assumption)))] at hhi; exact hhi)))
            · refine a_iload_n K dX11_near_107 rfl ?_
              refine a_iconst K dX11_near_108 (v := 1) (by decide) ?_
              refine a_icmp_ne K dX11_near_109 (tgt := 132) (by decide) (fun c_109 => ?_) (fun c_109 => ?_)
              · refine a_iinc K dX11_near_132 (v := 1) rfl (by decide) (by decide) ?_
                refine a_goto K dX11_near_135 (tgt := 46) (by decide) ?_
                exact aw_locl rfl (ih (i + 1) _ _ _ (nI_1 i) (by omega) hlo2 (by rw [nhi_at hil] at hhi; first | (rw [if_pos (by first | exact ⟨by assumption, Or.inl (by assumption)⟩ | exact ⟨by assumption, Or.inr ⟨by assumption, by assumption⟩⟩)] at hhi; exact hhi) | (rw [if_neg (fun q => by first | exact absurd q.1 (by assumption) | exact q.2.elim (by assumption) (fun y => by first | exact absurd y.1 (by assumption) | exact absurd y.2 (by assumption)))] at hhi; exact hhi)))
              · first | refine a_aload_n K dX11_near_112 rfl ?_ | refine a_aload_nN K dX11_near_112 rfl ?_
                refine a_getRs K fd_X11_55 (by exact lm_o hM) (Or.inr ⟨_, rfl⟩) (by exact lm_r730 hM) dX11_near_113 ?_
                refine a_iload K dX11_near_116 rfl ?_
                refine a_iald K (by exact lm_kk hM (by decide) (by decide)) (by show vp_in _ (sN S9 (m 13)); exact lm_ix (z := 140) hM (by decide) (by decide) (show i < 140 by omega) (by decide)) dX11_near_118 ?_
                rw [nI_clamp (by omega)]
                rw [show sA S9 (m 13) i = (ent z.1 z.2)[i].1 from (hLy.2.2.1 i _ hx).1]
                refine a_iload_n K dX11_near_119 rfl ?_
                refine a_icmp_ne K dX11_near_120 (tgt := 132) (by decide) (fun c_120 => ?_) (fun c_120 => ?_)
                · refine a_iinc K dX11_near_132 (v := 1) rfl (by decide) (by decide) ?_
                  refine a_goto K dX11_near_135 (tgt := 46) (by decide) ?_
                  exact aw_locl rfl (ih (i + 1) _ _ _ (nI_1 i) (by omega) hlo2 (by rw [nhi_at hil] at hhi; first | (rw [if_pos (by first | exact ⟨by assumption, Or.inl (by assumption)⟩ | exact ⟨by assumption, Or.inr ⟨by assumption, by assumption⟩⟩)] at hhi; exact hhi) | (rw [if_neg (fun q => by first | exact absurd q.1 (by assumption) | exact q.2.elim (by assumption) (fun y => by first | exact absurd y.1 (by assumption) | exact absurd y.2 (by assumption)))] at hhi; exact hhi)))
                · first | refine a_aload_n K dX11_near_123 rfl ?_ | refine a_aload_nN K dX11_near_123 rfl ?_
                  refine a_getRs K fd_X11_55 (by exact lm_o hM) (Or.inr ⟨_, rfl⟩) (by exact lm_r730 hM) dX11_near_124 ?_
                  refine a_iload K dX11_near_127 rfl ?_
                  refine a_iald K (by exact lm_kk hM (by decide) (by decide)) (by show vp_in _ (sN S9 (m 13)); exact lm_ix (z := 140) hM (by decide) (by decide) (show i < 140 by omega) (by decide)) dX11_near_129 ?_
                  rw [nI_clamp (by omega)]
                  rw [show sA S9 (m 13) i = (ent z.1 z.2)[i].1 from (hLy.2.2.1 i _ hx).1]
                  refine a_istore K dX11_near_130 (by decide) ?_
                  refine a_iinc K dX11_near_132 (v := 1) rfl (by decide) (by decide) ?_
                  refine a_goto K dX11_near_135 (tgt := 46) (by decide) ?_
                  exact aw_locl rfl (ih (i + 1) _ _ _ (nI_1 i) (by omega) hlo2 (by rw [nhi_at hil] at hhi; first | (rw [if_pos (by first | exact ⟨by assumption, Or.inl (by assumption)⟩ | exact ⟨by assumption, Or.inr ⟨by assumption, by assumption⟩⟩)] at hhi; exact hhi) | (rw [if_neg (fun q => by first | exact absurd q.1 (by assumption) | exact q.2.elim (by assumption) (fun y => by first | exact absurd y.1 (by assumption) | exact absurd y.2 (by assumption)))] at hhi; exact hhi)))
        refine a_iload K dX11_near_46 rfl ?_
        first | refine a_aload_n K dX11_near_48 rfl ?_ | refine a_aload_nN K dX11_near_48 rfl ?_
        refine a_getI K fd_X11_249 (by exact lm_o hM) (Or.inl rfl) dX11_near_49 ?_
        rw [hLy.1]
        refine a_icmp_ge K dX11_near_52 (tgt := 138) (by decide) (fun c_52 => absurd c_52 (nI_ge (a := i) (b := (ent z.1 z.2).length) (by omega) (by omega))) (fun c_52 => ?_)
        first | refine a_aload_n K dX11_near_55 rfl ?_ | refine a_aload_nN K dX11_near_55 rfl ?_
        refine a_getRs K fd_X11_55 (by exact lm_o hM) (Or.inr ⟨_, rfl⟩) (by exact lm_r730 hM) dX11_near_56 ?_
        refine a_iload K dX11_near_59 rfl ?_
        refine a_iald K (by exact lm_kk hM (by decide) (by decide)) (by show vp_in _ (sN S9 (m 13)); exact lm_ix (z := 140) hM (by decide) (by decide) (show i < 140 by omega) (by decide)) dX11_near_61 ?_
        rw [nI_clamp (by omega)]
        rw [show sA S9 (m 13) i = (ent z.1 z.2)[i].1 from (hLy.2.2.1 i _ hx).1]
        refine a_iload_n K dX11_near_62 rfl ?_
        refine a_icmp_lt K dX11_near_63 (tgt := 81) (by decide) (fun c_63 => ?_) (fun c_63 => ?_)
        · first | refine a_aload_n K dX11_near_81 rfl ?_ | refine a_aload_nN K dX11_near_81 rfl ?_
          refine a_getRs K fd_X11_55 (by exact lm_o hM) (Or.inr ⟨_, rfl⟩) (by exact lm_r730 hM) dX11_near_82 ?_
          refine a_iload K dX11_near_85 rfl ?_
          refine a_iald K (by exact lm_kk hM (by decide) (by decide)) (by show vp_in _ (sN S9 (m 13)); exact lm_ix (z := 140) hM (by decide) (by decide) (show i < 140 by omega) (by decide)) dX11_near_87 ?_
          rw [nI_clamp (by omega)]
          rw [show sA S9 (m 13) i = (ent z.1 z.2)[i].1 from (hLy.2.2.1 i _ hx).1]
          refine a_istore K dX11_near_88 (by decide) ?_
          exact aw_locl rfl (second _ (by rw [nlo_at hil] at hlo; first | (rw [if_pos (by first | exact Or.inl (by assumption) | exact Or.inr ⟨by assumption, by assumption⟩)] at hlo; exact hlo) | (rw [if_neg (fun q => q.elim (by assumption) (fun y => by first | exact absurd y.1 (by assumption) | exact absurd y.2 (by assumption)))] at hlo; exact hlo)))
        · refine a_iload_n K dX11_near_66 rfl ?_
          refine a_if_ne K dX11_near_67 (tgt := 90) (by decide) (fun c_67 => ?_) (fun c_67 => ?_)
          · exact aw_locl rfl (second _ (by rw [nlo_at hil] at hlo; first | (rw [if_pos (by first | exact Or.inl (by assumption) | exact Or.inr ⟨by assumption, by assumption⟩)] at hlo; exact hlo) | (rw [if_neg (fun q => q.elim (by assumption) (fun y => by first | exact absurd y.1 (by assumption) | exact absurd y.2 (by assumption)))] at hlo; exact hlo)))
          · first | refine a_aload_n K dX11_near_70 rfl ?_ | refine a_aload_nN K dX11_near_70 rfl ?_
            refine a_getRs K fd_X11_55 (by exact lm_o hM) (Or.inr ⟨_, rfl⟩) (by exact lm_r730 hM) dX11_near_71 ?_
            refine a_iload K dX11_near_74 rfl ?_
            refine a_iald K (by exact lm_kk hM (by decide) (by decide)) (by show vp_in _ (sN S9 (m 13)); exact lm_ix (z := 140) hM (by decide) (by decide) (show i < 140 by omega) (by decide)) dX11_near_76 ?_
            rw [nI_clamp (by omega)]
            rw [show sA S9 (m 13) i = (ent z.1 z.2)[i].1 from (hLy.2.2.1 i _ hx).1]
            refine a_iload_n K dX11_near_77 rfl ?_
            refine a_icmp_ne K dX11_near_78 (tgt := 90) (by decide) (fun c_78 => ?_) (fun c_78 => ?_)
            · exact aw_locl rfl (second _ (by rw [nlo_at hil] at hlo; first | (rw [if_pos (by first | exact Or.inl (by assumption) | exact Or.inr ⟨by assumption, by assumption⟩)] at hlo; exact hlo) | (rw [if_neg (fun q => q.elim (by assumption) (fun y => by first | exact absurd y.1 (by assumption) | exact absurd y.2 (by assumption)))] at hlo; exact hlo)))
            · first | refine a_aload_n K dX11_near_81 rfl ?_ | refine a_aload_nN K dX11_near_81 rfl ?_
              refine a_getRs K fd_X11_55 (by exact lm_o hM) (Or.inr ⟨_, rfl⟩) (by exact lm_r730 hM) dX11_near_82 ?_
              refine a_iload K dX11_near_85 rfl ?_
              refine a_iald K (by exact lm_kk hM (by decide) (by decide)) (by show vp_in _ (sN S9 (m 13)); exact lm_ix (z := 140) hM (by decide) (by decide) (show i < 140 by omega) (by decide)) dX11_near_87 ?_
              rw [nI_clamp (by omega)]
              rw [show sA S9 (m 13) i = (ent z.1 z.2)[i].1 from (hLy.2.2.1 i _ hx).1]
              refine a_istore K dX11_near_88 (by decide) ?_
              exact aw_locl rfl (second _ (by rw [nlo_at hil] at hlo; first | (rw [if_pos (by first | exact Or.inl (by assumption) | exact Or.inr ⟨by assumption, by assumption⟩)] at hlo; exact hlo) | (rw [if_neg (fun q => q.elim (by assumption) (fun y => by first | exact absurd y.1 (by assumption) | exact absurd y.2 (by assumption)))] at hlo; exact hlo)))
    exact aw_locl rfl (loop (ent z.1 z.2).length 0 _ _ _ nI_0.symm (Nat.zero_add _) hRL hRH)
