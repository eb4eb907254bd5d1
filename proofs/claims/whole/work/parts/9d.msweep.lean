/-! the model: sweeps -/
theorem bR_y {P : Prop} {r : Option Value} (h : P) (b : bR P r) : r = some (.int 1) := b.elim (fun z => z.2) (fun z => absurd h z.1)
theorem bR_n {P : Prop} {r : Option Value} (h : ¬ P) (b : bR P r) : r = some (.int 0) := b.elim (fun z => absurd z.1 h) (fun z => z.2)
theorem ob_has {P : PS} : ∀ j, j < 4 → (hasB (obN P 4) (nI j) ↔ (pB P j).isSome = true) := by
  have e : obN P 4 = (if (pB P 3).isSome then (if (pB P 2).isSome then (if (pB P 1).isSome then (if (pB P 0).isSome then (0 : Int32) ||| (1 : Int32) <<< (nI 0 &&& 31) else 0) ||| (1 : Int32) <<< (nI 1 &&& 31) else (if (pB P 0).isSome then (0 : Int32) ||| (1 : Int32) <<< (nI 0 &&& 31) else 0)) ||| (1 : Int32) <<< (nI 2 &&& 31) else (if (pB P 1).isSome then (if (pB P 0).isSome then (0 : Int32) ||| (1 : Int32) <<< (nI 0 &&& 31) else 0) ||| (1 : Int32) <<< (nI 1 &&& 31) else (if (pB P 0).isSome then (0 : Int32) ||| (1 : Int32) <<< (nI 0 &&& 31) else 0))) ||| (1 : Int32) <<< (nI 3 &&& 31) else (if (pB P 2).isSome then (if (pB P 1).isSome then (if (pB P 0).isSome then (0 : Int32) ||| (1 : Int32) <<< (nI 0 &&& 31) else 0) ||| (1 : Int32) <<< (nI 1 &&& 31) else (if (pB P 0).isSome then (0 : Int32) ||| (1 : Int32) <<< (nI 0 &&& 31) else 0)) ||| (1 : Int32) <<< (nI 2 &&& 31) else (if (pB P 1).isSome then (if (pB P 0).isSome then (0 : Int32) ||| (1 : Int32) <<< (nI 0 &&& 31) else 0) ||| (1 : Int32) <<< (nI 1 &&& 31) else (if (pB P 0).isSome then (0 : Int32) ||| (1 : Int32) <<< (nI 0 &&& 31) else 0)))) := rfl
  intro j hj
  have h4 : j = 0 ∨ j = 1 ∨ j = 2 ∨ j = 3 := by omega
  rw [e]
  clear e
  rcases h4 with h4 | h4 | h4 | h4
  · subst h4
    generalize (pB P 0).isSome = b0
    generalize (pB P 1).isSome = b1
    generalize (pB P 2).isSome = b2
    generalize (pB P 3).isSome = b3
    clear hj
    revert b0 b1 b2 b3
    decide
  · subst h4
    generalize (pB P 0).isSome = b0
    generalize (pB P 1).isSome = b1
    generalize (pB P 2).isSome = b2
    generalize (pB P 3).isSome = b3
    clear hj
    revert b0 b1 b2 b3
    decide
  · subst h4
    generalize (pB P 0).isSome = b0
    generalize (pB P 1).isSome = b1
    generalize (pB P 2).isSome = b2
    generalize (pB P 3).isSome = b3
    clear hj
    revert b0 b1 b2 b3
    decide
  · subst h4
    generalize (pB P 0).isSome = b0
    generalize (pB P 1).isSome = b1
    generalize (pB P 2).isSome = b2
    generalize (pB P 3).isSome = b3
    clear hj
    revert b0 b1 b2 b3
    decide
/-- rows of trees that live -/
def lvB (P : PS) (i : Nat) : Bool := pH P i || (pY P && pI P i)
def mpR (ρ : Nat → Nat) (P : PS) (i : Nat) : List Nat := match (pM P)[i]? with
  | some x => rwT ρ x.1.1 x.1.2
  | none => []
def lvR (ρ : Nat → Nat) (P : PS) : Nat → List Nat
  | 0 => []
  | i + 1 => lvR ρ P i ++ (if lvB P i = true then mpR ρ P i else [])
def bpR (ρ : Nat → Nat) (P : PS) (j : Nat) : List Nat := match pB P j with
  | some b => rwT ρ b.1.1 b.1.2
  | none => []
def bdR (ρ : Nat → Nat) (P : PS) : Nat → List Nat
  | 0 => []
  | j + 1 => bdR ρ P j ++ bpR ρ P j
theorem lvR_mem {ρ : Nat → Nat} {P : PS} {r : Nat} : ∀ {n i : Nat} {x : MI}, i < n → lvB P i = true → (pM P)[i]? = some x → r ∈ rwT ρ x.1.1 x.1.2 → r ∈ lvR ρ P n
  | 0, _, _, h, _, _, _ => absurd h (Nat.not_lt_zero _)
  | n + 1, i, x, h, hl, hx, hr => by
    rw [lvR]
    by_cases e : i = n
    · refine List.mem_append_right _ ?_
      rw [← e, if_pos hl, mpR, hx]
      exact hr
    · exact List.mem_append_left _ (lvR_mem (by omega) hl hx hr)
theorem bdR_mem {ρ : Nat → Nat} {P : PS} {r : Nat} : ∀ {n j : Nat} {b : BI}, j < n → pB P j = some b → r ∈ rwT ρ b.1.1 b.1.2 → r ∈ bdR ρ P n
  | 0, _, _, h, _, _ => absurd h (Nat.not_lt_zero _)
  | n + 1, j, b, h, hb, hr => by
    rw [bdR]
    by_cases e : j = n
    · refine List.mem_append_right _ ?_
      rw [← e, bpR, hb]
      exact hr
    · exact List.mem_append_left _ (bdR_mem (by omega) hb hr)
theorem cnt_or {α : Type} (p q : α → Bool) : ∀ l : List α, l.countP (fun x => p x || q x) ≤ l.countP p + l.countP q
  | [] => Nat.le_refl _
  | a :: l => by
    have ih := cnt_or p q l
    rw [List.countP_cons, List.countP_cons, List.countP_cons]
    cases p a <;> cases q a <;> simp <;> omega
theorem cnt_one (x : Nat) : ∀ n, (List.range n).countP (fun r => decide (r = x)) ≤ 1 ∧ (n ≤ x → (List.range n).countP (fun r => decide (r = x)) = 0)
  | 0 => ⟨Nat.zero_le _, fun _ => rfl⟩
  | n + 1 => by
    obtain ⟨h1, h2⟩ := cnt_one x n
    rw [List.range_succ, List.countP_append, List.countP_singleton]
    by_cases e : n = x
    · have h3 := h2 (by omega)
      rw [h3]
      exact ⟨by simp [e], fun z => by omega⟩
    · rw [if_neg (by simpa using e)]
      exact ⟨h1, fun z => h2 (by omega)⟩
theorem cnt_mem (n : Nat) : ∀ L : List Nat, (List.range n).countP (fun r => decide (r ∈ L)) ≤ L.length
  | [] => by
    have e : (fun r : Nat => decide (r ∈ ([] : List Nat))) = (fun _ => false) := funext (fun r => by simp)
    rw [e, List.countP_false]
    exact Nat.le_refl _
  | x :: L => by
    have e : (fun r : Nat => decide (r ∈ x :: L)) = (fun r => decide (r = x) || decide (r ∈ L)) := funext (fun r => by simp)
    rw [e, List.length_cons]
    have h1 := cnt_or (fun r => decide (r = x)) (fun r => decide (r ∈ L)) (List.range n)
    have h2 := (cnt_one x n).1
    have h3 := cnt_mem n L
    omega
theorem lvR_len {ρ : Nat → Nat} {P : PS} (hs : ∀ z, LvT P z → (ndl z.1 z.2).length ≤ 61) : ∀ n, (lvR ρ P n).length ≤ 61 * (List.range n).countP (lvB P)
  | 0 => Nat.le_refl _
  | n + 1 => by
    have ih := lvR_len (ρ := ρ) hs n
    rw [lvR, List.length_append, List.range_succ, List.countP_append, List.countP_singleton]
    by_cases e : lvB P n = true
    · rw [if_pos e, if_pos e]
      have h1 : (mpR ρ P n).length ≤ 61 := by
        unfold mpR
        cases hx : (pM P)[n]? with
        | none => exact Nat.zero_le _
        | some x =>
          show (rwT ρ x.1.1 x.1.2).length ≤ 61
          rw [rwT, List.length_map]
          refine hs x.1 (Or.inl ⟨n, x, hx, rfl, ?_⟩)
          unfold lvB at e
          simpa using e
      omega
    · rw [if_neg e, if_neg e, List.length_nil]
      omega
theorem bdR_len {ρ : Nat → Nat} {P : PS} (hs : ∀ z, LvT P z → (ndl z.1 z.2).length ≤ 61) : ∀ n, n ≤ 4 → (bdR ρ P n).length ≤ 61 * n
  | 0, _ => Nat.le_refl _
  | n + 1, h => by
    have ih := bdR_len (ρ := ρ) hs n (by omega)
    rw [bdR, List.length_append]
    have h1 : (bpR ρ P n).length ≤ 61 := by
      unfold bpR
      cases hb : pB P n with
      | none => exact Nat.zero_le _
      | some b =>
        show (rwT ρ b.1.1 b.1.2).length ≤ 61
        rw [rwT, List.length_map]
        exact hs b.1 (Or.inr ⟨n, b, by omega, hb, rfl⟩)
    omega
theorem lvB_cnt {P : PS} (h1 : hcnt (pH P) ≤ 16) (h2 : hcnt (pI P) ≤ 16) {n : Nat} (hn : n ≤ 999) : (List.range n).countP (lvB P) ≤ 32 := by
  have e1 : (List.range n).countP (lvB P) ≤ (List.range n).countP (pH P) + (List.range n).countP (fun i => pY P && pI P i) := cnt_or (pH P) (fun i => pY P && pI P i) (List.range n)
  have e2 : (List.range n).countP (fun i => pY P && pI P i) ≤ (List.range n).countP (pI P) := List.countP_mono_left (fun x _ hx => by simp at hx; exact hx.2)
  have e3 : ∀ f : Nat → Bool, (List.range n).countP f ≤ (List.range 999).countP f := fun f => by
    have : List.Sublist (List.range n) (List.range 999) := List.range_sublist.mpr hn
    exact this.countP_le
  have e4 := e3 (pH P)
  have e5 := e3 (pI P)
  unfold hcnt at h1 h2
  omega
theorem fl_y {mk : Nat → Bool} {i : Nat} (h : mk i = true) : (List.range (i + 1)).filter (fun r => !mk r) = (List.range i).filter (fun r => !mk r) := by
  have e : [i].filter (fun r => !mk r) = [] := by simp [h]
  rw [List.range_succ, List.filter_append, e, List.append_nil]
theorem fl_n {mk : Nat → Bool} {i : Nat} (h : ¬ mk i = true) : (List.range (i + 1)).filter (fun r => !mk r) = (List.range i).filter (fun r => !mk r) ++ [i] := by
  have e : [i].filter (fun r => !mk r) = [i] := by simp [h]
  rw [List.range_succ, List.filter_append, e]
set_option maxHeartbeats 4000000 in
set_option maxRecDepth 100000 in
theorem q_sweeps {S : aw_S} {m ρ : Nat → Nat} {Z : List Nat × Nat} {mb : Nat} {P : PS} (hM : LM S m) (hN : RN S m ρ Z P) (hK : RK S m mb) (hmb : mb + 1 < 2147483000) (h17 : ∀ (i : Nat) (x : MI), (pM P)[i]? = some x → sA S (m 17) i = nI (ρ x.1.2.1)) (h20 : ∀ (j : Nat) (b : BI), j < 4 → pB P j = some b → sA S (m 20) j = nI (ρ b.1.2.1)) (h24 : ∀ i, i < 999 → sA S (m 24) i = (if pH P i = true then 1 else 0)) (h25 : ∀ i, i < (pM P).length → sA S (m 25) i = (if pI P i = true then 1 else 0)) (h745 : sI S 745 (m 33) = nI (pM P).length) (h747 : sI S 747 (m 33) = obN P 4) (h748 : sI S 748 (m 33) = (if pY P = true then 1 else 0)) (hs : ∀ z, LvT P z → (ndl z.1 z.2).length ≤ 61 ∧ z.1 ≤ 4) (hc1 : hcnt (pH P) ≤ 16) (hc2 : hcnt (pI P) ≤ 16) (hl9 : (pM P).length ≤ 999) : aw_M yX11_sweeps cX11_sweeps 3 (none : Option FieldType) 7 0 0 [.ref (m 33)] S (fun r S2 => r = none ∧ ∃ Z2, RN S2 m ρ Z2 P ∧ RK S2 m (mb + 1) ∧ 5000 < rmM Z2 ∧ frM S S2 m [7, 8] [721, 726]) := by
  obtain ⟨hk1, st, hst, h726, hmk⟩ := hK
  obtain ⟨⟨F, u⟩, rfl⟩ : ∃ q : List Nat × Nat, q = Z := ⟨Z, rfl⟩
  have hFr : FrM S m F u := hN.1
  have hu12 := hFr.2.2.1
  have hF12 := hFr.2.2.2.1
  refine aw_enter (by decide +kernel) (Nat.le_of_ble_eq_true rfl) (fun g K EE => ?_)
  have loopC : ∀ (mk : Nat → Bool) (B : aw_S), LM B m → MkM B m (nI (st + 1)) mk → mk = mrM (fun _ => false) (lvR ρ P (pM P).length ++ bdR ρ P 4) → frM S B m [7] [726] → (∀ r, r < 12000 → sA B (m 7) r = sA S (m 7) r ∨ sA B (m 7) r = nI (st + 1)) → ∀ (n i : Nat) (x b : Int32) (T : aw_S), x = nI i → i + n = u → LM T m → frM B T m [8] [721] → sI T 721 (m 33) = nI ((List.range i).filter (fun r => !mk r)).length → (∀ k r, ((List.range i).filter (fun r => !mk r))[k]? = some r → sA T (m 8) k = nI r) → aw g 3 T 0 0 [(2, .int x), (1, .int b), (0, .ref (m 33))] [] 130 := by
    intro mk B hMB hkB hmkE fB hold n
    have hM0 := hM
    induction n with
    | zero =>
      intro i x b T hx hn hM fC h721 hrow
      subst hx
      have h722 : sI T 722 (m 33) = nI u := (fC.2 722 (by decide)).trans ((fB.2 722 (by decide)).trans hFr.2.1)
      have e7 : sA T (m 7) = sA B (m 7) := fC.A hMB (by decide) (by decide) (by decide)
      have h726 : sI T 726 (m 33) = nI (st + 1) := (fC.2 726 (by decide)).trans hkB.1
      refine a_iload_n K dX11_sweeps_130 rfl ?_
      first | refine a_aload_n K dX11_sweeps_131 rfl ?_ | refine a_aload_nN K dX11_sweeps_131 rfl ?_
      refine a_getI K fd_X11_187 (by exact lm_o hM) (Or.inl rfl) dX11_sweeps_132 ?_
      rw [h722]
      refine a_icmp_ge K dX11_sweeps_135 (tgt := 180) (by decide) (fun c_135 => ?_) (fun c_135 => absurd c_135 (fun z => z (nI_le (a := u) (b := i) (by omega) (by omega))))
      exact a_vret K EE (by omega) (by omega) dX11_sweeps_180 (by
        have hi : i = u := by omega
        subst hi
        have fT : frM S T m [7, 8] [721, 726] := (fB.up (by decide) (by decide)).tr (fC.up (by decide) (by decide))
        have hFl : ((List.range i).filter (fun r => !mk r)).length ≤ i := Nat.le_trans (List.length_filter_le _ _) (by rw [List.length_range]; exact Nat.le_refl _)
        have hmem : ∀ r, r ∈ (List.range i).filter (fun r => !mk r) ↔ r < i ∧ mk r = false := fun r => by rw [List.mem_filter, List.mem_range]; simp
        refine ⟨rfl, ((List.range i).filter (fun r => !mk r), i), ⟨⟨h721, (fT.2 722 (by decide)).trans hFr.2.1, hu12, by show ((List.range i).filter (fun r => !mk r)).length ≤ 12000; omega, fun k r hr => ⟨hrow k r hr, ((hmem r).mp (List.mem_of_getElem? hr)).1⟩⟩, List.nodup_range.filter _, ⟨fun k hk => ?_, hN.2.2.1.2⟩, fun z hz => fT.rep hM0 (by decide) (by decide) (by decide) (by decide) (by decide) (by decide) (hN.2.2.2.1 z hz), (fT.2 724 (by decide)).trans hN.2.2.2.2⟩, ?_, ?_, fT⟩
        · have h9 := hN.2.2.1.1 k hk
          refine ⟨h9.1, h9.2.1, fun z => ?_⟩
          have h8 := ((hmem _).mp z).2
          obtain ⟨z, hz, y, hy, e⟩ := hk
          have hr : ρ k ∈ rwT ρ z.1 z.2 := List.mem_map.mpr ⟨y, hy, by rw [e]⟩
          have hin : ρ k ∈ lvR ρ P (pM P).length ++ bdR ρ P 4 := by
            rcases hz with ⟨a, x, h1, h2, h3⟩ | ⟨a, c, h1, h2, h3⟩
            · refine List.mem_append_left _ (lvR_mem (List.getElem?_eq_some_iff.mp h1).1 ?_ h1 (by rw [h2]; exact hr))
              unfold lvB
              simpa using h3
            · exact List.mem_append_right _ (bdR_mem h1 h2 (by rw [h3]; exact hr))
          rw [hmkE] at h8
          unfold mrM at h8
          simp [hin] at h8
        · exact RK_mk (S := S) (st := st + 1) (mk := mk) (fun r hr => by obtain ⟨x, hx, ex⟩ := hmk r hr; exact ⟨x, by omega, ex⟩) ⟨(fC.2 726 (by decide)).trans hkB.1, fun r hr => by rw [fC.A hMB (by decide) (by decide) (by decide)]; exact hkB.2 r hr⟩ (fun r hr => by rw [fC.A hMB (by decide) (by decide) (by decide)]; exact hold r hr) hmb (by omega)
        · show 5000 < ((List.range i).filter (fun r => !mk r)).length + (12000 - i)
          have c1 : ((List.range i).filter (fun r => !mk r)).length = (List.range i).countP (fun r => !mk r) := (List.countP_eq_length_filter ..).symm
          have c2 := List.length_eq_countP_add_countP (fun r => mk r) (l := List.range i)
          rw [List.length_range] at c2
          have c3 : (List.range i).countP (fun r => mk r) ≤ (lvR ρ P (pM P).length ++ bdR ρ P 4).length := by
            have e9 : (fun r => mk r) = (fun r => decide (r ∈ lvR ρ P (pM P).length ++ bdR ρ P 4)) := funext (fun r => by rw [hmkE]; unfold mrM; simp)
            rw [e9]
            exact cnt_mem i _
          have c4 := lvR_len (ρ := ρ) (fun z hz => (hs z hz).1) (pM P).length
          have c5 := bdR_len (ρ := ρ) (fun z hz => (hs z hz).1) 4 (Nat.le_refl _)
          have c6 := lvB_cnt hc1 hc2 hl9
          rw [List.length_append] at c3
          have c7 : (List.range i).countP (fun a => decide ¬ (fun r => mk r) a = true) = (List.range i).countP (fun r => !mk r) := congrArg (fun p => (List.range i).countP p) (funext (fun r => by cases hq : mk r <;> simp [hq]))
          rw [c7] at c2
          rw [c1]
          omega)
    | succ n ih =>
      intro i x b T hx hn hM fC h721 hrow
      subst hx
      have h722 : sI T 722 (m 33) = nI u := (fC.2 722 (by decide)).trans ((fB.2 722 (by decide)).trans hFr.2.1)
      have e7 : sA T (m 7) = sA B (m 7) := fC.A hMB (by decide) (by decide) (by decide)
      have h726 : sI T 726 (m 33) = nI (st + 1) := (fC.2 726 (by decide)).trans hkB.1
      have hFl : ((List.range i).filter (fun r => !mk r)).length ≤ i := Nat.le_trans (List.length_filter_le _ _) (by rw [List.length_range]; exact Nat.le_refl _)
      by_cases hm : mk i = true
      · refine a_iload_n K dX11_sweeps_130 rfl ?_
        first | refine a_aload_n K dX11_sweeps_131 rfl ?_ | refine a_aload_nN K dX11_sweeps_131 rfl ?_
        refine a_getI K fd_X11_187 (by exact lm_o hM) (Or.inl rfl) dX11_sweeps_132 ?_
        rw [h722]
        refine a_icmp_ge K dX11_sweeps_135 (tgt := 180) (by decide) (fun c_135 => absurd c_135 (nI_ge (a := i) (b := u) (by omega) (by omega))) (fun c_135 => ?_)
        first | refine a_aload_n K dX11_sweeps_138 rfl ?_ | refine a_aload_nN K dX11_sweeps_138 rfl ?_
        refine a_getRs K fd_X11_32 (by exact lm_o hM) (Or.inr ⟨_, rfl⟩) (by exact lm_r717 hM) dX11_sweeps_139 ?_
        refine a_iload_n K dX11_sweeps_142 rfl ?_
        refine a_iald K (by exact lm_kk hM (by decide) (by decide)) (by show vp_in _ (sN T (m 7)); exact lm_ix (z := 12000) hM (by decide) (by decide) (show i < 12000 by omega) (by decide)) dX11_sweeps_143 ?_
        rw [nI_clamp (by omega)]
        rw [e7]
        first | refine a_aload_n K dX11_sweeps_144 rfl ?_ | refine a_aload_nN K dX11_sweeps_144 rfl ?_
        refine a_getI K fd_X11_255 (by exact lm_o hM) (Or.inl rfl) dX11_sweeps_145 ?_
        rw [h726]
        refine a_icmp_ne K dX11_sweeps_148 (tgt := 154) (by decide) (fun c_148 => absurd c_148 (fun z => z ((hkB.2 i (by omega)).mpr hm))) (fun c_148 => ?_)
        refine a_goto K dX11_sweeps_151 (tgt := 174) (by decide) ?_
        refine a_iinc K dX11_sweeps_174 (v := 1) rfl (by decide) (by decide) ?_
        refine a_goto K dX11_sweeps_177 (tgt := 130) (by decide) ?_
        exact aw_locl rfl (ih (i + 1) _ b T (nI_1 i) (by omega) hM fC (by rw [fl_y hm]; exact h721) (by rw [fl_y hm]; exact hrow))
      · refine a_iload_n K dX11_sweeps_130 rfl ?_
        first | refine a_aload_n K dX11_sweeps_131 rfl ?_ | refine a_aload_nN K dX11_sweeps_131 rfl ?_
        refine a_getI K fd_X11_187 (by exact lm_o hM) (Or.inl rfl) dX11_sweeps_132 ?_
        rw [h722]
        refine a_icmp_ge K dX11_sweeps_135 (tgt := 180) (by decide) (fun c_135 => absurd c_135 (nI_ge (a := i) (b := u) (by omega) (by omega))) (fun c_135 => ?_)
        first | refine a_aload_n K dX11_sweeps_138 rfl ?_ | refine a_aload_nN K dX11_sweeps_138 rfl ?_
        refine a_getRs K fd_X11_32 (by exact lm_o hM) (Or.inr ⟨_, rfl⟩) (by exact lm_r717 hM) dX11_sweeps_139 ?_
        refine a_iload_n K dX11_sweeps_142 rfl ?_
        refine a_iald K (by exact lm_kk hM (by decide) (by decide)) (by show vp_in _ (sN T (m 7)); exact lm_ix (z := 12000) hM (by decide) (by decide) (show i < 12000 by omega) (by decide)) dX11_sweeps_143 ?_
        rw [nI_clamp (by omega)]
        rw [e7]
        first | refine a_aload_n K dX11_sweeps_144 rfl ?_ | refine a_aload_nN K dX11_sweeps_144 rfl ?_
        refine a_getI K fd_X11_255 (by exact lm_o hM) (Or.inl rfl) dX11_sweeps_145 ?_
        rw [h726]
        refine a_icmp_ne K dX11_sweeps_148 (tgt := 154) (by decide) (fun c_148 => ?_) (fun c_148 => absurd c_148 (fun z => hm ((hkB.2 i (by omega)).mp z)))
        first | refine a_aload_n K dX11_sweeps_154 rfl ?_ | refine a_aload_nN K dX11_sweeps_154 rfl ?_
        refine a_getRs K fd_X11_35 (by exact lm_o hM) (Or.inr ⟨_, rfl⟩) (by exact lm_r718 hM) dX11_sweeps_155 ?_
        first | refine a_aload_n K dX11_sweeps_158 rfl ?_ | refine a_aload_nN K dX11_sweeps_158 rfl ?_
        refine a_getI K fd_X11_184 (by exact lm_o hM) (Or.inl rfl) dX11_sweeps_159 ?_
        rw [h721]
        refine a_iload_n K dX11_sweeps_162 rfl ?_
        refine a_iast K (by exact lm_kk hM (by decide) (by decide)) (by show vp_in _ (sN T (m 8)); exact lm_ix (z := 12000) hM (by decide) (by decide) (show ((List.range i).filter (fun r => !mk r)).length < 12000 by omega) (by decide)) dX11_sweeps_163 ?_
        rw [nI_clamp (by omega)]
        first | refine a_aload_n K dX11_sweeps_164 rfl ?_ | refine a_aload_nN K dX11_sweeps_164 rfl ?_
        refine a_dup K dX11_sweeps_165 rfl ?_
        refine a_getI K fd_X11_184 (by exact lm_o hM) (Or.inl rfl) dX11_sweeps_166 ?_
        rw [show sI (wA T (m 8) ((List.range i).filter (fun r => !mk r)).length (nI i)) 721 (m 33) = nI ((List.range i).filter (fun r => !mk r)).length from h721]
        refine a_iconst K dX11_sweeps_169 (v := 1) (by decide) ?_
        refine a_iadd K dX11_sweeps_170 ?_
        rw [nI_1]
        refine a_putI K fd_X11_184 (by exact lm_o hM) rfl dX11_sweeps_171 ?_
        refine a_iinc K dX11_sweeps_174 (v := 1) rfl (by decide) (by decide) ?_
        refine a_goto K dX11_sweeps_177 (tgt := 130) (by decide) ?_
        have f9 : frM T (wI (wA T (m 8) ((List.range i).filter (fun r => !mk r)).length (nI i)) 721 (m 33) (nI (((List.range i).filter (fun r => !mk r)).length + 1))) m [8] [721] := (frM_wA (by decide)).tr (frM_wI (by decide) (by decide))
        exact aw_locl rfl (ih (i + 1) _ b _ (nI_1 i) (by omega) (f9.lay hM) (fC.tr f9) (by rw [fl_n hm, List.length_append, List.length_singleton]; exact wI_at) (fun k r hr => by
          rw [fl_n hm] at hr
          show sA (wA T (m 8) ((List.range i).filter (fun r => !mk r)).length (nI i)) (m 8) k = nI r
          rcases get_app1 hr with ⟨h1, h2⟩ | ⟨h1, h2⟩
          · rw [sA_wA, if_neg (fun z => absurd z.2 (by omega))]
            exact hrow k r h2
          · rw [sA_wA, if_pos ⟨rfl, h1⟩, h2]))
  have loopB : ∀ (n j : Nat) (x b : Int32) (T : aw_S), x = nI j → j + n = 4 → LM T m → MkM T m (nI (st + 1)) (mrM (fun _ => false) (lvR ρ P (pM P).length ++ bdR ρ P j)) → frM S T m [7] [726] → (∀ r, r < 12000 → sA T (m 7) r = sA S (m 7) r ∨ sA T (m 7) r = nI (st + 1)) → aw g 3 T 0 0 [(2, .int x), (1, .int b), (0, .ref (m 33))] [] 88 := by
    have hM0 := hM
    intro n
    induction n with
    | zero =>
      intro j x b T hx hn hM hk fB hold
      subst hx
      refine a_iload_n K dX11_sweeps_88 rfl ?_
      refine a_iconst K dX11_sweeps_89 (v := 4) (by decide) ?_
      refine a_icmp_ge K dX11_sweeps_90 (tgt := 123) (by decide) (fun c_90 => ?_) (fun c_90 => absurd c_90 (fun z => z (by rw [show j = 4 by omega]; decide)))
      first | refine a_aload_n K dX11_sweeps_123 rfl ?_ | refine a_aload_nN K dX11_sweeps_123 rfl ?_
      refine a_iconst K dX11_sweeps_124 (v := 0) (by decide) ?_
      refine a_putI K fd_X11_184 (by exact lm_o hM) rfl dX11_sweeps_125 ?_
      refine a_iconst K dX11_sweeps_128 (v := 0) (by decide) ?_
      refine a_istore_n K dX11_sweeps_129 (by decide) ?_
      have f9 : frM T (wI T 721 (m 33) 0) m [8] [721] := frM_wI (by decide) (by decide)
      rw [show j = 4 by omega] at hk
      exact aw_locl rfl (loopC _ T hM hk rfl fB hold u 0 _ b _ nI_0.symm (Nat.zero_add _) (f9.lay hM) f9 wI_at (fun k r hr => absurd hr (by simp)))
    | succ n ih =>
      intro j x b T hx hn hM hk fB hold
      subst hx
      have h747T : sI T 747 (m 33) = obN P 4 := (fB.2 747 (by decide)).trans h747
      have e20 : sA T (m 20) = sA S (m 20) := fB.A hM0 (by decide) (by decide) (by decide)
      cases hb : pB P j with
      | none =>
        refine a_iload_n K dX11_sweeps_88 rfl ?_
        refine a_iconst K dX11_sweeps_89 (v := 4) (by decide) ?_
        refine a_icmp_ge K dX11_sweeps_90 (tgt := 123) (by decide) (fun c_90 => absurd c_90 (fun z => absurd z (by have h9 : j = 0 ∨ j = 1 ∨ j = 2 ∨ j = 3 := (by omega); rcases h9 with e | e | e | e <;> rw [e] <;> decide))) (fun c_90 => ?_)
        first | refine a_aload_n K dX11_sweeps_93 rfl ?_ | refine a_aload_nN K dX11_sweeps_93 rfl ?_
        refine a_getI K fd_X11_268 (by exact lm_o hM) (Or.inl rfl) dX11_sweeps_94 ?_
        rw [h747T]
        refine a_iload_n K dX11_sweeps_97 rfl ?_
        refine a_invS K ((q_has (s := obN P 4) (k := nI j)).post (fun r S2 hp => (⟨bR_n (fun z => by have h9 := (ob_has j (by omega)).mp z; rw [hb] at h9; exact absurd h9 (by decide)) hp.2, hp.1⟩ : r = some (.int 0) ∧ S2 = T))) my_X11_has ml_X11_271 st_X11_has rfl (by omega) (by omega) (by omega) rfl (Nat.le_of_ble_eq_true rfl) dX11_sweeps_98 ?_
        intro r9 S9 hp9
        obtain ⟨rfl, hS9⟩ := hp9
        obtain rfl := hS9.symm
        refine a_if_eq K dX11_sweeps_101 (tgt := 117) (by decide) (fun c_101 => ?_) (fun c_101 => absurd c_101 (by decide))
        refine a_iinc K dX11_sweeps_117 (v := 1) rfl (by decide) (by decide) ?_
        refine a_goto K dX11_sweeps_120 (tgt := 88) (by decide) ?_
        exact aw_locl rfl (ih (j + 1) _ b T (nI_1 j) (by omega) hM (by rw [bdR, bpR, hb, List.append_nil]; exact hk) fB hold)
      | some c =>
        have hhd := (hs c.1 (Or.inr ⟨j, c, by omega, hb, rfl⟩)).2
        refine a_iload_n K dX11_sweeps_88 rfl ?_
        refine a_iconst K dX11_sweeps_89 (v := 4) (by decide) ?_
        refine a_icmp_ge K dX11_sweeps_90 (tgt := 123) (by decide) (fun c_90 => absurd c_90 (fun z => absurd z (by have h9 : j = 0 ∨ j = 1 ∨ j = 2 ∨ j = 3 := (by omega); rcases h9 with e | e | e | e <;> rw [e] <;> decide))) (fun c_90 => ?_)
        first | refine a_aload_n K dX11_sweeps_93 rfl ?_ | refine a_aload_nN K dX11_sweeps_93 rfl ?_
        refine a_getI K fd_X11_268 (by exact lm_o hM) (Or.inl rfl) dX11_sweeps_94 ?_
        rw [h747T]
        refine a_iload_n K dX11_sweeps_97 rfl ?_
        refine a_invS K ((q_has (s := obN P 4) (k := nI j)).post (fun r S2 hp => (⟨bR_y ((ob_has j (by omega)).mpr (by rw [hb]; rfl)) hp.2, hp.1⟩ : r = some (.int 1) ∧ S2 = T))) my_X11_has ml_X11_271 st_X11_has rfl (by omega) (by omega) (by omega) rfl (Nat.le_of_ble_eq_true rfl) dX11_sweeps_98 ?_
        intro r9 S9 hp9
        obtain ⟨rfl, hS9⟩ := hp9
        obtain rfl := hS9.symm
        refine a_if_eq K dX11_sweeps_101 (tgt := 117) (by decide) (fun c_101 => absurd c_101 (by decide)) (fun c_101 => ?_)
        refine a_iload_n K dX11_sweeps_104 rfl ?_
        first | refine a_aload_n K dX11_sweeps_105 rfl ?_ | refine a_aload_nN K dX11_sweeps_105 rfl ?_
        first | refine a_aload_n K dX11_sweeps_106 rfl ?_ | refine a_aload_nN K dX11_sweeps_106 rfl ?_
        refine a_getRs K fd_X11_76 (by exact lm_o hM) (Or.inr ⟨_, rfl⟩) (by exact lm_r739 hM) dX11_sweeps_107 ?_
        refine a_iload_n K dX11_sweeps_110 rfl ?_
        refine a_iald K (by exact lm_kk hM (by decide) (by decide)) (by show vp_in _ (sN T (m 20)); exact lm_ix (z := 4) hM (by decide) (by decide) (show j < 4 by omega) (by decide)) dX11_sweeps_111 ?_
        rw [nI_clamp (by omega)]
        rw [e20]
        rw [h20 j c (by omega) hb]
        refine a_invV K (m_marks c.1.1 c.1.2 T _ (nI (st + 1)) hM (fB.rep hM0 (by decide) (by decide) (by decide) (by decide) (by decide) (by decide) (hN.2.2.2.1 c.1 (Or.inr ⟨j, c, by omega, hb, rfl⟩))) hk) my_X11_marks ml_X11_258 im_X11_marks se_X11_marks (ci := 11) (by exact lm_o hM) (by decide) ⟨_, _, rfl⟩ rfl (by omega) (by omega) (by omega) rfl (Nat.le_of_ble_eq_true rfl) dX11_sweeps_112 ?_
        intro r9 T2 hp9
        obtain ⟨rfl, hk2, f2, ho2⟩ := hp9
        refine a_iadd K dX11_sweeps_115 ?_
        refine a_istore_n K dX11_sweeps_116 (by decide) ?_
        refine a_iinc K dX11_sweeps_117 (v := 1) rfl (by decide) (by decide) ?_
        refine a_goto K dX11_sweeps_120 (tgt := 88) (by decide) ?_
        exact aw_locl rfl (ih (j + 1) _ _ T2 (nI_1 j) (by omega) (f2.lay hM) (by rw [bdR, bpR, hb, ← List.append_assoc, ← mrM_app]; exact hk2) (fB.tr (f2.up (by decide) (by decide))) (fun r hr => (ho2 r hr).elim (fun z => by rw [z]; exact hold r hr) Or.inr))
  have loopA : ∀ (n i : Nat) (x b : Int32) (T : aw_S), x = nI i → i + n = (pM P).length → LM T m → MkM T m (nI (st + 1)) (mrM (fun _ => false) (lvR ρ P i)) → frM S T m [7] [726] → (∀ r, r < 12000 → sA T (m 7) r = sA S (m 7) r ∨ sA T (m 7) r = nI (st + 1)) → aw g 3 T 0 0 [(2, .int x), (1, .int b), (0, .ref (m 33))] [] 34 := by
    have hM0 := hM
    intro n
    induction n with
    | zero =>
      intro i x b T hx hn hM hk fB hold
      subst hx
      have h745T : sI T 745 (m 33) = nI (pM P).length := (fB.2 745 (by decide)).trans h745
      have h748T : sI T 748 (m 33) = (if pY P = true then 1 else 0) := (fB.2 748 (by decide)).trans h748
      have e17 : sA T (m 17) = sA S (m 17) := fB.A hM0 (by decide) (by decide) (by decide)
      have e24 : sA T (m 24) = sA S (m 24) := fB.A hM0 (by decide) (by decide) (by decide)
      have e25 : sA T (m 25) = sA S (m 25) := fB.A hM0 (by decide) (by decide) (by decide)
      refine a_iload_n K dX11_sweeps_34 rfl ?_
      first | refine a_aload_n K dX11_sweeps_35 rfl ?_ | refine a_aload_nN K dX11_sweeps_35 rfl ?_
      refine a_getI K fd_X11_261 (by exact lm_o hM) (Or.inl rfl) dX11_sweeps_36 ?_
      rw [h745T]
      refine a_icmp_ge K dX11_sweeps_39 (tgt := 86) (by decide) (fun c_39 => ?_) (fun c_39 => absurd c_39 (fun z => z (nI_le (a := (pM P).length) (b := i) (by omega) (by omega))))
      refine a_iconst K dX11_sweeps_86 (v := 0) (by decide) ?_
      refine a_istore_n K dX11_sweeps_87 (by decide) ?_
      rw [show i = (pM P).length by omega] at hk
      exact aw_locl rfl (loopB 4 0 _ b T nI_0.symm (Nat.zero_add _) hM (by rw [show bdR ρ P 0 = [] from rfl, List.append_nil]; exact hk) fB hold)
    | succ n ih =>
      intro i x b T hx hn hM hk fB hold
      subst hx
      have h745T : sI T 745 (m 33) = nI (pM P).length := (fB.2 745 (by decide)).trans h745
      have h748T : sI T 748 (m 33) = (if pY P = true then 1 else 0) := (fB.2 748 (by decide)).trans h748
      have e17 : sA T (m 17) = sA S (m 17) := fB.A hM0 (by decide) (by decide) (by decide)
      have e24 : sA T (m 24) = sA S (m 24) := fB.A hM0 (by decide) (by decide) (by decide)
      have e25 : sA T (m 25) = sA S (m 25) := fB.A hM0 (by decide) (by decide) (by decide)
      have hc := List.getElem?_eq_getElem (show i < (pM P).length by omega)
      generalize (pM P)[i]'(show i < (pM P).length by omega) = c at hc
      cases hh : pH P i with
      | true =>
          refine a_iload_n K dX11_sweeps_34 rfl ?_
          first | refine a_aload_n K dX11_sweeps_35 rfl ?_ | refine a_aload_nN K dX11_sweeps_35 rfl ?_
          refine a_getI K fd_X11_261 (by exact lm_o hM) (Or.inl rfl) dX11_sweeps_36 ?_
          rw [h745T]
          refine a_icmp_ge K dX11_sweeps_39 (tgt := 86) (by decide) (fun c_39 => absurd c_39 (nI_ge (a := i) (b := (pM P).length) (by omega) (by omega))) (fun c_39 => ?_)
          first | refine a_aload_n K dX11_sweeps_42 rfl ?_ | refine a_aload_nN K dX11_sweeps_42 rfl ?_
          refine a_getRs K fd_X11_88 (by exact lm_o hM) (Or.inr ⟨_, rfl⟩) (by exact lm_r743 hM) dX11_sweeps_43 ?_
          refine a_iload_n K dX11_sweeps_46 rfl ?_
          refine a_zald K (by exact lm_kk hM (by decide) (by decide)) (by show vp_in _ (sN T (m 24)); exact lm_ix (z := 999) hM (by decide) (by decide) (show i < 999 by omega) (by decide)) dX11_sweeps_47 ?_
          rw [nI_clamp (by omega)]
          rw [e24]
          rw [h24 i (by omega)]
          rw [hh]
          rw [if_pos rfl]
          refine a_if_ne K dX11_sweeps_48 (tgt := 67) (by decide) (fun c_48 => ?_) (fun c_48 => absurd c_48 (by decide))
          refine a_iload_n K dX11_sweeps_67 rfl ?_
          first | refine a_aload_n K dX11_sweeps_68 rfl ?_ | refine a_aload_nN K dX11_sweeps_68 rfl ?_
          first | refine a_aload_n K dX11_sweeps_69 rfl ?_ | refine a_aload_nN K dX11_sweeps_69 rfl ?_
          refine a_getRs K fd_X11_67 (by exact lm_o hM) (Or.inr ⟨_, rfl⟩) (by exact lm_r736 hM) dX11_sweeps_70 ?_
          refine a_iload_n K dX11_sweeps_73 rfl ?_
          refine a_iald K (by exact lm_kk hM (by decide) (by decide)) (by show vp_in _ (sN T (m 17)); exact lm_ix (z := 999) hM (by decide) (by decide) (show i < 999 by omega) (by decide)) dX11_sweeps_74 ?_
          have hhd := (hs c.1 (Or.inl ⟨i, c, hc, rfl, Or.inl hh⟩)).2
          rw [nI_clamp (by omega)]
          rw [e17]
          rw [h17 i c hc]
          refine a_invV K (m_marks c.1.1 c.1.2 T _ (nI (st + 1)) hM (fB.rep hM0 (by decide) (by decide) (by decide) (by decide) (by decide) (by decide) (hN.2.2.2.1 c.1 (Or.inl ⟨i, c, hc, rfl, Or.inl hh⟩))) hk) my_X11_marks ml_X11_258 im_X11_marks se_X11_marks (ci := 11) (by exact lm_o hM) (by decide) ⟨_, _, rfl⟩ rfl (by omega) (by omega) (by omega) rfl (Nat.le_of_ble_eq_true rfl) dX11_sweeps_75 ?_
          intro r9 T2 hp9
          obtain ⟨rfl, hk2, f2, ho2⟩ := hp9
          refine a_iadd K dX11_sweeps_78 ?_
          refine a_istore_n K dX11_sweeps_79 (by decide) ?_
          refine a_iinc K dX11_sweeps_80 (v := 1) rfl (by decide) (by decide) ?_
          refine a_goto K dX11_sweeps_83 (tgt := 34) (by decide) ?_
          have hlv : lvB P i = true := by unfold lvB; rw [hh]; rfl
          exact aw_locl rfl (ih (i + 1) _ _ T2 (nI_1 i) (by omega) (f2.lay hM) (by rw [lvR, if_pos hlv, mpR, hc, ← mrM_app]; exact hk2) (fB.tr (f2.up (by decide) (by decide))) (fun r hr => (ho2 r hr).elim (fun z => by rw [z]; exact hold r hr) Or.inr))
      | false =>
        cases hy : pY P with
        | false =>
            refine a_iload_n K dX11_sweeps_34 rfl ?_
            first | refine a_aload_n K dX11_sweeps_35 rfl ?_ | refine a_aload_nN K dX11_sweeps_35 rfl ?_
            refine a_getI K fd_X11_261 (by exact lm_o hM) (Or.inl rfl) dX11_sweeps_36 ?_
            rw [h745T]
            refine a_icmp_ge K dX11_sweeps_39 (tgt := 86) (by decide) (fun c_39 => absurd c_39 (nI_ge (a := i) (b := (pM P).length) (by omega) (by omega))) (fun c_39 => ?_)
            first | refine a_aload_n K dX11_sweeps_42 rfl ?_ | refine a_aload_nN K dX11_sweeps_42 rfl ?_
            refine a_getRs K fd_X11_88 (by exact lm_o hM) (Or.inr ⟨_, rfl⟩) (by exact lm_r743 hM) dX11_sweeps_43 ?_
            refine a_iload_n K dX11_sweeps_46 rfl ?_
            refine a_zald K (by exact lm_kk hM (by decide) (by decide)) (by show vp_in _ (sN T (m 24)); exact lm_ix (z := 999) hM (by decide) (by decide) (show i < 999 by omega) (by decide)) dX11_sweeps_47 ?_
            rw [nI_clamp (by omega)]
            rw [e24]
            rw [h24 i (by omega)]
            rw [hh]
            rw [if_neg (by decide)]
            refine a_if_ne K dX11_sweeps_48 (tgt := 67) (by decide) (fun c_48 => absurd c_48 (fun z => z rfl)) (fun c_48 => ?_)
            first | refine a_aload_n K dX11_sweeps_51 rfl ?_ | refine a_aload_nN K dX11_sweeps_51 rfl ?_
            refine a_getI K fd_X11_264 (by exact lm_o hM) (Or.inr rfl) dX11_sweeps_52 ?_
            rw [h748T]
            rw [hy]
            rw [if_neg (by decide)]
            refine a_if_eq K dX11_sweeps_55 (tgt := 80) (by decide) (fun c_55 => ?_) (fun c_55 => absurd c_55 (fun z => z rfl))
            refine a_iinc K dX11_sweeps_80 (v := 1) rfl (by decide) (by decide) ?_
            refine a_goto K dX11_sweeps_83 (tgt := 34) (by decide) ?_
            have hlv : lvB P i = false := by unfold lvB; rw [hh, hy]; rfl
            exact aw_locl rfl (ih (i + 1) _ b T (nI_1 i) (by omega) hM (by rw [lvR, if_neg (by rw [hlv]; decide), List.append_nil]; exact hk) fB hold)
        | true =>
          cases him : pI P i with
          | true =>
              refine a_iload_n K dX11_sweeps_34 rfl ?_
              first | refine a_aload_n K dX11_sweeps_35 rfl ?_ | refine a_aload_nN K dX11_sweeps_35 rfl ?_
              refine a_getI K fd_X11_261 (by exact lm_o hM) (Or.inl rfl) dX11_sweeps_36 ?_
              rw [h745T]
              refine a_icmp_ge K dX11_sweeps_39 (tgt := 86) (by decide) (fun c_39 => absurd c_39 (nI_ge (a := i) (b := (pM P).length) (by omega) (by omega))) (fun c_39 => ?_)
              first | refine a_aload_n K dX11_sweeps_42 rfl ?_ | refine a_aload_nN K dX11_sweeps_42 rfl ?_
              refine a_getRs K fd_X11_88 (by exact lm_o hM) (Or.inr ⟨_, rfl⟩) (by exact lm_r743 hM) dX11_sweeps_43 ?_
              refine a_iload_n K dX11_sweeps_46 rfl ?_
              refine a_zald K (by exact lm_kk hM (by decide) (by decide)) (by show vp_in _ (sN T (m 24)); exact lm_ix (z := 999) hM (by decide) (by decide) (show i < 999 by omega) (by decide)) dX11_sweeps_47 ?_
              rw [nI_clamp (by omega)]
              rw [e24]
              rw [h24 i (by omega)]
              rw [hh]
              rw [if_neg (by decide)]
              refine a_if_ne K dX11_sweeps_48 (tgt := 67) (by decide) (fun c_48 => absurd c_48 (fun z => z rfl)) (fun c_48 => ?_)
              first | refine a_aload_n K dX11_sweeps_51 rfl ?_ | refine a_aload_nN K dX11_sweeps_51 rfl ?_
              refine a_getI K fd_X11_264 (by exact lm_o hM) (Or.inr rfl) dX11_sweeps_52 ?_
              rw [h748T]
              rw [hy]
              rw [if_pos rfl]
              refine a_if_eq K dX11_sweeps_55 (tgt := 80) (by decide) (fun c_55 => absurd c_55 (by decide)) (fun c_55 => ?_)
              first | refine a_aload_n K dX11_sweeps_58 rfl ?_ | refine a_aload_nN K dX11_sweeps_58 rfl ?_
              refine a_getRs K fd_X11_92 (by exact lm_o hM) (Or.inr ⟨_, rfl⟩) (by exact lm_r744 hM) dX11_sweeps_59 ?_
              refine a_iload_n K dX11_sweeps_62 rfl ?_
              refine a_zald K (by exact lm_kk hM (by decide) (by decide)) (by show vp_in _ (sN T (m 25)); exact lm_ix (z := 999) hM (by decide) (by decide) (show i < 999 by omega) (by decide)) dX11_sweeps_63 ?_
              rw [nI_clamp (by omega)]
              rw [e25]
              rw [h25 i (by omega)]
              rw [him]
              rw [if_pos rfl]
              refine a_if_eq K dX11_sweeps_64 (tgt := 80) (by decide) (fun c_64 => absurd c_64 (by decide)) (fun c_64 => ?_)
              refine a_iload_n K dX11_sweeps_67 rfl ?_
              first | refine a_aload_n K dX11_sweeps_68 rfl ?_ | refine a_aload_nN K dX11_sweeps_68 rfl ?_
              first | refine a_aload_n K dX11_sweeps_69 rfl ?_ | refine a_aload_nN K dX11_sweeps_69 rfl ?_
              refine a_getRs K fd_X11_67 (by exact lm_o hM) (Or.inr ⟨_, rfl⟩) (by exact lm_r736 hM) dX11_sweeps_70 ?_
              refine a_iload_n K dX11_sweeps_73 rfl ?_
              refine a_iald K (by exact lm_kk hM (by decide) (by decide)) (by show vp_in _ (sN T (m 17)); exact lm_ix (z := 999) hM (by decide) (by decide) (show i < 999 by omega) (by decide)) dX11_sweeps_74 ?_
              have hhd := (hs c.1 (Or.inl ⟨i, c, hc, rfl, Or.inr ⟨hy, him⟩⟩)).2
              rw [nI_clamp (by omega)]
              rw [e17]
              rw [h17 i c hc]
              refine a_invV K (m_marks c.1.1 c.1.2 T _ (nI (st + 1)) hM (fB.rep hM0 (by decide) (by decide) (by decide) (by decide) (by decide) (by decide) (hN.2.2.2.1 c.1 (Or.inl ⟨i, c, hc, rfl, Or.inr ⟨hy, him⟩⟩))) hk) my_X11_marks ml_X11_258 im_X11_marks se_X11_marks (ci := 11) (by exact lm_o hM) (by decide) ⟨_, _, rfl⟩ rfl (by omega) (by omega) (by omega) rfl (Nat.le_of_ble_eq_true rfl) dX11_sweeps_75 ?_
              intro r9 T2 hp9
              obtain ⟨rfl, hk2, f2, ho2⟩ := hp9
              refine a_iadd K dX11_sweeps_78 ?_
              refine a_istore_n K dX11_sweeps_79 (by decide) ?_
              refine a_iinc K dX11_sweeps_80 (v := 1) rfl (by decide) (by decide) ?_
              refine a_goto K dX11_sweeps_83 (tgt := 34) (by decide) ?_
              have hlv : lvB P i = true := by unfold lvB; rw [hh, hy, him]; rfl
              exact aw_locl rfl (ih (i + 1) _ _ T2 (nI_1 i) (by omega) (f2.lay hM) (by rw [lvR, if_pos hlv, mpR, hc, ← mrM_app]; exact hk2) (fB.tr (f2.up (by decide) (by decide))) (fun r hr => (ho2 r hr).elim (fun z => by rw [z]; exact hold r hr) Or.inr))
          | false =>
              refine a_iload_n K dX11_sweeps_34 rfl ?_
              first | refine a_aload_n K dX11_sweeps_35 rfl ?_ | refine a_aload_nN K dX11_sweeps_35 rfl ?_
              refine a_getI K fd_X11_261 (by exact lm_o hM) (Or.inl rfl) dX11_sweeps_36 ?_
              rw [h745T]
              refine a_icmp_ge K dX11_sweeps_39 (tgt := 86) (by decide) (fun c_39 => absurd c_39 (nI_ge (a := i) (b := (pM P).length) (by omega) (by omega))) (fun c_39 => ?_)
              first | refine a_aload_n K dX11_sweeps_42 rfl ?_ | refine a_aload_nN K dX11_sweeps_42 rfl ?_
              refine a_getRs K fd_X11_88 (by exact lm_o hM) (Or.inr ⟨_, rfl⟩) (by exact lm_r743 hM) dX11_sweeps_43 ?_
              refine a_iload_n K dX11_sweeps_46 rfl ?_
              refine a_zald K (by exact lm_kk hM (by decide) (by decide)) (by show vp_in _ (sN T (m 24)); exact lm_ix (z := 999) hM (by decide) (by decide) (show i < 999 by omega) (by decide)) dX11_sweeps_47 ?_
              rw [nI_clamp (by omega)]
              rw [e24]
              rw [h24 i (by omega)]
              rw [hh]
              rw [if_neg (by decide)]
              refine a_if_ne K dX11_sweeps_48 (tgt := 67) (by decide) (fun c_48 => absurd c_48 (fun z => z rfl)) (fun c_48 => ?_)
              first | refine a_aload_n K dX11_sweeps_51 rfl ?_ | refine a_aload_nN K dX11_sweeps_51 rfl ?_
              refine a_getI K fd_X11_264 (by exact lm_o hM) (Or.inr rfl) dX11_sweeps_52 ?_
              rw [h748T]
              rw [hy]
              rw [if_pos rfl]
              refine a_if_eq K dX11_sweeps_55 (tgt := 80) (by decide) (fun c_55 => absurd c_55 (by decide)) (fun c_55 => ?_)
              first | refine a_aload_n K dX11_sweeps_58 rfl ?_ | refine a_aload_nN K dX11_sweeps_58 rfl ?_
              refine a_getRs K fd_X11_92 (by exact lm_o hM) (Or.inr ⟨_, rfl⟩) (by exact lm_r744 hM) dX11_sweeps_59 ?_
              refine a_iload_n K dX11_sweeps_62 rfl ?_
              refine a_zald K (by exact lm_kk hM (by decide) (by decide)) (by show vp_in _ (sN T (m 25)); exact lm_ix (z := 999) hM (by decide) (by decide) (show i < 999 by omega) (by decide)) dX11_sweeps_63 ?_
              rw [nI_clamp (by omega)]
              rw [e25]
              rw [h25 i (by omega)]
              rw [him]
              rw [if_neg (by decide)]
              refine a_if_eq K dX11_sweeps_64 (tgt := 80) (by decide) (fun c_64 => ?_) (fun c_64 => absurd c_64 (fun z => z rfl))
              refine a_iinc K dX11_sweeps_80 (v := 1) rfl (by decide) (by decide) ?_
              refine a_goto K dX11_sweeps_83 (tgt := 34) (by decide) ?_
              have hlv : lvB P i = false := by unfold lvB; rw [hh, hy, him]; rfl
              exact aw_locl rfl (ih (i + 1) _ b T (nI_1 i) (by omega) hM (by rw [lvR, if_neg (by rw [hlv]; decide), List.append_nil]; exact hk) fB hold)
  by_cases hf : 5000 < F.length + 12000 - u
  · first | refine a_aload_n K dX11_sweeps_0 rfl ?_ | refine a_aload_nN K dX11_sweeps_0 rfl ?_
    refine a_getI K fd_X11_184 (by exact lm_o hM) (Or.inl rfl) dX11_sweeps_1 ?_
    rw [hFr.1]
    refine a_sipush K dX11_sweeps_4 (v := 12000) (by decide) ?_
    refine a_iadd K dX11_sweeps_7 ?_
    rw [show (12000 : Int32) = nI 12000 from rfl]
    rw [nI_add]
    first | refine a_aload_n K dX11_sweeps_8 rfl ?_ | refine a_aload_nN K dX11_sweeps_8 rfl ?_
    refine a_getI K fd_X11_187 (by exact lm_o hM) (Or.inl rfl) dX11_sweeps_9 ?_
    rw [hFr.2.1]
    refine a_isub K dX11_sweeps_12 ?_
    rw [nI_sub (by omega)]
    refine a_sipush K dX11_sweeps_13 (v := 5000) (by decide) ?_
    rw [show (5000 : Int32) = nI 5000 from rfl]
    refine a_icmp_le K dX11_sweeps_16 (tgt := 20) (by decide) (fun c_16 => absurd c_16 (nI_ge (by omega) (by omega))) (fun c_16 => ?_)
    exact a_vret K EE (by omega) (by omega) dX11_sweeps_19 ⟨rfl, (F, u), hN, ⟨by omega, st, by omega, h726, hmk⟩, by show 5000 < F.length + (12000 - u); omega, frM.rf⟩
  · first | refine a_aload_n K dX11_sweeps_0 rfl ?_ | refine a_aload_nN K dX11_sweeps_0 rfl ?_
    refine a_getI K fd_X11_184 (by exact lm_o hM) (Or.inl rfl) dX11_sweeps_1 ?_
    rw [hFr.1]
    refine a_sipush K dX11_sweeps_4 (v := 12000) (by decide) ?_
    refine a_iadd K dX11_sweeps_7 ?_
    rw [show (12000 : Int32) = nI 12000 from rfl]
    rw [nI_add]
    first | refine a_aload_n K dX11_sweeps_8 rfl ?_ | refine a_aload_nN K dX11_sweeps_8 rfl ?_
    refine a_getI K fd_X11_187 (by exact lm_o hM) (Or.inl rfl) dX11_sweeps_9 ?_
    rw [hFr.2.1]
    refine a_isub K dX11_sweeps_12 ?_
    rw [nI_sub (by omega)]
    refine a_sipush K dX11_sweeps_13 (v := 5000) (by decide) ?_
    rw [show (5000 : Int32) = nI 5000 from rfl]
    refine a_icmp_le K dX11_sweeps_16 (tgt := 20) (by decide) (fun c_16 => ?_) (fun c_16 => absurd c_16 (fun z => z (nI_le (by omega) (by omega))))
    first | refine a_aload_n K dX11_sweeps_20 rfl ?_ | refine a_aload_nN K dX11_sweeps_20 rfl ?_
    refine a_dup K dX11_sweeps_21 rfl ?_
    refine a_getI K fd_X11_255 (by exact lm_o hM) (Or.inl rfl) dX11_sweeps_22 ?_
    rw [h726]
    refine a_iconst K dX11_sweeps_25 (v := 1) (by decide) ?_
    refine a_iadd K dX11_sweeps_26 ?_
    rw [nI_1]
    refine a_putI K fd_X11_255 (by exact lm_o hM) rfl dX11_sweeps_27 ?_
    refine a_iconst K dX11_sweeps_30 (v := 0) (by decide) ?_
    refine a_istore_n K dX11_sweeps_31 (by decide) ?_
    refine a_iconst K dX11_sweeps_32 (v := 0) (by decide) ?_
    refine a_istore_n K dX11_sweeps_33 (by decide) ?_
    have f9 : frM S (wI S 726 (m 33) (nI (st + 1))) m [7] [726] := frM_wI (by decide) (by decide)
    refine aw_locl rfl (loopA (pM P).length 0 _ _ (wI S 726 (m 33) (nI (st + 1))) nI_0.symm (Nat.zero_add _) (f9.lay hM) ⟨wI_at, fun r hr => ⟨fun e => ?_, fun e => absurd e (by unfold mrM; simp [lvR])⟩⟩ f9 (fun r hr => Or.inl rfl))
    obtain ⟨x, hx, ex⟩ := hmk r hr
    have e : sA S (m 7) r = nI (st + 1) := e
    rw [ex] at e
    have := nI_inj (by omega) (by omega) e
    omega
