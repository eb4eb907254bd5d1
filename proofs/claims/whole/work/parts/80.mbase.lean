/-! the model: its rows -/
/-- field, kind, length of the rows -/
def mF (i : Nat) : Nat := ([705, 709, 710, 711, 714, 715, 716, 717, 718, 719, 720, 727, 728, 730, 731, 732, 733, 736, 737, 738, 739, 740, 741, 742, 743, 744, 749, 750, 751, 752, 755, 756, 759] : List Nat).getD i 0
def mK (i : Nat) : Nat := ([12, 13, 13, 13, 13, 13, 13, 13, 13, 13, 13, 13, 13, 13, 13, 13, 13, 13, 13, 13, 13, 13, 13, 13, 14, 14, 13, 13, 13, 13, 12, 12, 13] : List Nat).getD i 0
def mN (i : Nat) : Nat := ([240, 480, 320, 5, 12000, 12000, 12000, 12000, 12000, 84000, 84000, 10, 10, 140, 140, 240, 240, 999, 999, 999, 4, 4, 4, 5, 999, 999, 1000, 3000, 60, 60, 1400, 1400, 999] : List Nat).getD i 0
/-- the model's cells: rows m 0 .. m 32, the object m 33 -/
def LM (S : aw_S) (m : Nat → Nat) : Prop := aw_is S (m 33) 11 ∧ (∀ i, i < 33 → sR S (mF i) (m 33) = some (m i) ∧ aw_is S (m i) (mK i) ∧ sN S (m i) = mN i) ∧ ∀ i j, i < 34 → j < 34 → m i = m j → i = j
theorem lm_o {S : aw_S} {m : Nat → Nat} (h : LM S m) : aw_is S (m 33) 11 := h.1
theorem lm_kk {S : aw_S} {m : Nat → Nat} {i k : Nat} (h : LM S m) (hi : i < 33) (hk : mK i = k) : aw_is S (m i) k := hk ▸ (h.2.1 i hi).2.1
theorem lm_zz {S : aw_S} {m : Nat → Nat} {i z : Nat} (h : LM S m) (hi : i < 33) (hz : mN i = z) : sN S (m i) = z := hz ▸ (h.2.1 i hi).2.2
theorem lm_ne {S : aw_S} {m : Nat → Nat} {i j : Nat} (h : LM S m) (hi : i < 34) (hj : j < 34) (n : i ≠ j) : m i ≠ m j := fun z => n (h.2.2 i j hi hj z)
theorem lm_ix {S : aw_S} {m : Nat → Nat} {i z k : Nat} (h : LM S m) (hi : i < 33) (hz : mN i = z) (hk : k < z) (hz2 : z < 2 ^ 31) : vp_in (nI k) (sN S (m i)) := by
  show vp_in (nI k) (sN S (m i))
  rw [lm_zz h hi hz]
  exact vp_in_nI hk hz2
theorem LM.fr {S S2 : aw_S} {m : Nat → Nat} {Q : Nat → Prop} (h : LM S m) (f : frS S S2 Q) : LM S2 m := ⟨f.is h.1, fun i hi => ⟨by rw [f.2.2.1]; exact (h.2.1 i hi).1, f.is (h.2.1 i hi).2.1, by rw [f.2.2.2.1]; exact (h.2.1 i hi).2.2⟩, h.2.2⟩
theorem lm_r705 {S : aw_S} {m : Nat → Nat} (h : LM S m) : sR S 705 (m 33) = some (m 0) := (h.2.1 0 (by decide)).1
theorem lm_r709 {S : aw_S} {m : Nat → Nat} (h : LM S m) : sR S 709 (m 33) = some (m 1) := (h.2.1 1 (by decide)).1
theorem lm_r710 {S : aw_S} {m : Nat → Nat} (h : LM S m) : sR S 710 (m 33) = some (m 2) := (h.2.1 2 (by decide)).1
theorem lm_r711 {S : aw_S} {m : Nat → Nat} (h : LM S m) : sR S 711 (m 33) = some (m 3) := (h.2.1 3 (by decide)).1
theorem lm_r714 {S : aw_S} {m : Nat → Nat} (h : LM S m) : sR S 714 (m 33) = some (m 4) := (h.2.1 4 (by decide)).1
theorem lm_r715 {S : aw_S} {m : Nat → Nat} (h : LM S m) : sR S 715 (m 33) = some (m 5) := (h.2.1 5 (by decide)).1
theorem lm_r716 {S : aw_S} {m : Nat → Nat} (h : LM S m) : sR S 716 (m 33) = some (m 6) := (h.2.1 6 (by decide)).1
theorem lm_r717 {S : aw_S} {m : Nat → Nat} (h : LM S m) : sR S 717 (m 33) = some (m 7) := (h.2.1 7 (by decide)).1
theorem lm_r718 {S : aw_S} {m : Nat → Nat} (h : LM S m) : sR S 718 (m 33) = some (m 8) := (h.2.1 8 (by decide)).1
theorem lm_r719 {S : aw_S} {m : Nat → Nat} (h : LM S m) : sR S 719 (m 33) = some (m 9) := (h.2.1 9 (by decide)).1
theorem lm_r720 {S : aw_S} {m : Nat → Nat} (h : LM S m) : sR S 720 (m 33) = some (m 10) := (h.2.1 10 (by decide)).1
theorem lm_r727 {S : aw_S} {m : Nat → Nat} (h : LM S m) : sR S 727 (m 33) = some (m 11) := (h.2.1 11 (by decide)).1
theorem lm_r728 {S : aw_S} {m : Nat → Nat} (h : LM S m) : sR S 728 (m 33) = some (m 12) := (h.2.1 12 (by decide)).1
theorem lm_r730 {S : aw_S} {m : Nat → Nat} (h : LM S m) : sR S 730 (m 33) = some (m 13) := (h.2.1 13 (by decide)).1
theorem lm_r731 {S : aw_S} {m : Nat → Nat} (h : LM S m) : sR S 731 (m 33) = some (m 14) := (h.2.1 14 (by decide)).1
theorem lm_r732 {S : aw_S} {m : Nat → Nat} (h : LM S m) : sR S 732 (m 33) = some (m 15) := (h.2.1 15 (by decide)).1
theorem lm_r733 {S : aw_S} {m : Nat → Nat} (h : LM S m) : sR S 733 (m 33) = some (m 16) := (h.2.1 16 (by decide)).1
theorem lm_r736 {S : aw_S} {m : Nat → Nat} (h : LM S m) : sR S 736 (m 33) = some (m 17) := (h.2.1 17 (by decide)).1
theorem lm_r737 {S : aw_S} {m : Nat → Nat} (h : LM S m) : sR S 737 (m 33) = some (m 18) := (h.2.1 18 (by decide)).1
theorem lm_r738 {S : aw_S} {m : Nat → Nat} (h : LM S m) : sR S 738 (m 33) = some (m 19) := (h.2.1 19 (by decide)).1
theorem lm_r739 {S : aw_S} {m : Nat → Nat} (h : LM S m) : sR S 739 (m 33) = some (m 20) := (h.2.1 20 (by decide)).1
theorem lm_r740 {S : aw_S} {m : Nat → Nat} (h : LM S m) : sR S 740 (m 33) = some (m 21) := (h.2.1 21 (by decide)).1
theorem lm_r741 {S : aw_S} {m : Nat → Nat} (h : LM S m) : sR S 741 (m 33) = some (m 22) := (h.2.1 22 (by decide)).1
theorem lm_r742 {S : aw_S} {m : Nat → Nat} (h : LM S m) : sR S 742 (m 33) = some (m 23) := (h.2.1 23 (by decide)).1
theorem lm_r743 {S : aw_S} {m : Nat → Nat} (h : LM S m) : sR S 743 (m 33) = some (m 24) := (h.2.1 24 (by decide)).1
theorem lm_r744 {S : aw_S} {m : Nat → Nat} (h : LM S m) : sR S 744 (m 33) = some (m 25) := (h.2.1 25 (by decide)).1
theorem lm_r749 {S : aw_S} {m : Nat → Nat} (h : LM S m) : sR S 749 (m 33) = some (m 26) := (h.2.1 26 (by decide)).1
theorem lm_r750 {S : aw_S} {m : Nat → Nat} (h : LM S m) : sR S 750 (m 33) = some (m 27) := (h.2.1 27 (by decide)).1
theorem lm_r751 {S : aw_S} {m : Nat → Nat} (h : LM S m) : sR S 751 (m 33) = some (m 28) := (h.2.1 28 (by decide)).1
theorem lm_r752 {S : aw_S} {m : Nat → Nat} (h : LM S m) : sR S 752 (m 33) = some (m 29) := (h.2.1 29 (by decide)).1
theorem lm_r755 {S : aw_S} {m : Nat → Nat} (h : LM S m) : sR S 755 (m 33) = some (m 30) := (h.2.1 30 (by decide)).1
theorem lm_r756 {S : aw_S} {m : Nat → Nat} (h : LM S m) : sR S 756 (m 33) = some (m 31) := (h.2.1 31 (by decide)).1
theorem lm_r759 {S : aw_S} {m : Nat → Nat} (h : LM S m) : sR S 759 (m 33) = some (m 32) := (h.2.1 32 (by decide)).1
theorem nI_7 (n : Nat) : 7 * nI n = nI (7 * n) := (Int32.ofNat_mul 7 n).symm
/-- what stands at a node's row: a leaf, how many, its token; of each its first and second -/
def gL (S : aw_S) (m : Nat → Nat) (r : Nat) : Int32 := sA S (m 4) r
def gN (S : aw_S) (m : Nat → Nat) (r : Nat) : Int32 := sA S (m 5) r
def gT (S : aw_S) (m : Nat → Nat) (r : Nat) : Int32 := sA S (m 6) r
def g1 (S : aw_S) (m : Nat → Nat) (r k : Nat) : Int32 := sA S (m 9) (7 * r + k)
def g2 (S : aw_S) (m : Nat → Nat) (r k : Nat) : Int32 := sA S (m 10) (7 * r + k)
/-- what a node of height h holds stands at the row r -/
def CtM (S : aw_S) (m ρ : Nat → Nat) (r : Nat) : (h : Nat) → List (Ct h) → Prop
  | 0, l => ∀ k (x : KV), (show List KV from l)[k]? = some x → g1 S m r k = x.1 ∧ g2 S m r k = x.2
  | h + 1, l => ∀ k (c : Tr h), (show List (Tr h) from l)[k]? = some c → g1 S m r k = nI (ρ c.1)
/-- a node's own row -/
def NdM (S : aw_S) (m ρ : Nat → Nat) (h : Nat) (t : Tr h) : Prop := ρ t.1 < 12000 ∧ gL S m (ρ t.1) = (if h = 0 then 1 else 0) ∧ gN S m (ρ t.1) = nI t.2.2.length ∧ gT S m (ρ t.1) = nI (t.2.1 + 1) ∧ t.2.2.length ≤ 7 ∧ CtM S m ρ (ρ t.1) h t.2.2
/-- a tree in the model's rows -/
def RepM (S : aw_S) (m ρ : Nat → Nat) : (h : Nat) → Tr h → Prop
  | 0, t => NdM S m ρ 0 t
  | h + 1, t => NdM S m ρ (h + 1) t ∧ ∀ c ∈ kds t, RepM S m ρ h c
theorem RepM.own {S : aw_S} {m ρ : Nat → Nat} {h : Nat} {t : Tr h} (r : RepM S m ρ h t) : NdM S m ρ h t := by
  cases h with
  | zero => exact r
  | succ h => exact r.1
theorem RepM.kid {S : aw_S} {m ρ : Nat → Nat} {h : Nat} {t : Tr (h + 1)} (r : RepM S m ρ (h + 1) t) {k : Nat} {c : Tr h} (hc : (kds t)[k]? = some c) : RepM S m ρ h c ∧ g1 S m (ρ t.1) k = nI (ρ c.1) ∧ k < 7 := ⟨r.2 c (List.mem_of_getElem? hc), r.1.2.2.2.2.2 k c hc, by have h1 := (List.getElem?_eq_some_iff.mp hc).1; have h2 := r.1.2.2.2.2.1; exact Nat.lt_of_lt_of_le h1 h2⟩
theorem RepM.ent {S : aw_S} {m ρ : Nat → Nat} {t : Tr 0} (r : RepM S m ρ 0 t) {k : Nat} {x : KV} (hx : (ets t)[k]? = some x) : g1 S m (ρ t.1) k = x.1 ∧ g2 S m (ρ t.1) k = x.2 ∧ k < 7 := ⟨(r.2.2.2.2.2 k x hx).1, (r.2.2.2.2.2 k x hx).2, by have h1 := (List.getElem?_eq_some_iff.mp hx).1; have h2 := r.2.2.2.2.1; exact Nat.lt_of_lt_of_le h1 h2⟩
set_option maxHeartbeats 4000000 in
set_option maxRecDepth 100000 in
theorem m_child {S : aw_S} {m : Nat → Nat} (hM : LM S m) {r k : Nat} (hr : r < 12000) (hk : k < 7) : aw_M yX11_child cX11_child 3 (some FieldType.int) 0 0 0 [.ref (m 33), .int (nI r), .int (nI k)] S (fun q S2 => q = some (.int (g1 S m r k)) ∧ S2 = S) := by
  refine aw_enter (by decide +kernel) (Nat.le_of_ble_eq_true rfl) (fun g K EE => ?_)
  first | refine a_aload_n K dX11_child_0 rfl ?_ | refine a_aload_nN K dX11_child_0 rfl ?_
  refine a_getRs K fd_X11_39 (by exact lm_o hM) (Or.inr ⟨_, rfl⟩) (by exact lm_r719 hM) dX11_child_1 ?_
  refine a_bipush K dX11_child_4 (v := 7) (by decide) ?_
  refine a_iload_n K dX11_child_6 rfl ?_
  refine a_imul K dX11_child_7 ?_
  rw [nI_7]
  refine a_iload_n K dX11_child_8 rfl ?_
  refine a_iadd K dX11_child_9 ?_
  rw [nI_add]
  refine a_iald K (by exact lm_kk hM (by decide) (by decide)) (by show vp_in _ (sN S (m 9)); exact lm_ix (z := 84000) hM (by decide) (by decide) (show 7 * r + k < 84000 by omega) (by decide)) dX11_child_10 ?_
  rw [nI_clamp (by omega)]
  exact a_iret K EE rfl (by omega) (by omega) dX11_child_11 ⟨rfl, rfl⟩
set_option maxHeartbeats 4000000 in
set_option maxRecDepth 100000 in
theorem m_lowest {S : aw_S} {m : Nat → Nat} (hM : LM S m) {ρ : Nat → Nat} {h : Nat} {t : Tr h} (rp : RepM S m ρ h t) (ne : NeT h t) : aw_M yX11_lowest cX11_lowest 2 (some FieldType.int) 1 0 0 [.ref (m 33), .int (nI (ρ t.1))] S (fun q S2 => q = some (.int (low h t)) ∧ S2 = S) := by
  obtain ⟨R, hR⟩ : ∃ R, low h t = R := ⟨_, rfl⟩
  rw [hR]
  refine aw_enter (by decide +kernel) (Nat.le_of_ble_eq_true rfl) (fun g K EE => ?_)
  have loop : ∀ (h : Nat) (t : Tr h), RepM S m ρ h t → NeT h t → low h t = R → aw g 2 S 0 0 [(1, .int (nI (ρ t.1))), (0, .ref (m 33))] [] 0 := by
    intro h
    induction h with
    | zero =>
      intro t rp ne hR
      have hr := rp.1
      have h7 : (ets t).length ≤ 7 := rp.2.2.2.2.1
      rw [← hR] at EE
      by_cases h0 : (ets t).length = 0
      · first | refine a_aload_n K dX11_lowest_0 rfl ?_ | refine a_aload_nN K dX11_lowest_0 rfl ?_
        refine a_getRs K fd_X11_23 (by exact lm_o hM) (Or.inr ⟨_, rfl⟩) (by exact lm_r714 hM) dX11_lowest_1 ?_
        refine a_iload_n K dX11_lowest_4 rfl ?_
        refine a_iald K (by exact lm_kk hM (by decide) (by decide)) (by show vp_in _ (sN S (m 4)); exact lm_ix (z := 12000) hM (by decide) (by decide) (show ρ t.1 < 12000 by omega) (by decide)) dX11_lowest_5 ?_
        rw [nI_clamp (by omega)]
        rw [show sA S (m 4) (ρ t.1) = 1 from rp.2.1]
        refine a_if_ne K dX11_lowest_6 (tgt := 19) (by decide) (fun c_6 => ?_) (fun c_6 => absurd c_6 (by decide))
        first | refine a_aload_n K dX11_lowest_19 rfl ?_ | refine a_aload_nN K dX11_lowest_19 rfl ?_
        refine a_getRs K fd_X11_26 (by exact lm_o hM) (Or.inr ⟨_, rfl⟩) (by exact lm_r715 hM) dX11_lowest_20 ?_
        refine a_iload_n K dX11_lowest_23 rfl ?_
        refine a_iald K (by exact lm_kk hM (by decide) (by decide)) (by show vp_in _ (sN S (m 5)); exact lm_ix (z := 12000) hM (by decide) (by decide) (show ρ t.1 < 12000 by omega) (by decide)) dX11_lowest_24 ?_
        rw [nI_clamp (by omega)]
        rw [show sA S (m 5) (ρ t.1) = nI (ets t).length from rp.2.2.1]
        refine a_if_ne K dX11_lowest_25 (tgt := 32) (by decide) (fun c_25 => absurd c_25 (fun z => z (by rw [h0]; rfl))) (fun c_25 => ?_)
        refine a_iconst K dX11_lowest_28 (v := -1) (by decide) ?_
        refine a_goto K dX11_lowest_29 (tgt := 41) (by decide) ?_
        exact a_iret K EE rfl (by omega) (by omega) dX11_lowest_41 ⟨by show _ = some (Value.int (keyAtL (ets t) 0)); rw [keyAtL_out (by omega)], rfl⟩
      · have h0 : 0 < (ets t).length := Nat.pos_of_ne_zero h0
        have hx := List.getElem?_eq_getElem h0
        first | refine a_aload_n K dX11_lowest_0 rfl ?_ | refine a_aload_nN K dX11_lowest_0 rfl ?_
        refine a_getRs K fd_X11_23 (by exact lm_o hM) (Or.inr ⟨_, rfl⟩) (by exact lm_r714 hM) dX11_lowest_1 ?_
        refine a_iload_n K dX11_lowest_4 rfl ?_
        refine a_iald K (by exact lm_kk hM (by decide) (by decide)) (by show vp_in _ (sN S (m 4)); exact lm_ix (z := 12000) hM (by decide) (by decide) (show ρ t.1 < 12000 by omega) (by decide)) dX11_lowest_5 ?_
        rw [nI_clamp (by omega)]
        rw [show sA S (m 4) (ρ t.1) = 1 from rp.2.1]
        refine a_if_ne K dX11_lowest_6 (tgt := 19) (by decide) (fun c_6 => ?_) (fun c_6 => absurd c_6 (by decide))
        first | refine a_aload_n K dX11_lowest_19 rfl ?_ | refine a_aload_nN K dX11_lowest_19 rfl ?_
        refine a_getRs K fd_X11_26 (by exact lm_o hM) (Or.inr ⟨_, rfl⟩) (by exact lm_r715 hM) dX11_lowest_20 ?_
        refine a_iload_n K dX11_lowest_23 rfl ?_
        refine a_iald K (by exact lm_kk hM (by decide) (by decide)) (by show vp_in _ (sN S (m 5)); exact lm_ix (z := 12000) hM (by decide) (by decide) (show ρ t.1 < 12000 by omega) (by decide)) dX11_lowest_24 ?_
        rw [nI_clamp (by omega)]
        rw [show sA S (m 5) (ρ t.1) = nI (ets t).length from rp.2.2.1]
        refine a_if_ne K dX11_lowest_25 (tgt := 32) (by decide) (fun c_25 => ?_) (fun c_25 => absurd c_25 (nI_ne0 h0 (by omega)))
        first | refine a_aload_n K dX11_lowest_32 rfl ?_ | refine a_aload_nN K dX11_lowest_32 rfl ?_
        refine a_getRs K fd_X11_39 (by exact lm_o hM) (Or.inr ⟨_, rfl⟩) (by exact lm_r719 hM) dX11_lowest_33 ?_
        refine a_bipush K dX11_lowest_36 (v := 7) (by decide) ?_
        refine a_iload_n K dX11_lowest_38 rfl ?_
        refine a_imul K dX11_lowest_39 ?_
        rw [nI_7]
        refine a_iald K (by exact lm_kk hM (by decide) (by decide)) (by show vp_in _ (sN S (m 9)); exact lm_ix (z := 84000) hM (by decide) (by decide) (show 7 * ρ t.1 < 84000 by omega) (by decide)) dX11_lowest_40 ?_
        rw [nI_clamp (by omega)]
        exact a_iret K EE rfl (by omega) (by omega) dX11_lowest_41 ⟨by show _ = some (Value.int (keyAtL (ets t) 0)); rw [keyAtL_in hx]; exact congrArg (fun q => some (Value.int q)) (rp.ent hx).1, rfl⟩
    | succ h ih =>
      intro t rp ne hR
      have hr := rp.1.1
      have hc := List.getElem?_eq_getElem (List.length_pos_iff.mpr ne.1)
      generalize (kds t)[0]'(List.length_pos_iff.mpr ne.1) = c at hc
      first | refine a_aload_n K dX11_lowest_0 rfl ?_ | refine a_aload_nN K dX11_lowest_0 rfl ?_
      refine a_getRs K fd_X11_23 (by exact lm_o hM) (Or.inr ⟨_, rfl⟩) (by exact lm_r714 hM) dX11_lowest_1 ?_
      refine a_iload_n K dX11_lowest_4 rfl ?_
      refine a_iald K (by exact lm_kk hM (by decide) (by decide)) (by show vp_in _ (sN S (m 4)); exact lm_ix (z := 12000) hM (by decide) (by decide) (show ρ t.1 < 12000 by omega) (by decide)) dX11_lowest_5 ?_
      rw [nI_clamp (by omega)]
      rw [show sA S (m 4) (ρ t.1) = 0 from rp.1.2.1]
      refine a_if_ne K dX11_lowest_6 (tgt := 19) (by decide) (fun c_6 => absurd c_6 (fun z => z rfl)) (fun c_6 => ?_)
      first | refine a_aload_n K dX11_lowest_9 rfl ?_ | refine a_aload_nN K dX11_lowest_9 rfl ?_
      refine a_iload_n K dX11_lowest_10 rfl ?_
      refine a_iconst K dX11_lowest_11 (v := 0) (by decide) ?_
      refine a_invV K (m_child hM (r := ρ t.1) (k := 0) hr (by decide)) my_X11_child ml_X11_197 im_X11_child se_X11_child (ci := 11) (by exact lm_o hM) (by decide) ⟨_, _, rfl⟩ rfl (by omega) (by omega) (by omega) rfl (Nat.le_of_ble_eq_true rfl) dX11_lowest_12 ?_
      intro r9 S9 hp9
      obtain ⟨rfl, hS9⟩ := hp9
      obtain rfl := hS9.symm
      rw [(rp.kid hc).2.1]
      refine a_istore_n K dX11_lowest_15 (by decide) ?_
      refine a_goto K dX11_lowest_16 (tgt := 0) (by decide) ?_
      exact aw_locl rfl (ih c (rp.kid hc).1 (ne.2 c (List.mem_of_getElem? hc)) (by rw [← hR, low_s hc]))
  exact aw_locl rfl (loop h t rp ne hR)
