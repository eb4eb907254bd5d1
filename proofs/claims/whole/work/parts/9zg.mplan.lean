/-! the model: steps and programs read -/
/-- a step in the plan's row from R on -/
def StM (S : aw_S) (m : Nat → Nat) (R : Nat) (s : ST) : Prop := ∀ k, k < 4 → sA S (m 2) (R + k) = s k
/-- nothing else of that row is written -/
def keR (S S2 : aw_S) (m : Nat → Nat) (R : Nat) : Prop := ∀ i, (i < R ∨ R + 4 ≤ i) → sA S2 (m 2) i = sA S (m 2) i
theorem keR.rf {S : aw_S} {m : Nat → Nat} {R : Nat} : keR S S m R := fun _ _ => rfl
theorem keR.f {S S2 S3 : aw_S} {m : Nat → Nat} {R : Nat} {ks Fs : List Nat} (k : keR S S2 m R) (hM : LM S2 m) (f : frM S2 S3 m ks Fs) (h : ∀ k ∈ ks, k < 33) (n : 2 ∉ ks) : keR S S3 m R := fun i hi => by
  rw [f.A hM h (by decide) n]
  exact k i hi
theorem keR.w {S S2 : aw_S} {m : Nat → Nat} {R k : Nat} {x : Int32} (h : keR S S2 m R) (hk : k < 4) : keR S (wA S2 (m 2) (R + k) x) m R := fun i hi => by
  rw [sA_wA, if_neg (fun z => by have := z.2; omega)]
  exact h i hi
theorem StM.f {S2 S3 : aw_S} {m : Nat → Nat} {R : Nat} {s : ST} {ks Fs : List Nat} (k : StM S2 m R s) (hM : LM S2 m) (f : frM S2 S3 m ks Fs) (h : ∀ k ∈ ks, k < 33) (n : 2 ∉ ks) : StM S3 m R s := fun i hi => by
  rw [f.A hM h (by decide) n]
  exact k i hi
theorem StM.w {S2 : aw_S} {m : Nat → Nat} {R k : Nat} {x : Int32} {s : ST} (h : StM S2 m R s) : StM (wA S2 (m 2) (R + k) x) m R (setN s k x) := fun i hi => by
  rw [sA_wA]
  unfold setN
  by_cases e : i = k
  · rw [if_pos ⟨rfl, by rw [e]⟩, if_pos e]
  · rw [if_neg (fun z => e (by have := z.2; omega)), if_neg e]
    exact h i hi
def plS (S : aw_S) (m : Nat → Nat) (R : Nat) (w : Int32) : aw_S := wA (wA (wA (wA S (m 2) R w) (m 2) (R + 1) (-1000000)) (m 2) (R + 2) (-1000000)) (m 2) (R + 3) (-1000000)
theorem plS_fr {S : aw_S} {m : Nat → Nat} {R : Nat} {w : Int32} : frM S (plS S m R w) m [2] [] := (((frM_wA (by decide)).tr (frM_wA (by decide))).tr (frM_wA (by decide))).tr (frM_wA (by decide))
theorem plS_st {S : aw_S} {m : Nat → Nat} {R : Nat} {w : Int32} : StM (plS S m R w) m R (newS w) := fun k hk => by
  unfold plS newS
  rw [sA_wA, sA_wA, sA_wA, sA_wA]
  match k, hk with
  | 0, _ => rw [if_neg (fun z => absurd z.2 (by omega)), if_neg (fun z => absurd z.2 (by omega)), if_neg (fun z => absurd z.2 (by omega)), if_pos ⟨rfl, rfl⟩, if_pos rfl]
  | 1, _ => rw [if_neg (fun z => absurd z.2 (by omega)), if_neg (fun z => absurd z.2 (by omega)), if_pos ⟨rfl, rfl⟩, if_neg (by decide)]
  | 2, _ => rw [if_neg (fun z => absurd z.2 (by omega)), if_pos ⟨rfl, rfl⟩, if_neg (by decide)]
  | 3, _ => rw [if_pos ⟨rfl, rfl⟩, if_neg (by decide)]
theorem plS_ke {S : aw_S} {m : Nat → Nat} {R : Nat} {w : Int32} : keR S (plS S m R w) m R := (((keR.rf.w (k := 0) (by decide)).w (k := 1) (by decide)).w (k := 2) (by decide)).w (k := 3) (by decide)
def fltS (r : Nat × Option ST) : Int32 := match r.2 with
  | none => nI r.1
  | some _ => -1
theorem fltS_n {r : Nat × Option ST} (h : r.2 = none) : fltS r = nI r.1 := by unfold fltS; rw [h]
theorem fltS_s {r : Nat × Option ST} {x : ST} (h : r.2 = some x) : fltS r = -1 := by unfold fltS; rw [h]
theorem fltW_n {r : Nat × Option Nat} (h : r.2 = none) : fltW r = nI r.1 := by unfold fltW; rw [h]
theorem fltW_s {r : Nat × Option Nat} {x : Nat} (h : r.2 = some x) : fltW r = -1 := by unfold fltW; rw [h]
theorem keR.trans9 {A B C : aw_S} {m : Nat → Nat} {R : Nat} (h : keR A B m R) (k : keR B C m R) : keR A C m R := fun i hi => (k i hi).trans (h i hi)
set_option maxHeartbeats 4000000 in
set_option maxRecDepth 100000 in
theorem q_readStep {S : aw_S} {m : Nat → Nat} (hM0 : LM S m) {L : List Int32} (hT0 : TpM S m L) {p0 R : Nat} (hp0 : p0 ≤ L.length) (hR : R + 4 ≤ 320) (ha0 : sI S 707 (m 33) = nI p0) (hf0 : sI S 708 (m 33) = -1) : aw_M yX11_readStep cX11_readStep 4 (none : Option FieldType) 5 0 0 [.ref (m 33), .int (nI R)] S (fun r S2 => r = none ∧ sI S2 707 (m 33) = nI (ostR L p0).1 ∧ sI S2 708 (m 33) = fltS (ostR L p0) ∧ (∀ s, (ostR L p0).2 = some s → StM S2 m R s) ∧ keR S S2 m R ∧ frM S S2 m [2] [707, 708]) := by
  have h240 := hT0.2.1
  have k0 := skB_le hp0
  have hM := hM0
  have k1 := wrdR_le hp0
  refine aw_enter (by decide +kernel) (Nat.le_of_ble_eq_true rfl) (fun g K EE => ?_)
  cases hw : (wrdR L p0).2 with
  | none =>
    first | refine a_aload_n K dX11_readStep_0 rfl ?_ | refine a_aload_nN K dX11_readStep_0 rfl ?_
    refine a_invV K (q_word hM0 hT0 (by omega) rfl (by omega) ha0 hf0) my_X11_word ml_X11_167 im_X11_word se_X11_word (ci := 11) (by exact lm_o hM) (by decide) ⟨_, _, rfl⟩ rfl (by omega) (by omega) (by omega) rfl (Nat.le_of_ble_eq_true rfl) dX11_readStep_1 ?_
    intro r9 S1 hp9
    obtain ⟨w9, rfl, ha, hf, hw9, g1⟩ := hp9
    have hT := hT0.fr hM0 g1 (by decide) (by decide) (by decide)
    have hM := g1.lay hM0
    refine a_istore_n K dX11_readStep_4 (by decide) ?_
    first | refine a_aload_n K dX11_readStep_5 rfl ?_ | refine a_aload_nN K dX11_readStep_5 rfl ?_
    refine a_getI K fd_X11_137 (by exact lm_o hM) (Or.inl rfl) dX11_readStep_6 ?_
    rw [hf, fltW_n hw]
    refine a_iconst K dX11_readStep_9 (v := -1) (by decide) ?_
    refine a_icmp_eq K dX11_readStep_10 (tgt := 14) (by decide) (fun c_10 => absurd c_10 (nI_m1n (n := (wrdR L p0).1) (by omega))) (fun c_10 => ?_)
    exact a_vret K EE (by omega) (by omega) dX11_readStep_13 ⟨rfl, by rw [ostR_n hw]; exact ha, by rw [ostR_n hw, hf, fltW_n hw]; rfl, fun s q => absurd (by rw [ostR_n hw] at q; exact q) (by simp), keR.rf.f hM0 g1 (by decide) (by decide), g1.up (fun k hk => absurd hk (by simp)) (by decide)⟩
  | some w =>
    have hw6 := (k1.2.2 w hw).1
    match w, hw, hw6 with
    | 0, hw, _ =>
      have k2 := numR_le (L := L) (less := false) (p := (wrdR L p0).1) k1.1
      have k2s := skB_le k1.1
      cases h1 : (numR L false (wrdR L p0).1).2 with
      | none =>
        have hE : ostR L p0 = ((numR L false (wrdR L p0).1).1, none) := (ostR_s hw).trans (nmsR_n (by decide) h1)
        first | refine a_aload_n K dX11_readStep_0 rfl ?_ | refine a_aload_nN K dX11_readStep_0 rfl ?_
        refine a_invV K (q_word hM0 hT0 (by omega) rfl (by omega) ha0 hf0) my_X11_word ml_X11_167 im_X11_word se_X11_word (ci := 11) (by exact lm_o hM) (by decide) ⟨_, _, rfl⟩ rfl (by omega) (by omega) (by omega) rfl (Nat.le_of_ble_eq_true rfl) dX11_readStep_1 ?_
        intro r9 S1 hp9
        obtain ⟨w9, rfl, ha, hf, hw9, g1⟩ := hp9
        have hT := hT0.fr hM0 g1 (by decide) (by decide) (by decide)
        have hM := g1.lay hM0
        refine a_istore_n K dX11_readStep_4 (by decide) ?_
        first | refine a_aload_n K dX11_readStep_5 rfl ?_ | refine a_aload_nN K dX11_readStep_5 rfl ?_
        refine a_getI K fd_X11_137 (by exact lm_o hM) (Or.inl rfl) dX11_readStep_6 ?_
        rw [hf]
        refine a_iconst K dX11_readStep_9 (v := -1) (by decide) ?_
        refine a_icmp_eq K dX11_readStep_10 (tgt := 14) (by decide) (fun c_10 => ?_) (fun c_10 => absurd c_10 (fun z => z (fltW_s hw)))
        rw [show w9 = 0 from hw9 0 hw]
        first | refine a_aload_n K dX11_readStep_14 rfl ?_ | refine a_aload_nN K dX11_readStep_14 rfl ?_
        refine a_getRs K fd_X11_17 (by exact lm_o hM) (Or.inr ⟨_, rfl⟩) (by exact lm_r710 hM) dX11_readStep_15 ?_
        refine a_iload_n K dX11_readStep_18 rfl ?_
        refine a_iload_n K dX11_readStep_19 rfl ?_
        refine a_iast K (by exact lm_kk hM (by decide) (by decide)) (by show vp_in _ (sN S1 (m 2)); exact lm_ix (z := 320) hM (by decide) (by decide) (show R < 320 by omega) (by decide)) dX11_readStep_20 ?_
        rw [nI_clamp (by omega)]
        refine a_iconst K dX11_readStep_21 (v := 1) (by decide) ?_
        refine a_istore_n K dX11_readStep_22 (by decide) ?_
        refine a_iload_n K dX11_readStep_23 rfl ?_
        refine a_iconst K dX11_readStep_24 (v := 4) (by decide) ?_
        refine a_icmp_ge K dX11_readStep_25 (tgt := 44) (by decide) (fun c_25 => absurd c_25 (by decide)) (fun c_25 => ?_)
        first | refine a_aload_n K dX11_readStep_28 rfl ?_ | refine a_aload_nN K dX11_readStep_28 rfl ?_
        refine a_getRs K fd_X11_17 (by exact lm_o hM) (Or.inr ⟨_, rfl⟩) (by exact lm_r710 hM) dX11_readStep_29 ?_
        refine a_iload_n K dX11_readStep_32 rfl ?_
        refine a_iload_n K dX11_readStep_33 rfl ?_
        refine a_iadd K dX11_readStep_34 ?_
        first | rw [nI_add1] | rw [nI_add2] | rw [nI_add3]
        refine a_ldc K kc_X11_170 dX11_readStep_35 ?_
        refine a_iast K (by exact lm_kk hM (by decide) (by decide)) (by first | (show vp_in _ (sN _ (m 2)); first | exact lm_ix (z := 320) hM (by decide) (by decide) (show R + 1 < 320 by omega) (by decide) | exact lm_ix (z := 320) hM (by decide) (by decide) (show R + 2 < 320 by omega) (by decide) | exact lm_ix (z := 320) hM (by decide) (by decide) (show R + 3 < 320 by omega) (by decide))) dX11_readStep_37 ?_
        rw [nI_clamp (by omega)]
        refine a_iinc K dX11_readStep_38 (v := 1) rfl (by decide) (by decide) ?_
        refine a_goto K dX11_readStep_41 (tgt := 23) (by decide) ?_
        refine a_iload_n K dX11_readStep_23 rfl ?_
        refine a_iconst K dX11_readStep_24 (v := 4) (by decide) ?_
        refine a_icmp_ge K dX11_readStep_25 (tgt := 44) (by decide) (fun c_25 => absurd c_25 (by decide)) (fun c_25 => ?_)
        first | refine a_aload_n K dX11_readStep_28 rfl ?_ | refine a_aload_nN K dX11_readStep_28 rfl ?_
        refine a_getRs K fd_X11_17 (by exact lm_o hM) (Or.inr ⟨_, rfl⟩) (by exact lm_r710 hM) dX11_readStep_29 ?_
        refine a_iload_n K dX11_readStep_32 rfl ?_
        refine a_iload_n K dX11_readStep_33 rfl ?_
        refine a_iadd K dX11_readStep_34 ?_
        first | rw [nI_add1] | rw [nI_add2] | rw [nI_add3]
        refine a_ldc K kc_X11_170 dX11_readStep_35 ?_
        refine a_iast K (by exact lm_kk hM (by decide) (by decide)) (by first | (show vp_in _ (sN _ (m 2)); first | exact lm_ix (z := 320) hM (by decide) (by decide) (show R + 1 < 320 by omega) (by decide) | exact lm_ix (z := 320) hM (by decide) (by decide) (show R + 2 < 320 by omega) (by decide) | exact lm_ix (z := 320) hM (by decide) (by decide) (show R + 3 < 320 by omega) (by decide))) dX11_readStep_37 ?_
        rw [nI_clamp (by omega)]
        refine a_iinc K dX11_readStep_38 (v := 1) rfl (by decide) (by decide) ?_
        refine a_goto K dX11_readStep_41 (tgt := 23) (by decide) ?_
        refine a_iload_n K dX11_readStep_23 rfl ?_
        refine a_iconst K dX11_readStep_24 (v := 4) (by decide) ?_
        refine a_icmp_ge K dX11_readStep_25 (tgt := 44) (by decide) (fun c_25 => absurd c_25 (by decide)) (fun c_25 => ?_)
        first | refine a_aload_n K dX11_readStep_28 rfl ?_ | refine a_aload_nN K dX11_readStep_28 rfl ?_
        refine a_getRs K fd_X11_17 (by exact lm_o hM) (Or.inr ⟨_, rfl⟩) (by exact lm_r710 hM) dX11_readStep_29 ?_
        refine a_iload_n K dX11_readStep_32 rfl ?_
        refine a_iload_n K dX11_readStep_33 rfl ?_
        refine a_iadd K dX11_readStep_34 ?_
        first | rw [nI_add1] | rw [nI_add2] | rw [nI_add3]
        refine a_ldc K kc_X11_170 dX11_readStep_35 ?_
        refine a_iast K (by exact lm_kk hM (by decide) (by decide)) (by first | (show vp_in _ (sN _ (m 2)); first | exact lm_ix (z := 320) hM (by decide) (by decide) (show R + 1 < 320 by omega) (by decide) | exact lm_ix (z := 320) hM (by decide) (by decide) (show R + 2 < 320 by omega) (by decide) | exact lm_ix (z := 320) hM (by decide) (by decide) (show R + 3 < 320 by omega) (by decide))) dX11_readStep_37 ?_
        rw [nI_clamp (by omega)]
        refine a_iinc K dX11_readStep_38 (v := 1) rfl (by decide) (by decide) ?_
        refine a_goto K dX11_readStep_41 (tgt := 23) (by decide) ?_
        refine a_iload_n K dX11_readStep_23 rfl ?_
        refine a_iconst K dX11_readStep_24 (v := 4) (by decide) ?_
        refine a_icmp_ge K dX11_readStep_25 (tgt := 44) (by decide) (fun c_25 => ?_) (fun c_25 => absurd c_25 (by decide))
        rw [show wA (wA (wA (wA S1 (m 2) R 0) (m 2) (R + 1) (-1000000)) (m 2) (R + 2) (-1000000)) (m 2) (R + 3) (-1000000) = plS S1 m R 0 from rfl]
        have g2 : frM S1 (plS S1 m R 0) m [2] [] := plS_fr
        have hs : StM (plS S1 m R 0) m R (newS (nI 0)) := plS_st
        have kp : keR S (plS S1 m R 0) m R := (keR.rf.f hM0 g1 (by decide) (by decide)).trans9 plS_ke
        have hT := hT.fr hM g2 (by decide) (by decide) (by decide)
        have ha := (g2.2 707 (by decide)).trans ha
        have hf := ((g2.2 708 (by decide)).trans hf).trans (fltW_s hw)
        have f : frM S (plS S1 m R 0) m [2] [707, 708] := (g1.up (fun k hk => absurd hk (by simp)) (by decide)).tr (g2.up (by decide) (by decide))
        have hM := g2.lay hM
        obtain ⟨V, hV⟩ : ∃ V, plS S1 m R 0 = V := ⟨_, rfl⟩
        rw [hV] at hs kp hT ha hf f hM ⊢
        refine a_iload_n K dX11_readStep_44 rfl ?_
        refine a_iconst K dX11_readStep_45 (v := 5) (by decide) ?_
        refine a_icmp_ne K dX11_readStep_46 (tgt := 50) (by decide) (fun c_46 => ?_) (fun c_46 => absurd c_46 (by decide))
        first | refine a_aload_n K dX11_readStep_50 rfl ?_ | refine a_aload_nN K dX11_readStep_50 rfl ?_
        refine a_getRs K fd_X11_17 (by exact lm_o hM) (Or.inr ⟨_, rfl⟩) (by exact lm_r710 hM) dX11_readStep_51 ?_
        refine a_iload_n K dX11_readStep_54 rfl ?_
        refine a_iconst K dX11_readStep_55 (v := 1) (by decide) ?_
        refine a_iadd K dX11_readStep_56 ?_
        rw [nI_add1]
        first | refine a_aload_n K dX11_readStep_57 rfl ?_ | refine a_aload_nN K dX11_readStep_57 rfl ?_
        refine a_invV K (q_number hM hT (by omega) rfl (by omega) ha hf) my_X11_number ml_X11_150 im_X11_number se_X11_number (ci := 11) (by exact lm_o hM) (by decide) ⟨_, _, rfl⟩ rfl (by omega) (by omega) (by omega) rfl (Nat.le_of_ble_eq_true rfl) dX11_readStep_58 ?_
        intro r9 S2 hp9
        obtain ⟨x9, rfl, ha, hf, hx9, g9⟩ := hp9
        rw [show numD L false (skB L (wrdR L p0).1) = numR L false (wrdR L p0).1 from rfl] at ha hf hx9
        have hT := hT.fr hM g9 (by decide) (by decide) (by decide)
        have f := f.tr (g9.up (fun k hk => absurd hk (by simp)) (by decide))
        have kp := kp.f hM g9 (by decide) (by decide)
        have hs := hs.f hM g9 (by decide) (by decide)
        have hM := g9.lay hM
        refine a_iast K (by exact lm_kk hM (by decide) (by decide)) (by first | (show vp_in _ (sN _ (m 2)); first | exact lm_ix (z := 320) hM (by decide) (by decide) (show R + 1 < 320 by omega) (by decide) | exact lm_ix (z := 320) hM (by decide) (by decide) (show R + 2 < 320 by omega) (by decide) | exact lm_ix (z := 320) hM (by decide) (by decide) (show R + 3 < 320 by omega) (by decide))) dX11_readStep_61 ?_
        rw [nI_clamp (by omega)]
        have g8 : frM S2 (wA S2 (m 2) (R + 1) x9) m [2] [] := frM_wA (by decide)
        have hs : StM (wA S2 (m 2) (R + 1) x9) m R _ := hs.w (k := 1) (x := x9)
        have kp : keR S (wA S2 (m 2) (R + 1) x9) m R := kp.w (k := 1) (x := x9) (by decide)
        have hT := hT.fr hM g8 (by decide) (by decide) (by decide)
        have ha : sI (wA S2 (m 2) (R + 1) x9) 707 (m 33) = _ := ha
        have hf : sI (wA S2 (m 2) (R + 1) x9) 708 (m 33) = _ := hf
        have f := f.tr (g8.up (by decide) (by decide))
        have hM := g8.lay hM
        first | refine a_aload_n K dX11_readStep_62 rfl ?_ | refine a_aload_nN K dX11_readStep_62 rfl ?_
        refine a_getI K fd_X11_137 (by exact lm_o hM) (Or.inl rfl) dX11_readStep_63 ?_
        rw [hf, fltN_n h1]
        refine a_iconst K dX11_readStep_66 (v := -1) (by decide) ?_
        refine a_icmp_ne K dX11_readStep_67 (tgt := 75) (by decide) (fun c_67 => ?_) (fun c_67 => absurd c_67 (nI_m1n (n := (numR L false (wrdR L p0).1).1) (by omega)))
        exact a_vret K EE (by omega) (by omega) dX11_readStep_75 ⟨rfl, by rw [hE]; exact ha, by rw [hE]; exact hf.trans (fltN_n h1), fun s q => absurd (by rw [hE] at q; exact q) (by simp), kp, f⟩
      | some x1 =>
        have k3 := numR_le (L := L) (less := true) (p := (numR L false (wrdR L p0).1).1) k2.2.1
        have k3s := skB_le k2.2.1
        cases h2 : (numR L true (numR L false (wrdR L p0).1).1).2 with
        | none =>
          have hE : ostR L p0 = ((numR L true (numR L false (wrdR L p0).1).1).1, none) := (ostR_s hw).trans ((nmsR_s (by decide) h1).trans (nmsR_n (by decide) h2))
          first | refine a_aload_n K dX11_readStep_0 rfl ?_ | refine a_aload_nN K dX11_readStep_0 rfl ?_
          refine a_invV K (q_word hM0 hT0 (by omega) rfl (by omega) ha0 hf0) my_X11_word ml_X11_167 im_X11_word se_X11_word (ci := 11) (by exact lm_o hM) (by decide) ⟨_, _, rfl⟩ rfl (by omega) (by omega) (by omega) rfl (Nat.le_of_ble_eq_true rfl) dX11_readStep_1 ?_
          intro r9 S1 hp9
          obtain ⟨w9, rfl, ha, hf, hw9, g1⟩ := hp9
          have hT := hT0.fr hM0 g1 (by decide) (by decide) (by decide)
          have hM := g1.lay hM0
          refine a_istore_n K dX11_readStep_4 (by decide) ?_
          first | refine a_aload_n K dX11_readStep_5 rfl ?_ | refine a_aload_nN K dX11_readStep_5 rfl ?_
          refine a_getI K fd_X11_137 (by exact lm_o hM) (Or.inl rfl) dX11_readStep_6 ?_
          rw [hf]
          refine a_iconst K dX11_readStep_9 (v := -1) (by decide) ?_
          refine a_icmp_eq K dX11_readStep_10 (tgt := 14) (by decide) (fun c_10 => ?_) (fun c_10 => absurd c_10 (fun z => z (fltW_s hw)))
          rw [show w9 = 0 from hw9 0 hw]
          first | refine a_aload_n K dX11_readStep_14 rfl ?_ | refine a_aload_nN K dX11_readStep_14 rfl ?_
          refine a_getRs K fd_X11_17 (by exact lm_o hM) (Or.inr ⟨_, rfl⟩) (by exact lm_r710 hM) dX11_readStep_15 ?_
          refine a_iload_n K dX11_readStep_18 rfl ?_
          refine a_iload_n K dX11_readStep_19 rfl ?_
          refine a_iast K (by exact lm_kk hM (by decide) (by decide)) (by show vp_in _ (sN S1 (m 2)); exact lm_ix (z := 320) hM (by decide) (by decide) (show R < 320 by omega) (by decide)) dX11_readStep_20 ?_
          rw [nI_clamp (by omega)]
          refine a_iconst K dX11_readStep_21 (v := 1) (by decide) ?_
          refine a_istore_n K dX11_readStep_22 (by decide) ?_
          refine a_iload_n K dX11_readStep_23 rfl ?_
          refine a_iconst K dX11_readStep_24 (v := 4) (by decide) ?_
          refine a_icmp_ge K dX11_readStep_25 (tgt := 44) (by decide) (fun c_25 => absurd c_25 (by decide)) (fun c_25 => ?_)
          first | refine a_aload_n K dX11_readStep_28 rfl ?_ | refine a_aload_nN K dX11_readStep_28 rfl ?_
          refine a_getRs K fd_X11_17 (by exact lm_o hM) (Or.inr ⟨_, rfl⟩) (by exact lm_r710 hM) dX11_readStep_29 ?_
          refine a_iload_n K dX11_readStep_32 rfl ?_
          refine a_iload_n K dX11_readStep_33 rfl ?_
          refine a_iadd K dX11_readStep_34 ?_
          first | rw [nI_add1] | rw [nI_add2] | rw [nI_add3]
          refine a_ldc K kc_X11_170 dX11_readStep_35 ?_
          refine a_iast K (by exact lm_kk hM (by decide) (by decide)) (by first | (show vp_in _ (sN _ (m 2)); first | exact lm_ix (z := 320) hM (by decide) (by decide) (show R + 1 < 320 by omega) (by decide) | exact lm_ix (z := 320) hM (by decide) (by decide) (show R + 2 < 320 by omega) (by decide) | exact lm_ix (z := 320) hM (by decide) (by decide) (show R + 3 < 320 by omega) (by decide))) dX11_readStep_37 ?_
          rw [nI_clamp (by omega)]
          refine a_iinc K dX11_readStep_38 (v := 1) rfl (by decide) (by decide) ?_
          refine a_goto K dX11_readStep_41 (tgt := 23) (by decide) ?_
          refine a_iload_n K dX11_readStep_23 rfl ?_
          refine a_iconst K dX11_readStep_24 (v := 4) (by decide) ?_
          refine a_icmp_ge K dX11_readStep_25 (tgt := 44) (by decide) (fun c_25 => absurd c_25 (by decide)) (fun c_25 => ?_)
          first | refine a_aload_n K dX11_readStep_28 rfl ?_ | refine a_aload_nN K dX11_readStep_28 rfl ?_
          refine a_getRs K fd_X11_17 (by exact lm_o hM) (Or.inr ⟨_, rfl⟩) (by exact lm_r710 hM) dX11_readStep_29 ?_
          refine a_iload_n K dX11_readStep_32 rfl ?_
          refine a_iload_n K dX11_readStep_33 rfl ?_
          refine a_iadd K dX11_readStep_34 ?_
          first | rw [nI_add1] | rw [nI_add2] | rw [nI_add3]
          refine a_ldc K kc_X11_170 dX11_readStep_35 ?_
          refine a_iast K (by exact lm_kk hM (by decide) (by decide)) (by first | (show vp_in _ (sN _ (m 2)); first | exact lm_ix (z := 320) hM (by decide) (by decide) (show R + 1 < 320 by omega) (by decide) | exact lm_ix (z := 320) hM (by decide) (by decide) (show R + 2 < 320 by omega) (by decide) | exact lm_ix (z := 320) hM (by decide) (by decide) (show R + 3 < 320 by omega) (by decide))) dX11_readStep_37 ?_
          rw [nI_clamp (by omega)]
          refine a_iinc K dX11_readStep_38 (v := 1) rfl (by decide) (by decide) ?_
          refine a_goto K dX11_readStep_41 (tgt := 23) (by decide) ?_
          refine a_iload_n K dX11_readStep_23 rfl ?_
          refine a_iconst K dX11_readStep_24 (v := 4) (by decide) ?_
          refine a_icmp_ge K dX11_readStep_25 (tgt := 44) (by decide) (fun c_25 => absurd c_25 (by decide)) (fun c_25 => ?_)
          first | refine a_aload_n K dX11_readStep_28 rfl ?_ | refine a_aload_nN K dX11_readStep_28 rfl ?_
          refine a_getRs K fd_X11_17 (by exact lm_o hM) (Or.inr ⟨_, rfl⟩) (by exact lm_r710 hM) dX11_readStep_29 ?_
          refine a_iload_n K dX11_readStep_32 rfl ?_
          refine a_iload_n K dX11_readStep_33 rfl ?_
          refine a_iadd K dX11_readStep_34 ?_
          first | rw [nI_add1] | rw [nI_add2] | rw [nI_add3]
          refine a_ldc K kc_X11_170 dX11_readStep_35 ?_
          refine a_iast K (by exact lm_kk hM (by decide) (by decide)) (by first | (show vp_in _ (sN _ (m 2)); first | exact lm_ix (z := 320) hM (by decide) (by decide) (show R + 1 < 320 by omega) (by decide) | exact lm_ix (z := 320) hM (by decide) (by decide) (show R + 2 < 320 by omega) (by decide) | exact lm_ix (z := 320) hM (by decide) (by decide) (show R + 3 < 320 by omega) (by decide))) dX11_readStep_37 ?_
          rw [nI_clamp (by omega)]
          refine a_iinc K dX11_readStep_38 (v := 1) rfl (by decide) (by decide) ?_
          refine a_goto K dX11_readStep_41 (tgt := 23) (by decide) ?_
          refine a_iload_n K dX11_readStep_23 rfl ?_
          refine a_iconst K dX11_readStep_24 (v := 4) (by decide) ?_
          refine a_icmp_ge K dX11_readStep_25 (tgt := 44) (by decide) (fun c_25 => ?_) (fun c_25 => absurd c_25 (by decide))
          rw [show wA (wA (wA (wA S1 (m 2) R 0) (m 2) (R + 1) (-1000000)) (m 2) (R + 2) (-1000000)) (m 2) (R + 3) (-1000000) = plS S1 m R 0 from rfl]
          have g2 : frM S1 (plS S1 m R 0) m [2] [] := plS_fr
          have hs : StM (plS S1 m R 0) m R (newS (nI 0)) := plS_st
          have kp : keR S (plS S1 m R 0) m R := (keR.rf.f hM0 g1 (by decide) (by decide)).trans9 plS_ke
          have hT := hT.fr hM g2 (by decide) (by decide) (by decide)
          have ha := (g2.2 707 (by decide)).trans ha
          have hf := ((g2.2 708 (by decide)).trans hf).trans (fltW_s hw)
          have f : frM S (plS S1 m R 0) m [2] [707, 708] := (g1.up (fun k hk => absurd hk (by simp)) (by decide)).tr (g2.up (by decide) (by decide))
          have hM := g2.lay hM
          obtain ⟨V, hV⟩ : ∃ V, plS S1 m R 0 = V := ⟨_, rfl⟩
          rw [hV] at hs kp hT ha hf f hM ⊢
          refine a_iload_n K dX11_readStep_44 rfl ?_
          refine a_iconst K dX11_readStep_45 (v := 5) (by decide) ?_
          refine a_icmp_ne K dX11_readStep_46 (tgt := 50) (by decide) (fun c_46 => ?_) (fun c_46 => absurd c_46 (by decide))
          first | refine a_aload_n K dX11_readStep_50 rfl ?_ | refine a_aload_nN K dX11_readStep_50 rfl ?_
          refine a_getRs K fd_X11_17 (by exact lm_o hM) (Or.inr ⟨_, rfl⟩) (by exact lm_r710 hM) dX11_readStep_51 ?_
          refine a_iload_n K dX11_readStep_54 rfl ?_
          refine a_iconst K dX11_readStep_55 (v := 1) (by decide) ?_
          refine a_iadd K dX11_readStep_56 ?_
          rw [nI_add1]
          first | refine a_aload_n K dX11_readStep_57 rfl ?_ | refine a_aload_nN K dX11_readStep_57 rfl ?_
          refine a_invV K (q_number hM hT (by omega) rfl (by omega) ha hf) my_X11_number ml_X11_150 im_X11_number se_X11_number (ci := 11) (by exact lm_o hM) (by decide) ⟨_, _, rfl⟩ rfl (by omega) (by omega) (by omega) rfl (Nat.le_of_ble_eq_true rfl) dX11_readStep_58 ?_
          intro r9 S2 hp9
          obtain ⟨x9, rfl, ha, hf, hx9, g9⟩ := hp9
          rw [show numD L false (skB L (wrdR L p0).1) = numR L false (wrdR L p0).1 from rfl] at ha hf hx9
          have hT := hT.fr hM g9 (by decide) (by decide) (by decide)
          have f := f.tr (g9.up (fun k hk => absurd hk (by simp)) (by decide))
          have kp := kp.f hM g9 (by decide) (by decide)
          have hs := hs.f hM g9 (by decide) (by decide)
          have hM := g9.lay hM
          refine a_iast K (by exact lm_kk hM (by decide) (by decide)) (by first | (show vp_in _ (sN _ (m 2)); first | exact lm_ix (z := 320) hM (by decide) (by decide) (show R + 1 < 320 by omega) (by decide) | exact lm_ix (z := 320) hM (by decide) (by decide) (show R + 2 < 320 by omega) (by decide) | exact lm_ix (z := 320) hM (by decide) (by decide) (show R + 3 < 320 by omega) (by decide))) dX11_readStep_61 ?_
          rw [nI_clamp (by omega)]
          have hx := hx9 x1 h1
          subst hx
          have g8 : frM S2 (wA S2 (m 2) (R + 1) x9) m [2] [] := frM_wA (by decide)
          have hs : StM (wA S2 (m 2) (R + 1) x9) m R _ := hs.w (k := 1) (x := x9)
          have kp : keR S (wA S2 (m 2) (R + 1) x9) m R := kp.w (k := 1) (x := x9) (by decide)
          have hT := hT.fr hM g8 (by decide) (by decide) (by decide)
          have ha : sI (wA S2 (m 2) (R + 1) x9) 707 (m 33) = _ := ha
          have hf : sI (wA S2 (m 2) (R + 1) x9) 708 (m 33) = _ := hf
          have f := f.tr (g8.up (by decide) (by decide))
          have hM := g8.lay hM
          have hf := hf.trans (fltN_s h1)
          first | refine a_aload_n K dX11_readStep_62 rfl ?_ | refine a_aload_nN K dX11_readStep_62 rfl ?_
          refine a_getI K fd_X11_137 (by exact lm_o hM) (Or.inl rfl) dX11_readStep_63 ?_
          rw [hf]
          refine a_iconst K dX11_readStep_66 (v := -1) (by decide) ?_
          refine a_icmp_ne K dX11_readStep_67 (tgt := 75) (by decide) (fun c_67 => absurd c_67 (fun z => z rfl)) (fun c_67 => ?_)
          refine a_iload_n K dX11_readStep_70 rfl ?_
          refine a_iconst K dX11_readStep_71 (v := 1) (by decide) ?_
          refine a_icmp_ne K dX11_readStep_72 (tgt := 76) (by decide) (fun c_72 => ?_) (fun c_72 => absurd c_72 (by decide))
          first | refine a_aload_n K dX11_readStep_76 rfl ?_ | refine a_aload_nN K dX11_readStep_76 rfl ?_
          refine a_getRs K fd_X11_17 (by exact lm_o hM) (Or.inr ⟨_, rfl⟩) (by exact lm_r710 hM) dX11_readStep_77 ?_
          refine a_iload_n K dX11_readStep_80 rfl ?_
          refine a_iconst K dX11_readStep_81 (v := 2) (by decide) ?_
          refine a_iadd K dX11_readStep_82 ?_
          rw [show nI R + 2 = nI (R + 2) from by rw [show (2 : Int32) = nI 2 from rfl, nI_add]]
          refine a_iload_n K dX11_readStep_83 rfl ?_
          refine a_iconst K dX11_readStep_84 (v := 3) (by decide) ?_
          refine a_icmp_eq K dX11_readStep_85 (tgt := 93) (by decide) (fun c_85 => absurd c_85 (by decide)) (fun c_85 => ?_)
          refine a_iload_n K dX11_readStep_88 rfl ?_
          refine a_iconst K dX11_readStep_89 (v := 4) (by decide) ?_
          refine a_icmp_ne K dX11_readStep_90 (tgt := 100) (by decide) (fun c_90 => ?_) (fun c_90 => absurd c_90 (by decide))
          first | refine a_aload_n K dX11_readStep_100 rfl ?_ | refine a_aload_nN K dX11_readStep_100 rfl ?_
          refine a_invV K (q_value hM hT (by omega) rfl (by omega) ha hf) my_X11_value ml_X11_156 im_X11_value se_X11_value (ci := 11) (by exact lm_o hM) (by decide) ⟨_, _, rfl⟩ rfl (by omega) (by omega) (by omega) rfl (Nat.le_of_ble_eq_true rfl) dX11_readStep_101 ?_
          intro r9 S3 hp9
          obtain ⟨y9, rfl, ha, hf, hy9, g9⟩ := hp9
          have hT := hT.fr hM g9 (by decide) (by decide) (by decide)
          have f := f.tr (g9.up (fun k hk => absurd hk (by simp)) (by decide))
          have kp := kp.f hM g9 (by decide) (by decide)
          have hs := hs.f hM g9 (by decide) (by decide)
          have hM := g9.lay hM
          refine a_iast K (by exact lm_kk hM (by decide) (by decide)) (by first | (show vp_in _ (sN _ (m 2)); first | exact lm_ix (z := 320) hM (by decide) (by decide) (show R + 1 < 320 by omega) (by decide) | exact lm_ix (z := 320) hM (by decide) (by decide) (show R + 2 < 320 by omega) (by decide) | exact lm_ix (z := 320) hM (by decide) (by decide) (show R + 3 < 320 by omega) (by decide))) dX11_readStep_104 ?_
          rw [nI_clamp (by omega)]
          have g8 : frM S3 (wA S3 (m 2) (R + 2) y9) m [2] [] := frM_wA (by decide)
          have hs : StM (wA S3 (m 2) (R + 2) y9) m R _ := hs.w (k := 2) (x := y9)
          have kp : keR S (wA S3 (m 2) (R + 2) y9) m R := kp.w (k := 2) (x := y9) (by decide)
          have hT := hT.fr hM g8 (by decide) (by decide) (by decide)
          have ha : sI (wA S3 (m 2) (R + 2) y9) 707 (m 33) = _ := ha
          have hf : sI (wA S3 (m 2) (R + 2) y9) 708 (m 33) = _ := hf
          have f := f.tr (g8.up (by decide) (by decide))
          have hM := g8.lay hM
          first | refine a_aload_n K dX11_readStep_105 rfl ?_ | refine a_aload_nN K dX11_readStep_105 rfl ?_
          refine a_getI K fd_X11_137 (by exact lm_o hM) (Or.inl rfl) dX11_readStep_106 ?_
          rw [hf, fltN_n h2]
          refine a_iconst K dX11_readStep_109 (v := -1) (by decide) ?_
          refine a_icmp_ne K dX11_readStep_110 (tgt := 130) (by decide) (fun c_110 => ?_) (fun c_110 => absurd c_110 (nI_m1n (n := (numR L true (numR L false (wrdR L p0).1).1).1) (by omega)))
          exact a_vret K EE (by omega) (by omega) dX11_readStep_130 ⟨rfl, by rw [hE]; exact ha, by rw [hE]; exact hf.trans (fltN_n h2), fun s q => absurd (by rw [hE] at q; exact q) (by simp), kp, f⟩
        | some x2 =>
          have hE : ostR L p0 = ((numR L true (numR L false (wrdR L p0).1).1).1, some (setN (setN (newS (nI 0)) 1 x1) 2 x2)) := (ostR_s hw).trans ((nmsR_s (by decide) h1).trans (nmsR_s (by decide) h2))
          first | refine a_aload_n K dX11_readStep_0 rfl ?_ | refine a_aload_nN K dX11_readStep_0 rfl ?_
          refine a_invV K (q_word hM0 hT0 (by omega) rfl (by omega) ha0 hf0) my_X11_word ml_X11_167 im_X11_word se_X11_word (ci := 11) (by exact lm_o hM) (by decide) ⟨_, _, rfl⟩ rfl (by omega) (by omega) (by omega) rfl (Nat.le_of_ble_eq_true rfl) dX11_readStep_1 ?_
          intro r9 S1 hp9
          obtain ⟨w9, rfl, ha, hf, hw9, g1⟩ := hp9
          have hT := hT0.fr hM0 g1 (by decide) (by decide) (by decide)
          have hM := g1.lay hM0
          refine a_istore_n K dX11_readStep_4 (by decide) ?_
          first | refine a_aload_n K dX11_readStep_5 rfl ?_ | refine a_aload_nN K dX11_readStep_5 rfl ?_
          refine a_getI K fd_X11_137 (by exact lm_o hM) (Or.inl rfl) dX11_readStep_6 ?_
          rw [hf]
          refine a_iconst K dX11_readStep_9 (v := -1) (by decide) ?_
          refine a_icmp_eq K dX11_readStep_10 (tgt := 14) (by decide) (fun c_10 => ?_) (fun c_10 => absurd c_10 (fun z => z (fltW_s hw)))
          rw [show w9 = 0 from hw9 0 hw]
          first | refine a_aload_n K dX11_readStep_14 rfl ?_ | refine a_aload_nN K dX11_readStep_14 rfl ?_
          refine a_getRs K fd_X11_17 (by exact lm_o hM) (Or.inr ⟨_, rfl⟩) (by exact lm_r710 hM) dX11_readStep_15 ?_
          refine a_iload_n K dX11_readStep_18 rfl ?_
          refine a_iload_n K dX11_readStep_19 rfl ?_
          refine a_iast K (by exact lm_kk hM (by decide) (by decide)) (by show vp_in _ (sN S1 (m 2)); exact lm_ix (z := 320) hM (by decide) (by decide) (show R < 320 by omega) (by decide)) dX11_readStep_20 ?_
          rw [nI_clamp (by omega)]
          refine a_iconst K dX11_readStep_21 (v := 1) (by decide) ?_
          refine a_istore_n K dX11_readStep_22 (by decide) ?_
          refine a_iload_n K dX11_readStep_23 rfl ?_
          refine a_iconst K dX11_readStep_24 (v := 4) (by decide) ?_
          refine a_icmp_ge K dX11_readStep_25 (tgt := 44) (by decide) (fun c_25 => absurd c_25 (by decide)) (fun c_25 => ?_)
          first | refine a_aload_n K dX11_readStep_28 rfl ?_ | refine a_aload_nN K dX11_readStep_28 rfl ?_
          refine a_getRs K fd_X11_17 (by exact lm_o hM) (Or.inr ⟨_, rfl⟩) (by exact lm_r710 hM) dX11_readStep_29 ?_
          refine a_iload_n K dX11_readStep_32 rfl ?_
          refine a_iload_n K dX11_readStep_33 rfl ?_
          refine a_iadd K dX11_readStep_34 ?_
          first | rw [nI_add1] | rw [nI_add2] | rw [nI_add3]
          refine a_ldc K kc_X11_170 dX11_readStep_35 ?_
          refine a_iast K (by exact lm_kk hM (by decide) (by decide)) (by first | (show vp_in _ (sN _ (m 2)); first | exact lm_ix (z := 320) hM (by decide) (by decide) (show R + 1 < 320 by omega) (by decide) | exact lm_ix (z := 320) hM (by decide) (by decide) (show R + 2 < 320 by omega) (by decide) | exact lm_ix (z := 320) hM (by decide) (by decide) (show R + 3 < 320 by omega) (by decide))) dX11_readStep_37 ?_
          rw [nI_clamp (by omega)]
          refine a_iinc K dX11_readStep_38 (v := 1) rfl (by decide) (by decide) ?_
          refine a_goto K dX11_readStep_41 (tgt := 23) (by decide) ?_
          refine a_iload_n K dX11_readStep_23 rfl ?_
          refine a_iconst K dX11_readStep_24 (v := 4) (by decide) ?_
          refine a_icmp_ge K dX11_readStep_25 (tgt := 44) (by decide) (fun c_25 => absurd c_25 (by decide)) (fun c_25 => ?_)
          first | refine a_aload_n K dX11_readStep_28 rfl ?_ | refine a_aload_nN K dX11_readStep_28 rfl ?_
          refine a_getRs K fd_X11_17 (by exact lm_o hM) (Or.inr ⟨_, rfl⟩) (by exact lm_r710 hM) dX11_readStep_29 ?_
          refine a_iload_n K dX11_readStep_32 rfl ?_
          refine a_iload_n K dX11_readStep_33 rfl ?_
          refine a_iadd K dX11_readStep_34 ?_
          first | rw [nI_add1] | rw [nI_add2] | rw [nI_add3]
          refine a_ldc K kc_X11_170 dX11_readStep_35 ?_
          refine a_iast K (by exact lm_kk hM (by decide) (by decide)) (by first | (show vp_in _ (sN _ (m 2)); first | exact lm_ix (z := 320) hM (by decide) (by decide) (show R + 1 < 320 by omega) (by decide) | exact lm_ix (z := 320) hM (by decide) (by decide) (show R + 2 < 320 by omega) (by decide) | exact lm_ix (z := 320) hM (by decide) (by decide) (show R + 3 < 320 by omega) (by decide))) dX11_readStep_37 ?_
          rw [nI_clamp (by omega)]
          refine a_iinc K dX11_readStep_38 (v := 1) rfl (by decide) (by decide) ?_
          refine a_goto K dX11_readStep_41 (tgt := 23) (by decide) ?_
          refine a_iload_n K dX11_readStep_23 rfl ?_
          refine a_iconst K dX11_readStep_24 (v := 4) (by decide) ?_
          refine a_icmp_ge K dX11_readStep_25 (tgt := 44) (by decide) (fun c_25 => absurd c_25 (by decide)) (fun c_25 => ?_)
          first | refine a_aload_n K dX11_readStep_28 rfl ?_ | refine a_aload_nN K dX11_readStep_28 rfl ?_
          refine a_getRs K fd_X11_17 (by exact lm_o hM) (Or.inr ⟨_, rfl⟩) (by exact lm_r710 hM) dX11_readStep_29 ?_
          refine a_iload_n K dX11_readStep_32 rfl ?_
          refine a_iload_n K dX11_readStep_33 rfl ?_
          refine a_iadd K dX11_readStep_34 ?_
          first | rw [nI_add1] | rw [nI_add2] | rw [nI_add3]
          refine a_ldc K kc_X11_170 dX11_readStep_35 ?_
          refine a_iast K (by exact lm_kk hM (by decide) (by decide)) (by first | (show vp_in _ (sN _ (m 2)); first | exact lm_ix (z := 320) hM (by decide) (by decide) (show R + 1 < 320 by omega) (by decide) | exact lm_ix (z := 320) hM (by decide) (by decide) (show R + 2 < 320 by omega) (by decide) | exact lm_ix (z := 320) hM (by decide) (by decide) (show R + 3 < 320 by omega) (by decide))) dX11_readStep_37 ?_
          rw [nI_clamp (by omega)]
          refine a_iinc K dX11_readStep_38 (v := 1) rfl (by decide) (by decide) ?_
          refine a_goto K dX11_readStep_41 (tgt := 23) (by decide) ?_
          refine a_iload_n K dX11_readStep_23 rfl ?_
          refine a_iconst K dX11_readStep_24 (v := 4) (by decide) ?_
          refine a_icmp_ge K dX11_readStep_25 (tgt := 44) (by decide) (fun c_25 => ?_) (fun c_25 => absurd c_25 (by decide))
          rw [show wA (wA (wA (wA S1 (m 2) R 0) (m 2) (R + 1) (-1000000)) (m 2) (R + 2) (-1000000)) (m 2) (R + 3) (-1000000) = plS S1 m R 0 from rfl]
          have g2 : frM S1 (plS S1 m R 0) m [2] [] := plS_fr
          have hs : StM (plS S1 m R 0) m R (newS (nI 0)) := plS_st
          have kp : keR S (plS S1 m R 0) m R := (keR.rf.f hM0 g1 (by decide) (by decide)).trans9 plS_ke
          have hT := hT.fr hM g2 (by decide) (by decide) (by decide)
          have ha := (g2.2 707 (by decide)).trans ha
          have hf := ((g2.2 708 (by decide)).trans hf).trans (fltW_s hw)
          have f : frM S (plS S1 m R 0) m [2] [707, 708] := (g1.up (fun k hk => absurd hk (by simp)) (by decide)).tr (g2.up (by decide) (by decide))
          have hM := g2.lay hM
          obtain ⟨V, hV⟩ : ∃ V, plS S1 m R 0 = V := ⟨_, rfl⟩
          rw [hV] at hs kp hT ha hf f hM ⊢
          refine a_iload_n K dX11_readStep_44 rfl ?_
          refine a_iconst K dX11_readStep_45 (v := 5) (by decide) ?_
          refine a_icmp_ne K dX11_readStep_46 (tgt := 50) (by decide) (fun c_46 => ?_) (fun c_46 => absurd c_46 (by decide))
          first | refine a_aload_n K dX11_readStep_50 rfl ?_ | refine a_aload_nN K dX11_readStep_50 rfl ?_
          refine a_getRs K fd_X11_17 (by exact lm_o hM) (Or.inr ⟨_, rfl⟩) (by exact lm_r710 hM) dX11_readStep_51 ?_
          refine a_iload_n K dX11_readStep_54 rfl ?_
          refine a_iconst K dX11_readStep_55 (v := 1) (by decide) ?_
          refine a_iadd K dX11_readStep_56 ?_
          rw [nI_add1]
          first | refine a_aload_n K dX11_readStep_57 rfl ?_ | refine a_aload_nN K dX11_readStep_57 rfl ?_
          refine a_invV K (q_number hM hT (by omega) rfl (by omega) ha hf) my_X11_number ml_X11_150 im_X11_number se_X11_number (ci := 11) (by exact lm_o hM) (by decide) ⟨_, _, rfl⟩ rfl (by omega) (by omega) (by omega) rfl (Nat.le_of_ble_eq_true rfl) dX11_readStep_58 ?_
          intro r9 S2 hp9
          obtain ⟨x9, rfl, ha, hf, hx9, g9⟩ := hp9
          rw [show numD L false (skB L (wrdR L p0).1) = numR L false (wrdR L p0).1 from rfl] at ha hf hx9
          have hT := hT.fr hM g9 (by decide) (by decide) (by decide)
          have f := f.tr (g9.up (fun k hk => absurd hk (by simp)) (by decide))
          have kp := kp.f hM g9 (by decide) (by decide)
          have hs := hs.f hM g9 (by decide) (by decide)
          have hM := g9.lay hM
          refine a_iast K (by exact lm_kk hM (by decide) (by decide)) (by first | (show vp_in _ (sN _ (m 2)); first | exact lm_ix (z := 320) hM (by decide) (by decide) (show R + 1 < 320 by omega) (by decide) | exact lm_ix (z := 320) hM (by decide) (by decide) (show R + 2 < 320 by omega) (by decide) | exact lm_ix (z := 320) hM (by decide) (by decide) (show R + 3 < 320 by omega) (by decide))) dX11_readStep_61 ?_
          rw [nI_clamp (by omega)]
          have hx := hx9 x1 h1
          subst hx
          have g8 : frM S2 (wA S2 (m 2) (R + 1) x9) m [2] [] := frM_wA (by decide)
          have hs : StM (wA S2 (m 2) (R + 1) x9) m R _ := hs.w (k := 1) (x := x9)
          have kp : keR S (wA S2 (m 2) (R + 1) x9) m R := kp.w (k := 1) (x := x9) (by decide)
          have hT := hT.fr hM g8 (by decide) (by decide) (by decide)
          have ha : sI (wA S2 (m 2) (R + 1) x9) 707 (m 33) = _ := ha
          have hf : sI (wA S2 (m 2) (R + 1) x9) 708 (m 33) = _ := hf
          have f := f.tr (g8.up (by decide) (by decide))
          have hM := g8.lay hM
          have hf := hf.trans (fltN_s h1)
          first | refine a_aload_n K dX11_readStep_62 rfl ?_ | refine a_aload_nN K dX11_readStep_62 rfl ?_
          refine a_getI K fd_X11_137 (by exact lm_o hM) (Or.inl rfl) dX11_readStep_63 ?_
          rw [hf]
          refine a_iconst K dX11_readStep_66 (v := -1) (by decide) ?_
          refine a_icmp_ne K dX11_readStep_67 (tgt := 75) (by decide) (fun c_67 => absurd c_67 (fun z => z rfl)) (fun c_67 => ?_)
          refine a_iload_n K dX11_readStep_70 rfl ?_
          refine a_iconst K dX11_readStep_71 (v := 1) (by decide) ?_
          refine a_icmp_ne K dX11_readStep_72 (tgt := 76) (by decide) (fun c_72 => ?_) (fun c_72 => absurd c_72 (by decide))
          first | refine a_aload_n K dX11_readStep_76 rfl ?_ | refine a_aload_nN K dX11_readStep_76 rfl ?_
          refine a_getRs K fd_X11_17 (by exact lm_o hM) (Or.inr ⟨_, rfl⟩) (by exact lm_r710 hM) dX11_readStep_77 ?_
          refine a_iload_n K dX11_readStep_80 rfl ?_
          refine a_iconst K dX11_readStep_81 (v := 2) (by decide) ?_
          refine a_iadd K dX11_readStep_82 ?_
          rw [show nI R + 2 = nI (R + 2) from by rw [show (2 : Int32) = nI 2 from rfl, nI_add]]
          refine a_iload_n K dX11_readStep_83 rfl ?_
          refine a_iconst K dX11_readStep_84 (v := 3) (by decide) ?_
          refine a_icmp_eq K dX11_readStep_85 (tgt := 93) (by decide) (fun c_85 => absurd c_85 (by decide)) (fun c_85 => ?_)
          refine a_iload_n K dX11_readStep_88 rfl ?_
          refine a_iconst K dX11_readStep_89 (v := 4) (by decide) ?_
          refine a_icmp_ne K dX11_readStep_90 (tgt := 100) (by decide) (fun c_90 => ?_) (fun c_90 => absurd c_90 (by decide))
          first | refine a_aload_n K dX11_readStep_100 rfl ?_ | refine a_aload_nN K dX11_readStep_100 rfl ?_
          refine a_invV K (q_value hM hT (by omega) rfl (by omega) ha hf) my_X11_value ml_X11_156 im_X11_value se_X11_value (ci := 11) (by exact lm_o hM) (by decide) ⟨_, _, rfl⟩ rfl (by omega) (by omega) (by omega) rfl (Nat.le_of_ble_eq_true rfl) dX11_readStep_101 ?_
          intro r9 S3 hp9
          obtain ⟨y9, rfl, ha, hf, hy9, g9⟩ := hp9
          have hT := hT.fr hM g9 (by decide) (by decide) (by decide)
          have f := f.tr (g9.up (fun k hk => absurd hk (by simp)) (by decide))
          have kp := kp.f hM g9 (by decide) (by decide)
          have hs := hs.f hM g9 (by decide) (by decide)
          have hM := g9.lay hM
          refine a_iast K (by exact lm_kk hM (by decide) (by decide)) (by first | (show vp_in _ (sN _ (m 2)); first | exact lm_ix (z := 320) hM (by decide) (by decide) (show R + 1 < 320 by omega) (by decide) | exact lm_ix (z := 320) hM (by decide) (by decide) (show R + 2 < 320 by omega) (by decide) | exact lm_ix (z := 320) hM (by decide) (by decide) (show R + 3 < 320 by omega) (by decide))) dX11_readStep_104 ?_
          rw [nI_clamp (by omega)]
          have hy := hy9 x2 h2
          subst hy
          have g8 : frM S3 (wA S3 (m 2) (R + 2) y9) m [2] [] := frM_wA (by decide)
          have hs : StM (wA S3 (m 2) (R + 2) y9) m R _ := hs.w (k := 2) (x := y9)
          have kp : keR S (wA S3 (m 2) (R + 2) y9) m R := kp.w (k := 2) (x := y9) (by decide)
          have hT := hT.fr hM g8 (by decide) (by decide) (by decide)
          have ha : sI (wA S3 (m 2) (R + 2) y9) 707 (m 33) = _ := ha
          have hf : sI (wA S3 (m 2) (R + 2) y9) 708 (m 33) = _ := hf
          have f := f.tr (g8.up (by decide) (by decide))
          have hM := g8.lay hM
          have hf := hf.trans (fltN_s h2)
          first | refine a_aload_n K dX11_readStep_105 rfl ?_ | refine a_aload_nN K dX11_readStep_105 rfl ?_
          refine a_getI K fd_X11_137 (by exact lm_o hM) (Or.inl rfl) dX11_readStep_106 ?_
          rw [hf]
          refine a_iconst K dX11_readStep_109 (v := -1) (by decide) ?_
          refine a_icmp_ne K dX11_readStep_110 (tgt := 130) (by decide) (fun c_110 => absurd c_110 (fun z => z rfl)) (fun c_110 => ?_)
          refine a_iload_n K dX11_readStep_113 rfl ?_
          refine a_iconst K dX11_readStep_114 (v := 4) (by decide) ?_
          refine a_icmp_ne K dX11_readStep_115 (tgt := 130) (by decide) (fun c_115 => ?_) (fun c_115 => absurd c_115 (by decide))
          exact a_vret K EE (by omega) (by omega) dX11_readStep_130 ⟨rfl, by rw [hE]; exact ha, by rw [hE]; exact hf, fun s q => by rw [hE] at q; rw [← Option.some.inj q]; exact hs, kp, f⟩
    | 1, hw, _ =>
      have k2 := numR_le (L := L) (less := false) (p := (wrdR L p0).1) k1.1
      have k2s := skB_le k1.1
      cases h1 : (numR L false (wrdR L p0).1).2 with
      | none =>
        have hE : ostR L p0 = ((numR L false (wrdR L p0).1).1, none) := (ostR_s hw).trans (nmsR_n (by decide) h1)
        first | refine a_aload_n K dX11_readStep_0 rfl ?_ | refine a_aload_nN K dX11_readStep_0 rfl ?_
        refine a_invV K (q_word hM0 hT0 (by omega) rfl (by omega) ha0 hf0) my_X11_word ml_X11_167 im_X11_word se_X11_word (ci := 11) (by exact lm_o hM) (by decide) ⟨_, _, rfl⟩ rfl (by omega) (by omega) (by omega) rfl (Nat.le_of_ble_eq_true rfl) dX11_readStep_1 ?_
        intro r9 S1 hp9
        obtain ⟨w9, rfl, ha, hf, hw9, g1⟩ := hp9
        have hT := hT0.fr hM0 g1 (by decide) (by decide) (by decide)
        have hM := g1.lay hM0
        refine a_istore_n K dX11_readStep_4 (by decide) ?_
        first | refine a_aload_n K dX11_readStep_5 rfl ?_ | refine a_aload_nN K dX11_readStep_5 rfl ?_
        refine a_getI K fd_X11_137 (by exact lm_o hM) (Or.inl rfl) dX11_readStep_6 ?_
        rw [hf]
        refine a_iconst K dX11_readStep_9 (v := -1) (by decide) ?_
        refine a_icmp_eq K dX11_readStep_10 (tgt := 14) (by decide) (fun c_10 => ?_) (fun c_10 => absurd c_10 (fun z => z (fltW_s hw)))
        rw [show w9 = 1 from hw9 1 hw]
        first | refine a_aload_n K dX11_readStep_14 rfl ?_ | refine a_aload_nN K dX11_readStep_14 rfl ?_
        refine a_getRs K fd_X11_17 (by exact lm_o hM) (Or.inr ⟨_, rfl⟩) (by exact lm_r710 hM) dX11_readStep_15 ?_
        refine a_iload_n K dX11_readStep_18 rfl ?_
        refine a_iload_n K dX11_readStep_19 rfl ?_
        refine a_iast K (by exact lm_kk hM (by decide) (by decide)) (by show vp_in _ (sN S1 (m 2)); exact lm_ix (z := 320) hM (by decide) (by decide) (show R < 320 by omega) (by decide)) dX11_readStep_20 ?_
        rw [nI_clamp (by omega)]
        refine a_iconst K dX11_readStep_21 (v := 1) (by decide) ?_
        refine a_istore_n K dX11_readStep_22 (by decide) ?_
        refine a_iload_n K dX11_readStep_23 rfl ?_
        refine a_iconst K dX11_readStep_24 (v := 4) (by decide) ?_
        refine a_icmp_ge K dX11_readStep_25 (tgt := 44) (by decide) (fun c_25 => absurd c_25 (by decide)) (fun c_25 => ?_)
        first | refine a_aload_n K dX11_readStep_28 rfl ?_ | refine a_aload_nN K dX11_readStep_28 rfl ?_
        refine a_getRs K fd_X11_17 (by exact lm_o hM) (Or.inr ⟨_, rfl⟩) (by exact lm_r710 hM) dX11_readStep_29 ?_
        refine a_iload_n K dX11_readStep_32 rfl ?_
        refine a_iload_n K dX11_readStep_33 rfl ?_
        refine a_iadd K dX11_readStep_34 ?_
        first | rw [nI_add1] | rw [nI_add2] | rw [nI_add3]
        refine a_ldc K kc_X11_170 dX11_readStep_35 ?_
        refine a_iast K (by exact lm_kk hM (by decide) (by decide)) (by first | (show vp_in _ (sN _ (m 2)); first | exact lm_ix (z := 320) hM (by decide) (by decide) (show R + 1 < 320 by omega) (by decide) | exact lm_ix (z := 320) hM (by decide) (by decide) (show R + 2 < 320 by omega) (by decide) | exact lm_ix (z := 320) hM (by decide) (by decide) (show R + 3 < 320 by omega) (by decide))) dX11_readStep_37 ?_
        rw [nI_clamp (by omega)]
        refine a_iinc K dX11_readStep_38 (v := 1) rfl (by decide) (by decide) ?_
        refine a_goto K dX11_readStep_41 (tgt := 23) (by decide) ?_
        refine a_iload_n K dX11_readStep_23 rfl ?_
        refine a_iconst K dX11_readStep_24 (v := 4) (by decide) ?_
        refine a_icmp_ge K dX11_readStep_25 (tgt := 44) (by decide) (fun c_25 => absurd c_25 (by decide)) (fun c_25 => ?_)
        first | refine a_aload_n K dX11_readStep_28 rfl ?_ | refine a_aload_nN K dX11_readStep_28 rfl ?_
        refine a_getRs K fd_X11_17 (by exact lm_o hM) (Or.inr ⟨_, rfl⟩) (by exact lm_r710 hM) dX11_readStep_29 ?_
        refine a_iload_n K dX11_readStep_32 rfl ?_
        refine a_iload_n K dX11_readStep_33 rfl ?_
        refine a_iadd K dX11_readStep_34 ?_
        first | rw [nI_add1] | rw [nI_add2] | rw [nI_add3]
        refine a_ldc K kc_X11_170 dX11_readStep_35 ?_
        refine a_iast K (by exact lm_kk hM (by decide) (by decide)) (by first | (show vp_in _ (sN _ (m 2)); first | exact lm_ix (z := 320) hM (by decide) (by decide) (show R + 1 < 320 by omega) (by decide) | exact lm_ix (z := 320) hM (by decide) (by decide) (show R + 2 < 320 by omega) (by decide) | exact lm_ix (z := 320) hM (by decide) (by decide) (show R + 3 < 320 by omega) (by decide))) dX11_readStep_37 ?_
        rw [nI_clamp (by omega)]
        refine a_iinc K dX11_readStep_38 (v := 1) rfl (by decide) (by decide) ?_
        refine a_goto K dX11_readStep_41 (tgt := 23) (by decide) ?_
        refine a_iload_n K dX11_readStep_23 rfl ?_
        refine a_iconst K dX11_readStep_24 (v := 4) (by decide) ?_
        refine a_icmp_ge K dX11_readStep_25 (tgt := 44) (by decide) (fun c_25 => absurd c_25 (by decide)) (fun c_25 => ?_)
        first | refine a_aload_n K dX11_readStep_28 rfl ?_ | refine a_aload_nN K dX11_readStep_28 rfl ?_
        refine a_getRs K fd_X11_17 (by exact lm_o hM) (Or.inr ⟨_, rfl⟩) (by exact lm_r710 hM) dX11_readStep_29 ?_
        refine a_iload_n K dX11_readStep_32 rfl ?_
        refine a_iload_n K dX11_readStep_33 rfl ?_
        refine a_iadd K dX11_readStep_34 ?_
        first | rw [nI_add1] | rw [nI_add2] | rw [nI_add3]
        refine a_ldc K kc_X11_170 dX11_readStep_35 ?_
        refine a_iast K (by exact lm_kk hM (by decide) (by decide)) (by first | (show vp_in _ (sN _ (m 2)); first | exact lm_ix (z := 320) hM (by decide) (by decide) (show R + 1 < 320 by omega) (by decide) | exact lm_ix (z := 320) hM (by decide) (by decide) (show R + 2 < 320 by omega) (by decide) | exact lm_ix (z := 320) hM (by decide) (by decide) (show R + 3 < 320 by omega) (by decide))) dX11_readStep_37 ?_
        rw [nI_clamp (by omega)]
        refine a_iinc K dX11_readStep_38 (v := 1) rfl (by decide) (by decide) ?_
        refine a_goto K dX11_readStep_41 (tgt := 23) (by decide) ?_
        refine a_iload_n K dX11_readStep_23 rfl ?_
        refine a_iconst K dX11_readStep_24 (v := 4) (by decide) ?_
        refine a_icmp_ge K dX11_readStep_25 (tgt := 44) (by decide) (fun c_25 => ?_) (fun c_25 => absurd c_25 (by decide))
        rw [show wA (wA (wA (wA S1 (m 2) R 1) (m 2) (R + 1) (-1000000)) (m 2) (R + 2) (-1000000)) (m 2) (R + 3) (-1000000) = plS S1 m R 1 from rfl]
        have g2 : frM S1 (plS S1 m R 1) m [2] [] := plS_fr
        have hs : StM (plS S1 m R 1) m R (newS (nI 1)) := plS_st
        have kp : keR S (plS S1 m R 1) m R := (keR.rf.f hM0 g1 (by decide) (by decide)).trans9 plS_ke
        have hT := hT.fr hM g2 (by decide) (by decide) (by decide)
        have ha := (g2.2 707 (by decide)).trans ha
        have hf := ((g2.2 708 (by decide)).trans hf).trans (fltW_s hw)
        have f : frM S (plS S1 m R 1) m [2] [707, 708] := (g1.up (fun k hk => absurd hk (by simp)) (by decide)).tr (g2.up (by decide) (by decide))
        have hM := g2.lay hM
        obtain ⟨V, hV⟩ : ∃ V, plS S1 m R 1 = V := ⟨_, rfl⟩
        rw [hV] at hs kp hT ha hf f hM ⊢
        refine a_iload_n K dX11_readStep_44 rfl ?_
        refine a_iconst K dX11_readStep_45 (v := 5) (by decide) ?_
        refine a_icmp_ne K dX11_readStep_46 (tgt := 50) (by decide) (fun c_46 => ?_) (fun c_46 => absurd c_46 (by decide))
        first | refine a_aload_n K dX11_readStep_50 rfl ?_ | refine a_aload_nN K dX11_readStep_50 rfl ?_
        refine a_getRs K fd_X11_17 (by exact lm_o hM) (Or.inr ⟨_, rfl⟩) (by exact lm_r710 hM) dX11_readStep_51 ?_
        refine a_iload_n K dX11_readStep_54 rfl ?_
        refine a_iconst K dX11_readStep_55 (v := 1) (by decide) ?_
        refine a_iadd K dX11_readStep_56 ?_
        rw [nI_add1]
        first | refine a_aload_n K dX11_readStep_57 rfl ?_ | refine a_aload_nN K dX11_readStep_57 rfl ?_
        refine a_invV K (q_number hM hT (by omega) rfl (by omega) ha hf) my_X11_number ml_X11_150 im_X11_number se_X11_number (ci := 11) (by exact lm_o hM) (by decide) ⟨_, _, rfl⟩ rfl (by omega) (by omega) (by omega) rfl (Nat.le_of_ble_eq_true rfl) dX11_readStep_58 ?_
        intro r9 S2 hp9
        obtain ⟨x9, rfl, ha, hf, hx9, g9⟩ := hp9
        rw [show numD L false (skB L (wrdR L p0).1) = numR L false (wrdR L p0).1 from rfl] at ha hf hx9
        have hT := hT.fr hM g9 (by decide) (by decide) (by decide)
        have f := f.tr (g9.up (fun k hk => absurd hk (by simp)) (by decide))
        have kp := kp.f hM g9 (by decide) (by decide)
        have hs := hs.f hM g9 (by decide) (by decide)
        have hM := g9.lay hM
        refine a_iast K (by exact lm_kk hM (by decide) (by decide)) (by first | (show vp_in _ (sN _ (m 2)); first | exact lm_ix (z := 320) hM (by decide) (by decide) (show R + 1 < 320 by omega) (by decide) | exact lm_ix (z := 320) hM (by decide) (by decide) (show R + 2 < 320 by omega) (by decide) | exact lm_ix (z := 320) hM (by decide) (by decide) (show R + 3 < 320 by omega) (by decide))) dX11_readStep_61 ?_
        rw [nI_clamp (by omega)]
        have g8 : frM S2 (wA S2 (m 2) (R + 1) x9) m [2] [] := frM_wA (by decide)
        have hs : StM (wA S2 (m 2) (R + 1) x9) m R _ := hs.w (k := 1) (x := x9)
        have kp : keR S (wA S2 (m 2) (R + 1) x9) m R := kp.w (k := 1) (x := x9) (by decide)
        have hT := hT.fr hM g8 (by decide) (by decide) (by decide)
        have ha : sI (wA S2 (m 2) (R + 1) x9) 707 (m 33) = _ := ha
        have hf : sI (wA S2 (m 2) (R + 1) x9) 708 (m 33) = _ := hf
        have f := f.tr (g8.up (by decide) (by decide))
        have hM := g8.lay hM
        first | refine a_aload_n K dX11_readStep_62 rfl ?_ | refine a_aload_nN K dX11_readStep_62 rfl ?_
        refine a_getI K fd_X11_137 (by exact lm_o hM) (Or.inl rfl) dX11_readStep_63 ?_
        rw [hf, fltN_n h1]
        refine a_iconst K dX11_readStep_66 (v := -1) (by decide) ?_
        refine a_icmp_ne K dX11_readStep_67 (tgt := 75) (by decide) (fun c_67 => ?_) (fun c_67 => absurd c_67 (nI_m1n (n := (numR L false (wrdR L p0).1).1) (by omega)))
        exact a_vret K EE (by omega) (by omega) dX11_readStep_75 ⟨rfl, by rw [hE]; exact ha, by rw [hE]; exact hf.trans (fltN_n h1), fun s q => absurd (by rw [hE] at q; exact q) (by simp), kp, f⟩
      | some x1 =>
        have hE : ostR L p0 = ((numR L false (wrdR L p0).1).1, some (setN (newS (nI 1)) 1 x1)) := (ostR_s hw).trans (nmsR_s (by decide) h1)
        first | refine a_aload_n K dX11_readStep_0 rfl ?_ | refine a_aload_nN K dX11_readStep_0 rfl ?_
        refine a_invV K (q_word hM0 hT0 (by omega) rfl (by omega) ha0 hf0) my_X11_word ml_X11_167 im_X11_word se_X11_word (ci := 11) (by exact lm_o hM) (by decide) ⟨_, _, rfl⟩ rfl (by omega) (by omega) (by omega) rfl (Nat.le_of_ble_eq_true rfl) dX11_readStep_1 ?_
        intro r9 S1 hp9
        obtain ⟨w9, rfl, ha, hf, hw9, g1⟩ := hp9
        have hT := hT0.fr hM0 g1 (by decide) (by decide) (by decide)
        have hM := g1.lay hM0
        refine a_istore_n K dX11_readStep_4 (by decide) ?_
        first | refine a_aload_n K dX11_readStep_5 rfl ?_ | refine a_aload_nN K dX11_readStep_5 rfl ?_
        refine a_getI K fd_X11_137 (by exact lm_o hM) (Or.inl rfl) dX11_readStep_6 ?_
        rw [hf]
        refine a_iconst K dX11_readStep_9 (v := -1) (by decide) ?_
        refine a_icmp_eq K dX11_readStep_10 (tgt := 14) (by decide) (fun c_10 => ?_) (fun c_10 => absurd c_10 (fun z => z (fltW_s hw)))
        rw [show w9 = 1 from hw9 1 hw]
        first | refine a_aload_n K dX11_readStep_14 rfl ?_ | refine a_aload_nN K dX11_readStep_14 rfl ?_
        refine a_getRs K fd_X11_17 (by exact lm_o hM) (Or.inr ⟨_, rfl⟩) (by exact lm_r710 hM) dX11_readStep_15 ?_
        refine a_iload_n K dX11_readStep_18 rfl ?_
        refine a_iload_n K dX11_readStep_19 rfl ?_
        refine a_iast K (by exact lm_kk hM (by decide) (by decide)) (by show vp_in _ (sN S1 (m 2)); exact lm_ix (z := 320) hM (by decide) (by decide) (show R < 320 by omega) (by decide)) dX11_readStep_20 ?_
        rw [nI_clamp (by omega)]
        refine a_iconst K dX11_readStep_21 (v := 1) (by decide) ?_
        refine a_istore_n K dX11_readStep_22 (by decide) ?_
        refine a_iload_n K dX11_readStep_23 rfl ?_
        refine a_iconst K dX11_readStep_24 (v := 4) (by decide) ?_
        refine a_icmp_ge K dX11_readStep_25 (tgt := 44) (by decide) (fun c_25 => absurd c_25 (by decide)) (fun c_25 => ?_)
        first | refine a_aload_n K dX11_readStep_28 rfl ?_ | refine a_aload_nN K dX11_readStep_28 rfl ?_
        refine a_getRs K fd_X11_17 (by exact lm_o hM) (Or.inr ⟨_, rfl⟩) (by exact lm_r710 hM) dX11_readStep_29 ?_
        refine a_iload_n K dX11_readStep_32 rfl ?_
        refine a_iload_n K dX11_readStep_33 rfl ?_
        refine a_iadd K dX11_readStep_34 ?_
        first | rw [nI_add1] | rw [nI_add2] | rw [nI_add3]
        refine a_ldc K kc_X11_170 dX11_readStep_35 ?_
        refine a_iast K (by exact lm_kk hM (by decide) (by decide)) (by first | (show vp_in _ (sN _ (m 2)); first | exact lm_ix (z := 320) hM (by decide) (by decide) (show R + 1 < 320 by omega) (by decide) | exact lm_ix (z := 320) hM (by decide) (by decide) (show R + 2 < 320 by omega) (by decide) | exact lm_ix (z := 320) hM (by decide) (by decide) (show R + 3 < 320 by omega) (by decide))) dX11_readStep_37 ?_
        rw [nI_clamp (by omega)]
        refine a_iinc K dX11_readStep_38 (v := 1) rfl (by decide) (by decide) ?_
        refine a_goto K dX11_readStep_41 (tgt := 23) (by decide) ?_
        refine a_iload_n K dX11_readStep_23 rfl ?_
        refine a_iconst K dX11_readStep_24 (v := 4) (by decide) ?_
        refine a_icmp_ge K dX11_readStep_25 (tgt := 44) (by decide) (fun c_25 => absurd c_25 (by decide)) (fun c_25 => ?_)
        first | refine a_aload_n K dX11_readStep_28 rfl ?_ | refine a_aload_nN K dX11_readStep_28 rfl ?_
        refine a_getRs K fd_X11_17 (by exact lm_o hM) (Or.inr ⟨_, rfl⟩) (by exact lm_r710 hM) dX11_readStep_29 ?_
        refine a_iload_n K dX11_readStep_32 rfl ?_
        refine a_iload_n K dX11_readStep_33 rfl ?_
        refine a_iadd K dX11_readStep_34 ?_
        first | rw [nI_add1] | rw [nI_add2] | rw [nI_add3]
        refine a_ldc K kc_X11_170 dX11_readStep_35 ?_
        refine a_iast K (by exact lm_kk hM (by decide) (by decide)) (by first | (show vp_in _ (sN _ (m 2)); first | exact lm_ix (z := 320) hM (by decide) (by decide) (show R + 1 < 320 by omega) (by decide) | exact lm_ix (z := 320) hM (by decide) (by decide) (show R + 2 < 320 by omega) (by decide) | exact lm_ix (z := 320) hM (by decide) (by decide) (show R + 3 < 320 by omega) (by decide))) dX11_readStep_37 ?_
        rw [nI_clamp (by omega)]
        refine a_iinc K dX11_readStep_38 (v := 1) rfl (by decide) (by decide) ?_
        refine a_goto K dX11_readStep_41 (tgt := 23) (by decide) ?_
        refine a_iload_n K dX11_readStep_23 rfl ?_
        refine a_iconst K dX11_readStep_24 (v := 4) (by decide) ?_
        refine a_icmp_ge K dX11_readStep_25 (tgt := 44) (by decide) (fun c_25 => absurd c_25 (by decide)) (fun c_25 => ?_)
        first | refine a_aload_n K dX11_readStep_28 rfl ?_ | refine a_aload_nN K dX11_readStep_28 rfl ?_
        refine a_getRs K fd_X11_17 (by exact lm_o hM) (Or.inr ⟨_, rfl⟩) (by exact lm_r710 hM) dX11_readStep_29 ?_
        refine a_iload_n K dX11_readStep_32 rfl ?_
        refine a_iload_n K dX11_readStep_33 rfl ?_
        refine a_iadd K dX11_readStep_34 ?_
        first | rw [nI_add1] | rw [nI_add2] | rw [nI_add3]
        refine a_ldc K kc_X11_170 dX11_readStep_35 ?_
        refine a_iast K (by exact lm_kk hM (by decide) (by decide)) (by first | (show vp_in _ (sN _ (m 2)); first | exact lm_ix (z := 320) hM (by decide) (by decide) (show R + 1 < 320 by omega) (by decide) | exact lm_ix (z := 320) hM (by decide) (by decide) (show R + 2 < 320 by omega) (by decide) | exact lm_ix (z := 320) hM (by decide) (by decide) (show R + 3 < 320 by omega) (by decide))) dX11_readStep_37 ?_
        rw [nI_clamp (by omega)]
        refine a_iinc K dX11_readStep_38 (v := 1) rfl (by decide) (by decide) ?_
        refine a_goto K dX11_readStep_41 (tgt := 23) (by decide) ?_
        refine a_iload_n K dX11_readStep_23 rfl ?_
        refine a_iconst K dX11_readStep_24 (v := 4) (by decide) ?_
        refine a_icmp_ge K dX11_readStep_25 (tgt := 44) (by decide) (fun c_25 => ?_) (fun c_25 => absurd c_25 (by decide))
        rw [show wA (wA (wA (wA S1 (m 2) R 1) (m 2) (R + 1) (-1000000)) (m 2) (R + 2) (-1000000)) (m 2) (R + 3) (-1000000) = plS S1 m R 1 from rfl]
        have g2 : frM S1 (plS S1 m R 1) m [2] [] := plS_fr
        have hs : StM (plS S1 m R 1) m R (newS (nI 1)) := plS_st
        have kp : keR S (plS S1 m R 1) m R := (keR.rf.f hM0 g1 (by decide) (by decide)).trans9 plS_ke
        have hT := hT.fr hM g2 (by decide) (by decide) (by decide)
        have ha := (g2.2 707 (by decide)).trans ha
        have hf := ((g2.2 708 (by decide)).trans hf).trans (fltW_s hw)
        have f : frM S (plS S1 m R 1) m [2] [707, 708] := (g1.up (fun k hk => absurd hk (by simp)) (by decide)).tr (g2.up (by decide) (by decide))
        have hM := g2.lay hM
        obtain ⟨V, hV⟩ : ∃ V, plS S1 m R 1 = V := ⟨_, rfl⟩
        rw [hV] at hs kp hT ha hf f hM ⊢
        refine a_iload_n K dX11_readStep_44 rfl ?_
        refine a_iconst K dX11_readStep_45 (v := 5) (by decide) ?_
        refine a_icmp_ne K dX11_readStep_46 (tgt := 50) (by decide) (fun c_46 => ?_) (fun c_46 => absurd c_46 (by decide))
        first | refine a_aload_n K dX11_readStep_50 rfl ?_ | refine a_aload_nN K dX11_readStep_50 rfl ?_
        refine a_getRs K fd_X11_17 (by exact lm_o hM) (Or.inr ⟨_, rfl⟩) (by exact lm_r710 hM) dX11_readStep_51 ?_
        refine a_iload_n K dX11_readStep_54 rfl ?_
        refine a_iconst K dX11_readStep_55 (v := 1) (by decide) ?_
        refine a_iadd K dX11_readStep_56 ?_
        rw [nI_add1]
        first | refine a_aload_n K dX11_readStep_57 rfl ?_ | refine a_aload_nN K dX11_readStep_57 rfl ?_
        refine a_invV K (q_number hM hT (by omega) rfl (by omega) ha hf) my_X11_number ml_X11_150 im_X11_number se_X11_number (ci := 11) (by exact lm_o hM) (by decide) ⟨_, _, rfl⟩ rfl (by omega) (by omega) (by omega) rfl (Nat.le_of_ble_eq_true rfl) dX11_readStep_58 ?_
        intro r9 S2 hp9
        obtain ⟨x9, rfl, ha, hf, hx9, g9⟩ := hp9
        rw [show numD L false (skB L (wrdR L p0).1) = numR L false (wrdR L p0).1 from rfl] at ha hf hx9
        have hT := hT.fr hM g9 (by decide) (by decide) (by decide)
        have f := f.tr (g9.up (fun k hk => absurd hk (by simp)) (by decide))
        have kp := kp.f hM g9 (by decide) (by decide)
        have hs := hs.f hM g9 (by decide) (by decide)
        have hM := g9.lay hM
        refine a_iast K (by exact lm_kk hM (by decide) (by decide)) (by first | (show vp_in _ (sN _ (m 2)); first | exact lm_ix (z := 320) hM (by decide) (by decide) (show R + 1 < 320 by omega) (by decide) | exact lm_ix (z := 320) hM (by decide) (by decide) (show R + 2 < 320 by omega) (by decide) | exact lm_ix (z := 320) hM (by decide) (by decide) (show R + 3 < 320 by omega) (by decide))) dX11_readStep_61 ?_
        rw [nI_clamp (by omega)]
        have hx := hx9 x1 h1
        subst hx
        have g8 : frM S2 (wA S2 (m 2) (R + 1) x9) m [2] [] := frM_wA (by decide)
        have hs : StM (wA S2 (m 2) (R + 1) x9) m R _ := hs.w (k := 1) (x := x9)
        have kp : keR S (wA S2 (m 2) (R + 1) x9) m R := kp.w (k := 1) (x := x9) (by decide)
        have hT := hT.fr hM g8 (by decide) (by decide) (by decide)
        have ha : sI (wA S2 (m 2) (R + 1) x9) 707 (m 33) = _ := ha
        have hf : sI (wA S2 (m 2) (R + 1) x9) 708 (m 33) = _ := hf
        have f := f.tr (g8.up (by decide) (by decide))
        have hM := g8.lay hM
        first | refine a_aload_n K dX11_readStep_62 rfl ?_ | refine a_aload_nN K dX11_readStep_62 rfl ?_
        refine a_getI K fd_X11_137 (by exact lm_o hM) (Or.inl rfl) dX11_readStep_63 ?_
        rw [hf, fltN_s h1]
        refine a_iconst K dX11_readStep_66 (v := -1) (by decide) ?_
        refine a_icmp_ne K dX11_readStep_67 (tgt := 75) (by decide) (fun c_67 => absurd c_67 (fun z => z rfl)) (fun c_67 => ?_)
        refine a_iload_n K dX11_readStep_70 rfl ?_
        refine a_iconst K dX11_readStep_71 (v := 1) (by decide) ?_
        refine a_icmp_ne K dX11_readStep_72 (tgt := 76) (by decide) (fun c_72 => absurd c_72 (fun z => z rfl)) (fun c_72 => ?_)
        exact a_vret K EE (by omega) (by omega) dX11_readStep_75 ⟨rfl, by rw [hE]; exact ha, by rw [hE]; exact hf.trans (fltN_s h1), fun s q => by rw [hE] at q; rw [← Option.some.inj q]; exact hs, kp, f⟩
    | 2, hw, _ =>
      have k2 := numR_le (L := L) (less := false) (p := (wrdR L p0).1) k1.1
      have k2s := skB_le k1.1
      cases h1 : (numR L false (wrdR L p0).1).2 with
      | none =>
        have hE : ostR L p0 = ((numR L false (wrdR L p0).1).1, none) := (ostR_s hw).trans (nmsR_n (by decide) h1)
        first | refine a_aload_n K dX11_readStep_0 rfl ?_ | refine a_aload_nN K dX11_readStep_0 rfl ?_
        refine a_invV K (q_word hM0 hT0 (by omega) rfl (by omega) ha0 hf0) my_X11_word ml_X11_167 im_X11_word se_X11_word (ci := 11) (by exact lm_o hM) (by decide) ⟨_, _, rfl⟩ rfl (by omega) (by omega) (by omega) rfl (Nat.le_of_ble_eq_true rfl) dX11_readStep_1 ?_
        intro r9 S1 hp9
        obtain ⟨w9, rfl, ha, hf, hw9, g1⟩ := hp9
        have hT := hT0.fr hM0 g1 (by decide) (by decide) (by decide)
        have hM := g1.lay hM0
        refine a_istore_n K dX11_readStep_4 (by decide) ?_
        first | refine a_aload_n K dX11_readStep_5 rfl ?_ | refine a_aload_nN K dX11_readStep_5 rfl ?_
        refine a_getI K fd_X11_137 (by exact lm_o hM) (Or.inl rfl) dX11_readStep_6 ?_
        rw [hf]
        refine a_iconst K dX11_readStep_9 (v := -1) (by decide) ?_
        refine a_icmp_eq K dX11_readStep_10 (tgt := 14) (by decide) (fun c_10 => ?_) (fun c_10 => absurd c_10 (fun z => z (fltW_s hw)))
        rw [show w9 = 2 from hw9 2 hw]
        first | refine a_aload_n K dX11_readStep_14 rfl ?_ | refine a_aload_nN K dX11_readStep_14 rfl ?_
        refine a_getRs K fd_X11_17 (by exact lm_o hM) (Or.inr ⟨_, rfl⟩) (by exact lm_r710 hM) dX11_readStep_15 ?_
        refine a_iload_n K dX11_readStep_18 rfl ?_
        refine a_iload_n K dX11_readStep_19 rfl ?_
        refine a_iast K (by exact lm_kk hM (by decide) (by decide)) (by show vp_in _ (sN S1 (m 2)); exact lm_ix (z := 320) hM (by decide) (by decide) (show R < 320 by omega) (by decide)) dX11_readStep_20 ?_
        rw [nI_clamp (by omega)]
        refine a_iconst K dX11_readStep_21 (v := 1) (by decide) ?_
        refine a_istore_n K dX11_readStep_22 (by decide) ?_
        refine a_iload_n K dX11_readStep_23 rfl ?_
        refine a_iconst K dX11_readStep_24 (v := 4) (by decide) ?_
        refine a_icmp_ge K dX11_readStep_25 (tgt := 44) (by decide) (fun c_25 => absurd c_25 (by decide)) (fun c_25 => ?_)
        first | refine a_aload_n K dX11_readStep_28 rfl ?_ | refine a_aload_nN K dX11_readStep_28 rfl ?_
        refine a_getRs K fd_X11_17 (by exact lm_o hM) (Or.inr ⟨_, rfl⟩) (by exact lm_r710 hM) dX11_readStep_29 ?_
        refine a_iload_n K dX11_readStep_32 rfl ?_
        refine a_iload_n K dX11_readStep_33 rfl ?_
        refine a_iadd K dX11_readStep_34 ?_
        first | rw [nI_add1] | rw [nI_add2] | rw [nI_add3]
        refine a_ldc K kc_X11_170 dX11_readStep_35 ?_
        refine a_iast K (by exact lm_kk hM (by decide) (by decide)) (by first | (show vp_in _ (sN _ (m 2)); first | exact lm_ix (z := 320) hM (by decide) (by decide) (show R + 1 < 320 by omega) (by decide) | exact lm_ix (z := 320) hM (by decide) (by decide) (show R + 2 < 320 by omega) (by decide) | exact lm_ix (z := 320) hM (by decide) (by decide) (show R + 3 < 320 by omega) (by decide))) dX11_readStep_37 ?_
        rw [nI_clamp (by omega)]
        refine a_iinc K dX11_readStep_38 (v := 1) rfl (by decide) (by decide) ?_
        refine a_goto K dX11_readStep_41 (tgt := 23) (by decide) ?_
        refine a_iload_n K dX11_readStep_23 rfl ?_
        refine a_iconst K dX11_readStep_24 (v := 4) (by decide) ?_
        refine a_icmp_ge K dX11_readStep_25 (tgt := 44) (by decide) (fun c_25 => absurd c_25 (by decide)) (fun c_25 => ?_)
        first | refine a_aload_n K dX11_readStep_28 rfl ?_ | refine a_aload_nN K dX11_readStep_28 rfl ?_
        refine a_getRs K fd_X11_17 (by exact lm_o hM) (Or.inr ⟨_, rfl⟩) (by exact lm_r710 hM) dX11_readStep_29 ?_
        refine a_iload_n K dX11_readStep_32 rfl ?_
        refine a_iload_n K dX11_readStep_33 rfl ?_
        refine a_iadd K dX11_readStep_34 ?_
        first | rw [nI_add1] | rw [nI_add2] | rw [nI_add3]
        refine a_ldc K kc_X11_170 dX11_readStep_35 ?_
        refine a_iast K (by exact lm_kk hM (by decide) (by decide)) (by first | (show vp_in _ (sN _ (m 2)); first | exact lm_ix (z := 320) hM (by decide) (by decide) (show R + 1 < 320 by omega) (by decide) | exact lm_ix (z := 320) hM (by decide) (by decide) (show R + 2 < 320 by omega) (by decide) | exact lm_ix (z := 320) hM (by decide) (by decide) (show R + 3 < 320 by omega) (by decide))) dX11_readStep_37 ?_
        rw [nI_clamp (by omega)]
        refine a_iinc K dX11_readStep_38 (v := 1) rfl (by decide) (by decide) ?_
        refine a_goto K dX11_readStep_41 (tgt := 23) (by decide) ?_
        refine a_iload_n K dX11_readStep_23 rfl ?_
        refine a_iconst K dX11_readStep_24 (v := 4) (by decide) ?_
        refine a_icmp_ge K dX11_readStep_25 (tgt := 44) (by decide) (fun c_25 => absurd c_25 (by decide)) (fun c_25 => ?_)
        first | refine a_aload_n K dX11_readStep_28 rfl ?_ | refine a_aload_nN K dX11_readStep_28 rfl ?_
        refine a_getRs K fd_X11_17 (by exact lm_o hM) (Or.inr ⟨_, rfl⟩) (by exact lm_r710 hM) dX11_readStep_29 ?_
        refine a_iload_n K dX11_readStep_32 rfl ?_
        refine a_iload_n K dX11_readStep_33 rfl ?_
        refine a_iadd K dX11_readStep_34 ?_
        first | rw [nI_add1] | rw [nI_add2] | rw [nI_add3]
        refine a_ldc K kc_X11_170 dX11_readStep_35 ?_
        refine a_iast K (by exact lm_kk hM (by decide) (by decide)) (by first | (show vp_in _ (sN _ (m 2)); first | exact lm_ix (z := 320) hM (by decide) (by decide) (show R + 1 < 320 by omega) (by decide) | exact lm_ix (z := 320) hM (by decide) (by decide) (show R + 2 < 320 by omega) (by decide) | exact lm_ix (z := 320) hM (by decide) (by decide) (show R + 3 < 320 by omega) (by decide))) dX11_readStep_37 ?_
        rw [nI_clamp (by omega)]
        refine a_iinc K dX11_readStep_38 (v := 1) rfl (by decide) (by decide) ?_
        refine a_goto K dX11_readStep_41 (tgt := 23) (by decide) ?_
        refine a_iload_n K dX11_readStep_23 rfl ?_
        refine a_iconst K dX11_readStep_24 (v := 4) (by decide) ?_
        refine a_icmp_ge K dX11_readStep_25 (tgt := 44) (by decide) (fun c_25 => ?_) (fun c_25 => absurd c_25 (by decide))
        rw [show wA (wA (wA (wA S1 (m 2) R 2) (m 2) (R + 1) (-1000000)) (m 2) (R + 2) (-1000000)) (m 2) (R + 3) (-1000000) = plS S1 m R 2 from rfl]
        have g2 : frM S1 (plS S1 m R 2) m [2] [] := plS_fr
        have hs : StM (plS S1 m R 2) m R (newS (nI 2)) := plS_st
        have kp : keR S (plS S1 m R 2) m R := (keR.rf.f hM0 g1 (by decide) (by decide)).trans9 plS_ke
        have hT := hT.fr hM g2 (by decide) (by decide) (by decide)
        have ha := (g2.2 707 (by decide)).trans ha
        have hf := ((g2.2 708 (by decide)).trans hf).trans (fltW_s hw)
        have f : frM S (plS S1 m R 2) m [2] [707, 708] := (g1.up (fun k hk => absurd hk (by simp)) (by decide)).tr (g2.up (by decide) (by decide))
        have hM := g2.lay hM
        obtain ⟨V, hV⟩ : ∃ V, plS S1 m R 2 = V := ⟨_, rfl⟩
        rw [hV] at hs kp hT ha hf f hM ⊢
        refine a_iload_n K dX11_readStep_44 rfl ?_
        refine a_iconst K dX11_readStep_45 (v := 5) (by decide) ?_
        refine a_icmp_ne K dX11_readStep_46 (tgt := 50) (by decide) (fun c_46 => ?_) (fun c_46 => absurd c_46 (by decide))
        first | refine a_aload_n K dX11_readStep_50 rfl ?_ | refine a_aload_nN K dX11_readStep_50 rfl ?_
        refine a_getRs K fd_X11_17 (by exact lm_o hM) (Or.inr ⟨_, rfl⟩) (by exact lm_r710 hM) dX11_readStep_51 ?_
        refine a_iload_n K dX11_readStep_54 rfl ?_
        refine a_iconst K dX11_readStep_55 (v := 1) (by decide) ?_
        refine a_iadd K dX11_readStep_56 ?_
        rw [nI_add1]
        first | refine a_aload_n K dX11_readStep_57 rfl ?_ | refine a_aload_nN K dX11_readStep_57 rfl ?_
        refine a_invV K (q_number hM hT (by omega) rfl (by omega) ha hf) my_X11_number ml_X11_150 im_X11_number se_X11_number (ci := 11) (by exact lm_o hM) (by decide) ⟨_, _, rfl⟩ rfl (by omega) (by omega) (by omega) rfl (Nat.le_of_ble_eq_true rfl) dX11_readStep_58 ?_
        intro r9 S2 hp9
        obtain ⟨x9, rfl, ha, hf, hx9, g9⟩ := hp9
        rw [show numD L false (skB L (wrdR L p0).1) = numR L false (wrdR L p0).1 from rfl] at ha hf hx9
        have hT := hT.fr hM g9 (by decide) (by decide) (by decide)
        have f := f.tr (g9.up (fun k hk => absurd hk (by simp)) (by decide))
        have kp := kp.f hM g9 (by decide) (by decide)
        have hs := hs.f hM g9 (by decide) (by decide)
        have hM := g9.lay hM
        refine a_iast K (by exact lm_kk hM (by decide) (by decide)) (by first | (show vp_in _ (sN _ (m 2)); first | exact lm_ix (z := 320) hM (by decide) (by decide) (show R + 1 < 320 by omega) (by decide) | exact lm_ix (z := 320) hM (by decide) (by decide) (show R + 2 < 320 by omega) (by decide) | exact lm_ix (z := 320) hM (by decide) (by decide) (show R + 3 < 320 by omega) (by decide))) dX11_readStep_61 ?_
        rw [nI_clamp (by omega)]
        have g8 : frM S2 (wA S2 (m 2) (R + 1) x9) m [2] [] := frM_wA (by decide)
        have hs : StM (wA S2 (m 2) (R + 1) x9) m R _ := hs.w (k := 1) (x := x9)
        have kp : keR S (wA S2 (m 2) (R + 1) x9) m R := kp.w (k := 1) (x := x9) (by decide)
        have hT := hT.fr hM g8 (by decide) (by decide) (by decide)
        have ha : sI (wA S2 (m 2) (R + 1) x9) 707 (m 33) = _ := ha
        have hf : sI (wA S2 (m 2) (R + 1) x9) 708 (m 33) = _ := hf
        have f := f.tr (g8.up (by decide) (by decide))
        have hM := g8.lay hM
        first | refine a_aload_n K dX11_readStep_62 rfl ?_ | refine a_aload_nN K dX11_readStep_62 rfl ?_
        refine a_getI K fd_X11_137 (by exact lm_o hM) (Or.inl rfl) dX11_readStep_63 ?_
        rw [hf, fltN_n h1]
        refine a_iconst K dX11_readStep_66 (v := -1) (by decide) ?_
        refine a_icmp_ne K dX11_readStep_67 (tgt := 75) (by decide) (fun c_67 => ?_) (fun c_67 => absurd c_67 (nI_m1n (n := (numR L false (wrdR L p0).1).1) (by omega)))
        exact a_vret K EE (by omega) (by omega) dX11_readStep_75 ⟨rfl, by rw [hE]; exact ha, by rw [hE]; exact hf.trans (fltN_n h1), fun s q => absurd (by rw [hE] at q; exact q) (by simp), kp, f⟩
      | some x1 =>
        have k3 := numR_le (L := L) (less := true) (p := (numR L false (wrdR L p0).1).1) k2.2.1
        have k3s := skB_le k2.2.1
        cases h2 : (numR L true (numR L false (wrdR L p0).1).1).2 with
        | none =>
          have hE : ostR L p0 = ((numR L true (numR L false (wrdR L p0).1).1).1, none) := (ostR_s hw).trans ((nmsR_s (by decide) h1).trans (nmsR_n (by decide) h2))
          first | refine a_aload_n K dX11_readStep_0 rfl ?_ | refine a_aload_nN K dX11_readStep_0 rfl ?_
          refine a_invV K (q_word hM0 hT0 (by omega) rfl (by omega) ha0 hf0) my_X11_word ml_X11_167 im_X11_word se_X11_word (ci := 11) (by exact lm_o hM) (by decide) ⟨_, _, rfl⟩ rfl (by omega) (by omega) (by omega) rfl (Nat.le_of_ble_eq_true rfl) dX11_readStep_1 ?_
          intro r9 S1 hp9
          obtain ⟨w9, rfl, ha, hf, hw9, g1⟩ := hp9
          have hT := hT0.fr hM0 g1 (by decide) (by decide) (by decide)
          have hM := g1.lay hM0
          refine a_istore_n K dX11_readStep_4 (by decide) ?_
          first | refine a_aload_n K dX11_readStep_5 rfl ?_ | refine a_aload_nN K dX11_readStep_5 rfl ?_
          refine a_getI K fd_X11_137 (by exact lm_o hM) (Or.inl rfl) dX11_readStep_6 ?_
          rw [hf]
          refine a_iconst K dX11_readStep_9 (v := -1) (by decide) ?_
          refine a_icmp_eq K dX11_readStep_10 (tgt := 14) (by decide) (fun c_10 => ?_) (fun c_10 => absurd c_10 (fun z => z (fltW_s hw)))
          rw [show w9 = 2 from hw9 2 hw]
          first | refine a_aload_n K dX11_readStep_14 rfl ?_ | refine a_aload_nN K dX11_readStep_14 rfl ?_
          refine a_getRs K fd_X11_17 (by exact lm_o hM) (Or.inr ⟨_, rfl⟩) (by exact lm_r710 hM) dX11_readStep_15 ?_
          refine a_iload_n K dX11_readStep_18 rfl ?_
          refine a_iload_n K dX11_readStep_19 rfl ?_
          refine a_iast K (by exact lm_kk hM (by decide) (by decide)) (by show vp_in _ (sN S1 (m 2)); exact lm_ix (z := 320) hM (by decide) (by decide) (show R < 320 by omega) (by decide)) dX11_readStep_20 ?_
          rw [nI_clamp (by omega)]
          refine a_iconst K dX11_readStep_21 (v := 1) (by decide) ?_
          refine a_istore_n K dX11_readStep_22 (by decide) ?_
          refine a_iload_n K dX11_readStep_23 rfl ?_
          refine a_iconst K dX11_readStep_24 (v := 4) (by decide) ?_
          refine a_icmp_ge K dX11_readStep_25 (tgt := 44) (by decide) (fun c_25 => absurd c_25 (by decide)) (fun c_25 => ?_)
          first | refine a_aload_n K dX11_readStep_28 rfl ?_ | refine a_aload_nN K dX11_readStep_28 rfl ?_
          refine a_getRs K fd_X11_17 (by exact lm_o hM) (Or.inr ⟨_, rfl⟩) (by exact lm_r710 hM) dX11_readStep_29 ?_
          refine a_iload_n K dX11_readStep_32 rfl ?_
          refine a_iload_n K dX11_readStep_33 rfl ?_
          refine a_iadd K dX11_readStep_34 ?_
          first | rw [nI_add1] | rw [nI_add2] | rw [nI_add3]
          refine a_ldc K kc_X11_170 dX11_readStep_35 ?_
          refine a_iast K (by exact lm_kk hM (by decide) (by decide)) (by first | (show vp_in _ (sN _ (m 2)); first | exact lm_ix (z := 320) hM (by decide) (by decide) (show R + 1 < 320 by omega) (by decide) | exact lm_ix (z := 320) hM (by decide) (by decide) (show R + 2 < 320 by omega) (by decide) | exact lm_ix (z := 320) hM (by decide) (by decide) (show R + 3 < 320 by omega) (by decide))) dX11_readStep_37 ?_
          rw [nI_clamp (by omega)]
          refine a_iinc K dX11_readStep_38 (v := 1) rfl (by decide) (by decide) ?_
          refine a_goto K dX11_readStep_41 (tgt := 23) (by decide) ?_
          refine a_iload_n K dX11_readStep_23 rfl ?_
          refine a_iconst K dX11_readStep_24 (v := 4) (by decide) ?_
          refine a_icmp_ge K dX11_readStep_25 (tgt := 44) (by decide) (fun c_25 => absurd c_25 (by decide)) (fun c_25 => ?_)
          first | refine a_aload_n K dX11_readStep_28 rfl ?_ | refine a_aload_nN K dX11_readStep_28 rfl ?_
          refine a_getRs K fd_X11_17 (by exact lm_o hM) (Or.inr ⟨_, rfl⟩) (by exact lm_r710 hM) dX11_readStep_29 ?_
          refine a_iload_n K dX11_readStep_32 rfl ?_
          refine a_iload_n K dX11_readStep_33 rfl ?_
          refine a_iadd K dX11_readStep_34 ?_
          first | rw [nI_add1] | rw [nI_add2] | rw [nI_add3]
          refine a_ldc K kc_X11_170 dX11_readStep_35 ?_
          refine a_iast K (by exact lm_kk hM (by decide) (by decide)) (by first | (show vp_in _ (sN _ (m 2)); first | exact lm_ix (z := 320) hM (by decide) (by decide) (show R + 1 < 320 by omega) (by decide) | exact lm_ix (z := 320) hM (by decide) (by decide) (show R + 2 < 320 by omega) (by decide) | exact lm_ix (z := 320) hM (by decide) (by decide) (show R + 3 < 320 by omega) (by decide))) dX11_readStep_37 ?_
          rw [nI_clamp (by omega)]
          refine a_iinc K dX11_readStep_38 (v := 1) rfl (by decide) (by decide) ?_
          refine a_goto K dX11_readStep_41 (tgt := 23) (by decide) ?_
          refine a_iload_n K dX11_readStep_23 rfl ?_
          refine a_iconst K dX11_readStep_24 (v := 4) (by decide) ?_
          refine a_icmp_ge K dX11_readStep_25 (tgt := 44) (by decide) (fun c_25 => absurd c_25 (by decide)) (fun c_25 => ?_)
          first | refine a_aload_n K dX11_readStep_28 rfl ?_ | refine a_aload_nN K dX11_readStep_28 rfl ?_
          refine a_getRs K fd_X11_17 (by exact lm_o hM) (Or.inr ⟨_, rfl⟩) (by exact lm_r710 hM) dX11_readStep_29 ?_
          refine a_iload_n K dX11_readStep_32 rfl ?_
          refine a_iload_n K dX11_readStep_33 rfl ?_
          refine a_iadd K dX11_readStep_34 ?_
          first | rw [nI_add1] | rw [nI_add2] | rw [nI_add3]
          refine a_ldc K kc_X11_170 dX11_readStep_35 ?_
          refine a_iast K (by exact lm_kk hM (by decide) (by decide)) (by first | (show vp_in _ (sN _ (m 2)); first | exact lm_ix (z := 320) hM (by decide) (by decide) (show R + 1 < 320 by omega) (by decide) | exact lm_ix (z := 320) hM (by decide) (by decide) (show R + 2 < 320 by omega) (by decide) | exact lm_ix (z := 320) hM (by decide) (by decide) (show R + 3 < 320 by omega) (by decide))) dX11_readStep_37 ?_
          rw [nI_clamp (by omega)]
          refine a_iinc K dX11_readStep_38 (v := 1) rfl (by decide) (by decide) ?_
          refine a_goto K dX11_readStep_41 (tgt := 23) (by decide) ?_
          refine a_iload_n K dX11_readStep_23 rfl ?_
          refine a_iconst K dX11_readStep_24 (v := 4) (by decide) ?_
          refine a_icmp_ge K dX11_readStep_25 (tgt := 44) (by decide) (fun c_25 => ?_) (fun c_25 => absurd c_25 (by decide))
          rw [show wA (wA (wA (wA S1 (m 2) R 2) (m 2) (R + 1) (-1000000)) (m 2) (R + 2) (-1000000)) (m 2) (R + 3) (-1000000) = plS S1 m R 2 from rfl]
          have g2 : frM S1 (plS S1 m R 2) m [2] [] := plS_fr
          have hs : StM (plS S1 m R 2) m R (newS (nI 2)) := plS_st
          have kp : keR S (plS S1 m R 2) m R := (keR.rf.f hM0 g1 (by decide) (by decide)).trans9 plS_ke
          have hT := hT.fr hM g2 (by decide) (by decide) (by decide)
          have ha := (g2.2 707 (by decide)).trans ha
          have hf := ((g2.2 708 (by decide)).trans hf).trans (fltW_s hw)
          have f : frM S (plS S1 m R 2) m [2] [707, 708] := (g1.up (fun k hk => absurd hk (by simp)) (by decide)).tr (g2.up (by decide) (by decide))
          have hM := g2.lay hM
          obtain ⟨V, hV⟩ : ∃ V, plS S1 m R 2 = V := ⟨_, rfl⟩
          rw [hV] at hs kp hT ha hf f hM ⊢
          refine a_iload_n K dX11_readStep_44 rfl ?_
          refine a_iconst K dX11_readStep_45 (v := 5) (by decide) ?_
          refine a_icmp_ne K dX11_readStep_46 (tgt := 50) (by decide) (fun c_46 => ?_) (fun c_46 => absurd c_46 (by decide))
          first | refine a_aload_n K dX11_readStep_50 rfl ?_ | refine a_aload_nN K dX11_readStep_50 rfl ?_
          refine a_getRs K fd_X11_17 (by exact lm_o hM) (Or.inr ⟨_, rfl⟩) (by exact lm_r710 hM) dX11_readStep_51 ?_
          refine a_iload_n K dX11_readStep_54 rfl ?_
          refine a_iconst K dX11_readStep_55 (v := 1) (by decide) ?_
          refine a_iadd K dX11_readStep_56 ?_
          rw [nI_add1]
          first | refine a_aload_n K dX11_readStep_57 rfl ?_ | refine a_aload_nN K dX11_readStep_57 rfl ?_
          refine a_invV K (q_number hM hT (by omega) rfl (by omega) ha hf) my_X11_number ml_X11_150 im_X11_number se_X11_number (ci := 11) (by exact lm_o hM) (by decide) ⟨_, _, rfl⟩ rfl (by omega) (by omega) (by omega) rfl (Nat.le_of_ble_eq_true rfl) dX11_readStep_58 ?_
          intro r9 S2 hp9
          obtain ⟨x9, rfl, ha, hf, hx9, g9⟩ := hp9
          rw [show numD L false (skB L (wrdR L p0).1) = numR L false (wrdR L p0).1 from rfl] at ha hf hx9
          have hT := hT.fr hM g9 (by decide) (by decide) (by decide)
          have f := f.tr (g9.up (fun k hk => absurd hk (by simp)) (by decide))
          have kp := kp.f hM g9 (by decide) (by decide)
          have hs := hs.f hM g9 (by decide) (by decide)
          have hM := g9.lay hM
          refine a_iast K (by exact lm_kk hM (by decide) (by decide)) (by first | (show vp_in _ (sN _ (m 2)); first | exact lm_ix (z := 320) hM (by decide) (by decide) (show R + 1 < 320 by omega) (by decide) | exact lm_ix (z := 320) hM (by decide) (by decide) (show R + 2 < 320 by omega) (by decide) | exact lm_ix (z := 320) hM (by decide) (by decide) (show R + 3 < 320 by omega) (by decide))) dX11_readStep_61 ?_
          rw [nI_clamp (by omega)]
          have hx := hx9 x1 h1
          subst hx
          have g8 : frM S2 (wA S2 (m 2) (R + 1) x9) m [2] [] := frM_wA (by decide)
          have hs : StM (wA S2 (m 2) (R + 1) x9) m R _ := hs.w (k := 1) (x := x9)
          have kp : keR S (wA S2 (m 2) (R + 1) x9) m R := kp.w (k := 1) (x := x9) (by decide)
          have hT := hT.fr hM g8 (by decide) (by decide) (by decide)
          have ha : sI (wA S2 (m 2) (R + 1) x9) 707 (m 33) = _ := ha
          have hf : sI (wA S2 (m 2) (R + 1) x9) 708 (m 33) = _ := hf
          have f := f.tr (g8.up (by decide) (by decide))
          have hM := g8.lay hM
          have hf := hf.trans (fltN_s h1)
          first | refine a_aload_n K dX11_readStep_62 rfl ?_ | refine a_aload_nN K dX11_readStep_62 rfl ?_
          refine a_getI K fd_X11_137 (by exact lm_o hM) (Or.inl rfl) dX11_readStep_63 ?_
          rw [hf]
          refine a_iconst K dX11_readStep_66 (v := -1) (by decide) ?_
          refine a_icmp_ne K dX11_readStep_67 (tgt := 75) (by decide) (fun c_67 => absurd c_67 (fun z => z rfl)) (fun c_67 => ?_)
          refine a_iload_n K dX11_readStep_70 rfl ?_
          refine a_iconst K dX11_readStep_71 (v := 1) (by decide) ?_
          refine a_icmp_ne K dX11_readStep_72 (tgt := 76) (by decide) (fun c_72 => ?_) (fun c_72 => absurd c_72 (by decide))
          first | refine a_aload_n K dX11_readStep_76 rfl ?_ | refine a_aload_nN K dX11_readStep_76 rfl ?_
          refine a_getRs K fd_X11_17 (by exact lm_o hM) (Or.inr ⟨_, rfl⟩) (by exact lm_r710 hM) dX11_readStep_77 ?_
          refine a_iload_n K dX11_readStep_80 rfl ?_
          refine a_iconst K dX11_readStep_81 (v := 2) (by decide) ?_
          refine a_iadd K dX11_readStep_82 ?_
          rw [show nI R + 2 = nI (R + 2) from by rw [show (2 : Int32) = nI 2 from rfl, nI_add]]
          refine a_iload_n K dX11_readStep_83 rfl ?_
          refine a_iconst K dX11_readStep_84 (v := 3) (by decide) ?_
          refine a_icmp_eq K dX11_readStep_85 (tgt := 93) (by decide) (fun c_85 => absurd c_85 (by decide)) (fun c_85 => ?_)
          refine a_iload_n K dX11_readStep_88 rfl ?_
          refine a_iconst K dX11_readStep_89 (v := 4) (by decide) ?_
          refine a_icmp_ne K dX11_readStep_90 (tgt := 100) (by decide) (fun c_90 => ?_) (fun c_90 => absurd c_90 (by decide))
          first | refine a_aload_n K dX11_readStep_100 rfl ?_ | refine a_aload_nN K dX11_readStep_100 rfl ?_
          refine a_invV K (q_value hM hT (by omega) rfl (by omega) ha hf) my_X11_value ml_X11_156 im_X11_value se_X11_value (ci := 11) (by exact lm_o hM) (by decide) ⟨_, _, rfl⟩ rfl (by omega) (by omega) (by omega) rfl (Nat.le_of_ble_eq_true rfl) dX11_readStep_101 ?_
          intro r9 S3 hp9
          obtain ⟨y9, rfl, ha, hf, hy9, g9⟩ := hp9
          have hT := hT.fr hM g9 (by decide) (by decide) (by decide)
          have f := f.tr (g9.up (fun k hk => absurd hk (by simp)) (by decide))
          have kp := kp.f hM g9 (by decide) (by decide)
          have hs := hs.f hM g9 (by decide) (by decide)
          have hM := g9.lay hM
          refine a_iast K (by exact lm_kk hM (by decide) (by decide)) (by first | (show vp_in _ (sN _ (m 2)); first | exact lm_ix (z := 320) hM (by decide) (by decide) (show R + 1 < 320 by omega) (by decide) | exact lm_ix (z := 320) hM (by decide) (by decide) (show R + 2 < 320 by omega) (by decide) | exact lm_ix (z := 320) hM (by decide) (by decide) (show R + 3 < 320 by omega) (by decide))) dX11_readStep_104 ?_
          rw [nI_clamp (by omega)]
          have g8 : frM S3 (wA S3 (m 2) (R + 2) y9) m [2] [] := frM_wA (by decide)
          have hs : StM (wA S3 (m 2) (R + 2) y9) m R _ := hs.w (k := 2) (x := y9)
          have kp : keR S (wA S3 (m 2) (R + 2) y9) m R := kp.w (k := 2) (x := y9) (by decide)
          have hT := hT.fr hM g8 (by decide) (by decide) (by decide)
          have ha : sI (wA S3 (m 2) (R + 2) y9) 707 (m 33) = _ := ha
          have hf : sI (wA S3 (m 2) (R + 2) y9) 708 (m 33) = _ := hf
          have f := f.tr (g8.up (by decide) (by decide))
          have hM := g8.lay hM
          first | refine a_aload_n K dX11_readStep_105 rfl ?_ | refine a_aload_nN K dX11_readStep_105 rfl ?_
          refine a_getI K fd_X11_137 (by exact lm_o hM) (Or.inl rfl) dX11_readStep_106 ?_
          rw [hf, fltN_n h2]
          refine a_iconst K dX11_readStep_109 (v := -1) (by decide) ?_
          refine a_icmp_ne K dX11_readStep_110 (tgt := 130) (by decide) (fun c_110 => ?_) (fun c_110 => absurd c_110 (nI_m1n (n := (numR L true (numR L false (wrdR L p0).1).1).1) (by omega)))
          exact a_vret K EE (by omega) (by omega) dX11_readStep_130 ⟨rfl, by rw [hE]; exact ha, by rw [hE]; exact hf.trans (fltN_n h2), fun s q => absurd (by rw [hE] at q; exact q) (by simp), kp, f⟩
        | some x2 =>
          have hE : ostR L p0 = ((numR L true (numR L false (wrdR L p0).1).1).1, some (setN (setN (newS (nI 2)) 1 x1) 2 x2)) := (ostR_s hw).trans ((nmsR_s (by decide) h1).trans (nmsR_s (by decide) h2))
          first | refine a_aload_n K dX11_readStep_0 rfl ?_ | refine a_aload_nN K dX11_readStep_0 rfl ?_
          refine a_invV K (q_word hM0 hT0 (by omega) rfl (by omega) ha0 hf0) my_X11_word ml_X11_167 im_X11_word se_X11_word (ci := 11) (by exact lm_o hM) (by decide) ⟨_, _, rfl⟩ rfl (by omega) (by omega) (by omega) rfl (Nat.le_of_ble_eq_true rfl) dX11_readStep_1 ?_
          intro r9 S1 hp9
          obtain ⟨w9, rfl, ha, hf, hw9, g1⟩ := hp9
          have hT := hT0.fr hM0 g1 (by decide) (by decide) (by decide)
          have hM := g1.lay hM0
          refine a_istore_n K dX11_readStep_4 (by decide) ?_
          first | refine a_aload_n K dX11_readStep_5 rfl ?_ | refine a_aload_nN K dX11_readStep_5 rfl ?_
          refine a_getI K fd_X11_137 (by exact lm_o hM) (Or.inl rfl) dX11_readStep_6 ?_
          rw [hf]
          refine a_iconst K dX11_readStep_9 (v := -1) (by decide) ?_
          refine a_icmp_eq K dX11_readStep_10 (tgt := 14) (by decide) (fun c_10 => ?_) (fun c_10 => absurd c_10 (fun z => z (fltW_s hw)))
          rw [show w9 = 2 from hw9 2 hw]
          first | refine a_aload_n K dX11_readStep_14 rfl ?_ | refine a_aload_nN K dX11_readStep_14 rfl ?_
          refine a_getRs K fd_X11_17 (by exact lm_o hM) (Or.inr ⟨_, rfl⟩) (by exact lm_r710 hM) dX11_readStep_15 ?_
          refine a_iload_n K dX11_readStep_18 rfl ?_
          refine a_iload_n K dX11_readStep_19 rfl ?_
          refine a_iast K (by exact lm_kk hM (by decide) (by decide)) (by show vp_in _ (sN S1 (m 2)); exact lm_ix (z := 320) hM (by decide) (by decide) (show R < 320 by omega) (by decide)) dX11_readStep_20 ?_
          rw [nI_clamp (by omega)]
          refine a_iconst K dX11_readStep_21 (v := 1) (by decide) ?_
          refine a_istore_n K dX11_readStep_22 (by decide) ?_
          refine a_iload_n K dX11_readStep_23 rfl ?_
          refine a_iconst K dX11_readStep_24 (v := 4) (by decide) ?_
          refine a_icmp_ge K dX11_readStep_25 (tgt := 44) (by decide) (fun c_25 => absurd c_25 (by decide)) (fun c_25 => ?_)
          first | refine a_aload_n K dX11_readStep_28 rfl ?_ | refine a_aload_nN K dX11_readStep_28 rfl ?_
          refine a_getRs K fd_X11_17 (by exact lm_o hM) (Or.inr ⟨_, rfl⟩) (by exact lm_r710 hM) dX11_readStep_29 ?_
          refine a_iload_n K dX11_readStep_32 rfl ?_
          refine a_iload_n K dX11_readStep_33 rfl ?_
          refine a_iadd K dX11_readStep_34 ?_
          first | rw [nI_add1] | rw [nI_add2] | rw [nI_add3]
          refine a_ldc K kc_X11_170 dX11_readStep_35 ?_
          refine a_iast K (by exact lm_kk hM (by decide) (by decide)) (by first | (show vp_in _ (sN _ (m 2)); first | exact lm_ix (z := 320) hM (by decide) (by decide) (show R + 1 < 320 by omega) (by decide) | exact lm_ix (z := 320) hM (by decide) (by decide) (show R + 2 < 320 by omega) (by decide) | exact lm_ix (z := 320) hM (by decide) (by decide) (show R + 3 < 320 by omega) (by decide))) dX11_readStep_37 ?_
          rw [nI_clamp (by omega)]
          refine a_iinc K dX11_readStep_38 (v := 1) rfl (by decide) (by decide) ?_
          refine a_goto K dX11_readStep_41 (tgt := 23) (by decide) ?_
          refine a_iload_n K dX11_readStep_23 rfl ?_
          refine a_iconst K dX11_readStep_24 (v := 4) (by decide) ?_
          refine a_icmp_ge K dX11_readStep_25 (tgt := 44) (by decide) (fun c_25 => absurd c_25 (by decide)) (fun c_25 => ?_)
          first | refine a_aload_n K dX11_readStep_28 rfl ?_ | refine a_aload_nN K dX11_readStep_28 rfl ?_
          refine a_getRs K fd_X11_17 (by exact lm_o hM) (Or.inr ⟨_, rfl⟩) (by exact lm_r710 hM) dX11_readStep_29 ?_
          refine a_iload_n K dX11_readStep_32 rfl ?_
          refine a_iload_n K dX11_readStep_33 rfl ?_
          refine a_iadd K dX11_readStep_34 ?_
          first | rw [nI_add1] | rw [nI_add2] | rw [nI_add3]
          refine a_ldc K kc_X11_170 dX11_readStep_35 ?_
          refine a_iast K (by exact lm_kk hM (by decide) (by decide)) (by first | (show vp_in _ (sN _ (m 2)); first | exact lm_ix (z := 320) hM (by decide) (by decide) (show R + 1 < 320 by omega) (by decide) | exact lm_ix (z := 320) hM (by decide) (by decide) (show R + 2 < 320 by omega) (by decide) | exact lm_ix (z := 320) hM (by decide) (by decide) (show R + 3 < 320 by omega) (by decide))) dX11_readStep_37 ?_
          rw [nI_clamp (by omega)]
          refine a_iinc K dX11_readStep_38 (v := 1) rfl (by decide) (by decide) ?_
          refine a_goto K dX11_readStep_41 (tgt := 23) (by decide) ?_
          refine a_iload_n K dX11_readStep_23 rfl ?_
          refine a_iconst K dX11_readStep_24 (v := 4) (by decide) ?_
          refine a_icmp_ge K dX11_readStep_25 (tgt := 44) (by decide) (fun c_25 => absurd c_25 (by decide)) (fun c_25 => ?_)
          first | refine a_aload_n K dX11_readStep_28 rfl ?_ | refine a_aload_nN K dX11_readStep_28 rfl ?_
          refine a_getRs K fd_X11_17 (by exact lm_o hM) (Or.inr ⟨_, rfl⟩) (by exact lm_r710 hM) dX11_readStep_29 ?_
          refine a_iload_n K dX11_readStep_32 rfl ?_
          refine a_iload_n K dX11_readStep_33 rfl ?_
          refine a_iadd K dX11_readStep_34 ?_
          first | rw [nI_add1] | rw [nI_add2] | rw [nI_add3]
          refine a_ldc K kc_X11_170 dX11_readStep_35 ?_
          refine a_iast K (by exact lm_kk hM (by decide) (by decide)) (by first | (show vp_in _ (sN _ (m 2)); first | exact lm_ix (z := 320) hM (by decide) (by decide) (show R + 1 < 320 by omega) (by decide) | exact lm_ix (z := 320) hM (by decide) (by decide) (show R + 2 < 320 by omega) (by decide) | exact lm_ix (z := 320) hM (by decide) (by decide) (show R + 3 < 320 by omega) (by decide))) dX11_readStep_37 ?_
          rw [nI_clamp (by omega)]
          refine a_iinc K dX11_readStep_38 (v := 1) rfl (by decide) (by decide) ?_
          refine a_goto K dX11_readStep_41 (tgt := 23) (by decide) ?_
          refine a_iload_n K dX11_readStep_23 rfl ?_
          refine a_iconst K dX11_readStep_24 (v := 4) (by decide) ?_
          refine a_icmp_ge K dX11_readStep_25 (tgt := 44) (by decide) (fun c_25 => ?_) (fun c_25 => absurd c_25 (by decide))
          rw [show wA (wA (wA (wA S1 (m 2) R 2) (m 2) (R + 1) (-1000000)) (m 2) (R + 2) (-1000000)) (m 2) (R + 3) (-1000000) = plS S1 m R 2 from rfl]
          have g2 : frM S1 (plS S1 m R 2) m [2] [] := plS_fr
          have hs : StM (plS S1 m R 2) m R (newS (nI 2)) := plS_st
          have kp : keR S (plS S1 m R 2) m R := (keR.rf.f hM0 g1 (by decide) (by decide)).trans9 plS_ke
          have hT := hT.fr hM g2 (by decide) (by decide) (by decide)
          have ha := (g2.2 707 (by decide)).trans ha
          have hf := ((g2.2 708 (by decide)).trans hf).trans (fltW_s hw)
          have f : frM S (plS S1 m R 2) m [2] [707, 708] := (g1.up (fun k hk => absurd hk (by simp)) (by decide)).tr (g2.up (by decide) (by decide))
          have hM := g2.lay hM
          obtain ⟨V, hV⟩ : ∃ V, plS S1 m R 2 = V := ⟨_, rfl⟩
          rw [hV] at hs kp hT ha hf f hM ⊢
          refine a_iload_n K dX11_readStep_44 rfl ?_
          refine a_iconst K dX11_readStep_45 (v := 5) (by decide) ?_
          refine a_icmp_ne K dX11_readStep_46 (tgt := 50) (by decide) (fun c_46 => ?_) (fun c_46 => absurd c_46 (by decide))
          first | refine a_aload_n K dX11_readStep_50 rfl ?_ | refine a_aload_nN K dX11_readStep_50 rfl ?_
          refine a_getRs K fd_X11_17 (by exact lm_o hM) (Or.inr ⟨_, rfl⟩) (by exact lm_r710 hM) dX11_readStep_51 ?_
          refine a_iload_n K dX11_readStep_54 rfl ?_
          refine a_iconst K dX11_readStep_55 (v := 1) (by decide) ?_
          refine a_iadd K dX11_readStep_56 ?_
          rw [nI_add1]
          first | refine a_aload_n K dX11_readStep_57 rfl ?_ | refine a_aload_nN K dX11_readStep_57 rfl ?_
          refine a_invV K (q_number hM hT (by omega) rfl (by omega) ha hf) my_X11_number ml_X11_150 im_X11_number se_X11_number (ci := 11) (by exact lm_o hM) (by decide) ⟨_, _, rfl⟩ rfl (by omega) (by omega) (by omega) rfl (Nat.le_of_ble_eq_true rfl) dX11_readStep_58 ?_
          intro r9 S2 hp9
          obtain ⟨x9, rfl, ha, hf, hx9, g9⟩ := hp9
          rw [show numD L false (skB L (wrdR L p0).1) = numR L false (wrdR L p0).1 from rfl] at ha hf hx9
          have hT := hT.fr hM g9 (by decide) (by decide) (by decide)
          have f := f.tr (g9.up (fun k hk => absurd hk (by simp)) (by decide))
          have kp := kp.f hM g9 (by decide) (by decide)
          have hs := hs.f hM g9 (by decide) (by decide)
          have hM := g9.lay hM
          refine a_iast K (by exact lm_kk hM (by decide) (by decide)) (by first | (show vp_in _ (sN _ (m 2)); first | exact lm_ix (z := 320) hM (by decide) (by decide) (show R + 1 < 320 by omega) (by decide) | exact lm_ix (z := 320) hM (by decide) (by decide) (show R + 2 < 320 by omega) (by decide) | exact lm_ix (z := 320) hM (by decide) (by decide) (show R + 3 < 320 by omega) (by decide))) dX11_readStep_61 ?_
          rw [nI_clamp (by omega)]
          have hx := hx9 x1 h1
          subst hx
          have g8 : frM S2 (wA S2 (m 2) (R + 1) x9) m [2] [] := frM_wA (by decide)
          have hs : StM (wA S2 (m 2) (R + 1) x9) m R _ := hs.w (k := 1) (x := x9)
          have kp : keR S (wA S2 (m 2) (R + 1) x9) m R := kp.w (k := 1) (x := x9) (by decide)
          have hT := hT.fr hM g8 (by decide) (by decide) (by decide)
          have ha : sI (wA S2 (m 2) (R + 1) x9) 707 (m 33) = _ := ha
          have hf : sI (wA S2 (m 2) (R + 1) x9) 708 (m 33) = _ := hf
          have f := f.tr (g8.up (by decide) (by decide))
          have hM := g8.lay hM
          have hf := hf.trans (fltN_s h1)
          first | refine a_aload_n K dX11_readStep_62 rfl ?_ | refine a_aload_nN K dX11_readStep_62 rfl ?_
          refine a_getI K fd_X11_137 (by exact lm_o hM) (Or.inl rfl) dX11_readStep_63 ?_
          rw [hf]
          refine a_iconst K dX11_readStep_66 (v := -1) (by decide) ?_
          refine a_icmp_ne K dX11_readStep_67 (tgt := 75) (by decide) (fun c_67 => absurd c_67 (fun z => z rfl)) (fun c_67 => ?_)
          refine a_iload_n K dX11_readStep_70 rfl ?_
          refine a_iconst K dX11_readStep_71 (v := 1) (by decide) ?_
          refine a_icmp_ne K dX11_readStep_72 (tgt := 76) (by decide) (fun c_72 => ?_) (fun c_72 => absurd c_72 (by decide))
          first | refine a_aload_n K dX11_readStep_76 rfl ?_ | refine a_aload_nN K dX11_readStep_76 rfl ?_
          refine a_getRs K fd_X11_17 (by exact lm_o hM) (Or.inr ⟨_, rfl⟩) (by exact lm_r710 hM) dX11_readStep_77 ?_
          refine a_iload_n K dX11_readStep_80 rfl ?_
          refine a_iconst K dX11_readStep_81 (v := 2) (by decide) ?_
          refine a_iadd K dX11_readStep_82 ?_
          rw [show nI R + 2 = nI (R + 2) from by rw [show (2 : Int32) = nI 2 from rfl, nI_add]]
          refine a_iload_n K dX11_readStep_83 rfl ?_
          refine a_iconst K dX11_readStep_84 (v := 3) (by decide) ?_
          refine a_icmp_eq K dX11_readStep_85 (tgt := 93) (by decide) (fun c_85 => absurd c_85 (by decide)) (fun c_85 => ?_)
          refine a_iload_n K dX11_readStep_88 rfl ?_
          refine a_iconst K dX11_readStep_89 (v := 4) (by decide) ?_
          refine a_icmp_ne K dX11_readStep_90 (tgt := 100) (by decide) (fun c_90 => ?_) (fun c_90 => absurd c_90 (by decide))
          first | refine a_aload_n K dX11_readStep_100 rfl ?_ | refine a_aload_nN K dX11_readStep_100 rfl ?_
          refine a_invV K (q_value hM hT (by omega) rfl (by omega) ha hf) my_X11_value ml_X11_156 im_X11_value se_X11_value (ci := 11) (by exact lm_o hM) (by decide) ⟨_, _, rfl⟩ rfl (by omega) (by omega) (by omega) rfl (Nat.le_of_ble_eq_true rfl) dX11_readStep_101 ?_
          intro r9 S3 hp9
          obtain ⟨y9, rfl, ha, hf, hy9, g9⟩ := hp9
          have hT := hT.fr hM g9 (by decide) (by decide) (by decide)
          have f := f.tr (g9.up (fun k hk => absurd hk (by simp)) (by decide))
          have kp := kp.f hM g9 (by decide) (by decide)
          have hs := hs.f hM g9 (by decide) (by decide)
          have hM := g9.lay hM
          refine a_iast K (by exact lm_kk hM (by decide) (by decide)) (by first | (show vp_in _ (sN _ (m 2)); first | exact lm_ix (z := 320) hM (by decide) (by decide) (show R + 1 < 320 by omega) (by decide) | exact lm_ix (z := 320) hM (by decide) (by decide) (show R + 2 < 320 by omega) (by decide) | exact lm_ix (z := 320) hM (by decide) (by decide) (show R + 3 < 320 by omega) (by decide))) dX11_readStep_104 ?_
          rw [nI_clamp (by omega)]
          have hy := hy9 x2 h2
          subst hy
          have g8 : frM S3 (wA S3 (m 2) (R + 2) y9) m [2] [] := frM_wA (by decide)
          have hs : StM (wA S3 (m 2) (R + 2) y9) m R _ := hs.w (k := 2) (x := y9)
          have kp : keR S (wA S3 (m 2) (R + 2) y9) m R := kp.w (k := 2) (x := y9) (by decide)
          have hT := hT.fr hM g8 (by decide) (by decide) (by decide)
          have ha : sI (wA S3 (m 2) (R + 2) y9) 707 (m 33) = _ := ha
          have hf : sI (wA S3 (m 2) (R + 2) y9) 708 (m 33) = _ := hf
          have f := f.tr (g8.up (by decide) (by decide))
          have hM := g8.lay hM
          have hf := hf.trans (fltN_s h2)
          first | refine a_aload_n K dX11_readStep_105 rfl ?_ | refine a_aload_nN K dX11_readStep_105 rfl ?_
          refine a_getI K fd_X11_137 (by exact lm_o hM) (Or.inl rfl) dX11_readStep_106 ?_
          rw [hf]
          refine a_iconst K dX11_readStep_109 (v := -1) (by decide) ?_
          refine a_icmp_ne K dX11_readStep_110 (tgt := 130) (by decide) (fun c_110 => absurd c_110 (fun z => z rfl)) (fun c_110 => ?_)
          refine a_iload_n K dX11_readStep_113 rfl ?_
          refine a_iconst K dX11_readStep_114 (v := 4) (by decide) ?_
          refine a_icmp_ne K dX11_readStep_115 (tgt := 130) (by decide) (fun c_115 => ?_) (fun c_115 => absurd c_115 (by decide))
          exact a_vret K EE (by omega) (by omega) dX11_readStep_130 ⟨rfl, by rw [hE]; exact ha, by rw [hE]; exact hf, fun s q => by rw [hE] at q; rw [← Option.some.inj q]; exact hs, kp, f⟩
    | 3, hw, _ =>
      have k2 := numR_le (L := L) (less := false) (p := (wrdR L p0).1) k1.1
      have k2s := skB_le k1.1
      cases h1 : (numR L false (wrdR L p0).1).2 with
      | none =>
        have hE : ostR L p0 = ((numR L false (wrdR L p0).1).1, none) := (ostR_s hw).trans (nmsR_n (by decide) h1)
        first | refine a_aload_n K dX11_readStep_0 rfl ?_ | refine a_aload_nN K dX11_readStep_0 rfl ?_
        refine a_invV K (q_word hM0 hT0 (by omega) rfl (by omega) ha0 hf0) my_X11_word ml_X11_167 im_X11_word se_X11_word (ci := 11) (by exact lm_o hM) (by decide) ⟨_, _, rfl⟩ rfl (by omega) (by omega) (by omega) rfl (Nat.le_of_ble_eq_true rfl) dX11_readStep_1 ?_
        intro r9 S1 hp9
        obtain ⟨w9, rfl, ha, hf, hw9, g1⟩ := hp9
        have hT := hT0.fr hM0 g1 (by decide) (by decide) (by decide)
        have hM := g1.lay hM0
        refine a_istore_n K dX11_readStep_4 (by decide) ?_
        first | refine a_aload_n K dX11_readStep_5 rfl ?_ | refine a_aload_nN K dX11_readStep_5 rfl ?_
        refine a_getI K fd_X11_137 (by exact lm_o hM) (Or.inl rfl) dX11_readStep_6 ?_
        rw [hf]
        refine a_iconst K dX11_readStep_9 (v := -1) (by decide) ?_
        refine a_icmp_eq K dX11_readStep_10 (tgt := 14) (by decide) (fun c_10 => ?_) (fun c_10 => absurd c_10 (fun z => z (fltW_s hw)))
        rw [show w9 = 3 from hw9 3 hw]
        first | refine a_aload_n K dX11_readStep_14 rfl ?_ | refine a_aload_nN K dX11_readStep_14 rfl ?_
        refine a_getRs K fd_X11_17 (by exact lm_o hM) (Or.inr ⟨_, rfl⟩) (by exact lm_r710 hM) dX11_readStep_15 ?_
        refine a_iload_n K dX11_readStep_18 rfl ?_
        refine a_iload_n K dX11_readStep_19 rfl ?_
        refine a_iast K (by exact lm_kk hM (by decide) (by decide)) (by show vp_in _ (sN S1 (m 2)); exact lm_ix (z := 320) hM (by decide) (by decide) (show R < 320 by omega) (by decide)) dX11_readStep_20 ?_
        rw [nI_clamp (by omega)]
        refine a_iconst K dX11_readStep_21 (v := 1) (by decide) ?_
        refine a_istore_n K dX11_readStep_22 (by decide) ?_
        refine a_iload_n K dX11_readStep_23 rfl ?_
        refine a_iconst K dX11_readStep_24 (v := 4) (by decide) ?_
        refine a_icmp_ge K dX11_readStep_25 (tgt := 44) (by decide) (fun c_25 => absurd c_25 (by decide)) (fun c_25 => ?_)
        first | refine a_aload_n K dX11_readStep_28 rfl ?_ | refine a_aload_nN K dX11_readStep_28 rfl ?_
        refine a_getRs K fd_X11_17 (by exact lm_o hM) (Or.inr ⟨_, rfl⟩) (by exact lm_r710 hM) dX11_readStep_29 ?_
        refine a_iload_n K dX11_readStep_32 rfl ?_
        refine a_iload_n K dX11_readStep_33 rfl ?_
        refine a_iadd K dX11_readStep_34 ?_
        first | rw [nI_add1] | rw [nI_add2] | rw [nI_add3]
        refine a_ldc K kc_X11_170 dX11_readStep_35 ?_
        refine a_iast K (by exact lm_kk hM (by decide) (by decide)) (by first | (show vp_in _ (sN _ (m 2)); first | exact lm_ix (z := 320) hM (by decide) (by decide) (show R + 1 < 320 by omega) (by decide) | exact lm_ix (z := 320) hM (by decide) (by decide) (show R + 2 < 320 by omega) (by decide) | exact lm_ix (z := 320) hM (by decide) (by decide) (show R + 3 < 320 by omega) (by decide))) dX11_readStep_37 ?_
        rw [nI_clamp (by omega)]
        refine a_iinc K dX11_readStep_38 (v := 1) rfl (by decide) (by decide) ?_
        refine a_goto K dX11_readStep_41 (tgt := 23) (by decide) ?_
        refine a_iload_n K dX11_readStep_23 rfl ?_
        refine a_iconst K dX11_readStep_24 (v := 4) (by decide) ?_
        refine a_icmp_ge K dX11_readStep_25 (tgt := 44) (by decide) (fun c_25 => absurd c_25 (by decide)) (fun c_25 => ?_)
        first | refine a_aload_n K dX11_readStep_28 rfl ?_ | refine a_aload_nN K dX11_readStep_28 rfl ?_
        refine a_getRs K fd_X11_17 (by exact lm_o hM) (Or.inr ⟨_, rfl⟩) (by exact lm_r710 hM) dX11_readStep_29 ?_
        refine a_iload_n K dX11_readStep_32 rfl ?_
        refine a_iload_n K dX11_readStep_33 rfl ?_
        refine a_iadd K dX11_readStep_34 ?_
        first | rw [nI_add1] | rw [nI_add2] | rw [nI_add3]
        refine a_ldc K kc_X11_170 dX11_readStep_35 ?_
        refine a_iast K (by exact lm_kk hM (by decide) (by decide)) (by first | (show vp_in _ (sN _ (m 2)); first | exact lm_ix (z := 320) hM (by decide) (by decide) (show R + 1 < 320 by omega) (by decide) | exact lm_ix (z := 320) hM (by decide) (by decide) (show R + 2 < 320 by omega) (by decide) | exact lm_ix (z := 320) hM (by decide) (by decide) (show R + 3 < 320 by omega) (by decide))) dX11_readStep_37 ?_
        rw [nI_clamp (by omega)]
        refine a_iinc K dX11_readStep_38 (v := 1) rfl (by decide) (by decide) ?_
        refine a_goto K dX11_readStep_41 (tgt := 23) (by decide) ?_
        refine a_iload_n K dX11_readStep_23 rfl ?_
        refine a_iconst K dX11_readStep_24 (v := 4) (by decide) ?_
        refine a_icmp_ge K dX11_readStep_25 (tgt := 44) (by decide) (fun c_25 => absurd c_25 (by decide)) (fun c_25 => ?_)
        first | refine a_aload_n K dX11_readStep_28 rfl ?_ | refine a_aload_nN K dX11_readStep_28 rfl ?_
        refine a_getRs K fd_X11_17 (by exact lm_o hM) (Or.inr ⟨_, rfl⟩) (by exact lm_r710 hM) dX11_readStep_29 ?_
        refine a_iload_n K dX11_readStep_32 rfl ?_
        refine a_iload_n K dX11_readStep_33 rfl ?_
        refine a_iadd K dX11_readStep_34 ?_
        first | rw [nI_add1] | rw [nI_add2] | rw [nI_add3]
        refine a_ldc K kc_X11_170 dX11_readStep_35 ?_
        refine a_iast K (by exact lm_kk hM (by decide) (by decide)) (by first | (show vp_in _ (sN _ (m 2)); first | exact lm_ix (z := 320) hM (by decide) (by decide) (show R + 1 < 320 by omega) (by decide) | exact lm_ix (z := 320) hM (by decide) (by decide) (show R + 2 < 320 by omega) (by decide) | exact lm_ix (z := 320) hM (by decide) (by decide) (show R + 3 < 320 by omega) (by decide))) dX11_readStep_37 ?_
        rw [nI_clamp (by omega)]
        refine a_iinc K dX11_readStep_38 (v := 1) rfl (by decide) (by decide) ?_
        refine a_goto K dX11_readStep_41 (tgt := 23) (by decide) ?_
        refine a_iload_n K dX11_readStep_23 rfl ?_
        refine a_iconst K dX11_readStep_24 (v := 4) (by decide) ?_
        refine a_icmp_ge K dX11_readStep_25 (tgt := 44) (by decide) (fun c_25 => ?_) (fun c_25 => absurd c_25 (by decide))
        rw [show wA (wA (wA (wA S1 (m 2) R 3) (m 2) (R + 1) (-1000000)) (m 2) (R + 2) (-1000000)) (m 2) (R + 3) (-1000000) = plS S1 m R 3 from rfl]
        have g2 : frM S1 (plS S1 m R 3) m [2] [] := plS_fr
        have hs : StM (plS S1 m R 3) m R (newS (nI 3)) := plS_st
        have kp : keR S (plS S1 m R 3) m R := (keR.rf.f hM0 g1 (by decide) (by decide)).trans9 plS_ke
        have hT := hT.fr hM g2 (by decide) (by decide) (by decide)
        have ha := (g2.2 707 (by decide)).trans ha
        have hf := ((g2.2 708 (by decide)).trans hf).trans (fltW_s hw)
        have f : frM S (plS S1 m R 3) m [2] [707, 708] := (g1.up (fun k hk => absurd hk (by simp)) (by decide)).tr (g2.up (by decide) (by decide))
        have hM := g2.lay hM
        obtain ⟨V, hV⟩ : ∃ V, plS S1 m R 3 = V := ⟨_, rfl⟩
        rw [hV] at hs kp hT ha hf f hM ⊢
        refine a_iload_n K dX11_readStep_44 rfl ?_
        refine a_iconst K dX11_readStep_45 (v := 5) (by decide) ?_
        refine a_icmp_ne K dX11_readStep_46 (tgt := 50) (by decide) (fun c_46 => ?_) (fun c_46 => absurd c_46 (by decide))
        first | refine a_aload_n K dX11_readStep_50 rfl ?_ | refine a_aload_nN K dX11_readStep_50 rfl ?_
        refine a_getRs K fd_X11_17 (by exact lm_o hM) (Or.inr ⟨_, rfl⟩) (by exact lm_r710 hM) dX11_readStep_51 ?_
        refine a_iload_n K dX11_readStep_54 rfl ?_
        refine a_iconst K dX11_readStep_55 (v := 1) (by decide) ?_
        refine a_iadd K dX11_readStep_56 ?_
        rw [nI_add1]
        first | refine a_aload_n K dX11_readStep_57 rfl ?_ | refine a_aload_nN K dX11_readStep_57 rfl ?_
        refine a_invV K (q_number hM hT (by omega) rfl (by omega) ha hf) my_X11_number ml_X11_150 im_X11_number se_X11_number (ci := 11) (by exact lm_o hM) (by decide) ⟨_, _, rfl⟩ rfl (by omega) (by omega) (by omega) rfl (Nat.le_of_ble_eq_true rfl) dX11_readStep_58 ?_
        intro r9 S2 hp9
        obtain ⟨x9, rfl, ha, hf, hx9, g9⟩ := hp9
        rw [show numD L false (skB L (wrdR L p0).1) = numR L false (wrdR L p0).1 from rfl] at ha hf hx9
        have hT := hT.fr hM g9 (by decide) (by decide) (by decide)
        have f := f.tr (g9.up (fun k hk => absurd hk (by simp)) (by decide))
        have kp := kp.f hM g9 (by decide) (by decide)
        have hs := hs.f hM g9 (by decide) (by decide)
        have hM := g9.lay hM
        refine a_iast K (by exact lm_kk hM (by decide) (by decide)) (by first | (show vp_in _ (sN _ (m 2)); first | exact lm_ix (z := 320) hM (by decide) (by decide) (show R + 1 < 320 by omega) (by decide) | exact lm_ix (z := 320) hM (by decide) (by decide) (show R + 2 < 320 by omega) (by decide) | exact lm_ix (z := 320) hM (by decide) (by decide) (show R + 3 < 320 by omega) (by decide))) dX11_readStep_61 ?_
        rw [nI_clamp (by omega)]
        have g8 : frM S2 (wA S2 (m 2) (R + 1) x9) m [2] [] := frM_wA (by decide)
        have hs : StM (wA S2 (m 2) (R + 1) x9) m R _ := hs.w (k := 1) (x := x9)
        have kp : keR S (wA S2 (m 2) (R + 1) x9) m R := kp.w (k := 1) (x := x9) (by decide)
        have hT := hT.fr hM g8 (by decide) (by decide) (by decide)
        have ha : sI (wA S2 (m 2) (R + 1) x9) 707 (m 33) = _ := ha
        have hf : sI (wA S2 (m 2) (R + 1) x9) 708 (m 33) = _ := hf
        have f := f.tr (g8.up (by decide) (by decide))
        have hM := g8.lay hM
        first | refine a_aload_n K dX11_readStep_62 rfl ?_ | refine a_aload_nN K dX11_readStep_62 rfl ?_
        refine a_getI K fd_X11_137 (by exact lm_o hM) (Or.inl rfl) dX11_readStep_63 ?_
        rw [hf, fltN_n h1]
        refine a_iconst K dX11_readStep_66 (v := -1) (by decide) ?_
        refine a_icmp_ne K dX11_readStep_67 (tgt := 75) (by decide) (fun c_67 => ?_) (fun c_67 => absurd c_67 (nI_m1n (n := (numR L false (wrdR L p0).1).1) (by omega)))
        exact a_vret K EE (by omega) (by omega) dX11_readStep_75 ⟨rfl, by rw [hE]; exact ha, by rw [hE]; exact hf.trans (fltN_n h1), fun s q => absurd (by rw [hE] at q; exact q) (by simp), kp, f⟩
      | some x1 =>
        have k3 := numR_le (L := L) (less := false) (p := (numR L false (wrdR L p0).1).1) k2.2.1
        have k3s := skB_le k2.2.1
        cases h2 : (numR L false (numR L false (wrdR L p0).1).1).2 with
        | none =>
          have hE : ostR L p0 = ((numR L false (numR L false (wrdR L p0).1).1).1, none) := (ostR_s hw).trans ((nmsR_s (by decide) h1).trans (nmsR_n (by decide) h2))
          first | refine a_aload_n K dX11_readStep_0 rfl ?_ | refine a_aload_nN K dX11_readStep_0 rfl ?_
          refine a_invV K (q_word hM0 hT0 (by omega) rfl (by omega) ha0 hf0) my_X11_word ml_X11_167 im_X11_word se_X11_word (ci := 11) (by exact lm_o hM) (by decide) ⟨_, _, rfl⟩ rfl (by omega) (by omega) (by omega) rfl (Nat.le_of_ble_eq_true rfl) dX11_readStep_1 ?_
          intro r9 S1 hp9
          obtain ⟨w9, rfl, ha, hf, hw9, g1⟩ := hp9
          have hT := hT0.fr hM0 g1 (by decide) (by decide) (by decide)
          have hM := g1.lay hM0
          refine a_istore_n K dX11_readStep_4 (by decide) ?_
          first | refine a_aload_n K dX11_readStep_5 rfl ?_ | refine a_aload_nN K dX11_readStep_5 rfl ?_
          refine a_getI K fd_X11_137 (by exact lm_o hM) (Or.inl rfl) dX11_readStep_6 ?_
          rw [hf]
          refine a_iconst K dX11_readStep_9 (v := -1) (by decide) ?_
          refine a_icmp_eq K dX11_readStep_10 (tgt := 14) (by decide) (fun c_10 => ?_) (fun c_10 => absurd c_10 (fun z => z (fltW_s hw)))
          rw [show w9 = 3 from hw9 3 hw]
          first | refine a_aload_n K dX11_readStep_14 rfl ?_ | refine a_aload_nN K dX11_readStep_14 rfl ?_
          refine a_getRs K fd_X11_17 (by exact lm_o hM) (Or.inr ⟨_, rfl⟩) (by exact lm_r710 hM) dX11_readStep_15 ?_
          refine a_iload_n K dX11_readStep_18 rfl ?_
          refine a_iload_n K dX11_readStep_19 rfl ?_
          refine a_iast K (by exact lm_kk hM (by decide) (by decide)) (by show vp_in _ (sN S1 (m 2)); exact lm_ix (z := 320) hM (by decide) (by decide) (show R < 320 by omega) (by decide)) dX11_readStep_20 ?_
          rw [nI_clamp (by omega)]
          refine a_iconst K dX11_readStep_21 (v := 1) (by decide) ?_
          refine a_istore_n K dX11_readStep_22 (by decide) ?_
          refine a_iload_n K dX11_readStep_23 rfl ?_
          refine a_iconst K dX11_readStep_24 (v := 4) (by decide) ?_
          refine a_icmp_ge K dX11_readStep_25 (tgt := 44) (by decide) (fun c_25 => absurd c_25 (by decide)) (fun c_25 => ?_)
          first | refine a_aload_n K dX11_readStep_28 rfl ?_ | refine a_aload_nN K dX11_readStep_28 rfl ?_
          refine a_getRs K fd_X11_17 (by exact lm_o hM) (Or.inr ⟨_, rfl⟩) (by exact lm_r710 hM) dX11_readStep_29 ?_
          refine a_iload_n K dX11_readStep_32 rfl ?_
          refine a_iload_n K dX11_readStep_33 rfl ?_
          refine a_iadd K dX11_readStep_34 ?_
          first | rw [nI_add1] | rw [nI_add2] | rw [nI_add3]
          refine a_ldc K kc_X11_170 dX11_readStep_35 ?_
          refine a_iast K (by exact lm_kk hM (by decide) (by decide)) (by first | (show vp_in _ (sN _ (m 2)); first | exact lm_ix (z := 320) hM (by decide) (by decide) (show R + 1 < 320 by omega) (by decide) | exact lm_ix (z := 320) hM (by decide) (by decide) (show R + 2 < 320 by omega) (by decide) | exact lm_ix (z := 320) hM (by decide) (by decide) (show R + 3 < 320 by omega) (by decide))) dX11_readStep_37 ?_
          rw [nI_clamp (by omega)]
          refine a_iinc K dX11_readStep_38 (v := 1) rfl (by decide) (by decide) ?_
          refine a_goto K dX11_readStep_41 (tgt := 23) (by decide) ?_
          refine a_iload_n K dX11_readStep_23 rfl ?_
          refine a_iconst K dX11_readStep_24 (v := 4) (by decide) ?_
          refine a_icmp_ge K dX11_readStep_25 (tgt := 44) (by decide) (fun c_25 => absurd c_25 (by decide)) (fun c_25 => ?_)
          first | refine a_aload_n K dX11_readStep_28 rfl ?_ | refine a_aload_nN K dX11_readStep_28 rfl ?_
          refine a_getRs K fd_X11_17 (by exact lm_o hM) (Or.inr ⟨_, rfl⟩) (by exact lm_r710 hM) dX11_readStep_29 ?_
          refine a_iload_n K dX11_readStep_32 rfl ?_
          refine a_iload_n K dX11_readStep_33 rfl ?_
          refine a_iadd K dX11_readStep_34 ?_
          first | rw [nI_add1] | rw [nI_add2] | rw [nI_add3]
          refine a_ldc K kc_X11_170 dX11_readStep_35 ?_
          refine a_iast K (by exact lm_kk hM (by decide) (by decide)) (by first | (show vp_in _ (sN _ (m 2)); first | exact lm_ix (z := 320) hM (by decide) (by decide) (show R + 1 < 320 by omega) (by decide) | exact lm_ix (z := 320) hM (by decide) (by decide) (show R + 2 < 320 by omega) (by decide) | exact lm_ix (z := 320) hM (by decide) (by decide) (show R + 3 < 320 by omega) (by decide))) dX11_readStep_37 ?_
          rw [nI_clamp (by omega)]
          refine a_iinc K dX11_readStep_38 (v := 1) rfl (by decide) (by decide) ?_
          refine a_goto K dX11_readStep_41 (tgt := 23) (by decide) ?_
          refine a_iload_n K dX11_readStep_23 rfl ?_
          refine a_iconst K dX11_readStep_24 (v := 4) (by decide) ?_
          refine a_icmp_ge K dX11_readStep_25 (tgt := 44) (by decide) (fun c_25 => absurd c_25 (by decide)) (fun c_25 => ?_)
          first | refine a_aload_n K dX11_readStep_28 rfl ?_ | refine a_aload_nN K dX11_readStep_28 rfl ?_
          refine a_getRs K fd_X11_17 (by exact lm_o hM) (Or.inr ⟨_, rfl⟩) (by exact lm_r710 hM) dX11_readStep_29 ?_
          refine a_iload_n K dX11_readStep_32 rfl ?_
          refine a_iload_n K dX11_readStep_33 rfl ?_
          refine a_iadd K dX11_readStep_34 ?_
          first | rw [nI_add1] | rw [nI_add2] | rw [nI_add3]
          refine a_ldc K kc_X11_170 dX11_readStep_35 ?_
          refine a_iast K (by exact lm_kk hM (by decide) (by decide)) (by first | (show vp_in _ (sN _ (m 2)); first | exact lm_ix (z := 320) hM (by decide) (by decide) (show R + 1 < 320 by omega) (by decide) | exact lm_ix (z := 320) hM (by decide) (by decide) (show R + 2 < 320 by omega) (by decide) | exact lm_ix (z := 320) hM (by decide) (by decide) (show R + 3 < 320 by omega) (by decide))) dX11_readStep_37 ?_
          rw [nI_clamp (by omega)]
          refine a_iinc K dX11_readStep_38 (v := 1) rfl (by decide) (by decide) ?_
          refine a_goto K dX11_readStep_41 (tgt := 23) (by decide) ?_
          refine a_iload_n K dX11_readStep_23 rfl ?_
          refine a_iconst K dX11_readStep_24 (v := 4) (by decide) ?_
          refine a_icmp_ge K dX11_readStep_25 (tgt := 44) (by decide) (fun c_25 => ?_) (fun c_25 => absurd c_25 (by decide))
          rw [show wA (wA (wA (wA S1 (m 2) R 3) (m 2) (R + 1) (-1000000)) (m 2) (R + 2) (-1000000)) (m 2) (R + 3) (-1000000) = plS S1 m R 3 from rfl]
          have g2 : frM S1 (plS S1 m R 3) m [2] [] := plS_fr
          have hs : StM (plS S1 m R 3) m R (newS (nI 3)) := plS_st
          have kp : keR S (plS S1 m R 3) m R := (keR.rf.f hM0 g1 (by decide) (by decide)).trans9 plS_ke
          have hT := hT.fr hM g2 (by decide) (by decide) (by decide)
          have ha := (g2.2 707 (by decide)).trans ha
          have hf := ((g2.2 708 (by decide)).trans hf).trans (fltW_s hw)
          have f : frM S (plS S1 m R 3) m [2] [707, 708] := (g1.up (fun k hk => absurd hk (by simp)) (by decide)).tr (g2.up (by decide) (by decide))
          have hM := g2.lay hM
          obtain ⟨V, hV⟩ : ∃ V, plS S1 m R 3 = V := ⟨_, rfl⟩
          rw [hV] at hs kp hT ha hf f hM ⊢
          refine a_iload_n K dX11_readStep_44 rfl ?_
          refine a_iconst K dX11_readStep_45 (v := 5) (by decide) ?_
          refine a_icmp_ne K dX11_readStep_46 (tgt := 50) (by decide) (fun c_46 => ?_) (fun c_46 => absurd c_46 (by decide))
          first | refine a_aload_n K dX11_readStep_50 rfl ?_ | refine a_aload_nN K dX11_readStep_50 rfl ?_
          refine a_getRs K fd_X11_17 (by exact lm_o hM) (Or.inr ⟨_, rfl⟩) (by exact lm_r710 hM) dX11_readStep_51 ?_
          refine a_iload_n K dX11_readStep_54 rfl ?_
          refine a_iconst K dX11_readStep_55 (v := 1) (by decide) ?_
          refine a_iadd K dX11_readStep_56 ?_
          rw [nI_add1]
          first | refine a_aload_n K dX11_readStep_57 rfl ?_ | refine a_aload_nN K dX11_readStep_57 rfl ?_
          refine a_invV K (q_number hM hT (by omega) rfl (by omega) ha hf) my_X11_number ml_X11_150 im_X11_number se_X11_number (ci := 11) (by exact lm_o hM) (by decide) ⟨_, _, rfl⟩ rfl (by omega) (by omega) (by omega) rfl (Nat.le_of_ble_eq_true rfl) dX11_readStep_58 ?_
          intro r9 S2 hp9
          obtain ⟨x9, rfl, ha, hf, hx9, g9⟩ := hp9
          rw [show numD L false (skB L (wrdR L p0).1) = numR L false (wrdR L p0).1 from rfl] at ha hf hx9
          have hT := hT.fr hM g9 (by decide) (by decide) (by decide)
          have f := f.tr (g9.up (fun k hk => absurd hk (by simp)) (by decide))
          have kp := kp.f hM g9 (by decide) (by decide)
          have hs := hs.f hM g9 (by decide) (by decide)
          have hM := g9.lay hM
          refine a_iast K (by exact lm_kk hM (by decide) (by decide)) (by first | (show vp_in _ (sN _ (m 2)); first | exact lm_ix (z := 320) hM (by decide) (by decide) (show R + 1 < 320 by omega) (by decide) | exact lm_ix (z := 320) hM (by decide) (by decide) (show R + 2 < 320 by omega) (by decide) | exact lm_ix (z := 320) hM (by decide) (by decide) (show R + 3 < 320 by omega) (by decide))) dX11_readStep_61 ?_
          rw [nI_clamp (by omega)]
          have hx := hx9 x1 h1
          subst hx
          have g8 : frM S2 (wA S2 (m 2) (R + 1) x9) m [2] [] := frM_wA (by decide)
          have hs : StM (wA S2 (m 2) (R + 1) x9) m R _ := hs.w (k := 1) (x := x9)
          have kp : keR S (wA S2 (m 2) (R + 1) x9) m R := kp.w (k := 1) (x := x9) (by decide)
          have hT := hT.fr hM g8 (by decide) (by decide) (by decide)
          have ha : sI (wA S2 (m 2) (R + 1) x9) 707 (m 33) = _ := ha
          have hf : sI (wA S2 (m 2) (R + 1) x9) 708 (m 33) = _ := hf
          have f := f.tr (g8.up (by decide) (by decide))
          have hM := g8.lay hM
          have hf := hf.trans (fltN_s h1)
          first | refine a_aload_n K dX11_readStep_62 rfl ?_ | refine a_aload_nN K dX11_readStep_62 rfl ?_
          refine a_getI K fd_X11_137 (by exact lm_o hM) (Or.inl rfl) dX11_readStep_63 ?_
          rw [hf]
          refine a_iconst K dX11_readStep_66 (v := -1) (by decide) ?_
          refine a_icmp_ne K dX11_readStep_67 (tgt := 75) (by decide) (fun c_67 => absurd c_67 (fun z => z rfl)) (fun c_67 => ?_)
          refine a_iload_n K dX11_readStep_70 rfl ?_
          refine a_iconst K dX11_readStep_71 (v := 1) (by decide) ?_
          refine a_icmp_ne K dX11_readStep_72 (tgt := 76) (by decide) (fun c_72 => ?_) (fun c_72 => absurd c_72 (by decide))
          first | refine a_aload_n K dX11_readStep_76 rfl ?_ | refine a_aload_nN K dX11_readStep_76 rfl ?_
          refine a_getRs K fd_X11_17 (by exact lm_o hM) (Or.inr ⟨_, rfl⟩) (by exact lm_r710 hM) dX11_readStep_77 ?_
          refine a_iload_n K dX11_readStep_80 rfl ?_
          refine a_iconst K dX11_readStep_81 (v := 2) (by decide) ?_
          refine a_iadd K dX11_readStep_82 ?_
          rw [show nI R + 2 = nI (R + 2) from by rw [show (2 : Int32) = nI 2 from rfl, nI_add]]
          refine a_iload_n K dX11_readStep_83 rfl ?_
          refine a_iconst K dX11_readStep_84 (v := 3) (by decide) ?_
          refine a_icmp_eq K dX11_readStep_85 (tgt := 93) (by decide) (fun c_85 => ?_) (fun c_85 => absurd c_85 (fun z => z rfl))
          first | refine a_aload_n K dX11_readStep_93 rfl ?_ | refine a_aload_nN K dX11_readStep_93 rfl ?_
          refine a_invV K (q_number hM hT (by omega) rfl (by omega) ha hf) my_X11_number ml_X11_150 im_X11_number se_X11_number (ci := 11) (by exact lm_o hM) (by decide) ⟨_, _, rfl⟩ rfl (by omega) (by omega) (by omega) rfl (Nat.le_of_ble_eq_true rfl) dX11_readStep_94 ?_
          intro r9 S3 hp9
          obtain ⟨y9, rfl, ha, hf, hy9, g9⟩ := hp9
          rw [show numD L false (skB L (numR L false (wrdR L p0).1).1) = numR L false (numR L false (wrdR L p0).1).1 from rfl] at ha hf hy9
          have hT := hT.fr hM g9 (by decide) (by decide) (by decide)
          have f := f.tr (g9.up (fun k hk => absurd hk (by simp)) (by decide))
          have kp := kp.f hM g9 (by decide) (by decide)
          have hs := hs.f hM g9 (by decide) (by decide)
          have hM := g9.lay hM
          refine a_goto K dX11_readStep_97 (tgt := 104) (by decide) ?_
          refine a_iast K (by exact lm_kk hM (by decide) (by decide)) (by first | (show vp_in _ (sN _ (m 2)); first | exact lm_ix (z := 320) hM (by decide) (by decide) (show R + 1 < 320 by omega) (by decide) | exact lm_ix (z := 320) hM (by decide) (by decide) (show R + 2 < 320 by omega) (by decide) | exact lm_ix (z := 320) hM (by decide) (by decide) (show R + 3 < 320 by omega) (by decide))) dX11_readStep_104 ?_
          rw [nI_clamp (by omega)]
          have g8 : frM S3 (wA S3 (m 2) (R + 2) y9) m [2] [] := frM_wA (by decide)
          have hs : StM (wA S3 (m 2) (R + 2) y9) m R _ := hs.w (k := 2) (x := y9)
          have kp : keR S (wA S3 (m 2) (R + 2) y9) m R := kp.w (k := 2) (x := y9) (by decide)
          have hT := hT.fr hM g8 (by decide) (by decide) (by decide)
          have ha : sI (wA S3 (m 2) (R + 2) y9) 707 (m 33) = _ := ha
          have hf : sI (wA S3 (m 2) (R + 2) y9) 708 (m 33) = _ := hf
          have f := f.tr (g8.up (by decide) (by decide))
          have hM := g8.lay hM
          first | refine a_aload_n K dX11_readStep_105 rfl ?_ | refine a_aload_nN K dX11_readStep_105 rfl ?_
          refine a_getI K fd_X11_137 (by exact lm_o hM) (Or.inl rfl) dX11_readStep_106 ?_
          rw [hf, fltN_n h2]
          refine a_iconst K dX11_readStep_109 (v := -1) (by decide) ?_
          refine a_icmp_ne K dX11_readStep_110 (tgt := 130) (by decide) (fun c_110 => ?_) (fun c_110 => absurd c_110 (nI_m1n (n := (numR L false (numR L false (wrdR L p0).1).1).1) (by omega)))
          exact a_vret K EE (by omega) (by omega) dX11_readStep_130 ⟨rfl, by rw [hE]; exact ha, by rw [hE]; exact hf.trans (fltN_n h2), fun s q => absurd (by rw [hE] at q; exact q) (by simp), kp, f⟩
        | some x2 =>
          have hE : ostR L p0 = ((numR L false (numR L false (wrdR L p0).1).1).1, some (setN (setN (newS (nI 3)) 1 x1) 2 x2)) := (ostR_s hw).trans ((nmsR_s (by decide) h1).trans (nmsR_s (by decide) h2))
          first | refine a_aload_n K dX11_readStep_0 rfl ?_ | refine a_aload_nN K dX11_readStep_0 rfl ?_
          refine a_invV K (q_word hM0 hT0 (by omega) rfl (by omega) ha0 hf0) my_X11_word ml_X11_167 im_X11_word se_X11_word (ci := 11) (by exact lm_o hM) (by decide) ⟨_, _, rfl⟩ rfl (by omega) (by omega) (by omega) rfl (Nat.le_of_ble_eq_true rfl) dX11_readStep_1 ?_
          intro r9 S1 hp9
          obtain ⟨w9, rfl, ha, hf, hw9, g1⟩ := hp9
          have hT := hT0.fr hM0 g1 (by decide) (by decide) (by decide)
          have hM := g1.lay hM0
          refine a_istore_n K dX11_readStep_4 (by decide) ?_
          first | refine a_aload_n K dX11_readStep_5 rfl ?_ | refine a_aload_nN K dX11_readStep_5 rfl ?_
          refine a_getI K fd_X11_137 (by exact lm_o hM) (Or.inl rfl) dX11_readStep_6 ?_
          rw [hf]
          refine a_iconst K dX11_readStep_9 (v := -1) (by decide) ?_
          refine a_icmp_eq K dX11_readStep_10 (tgt := 14) (by decide) (fun c_10 => ?_) (fun c_10 => absurd c_10 (fun z => z (fltW_s hw)))
          rw [show w9 = 3 from hw9 3 hw]
          first | refine a_aload_n K dX11_readStep_14 rfl ?_ | refine a_aload_nN K dX11_readStep_14 rfl ?_
          refine a_getRs K fd_X11_17 (by exact lm_o hM) (Or.inr ⟨_, rfl⟩) (by exact lm_r710 hM) dX11_readStep_15 ?_
          refine a_iload_n K dX11_readStep_18 rfl ?_
          refine a_iload_n K dX11_readStep_19 rfl ?_
          refine a_iast K (by exact lm_kk hM (by decide) (by decide)) (by show vp_in _ (sN S1 (m 2)); exact lm_ix (z := 320) hM (by decide) (by decide) (show R < 320 by omega) (by decide)) dX11_readStep_20 ?_
          rw [nI_clamp (by omega)]
          refine a_iconst K dX11_readStep_21 (v := 1) (by decide) ?_
          refine a_istore_n K dX11_readStep_22 (by decide) ?_
          refine a_iload_n K dX11_readStep_23 rfl ?_
          refine a_iconst K dX11_readStep_24 (v := 4) (by decide) ?_
          refine a_icmp_ge K dX11_readStep_25 (tgt := 44) (by decide) (fun c_25 => absurd c_25 (by decide)) (fun c_25 => ?_)
          first | refine a_aload_n K dX11_readStep_28 rfl ?_ | refine a_aload_nN K dX11_readStep_28 rfl ?_
          refine a_getRs K fd_X11_17 (by exact lm_o hM) (Or.inr ⟨_, rfl⟩) (by exact lm_r710 hM) dX11_readStep_29 ?_
          refine a_iload_n K dX11_readStep_32 rfl ?_
          refine a_iload_n K dX11_readStep_33 rfl ?_
          refine a_iadd K dX11_readStep_34 ?_
          first | rw [nI_add1] | rw [nI_add2] | rw [nI_add3]
          refine a_ldc K kc_X11_170 dX11_readStep_35 ?_
          refine a_iast K (by exact lm_kk hM (by decide) (by decide)) (by first | (show vp_in _ (sN _ (m 2)); first | exact lm_ix (z := 320) hM (by decide) (by decide) (show R + 1 < 320 by omega) (by decide) | exact lm_ix (z := 320) hM (by decide) (by decide) (show R + 2 < 320 by omega) (by decide) | exact lm_ix (z := 320) hM (by decide) (by decide) (show R + 3 < 320 by omega) (by decide))) dX11_readStep_37 ?_
          rw [nI_clamp (by omega)]
          refine a_iinc K dX11_readStep_38 (v := 1) rfl (by decide) (by decide) ?_
          refine a_goto K dX11_readStep_41 (tgt := 23) (by decide) ?_
          refine a_iload_n K dX11_readStep_23 rfl ?_
          refine a_iconst K dX11_readStep_24 (v := 4) (by decide) ?_
          refine a_icmp_ge K dX11_readStep_25 (tgt := 44) (by decide) (fun c_25 => absurd c_25 (by decide)) (fun c_25 => ?_)
          first | refine a_aload_n K dX11_readStep_28 rfl ?_ | refine a_aload_nN K dX11_readStep_28 rfl ?_
          refine a_getRs K fd_X11_17 (by exact lm_o hM) (Or.inr ⟨_, rfl⟩) (by exact lm_r710 hM) dX11_readStep_29 ?_
          refine a_iload_n K dX11_readStep_32 rfl ?_
          refine a_iload_n K dX11_readStep_33 rfl ?_
          refine a_iadd K dX11_readStep_34 ?_
          first | rw [nI_add1] | rw [nI_add2] | rw [nI_add3]
          refine a_ldc K kc_X11_170 dX11_readStep_35 ?_
          refine a_iast K (by exact lm_kk hM (by decide) (by decide)) (by first | (show vp_in _ (sN _ (m 2)); first | exact lm_ix (z := 320) hM (by decide) (by decide) (show R + 1 < 320 by omega) (by decide) | exact lm_ix (z := 320) hM (by decide) (by decide) (show R + 2 < 320 by omega) (by decide) | exact lm_ix (z := 320) hM (by decide) (by decide) (show R + 3 < 320 by omega) (by decide))) dX11_readStep_37 ?_
          rw [nI_clamp (by omega)]
          refine a_iinc K dX11_readStep_38 (v := 1) rfl (by decide) (by decide) ?_
          refine a_goto K dX11_readStep_41 (tgt := 23) (by decide) ?_
          refine a_iload_n K dX11_readStep_23 rfl ?_
          refine a_iconst K dX11_readStep_24 (v := 4) (by decide) ?_
          refine a_icmp_ge K dX11_readStep_25 (tgt := 44) (by decide) (fun c_25 => absurd c_25 (by decide)) (fun c_25 => ?_)
          first | refine a_aload_n K dX11_readStep_28 rfl ?_ | refine a_aload_nN K dX11_readStep_28 rfl ?_
          refine a_getRs K fd_X11_17 (by exact lm_o hM) (Or.inr ⟨_, rfl⟩) (by exact lm_r710 hM) dX11_readStep_29 ?_
          refine a_iload_n K dX11_readStep_32 rfl ?_
          refine a_iload_n K dX11_readStep_33 rfl ?_
          refine a_iadd K dX11_readStep_34 ?_
          first | rw [nI_add1] | rw [nI_add2] | rw [nI_add3]
          refine a_ldc K kc_X11_170 dX11_readStep_35 ?_
          refine a_iast K (by exact lm_kk hM (by decide) (by decide)) (by first | (show vp_in _ (sN _ (m 2)); first | exact lm_ix (z := 320) hM (by decide) (by decide) (show R + 1 < 320 by omega) (by decide) | exact lm_ix (z := 320) hM (by decide) (by decide) (show R + 2 < 320 by omega) (by decide) | exact lm_ix (z := 320) hM (by decide) (by decide) (show R + 3 < 320 by omega) (by decide))) dX11_readStep_37 ?_
          rw [nI_clamp (by omega)]
          refine a_iinc K dX11_readStep_38 (v := 1) rfl (by decide) (by decide) ?_
          refine a_goto K dX11_readStep_41 (tgt := 23) (by decide) ?_
          refine a_iload_n K dX11_readStep_23 rfl ?_
          refine a_iconst K dX11_readStep_24 (v := 4) (by decide) ?_
          refine a_icmp_ge K dX11_readStep_25 (tgt := 44) (by decide) (fun c_25 => ?_) (fun c_25 => absurd c_25 (by decide))
          rw [show wA (wA (wA (wA S1 (m 2) R 3) (m 2) (R + 1) (-1000000)) (m 2) (R + 2) (-1000000)) (m 2) (R + 3) (-1000000) = plS S1 m R 3 from rfl]
          have g2 : frM S1 (plS S1 m R 3) m [2] [] := plS_fr
          have hs : StM (plS S1 m R 3) m R (newS (nI 3)) := plS_st
          have kp : keR S (plS S1 m R 3) m R := (keR.rf.f hM0 g1 (by decide) (by decide)).trans9 plS_ke
          have hT := hT.fr hM g2 (by decide) (by decide) (by decide)
          have ha := (g2.2 707 (by decide)).trans ha
          have hf := ((g2.2 708 (by decide)).trans hf).trans (fltW_s hw)
          have f : frM S (plS S1 m R 3) m [2] [707, 708] := (g1.up (fun k hk => absurd hk (by simp)) (by decide)).tr (g2.up (by decide) (by decide))
          have hM := g2.lay hM
          obtain ⟨V, hV⟩ : ∃ V, plS S1 m R 3 = V := ⟨_, rfl⟩
          rw [hV] at hs kp hT ha hf f hM ⊢
          refine a_iload_n K dX11_readStep_44 rfl ?_
          refine a_iconst K dX11_readStep_45 (v := 5) (by decide) ?_
          refine a_icmp_ne K dX11_readStep_46 (tgt := 50) (by decide) (fun c_46 => ?_) (fun c_46 => absurd c_46 (by decide))
          first | refine a_aload_n K dX11_readStep_50 rfl ?_ | refine a_aload_nN K dX11_readStep_50 rfl ?_
          refine a_getRs K fd_X11_17 (by exact lm_o hM) (Or.inr ⟨_, rfl⟩) (by exact lm_r710 hM) dX11_readStep_51 ?_
          refine a_iload_n K dX11_readStep_54 rfl ?_
          refine a_iconst K dX11_readStep_55 (v := 1) (by decide) ?_
          refine a_iadd K dX11_readStep_56 ?_
          rw [nI_add1]
          first | refine a_aload_n K dX11_readStep_57 rfl ?_ | refine a_aload_nN K dX11_readStep_57 rfl ?_
          refine a_invV K (q_number hM hT (by omega) rfl (by omega) ha hf) my_X11_number ml_X11_150 im_X11_number se_X11_number (ci := 11) (by exact lm_o hM) (by decide) ⟨_, _, rfl⟩ rfl (by omega) (by omega) (by omega) rfl (Nat.le_of_ble_eq_true rfl) dX11_readStep_58 ?_
          intro r9 S2 hp9
          obtain ⟨x9, rfl, ha, hf, hx9, g9⟩ := hp9
          rw [show numD L false (skB L (wrdR L p0).1) = numR L false (wrdR L p0).1 from rfl] at ha hf hx9
          have hT := hT.fr hM g9 (by decide) (by decide) (by decide)
          have f := f.tr (g9.up (fun k hk => absurd hk (by simp)) (by decide))
          have kp := kp.f hM g9 (by decide) (by decide)
          have hs := hs.f hM g9 (by decide) (by decide)
          have hM := g9.lay hM
          refine a_iast K (by exact lm_kk hM (by decide) (by decide)) (by first | (show vp_in _ (sN _ (m 2)); first | exact lm_ix (z := 320) hM (by decide) (by decide) (show R + 1 < 320 by omega) (by decide) | exact lm_ix (z := 320) hM (by decide) (by decide) (show R + 2 < 320 by omega) (by decide) | exact lm_ix (z := 320) hM (by decide) (by decide) (show R + 3 < 320 by omega) (by decide))) dX11_readStep_61 ?_
          rw [nI_clamp (by omega)]
          have hx := hx9 x1 h1
          subst hx
          have g8 : frM S2 (wA S2 (m 2) (R + 1) x9) m [2] [] := frM_wA (by decide)
          have hs : StM (wA S2 (m 2) (R + 1) x9) m R _ := hs.w (k := 1) (x := x9)
          have kp : keR S (wA S2 (m 2) (R + 1) x9) m R := kp.w (k := 1) (x := x9) (by decide)
          have hT := hT.fr hM g8 (by decide) (by decide) (by decide)
          have ha : sI (wA S2 (m 2) (R + 1) x9) 707 (m 33) = _ := ha
          have hf : sI (wA S2 (m 2) (R + 1) x9) 708 (m 33) = _ := hf
          have f := f.tr (g8.up (by decide) (by decide))
          have hM := g8.lay hM
          have hf := hf.trans (fltN_s h1)
          first | refine a_aload_n K dX11_readStep_62 rfl ?_ | refine a_aload_nN K dX11_readStep_62 rfl ?_
          refine a_getI K fd_X11_137 (by exact lm_o hM) (Or.inl rfl) dX11_readStep_63 ?_
          rw [hf]
          refine a_iconst K dX11_readStep_66 (v := -1) (by decide) ?_
          refine a_icmp_ne K dX11_readStep_67 (tgt := 75) (by decide) (fun c_67 => absurd c_67 (fun z => z rfl)) (fun c_67 => ?_)
          refine a_iload_n K dX11_readStep_70 rfl ?_
          refine a_iconst K dX11_readStep_71 (v := 1) (by decide) ?_
          refine a_icmp_ne K dX11_readStep_72 (tgt := 76) (by decide) (fun c_72 => ?_) (fun c_72 => absurd c_72 (by decide))
          first | refine a_aload_n K dX11_readStep_76 rfl ?_ | refine a_aload_nN K dX11_readStep_76 rfl ?_
          refine a_getRs K fd_X11_17 (by exact lm_o hM) (Or.inr ⟨_, rfl⟩) (by exact lm_r710 hM) dX11_readStep_77 ?_
          refine a_iload_n K dX11_readStep_80 rfl ?_
          refine a_iconst K dX11_readStep_81 (v := 2) (by decide) ?_
          refine a_iadd K dX11_readStep_82 ?_
          rw [show nI R + 2 = nI (R + 2) from by rw [show (2 : Int32) = nI 2 from rfl, nI_add]]
          refine a_iload_n K dX11_readStep_83 rfl ?_
          refine a_iconst K dX11_readStep_84 (v := 3) (by decide) ?_
          refine a_icmp_eq K dX11_readStep_85 (tgt := 93) (by decide) (fun c_85 => ?_) (fun c_85 => absurd c_85 (fun z => z rfl))
          first | refine a_aload_n K dX11_readStep_93 rfl ?_ | refine a_aload_nN K dX11_readStep_93 rfl ?_
          refine a_invV K (q_number hM hT (by omega) rfl (by omega) ha hf) my_X11_number ml_X11_150 im_X11_number se_X11_number (ci := 11) (by exact lm_o hM) (by decide) ⟨_, _, rfl⟩ rfl (by omega) (by omega) (by omega) rfl (Nat.le_of_ble_eq_true rfl) dX11_readStep_94 ?_
          intro r9 S3 hp9
          obtain ⟨y9, rfl, ha, hf, hy9, g9⟩ := hp9
          rw [show numD L false (skB L (numR L false (wrdR L p0).1).1) = numR L false (numR L false (wrdR L p0).1).1 from rfl] at ha hf hy9
          have hT := hT.fr hM g9 (by decide) (by decide) (by decide)
          have f := f.tr (g9.up (fun k hk => absurd hk (by simp)) (by decide))
          have kp := kp.f hM g9 (by decide) (by decide)
          have hs := hs.f hM g9 (by decide) (by decide)
          have hM := g9.lay hM
          refine a_goto K dX11_readStep_97 (tgt := 104) (by decide) ?_
          refine a_iast K (by exact lm_kk hM (by decide) (by decide)) (by first | (show vp_in _ (sN _ (m 2)); first | exact lm_ix (z := 320) hM (by decide) (by decide) (show R + 1 < 320 by omega) (by decide) | exact lm_ix (z := 320) hM (by decide) (by decide) (show R + 2 < 320 by omega) (by decide) | exact lm_ix (z := 320) hM (by decide) (by decide) (show R + 3 < 320 by omega) (by decide))) dX11_readStep_104 ?_
          rw [nI_clamp (by omega)]
          have hy := hy9 x2 h2
          subst hy
          have g8 : frM S3 (wA S3 (m 2) (R + 2) y9) m [2] [] := frM_wA (by decide)
          have hs : StM (wA S3 (m 2) (R + 2) y9) m R _ := hs.w (k := 2) (x := y9)
          have kp : keR S (wA S3 (m 2) (R + 2) y9) m R := kp.w (k := 2) (x := y9) (by decide)
          have hT := hT.fr hM g8 (by decide) (by decide) (by decide)
          have ha : sI (wA S3 (m 2) (R + 2) y9) 707 (m 33) = _ := ha
          have hf : sI (wA S3 (m 2) (R + 2) y9) 708 (m 33) = _ := hf
          have f := f.tr (g8.up (by decide) (by decide))
          have hM := g8.lay hM
          have hf := hf.trans (fltN_s h2)
          first | refine a_aload_n K dX11_readStep_105 rfl ?_ | refine a_aload_nN K dX11_readStep_105 rfl ?_
          refine a_getI K fd_X11_137 (by exact lm_o hM) (Or.inl rfl) dX11_readStep_106 ?_
          rw [hf]
          refine a_iconst K dX11_readStep_109 (v := -1) (by decide) ?_
          refine a_icmp_ne K dX11_readStep_110 (tgt := 130) (by decide) (fun c_110 => absurd c_110 (fun z => z rfl)) (fun c_110 => ?_)
          refine a_iload_n K dX11_readStep_113 rfl ?_
          refine a_iconst K dX11_readStep_114 (v := 4) (by decide) ?_
          refine a_icmp_ne K dX11_readStep_115 (tgt := 130) (by decide) (fun c_115 => ?_) (fun c_115 => absurd c_115 (by decide))
          exact a_vret K EE (by omega) (by omega) dX11_readStep_130 ⟨rfl, by rw [hE]; exact ha, by rw [hE]; exact hf, fun s q => by rw [hE] at q; rw [← Option.some.inj q]; exact hs, kp, f⟩
    | 4, hw, _ =>
      have k2 := numR_le (L := L) (less := false) (p := (wrdR L p0).1) k1.1
      have k2s := skB_le k1.1
      cases h1 : (numR L false (wrdR L p0).1).2 with
      | none =>
        have hE : ostR L p0 = ((numR L false (wrdR L p0).1).1, none) := (ostR_s hw).trans (nmsR_n (by decide) h1)
        first | refine a_aload_n K dX11_readStep_0 rfl ?_ | refine a_aload_nN K dX11_readStep_0 rfl ?_
        refine a_invV K (q_word hM0 hT0 (by omega) rfl (by omega) ha0 hf0) my_X11_word ml_X11_167 im_X11_word se_X11_word (ci := 11) (by exact lm_o hM) (by decide) ⟨_, _, rfl⟩ rfl (by omega) (by omega) (by omega) rfl (Nat.le_of_ble_eq_true rfl) dX11_readStep_1 ?_
        intro r9 S1 hp9
        obtain ⟨w9, rfl, ha, hf, hw9, g1⟩ := hp9
        have hT := hT0.fr hM0 g1 (by decide) (by decide) (by decide)
        have hM := g1.lay hM0
        refine a_istore_n K dX11_readStep_4 (by decide) ?_
        first | refine a_aload_n K dX11_readStep_5 rfl ?_ | refine a_aload_nN K dX11_readStep_5 rfl ?_
        refine a_getI K fd_X11_137 (by exact lm_o hM) (Or.inl rfl) dX11_readStep_6 ?_
        rw [hf]
        refine a_iconst K dX11_readStep_9 (v := -1) (by decide) ?_
        refine a_icmp_eq K dX11_readStep_10 (tgt := 14) (by decide) (fun c_10 => ?_) (fun c_10 => absurd c_10 (fun z => z (fltW_s hw)))
        rw [show w9 = 4 from hw9 4 hw]
        first | refine a_aload_n K dX11_readStep_14 rfl ?_ | refine a_aload_nN K dX11_readStep_14 rfl ?_
        refine a_getRs K fd_X11_17 (by exact lm_o hM) (Or.inr ⟨_, rfl⟩) (by exact lm_r710 hM) dX11_readStep_15 ?_
        refine a_iload_n K dX11_readStep_18 rfl ?_
        refine a_iload_n K dX11_readStep_19 rfl ?_
        refine a_iast K (by exact lm_kk hM (by decide) (by decide)) (by show vp_in _ (sN S1 (m 2)); exact lm_ix (z := 320) hM (by decide) (by decide) (show R < 320 by omega) (by decide)) dX11_readStep_20 ?_
        rw [nI_clamp (by omega)]
        refine a_iconst K dX11_readStep_21 (v := 1) (by decide) ?_
        refine a_istore_n K dX11_readStep_22 (by decide) ?_
        refine a_iload_n K dX11_readStep_23 rfl ?_
        refine a_iconst K dX11_readStep_24 (v := 4) (by decide) ?_
        refine a_icmp_ge K dX11_readStep_25 (tgt := 44) (by decide) (fun c_25 => absurd c_25 (by decide)) (fun c_25 => ?_)
        first | refine a_aload_n K dX11_readStep_28 rfl ?_ | refine a_aload_nN K dX11_readStep_28 rfl ?_
        refine a_getRs K fd_X11_17 (by exact lm_o hM) (Or.inr ⟨_, rfl⟩) (by exact lm_r710 hM) dX11_readStep_29 ?_
        refine a_iload_n K dX11_readStep_32 rfl ?_
        refine a_iload_n K dX11_readStep_33 rfl ?_
        refine a_iadd K dX11_readStep_34 ?_
        first | rw [nI_add1] | rw [nI_add2] | rw [nI_add3]
        refine a_ldc K kc_X11_170 dX11_readStep_35 ?_
        refine a_iast K (by exact lm_kk hM (by decide) (by decide)) (by first | (show vp_in _ (sN _ (m 2)); first | exact lm_ix (z := 320) hM (by decide) (by decide) (show R + 1 < 320 by omega) (by decide) | exact lm_ix (z := 320) hM (by decide) (by decide) (show R + 2 < 320 by omega) (by decide) | exact lm_ix (z := 320) hM (by decide) (by decide) (show R + 3 < 320 by omega) (by decide))) dX11_readStep_37 ?_
        rw [nI_clamp (by omega)]
        refine a_iinc K dX11_readStep_38 (v := 1) rfl (by decide) (by decide) ?_
        refine a_goto K dX11_readStep_41 (tgt := 23) (by decide) ?_
        refine a_iload_n K dX11_readStep_23 rfl ?_
        refine a_iconst K dX11_readStep_24 (v := 4) (by decide) ?_
        refine a_icmp_ge K dX11_readStep_25 (tgt := 44) (by decide) (fun c_25 => absurd c_25 (by decide)) (fun c_25 => ?_)
        first | refine a_aload_n K dX11_readStep_28 rfl ?_ | refine a_aload_nN K dX11_readStep_28 rfl ?_
        refine a_getRs K fd_X11_17 (by exact lm_o hM) (Or.inr ⟨_, rfl⟩) (by exact lm_r710 hM) dX11_readStep_29 ?_
        refine a_iload_n K dX11_readStep_32 rfl ?_
        refine a_iload_n K dX11_readStep_33 rfl ?_
        refine a_iadd K dX11_readStep_34 ?_
        first | rw [nI_add1] | rw [nI_add2] | rw [nI_add3]
        refine a_ldc K kc_X11_170 dX11_readStep_35 ?_
        refine a_iast K (by exact lm_kk hM (by decide) (by decide)) (by first | (show vp_in _ (sN _ (m 2)); first | exact lm_ix (z := 320) hM (by decide) (by decide) (show R + 1 < 320 by omega) (by decide) | exact lm_ix (z := 320) hM (by decide) (by decide) (show R + 2 < 320 by omega) (by decide) | exact lm_ix (z := 320) hM (by decide) (by decide) (show R + 3 < 320 by omega) (by decide))) dX11_readStep_37 ?_
        rw [nI_clamp (by omega)]
        refine a_iinc K dX11_readStep_38 (v := 1) rfl (by decide) (by decide) ?_
        refine a_goto K dX11_readStep_41 (tgt := 23) (by decide) ?_
        refine a_iload_n K dX11_readStep_23 rfl ?_
        refine a_iconst K dX11_readStep_24 (v := 4) (by decide) ?_
        refine a_icmp_ge K dX11_readStep_25 (tgt := 44) (by decide) (fun c_25 => absurd c_25 (by decide)) (fun c_25 => ?_)
        first | refine a_aload_n K dX11_readStep_28 rfl ?_ | refine a_aload_nN K dX11_readStep_28 rfl ?_
        refine a_getRs K fd_X11_17 (by exact lm_o hM) (Or.inr ⟨_, rfl⟩) (by exact lm_r710 hM) dX11_readStep_29 ?_
        refine a_iload_n K dX11_readStep_32 rfl ?_
        refine a_iload_n K dX11_readStep_33 rfl ?_
        refine a_iadd K dX11_readStep_34 ?_
        first | rw [nI_add1] | rw [nI_add2] | rw [nI_add3]
        refine a_ldc K kc_X11_170 dX11_readStep_35 ?_
        refine a_iast K (by exact lm_kk hM (by decide) (by decide)) (by first | (show vp_in _ (sN _ (m 2)); first | exact lm_ix (z := 320) hM (by decide) (by decide) (show R + 1 < 320 by omega) (by decide) | exact lm_ix (z := 320) hM (by decide) (by decide) (show R + 2 < 320 by omega) (by decide) | exact lm_ix (z := 320) hM (by decide) (by decide) (show R + 3 < 320 by omega) (by decide))) dX11_readStep_37 ?_
        rw [nI_clamp (by omega)]
        refine a_iinc K dX11_readStep_38 (v := 1) rfl (by decide) (by decide) ?_
        refine a_goto K dX11_readStep_41 (tgt := 23) (by decide) ?_
        refine a_iload_n K dX11_readStep_23 rfl ?_
        refine a_iconst K dX11_readStep_24 (v := 4) (by decide) ?_
        refine a_icmp_ge K dX11_readStep_25 (tgt := 44) (by decide) (fun c_25 => ?_) (fun c_25 => absurd c_25 (by decide))
        rw [show wA (wA (wA (wA S1 (m 2) R 4) (m 2) (R + 1) (-1000000)) (m 2) (R + 2) (-1000000)) (m 2) (R + 3) (-1000000) = plS S1 m R 4 from rfl]
        have g2 : frM S1 (plS S1 m R 4) m [2] [] := plS_fr
        have hs : StM (plS S1 m R 4) m R (newS (nI 4)) := plS_st
        have kp : keR S (plS S1 m R 4) m R := (keR.rf.f hM0 g1 (by decide) (by decide)).trans9 plS_ke
        have hT := hT.fr hM g2 (by decide) (by decide) (by decide)
        have ha := (g2.2 707 (by decide)).trans ha
        have hf := ((g2.2 708 (by decide)).trans hf).trans (fltW_s hw)
        have f : frM S (plS S1 m R 4) m [2] [707, 708] := (g1.up (fun k hk => absurd hk (by simp)) (by decide)).tr (g2.up (by decide) (by decide))
        have hM := g2.lay hM
        obtain ⟨V, hV⟩ : ∃ V, plS S1 m R 4 = V := ⟨_, rfl⟩
        rw [hV] at hs kp hT ha hf f hM ⊢
        refine a_iload_n K dX11_readStep_44 rfl ?_
        refine a_iconst K dX11_readStep_45 (v := 5) (by decide) ?_
        refine a_icmp_ne K dX11_readStep_46 (tgt := 50) (by decide) (fun c_46 => ?_) (fun c_46 => absurd c_46 (by decide))
        first | refine a_aload_n K dX11_readStep_50 rfl ?_ | refine a_aload_nN K dX11_readStep_50 rfl ?_
        refine a_getRs K fd_X11_17 (by exact lm_o hM) (Or.inr ⟨_, rfl⟩) (by exact lm_r710 hM) dX11_readStep_51 ?_
        refine a_iload_n K dX11_readStep_54 rfl ?_
        refine a_iconst K dX11_readStep_55 (v := 1) (by decide) ?_
        refine a_iadd K dX11_readStep_56 ?_
        rw [nI_add1]
        first | refine a_aload_n K dX11_readStep_57 rfl ?_ | refine a_aload_nN K dX11_readStep_57 rfl ?_
        refine a_invV K (q_number hM hT (by omega) rfl (by omega) ha hf) my_X11_number ml_X11_150 im_X11_number se_X11_number (ci := 11) (by exact lm_o hM) (by decide) ⟨_, _, rfl⟩ rfl (by omega) (by omega) (by omega) rfl (Nat.le_of_ble_eq_true rfl) dX11_readStep_58 ?_
        intro r9 S2 hp9
        obtain ⟨x9, rfl, ha, hf, hx9, g9⟩ := hp9
        rw [show numD L false (skB L (wrdR L p0).1) = numR L false (wrdR L p0).1 from rfl] at ha hf hx9
        have hT := hT.fr hM g9 (by decide) (by decide) (by decide)
        have f := f.tr (g9.up (fun k hk => absurd hk (by simp)) (by decide))
        have kp := kp.f hM g9 (by decide) (by decide)
        have hs := hs.f hM g9 (by decide) (by decide)
        have hM := g9.lay hM
        refine a_iast K (by exact lm_kk hM (by decide) (by decide)) (by first | (show vp_in _ (sN _ (m 2)); first | exact lm_ix (z := 320) hM (by decide) (by decide) (show R + 1 < 320 by omega) (by decide) | exact lm_ix (z := 320) hM (by decide) (by decide) (show R + 2 < 320 by omega) (by decide) | exact lm_ix (z := 320) hM (by decide) (by decide) (show R + 3 < 320 by omega) (by decide))) dX11_readStep_61 ?_
        rw [nI_clamp (by omega)]
        have g8 : frM S2 (wA S2 (m 2) (R + 1) x9) m [2] [] := frM_wA (by decide)
        have hs : StM (wA S2 (m 2) (R + 1) x9) m R _ := hs.w (k := 1) (x := x9)
        have kp : keR S (wA S2 (m 2) (R + 1) x9) m R := kp.w (k := 1) (x := x9) (by decide)
        have hT := hT.fr hM g8 (by decide) (by decide) (by decide)
        have ha : sI (wA S2 (m 2) (R + 1) x9) 707 (m 33) = _ := ha
        have hf : sI (wA S2 (m 2) (R + 1) x9) 708 (m 33) = _ := hf
        have f := f.tr (g8.up (by decide) (by decide))
        have hM := g8.lay hM
        first | refine a_aload_n K dX11_readStep_62 rfl ?_ | refine a_aload_nN K dX11_readStep_62 rfl ?_
        refine a_getI K fd_X11_137 (by exact lm_o hM) (Or.inl rfl) dX11_readStep_63 ?_
        rw [hf, fltN_n h1]
        refine a_iconst K dX11_readStep_66 (v := -1) (by decide) ?_
        refine a_icmp_ne K dX11_readStep_67 (tgt := 75) (by decide) (fun c_67 => ?_) (fun c_67 => absurd c_67 (nI_m1n (n := (numR L false (wrdR L p0).1).1) (by omega)))
        exact a_vret K EE (by omega) (by omega) dX11_readStep_75 ⟨rfl, by rw [hE]; exact ha, by rw [hE]; exact hf.trans (fltN_n h1), fun s q => absurd (by rw [hE] at q; exact q) (by simp), kp, f⟩
      | some x1 =>
        have k3 := numR_le (L := L) (less := false) (p := (numR L false (wrdR L p0).1).1) k2.2.1
        have k3s := skB_le k2.2.1
        cases h2 : (numR L false (numR L false (wrdR L p0).1).1).2 with
        | none =>
          have hE : ostR L p0 = ((numR L false (numR L false (wrdR L p0).1).1).1, none) := (ostR_s hw).trans ((nmsR_s (by decide) h1).trans (nmsR_n (by decide) h2))
          first | refine a_aload_n K dX11_readStep_0 rfl ?_ | refine a_aload_nN K dX11_readStep_0 rfl ?_
          refine a_invV K (q_word hM0 hT0 (by omega) rfl (by omega) ha0 hf0) my_X11_word ml_X11_167 im_X11_word se_X11_word (ci := 11) (by exact lm_o hM) (by decide) ⟨_, _, rfl⟩ rfl (by omega) (by omega) (by omega) rfl (Nat.le_of_ble_eq_true rfl) dX11_readStep_1 ?_
          intro r9 S1 hp9
          obtain ⟨w9, rfl, ha, hf, hw9, g1⟩ := hp9
          have hT := hT0.fr hM0 g1 (by decide) (by decide) (by decide)
          have hM := g1.lay hM0
          refine a_istore_n K dX11_readStep_4 (by decide) ?_
          first | refine a_aload_n K dX11_readStep_5 rfl ?_ | refine a_aload_nN K dX11_readStep_5 rfl ?_
          refine a_getI K fd_X11_137 (by exact lm_o hM) (Or.inl rfl) dX11_readStep_6 ?_
          rw [hf]
          refine a_iconst K dX11_readStep_9 (v := -1) (by decide) ?_
          refine a_icmp_eq K dX11_readStep_10 (tgt := 14) (by decide) (fun c_10 => ?_) (fun c_10 => absurd c_10 (fun z => z (fltW_s hw)))
          rw [show w9 = 4 from hw9 4 hw]
          first | refine a_aload_n K dX11_readStep_14 rfl ?_ | refine a_aload_nN K dX11_readStep_14 rfl ?_
          refine a_getRs K fd_X11_17 (by exact lm_o hM) (Or.inr ⟨_, rfl⟩) (by exact lm_r710 hM) dX11_readStep_15 ?_
          refine a_iload_n K dX11_readStep_18 rfl ?_
          refine a_iload_n K dX11_readStep_19 rfl ?_
          refine a_iast K (by exact lm_kk hM (by decide) (by decide)) (by show vp_in _ (sN S1 (m 2)); exact lm_ix (z := 320) hM (by decide) (by decide) (show R < 320 by omega) (by decide)) dX11_readStep_20 ?_
          rw [nI_clamp (by omega)]
          refine a_iconst K dX11_readStep_21 (v := 1) (by decide) ?_
          refine a_istore_n K dX11_readStep_22 (by decide) ?_
          refine a_iload_n K dX11_readStep_23 rfl ?_
          refine a_iconst K dX11_readStep_24 (v := 4) (by decide) ?_
          refine a_icmp_ge K dX11_readStep_25 (tgt := 44) (by decide) (fun c_25 => absurd c_25 (by decide)) (fun c_25 => ?_)
          first | refine a_aload_n K dX11_readStep_28 rfl ?_ | refine a_aload_nN K dX11_readStep_28 rfl ?_
          refine a_getRs K fd_X11_17 (by exact lm_o hM) (Or.inr ⟨_, rfl⟩) (by exact lm_r710 hM) dX11_readStep_29 ?_
          refine a_iload_n K dX11_readStep_32 rfl ?_
          refine a_iload_n K dX11_readStep_33 rfl ?_
          refine a_iadd K dX11_readStep_34 ?_
          first | rw [nI_add1] | rw [nI_add2] | rw [nI_add3]
          refine a_ldc K kc_X11_170 dX11_readStep_35 ?_
          refine a_iast K (by exact lm_kk hM (by decide) (by decide)) (by first | (show vp_in _ (sN _ (m 2)); first | exact lm_ix (z := 320) hM (by decide) (by decide) (show R + 1 < 320 by omega) (by decide) | exact lm_ix (z := 320) hM (by decide) (by decide) (show R + 2 < 320 by omega) (by decide) | exact lm_ix (z := 320) hM (by decide) (by decide) (show R + 3 < 320 by omega) (by decide))) dX11_readStep_37 ?_
          rw [nI_clamp (by omega)]
          refine a_iinc K dX11_readStep_38 (v := 1) rfl (by decide) (by decide) ?_
          refine a_goto K dX11_readStep_41 (tgt := 23) (by decide) ?_
          refine a_iload_n K dX11_readStep_23 rfl ?_
          refine a_iconst K dX11_readStep_24 (v := 4) (by decide) ?_
          refine a_icmp_ge K dX11_readStep_25 (tgt := 44) (by decide) (fun c_25 => absurd c_25 (by decide)) (fun c_25 => ?_)
          first | refine a_aload_n K dX11_readStep_28 rfl ?_ | refine a_aload_nN K dX11_readStep_28 rfl ?_
          refine a_getRs K fd_X11_17 (by exact lm_o hM) (Or.inr ⟨_, rfl⟩) (by exact lm_r710 hM) dX11_readStep_29 ?_
          refine a_iload_n K dX11_readStep_32 rfl ?_
          refine a_iload_n K dX11_readStep_33 rfl ?_
          refine a_iadd K dX11_readStep_34 ?_
          first | rw [nI_add1] | rw [nI_add2] | rw [nI_add3]
          refine a_ldc K kc_X11_170 dX11_readStep_35 ?_
          refine a_iast K (by exact lm_kk hM (by decide) (by decide)) (by first | (show vp_in _ (sN _ (m 2)); first | exact lm_ix (z := 320) hM (by decide) (by decide) (show R + 1 < 320 by omega) (by decide) | exact lm_ix (z := 320) hM (by decide) (by decide) (show R + 2 < 320 by omega) (by decide) | exact lm_ix (z := 320) hM (by decide) (by decide) (show R + 3 < 320 by omega) (by decide))) dX11_readStep_37 ?_
          rw [nI_clamp (by omega)]
          refine a_iinc K dX11_readStep_38 (v := 1) rfl (by decide) (by decide) ?_
          refine a_goto K dX11_readStep_41 (tgt := 23) (by decide) ?_
          refine a_iload_n K dX11_readStep_23 rfl ?_
          refine a_iconst K dX11_readStep_24 (v := 4) (by decide) ?_
          refine a_icmp_ge K dX11_readStep_25 (tgt := 44) (by decide) (fun c_25 => absurd c_25 (by decide)) (fun c_25 => ?_)
          first | refine a_aload_n K dX11_readStep_28 rfl ?_ | refine a_aload_nN K dX11_readStep_28 rfl ?_
          refine a_getRs K fd_X11_17 (by exact lm_o hM) (Or.inr ⟨_, rfl⟩) (by exact lm_r710 hM) dX11_readStep_29 ?_
          refine a_iload_n K dX11_readStep_32 rfl ?_
          refine a_iload_n K dX11_readStep_33 rfl ?_
          refine a_iadd K dX11_readStep_34 ?_
          first | rw [nI_add1] | rw [nI_add2] | rw [nI_add3]
          refine a_ldc K kc_X11_170 dX11_readStep_35 ?_
          refine a_iast K (by exact lm_kk hM (by decide) (by decide)) (by first | (show vp_in _ (sN _ (m 2)); first | exact lm_ix (z := 320) hM (by decide) (by decide) (show R + 1 < 320 by omega) (by decide) | exact lm_ix (z := 320) hM (by decide) (by decide) (show R + 2 < 320 by omega) (by decide) | exact lm_ix (z := 320) hM (by decide) (by decide) (show R + 3 < 320 by omega) (by decide))) dX11_readStep_37 ?_
          rw [nI_clamp (by omega)]
          refine a_iinc K dX11_readStep_38 (v := 1) rfl (by decide) (by decide) ?_
          refine a_goto K dX11_readStep_41 (tgt := 23) (by decide) ?_
          refine a_iload_n K dX11_readStep_23 rfl ?_
          refine a_iconst K dX11_readStep_24 (v := 4) (by decide) ?_
          refine a_icmp_ge K dX11_readStep_25 (tgt := 44) (by decide) (fun c_25 => ?_) (fun c_25 => absurd c_25 (by decide))
          rw [show wA (wA (wA (wA S1 (m 2) R 4) (m 2) (R + 1) (-1000000)) (m 2) (R + 2) (-1000000)) (m 2) (R + 3) (-1000000) = plS S1 m R 4 from rfl]
          have g2 : frM S1 (plS S1 m R 4) m [2] [] := plS_fr
          have hs : StM (plS S1 m R 4) m R (newS (nI 4)) := plS_st
          have kp : keR S (plS S1 m R 4) m R := (keR.rf.f hM0 g1 (by decide) (by decide)).trans9 plS_ke
          have hT := hT.fr hM g2 (by decide) (by decide) (by decide)
          have ha := (g2.2 707 (by decide)).trans ha
          have hf := ((g2.2 708 (by decide)).trans hf).trans (fltW_s hw)
          have f : frM S (plS S1 m R 4) m [2] [707, 708] := (g1.up (fun k hk => absurd hk (by simp)) (by decide)).tr (g2.up (by decide) (by decide))
          have hM := g2.lay hM
          obtain ⟨V, hV⟩ : ∃ V, plS S1 m R 4 = V := ⟨_, rfl⟩
          rw [hV] at hs kp hT ha hf f hM ⊢
          refine a_iload_n K dX11_readStep_44 rfl ?_
          refine a_iconst K dX11_readStep_45 (v := 5) (by decide) ?_
          refine a_icmp_ne K dX11_readStep_46 (tgt := 50) (by decide) (fun c_46 => ?_) (fun c_46 => absurd c_46 (by decide))
          first | refine a_aload_n K dX11_readStep_50 rfl ?_ | refine a_aload_nN K dX11_readStep_50 rfl ?_
          refine a_getRs K fd_X11_17 (by exact lm_o hM) (Or.inr ⟨_, rfl⟩) (by exact lm_r710 hM) dX11_readStep_51 ?_
          refine a_iload_n K dX11_readStep_54 rfl ?_
          refine a_iconst K dX11_readStep_55 (v := 1) (by decide) ?_
          refine a_iadd K dX11_readStep_56 ?_
          rw [nI_add1]
          first | refine a_aload_n K dX11_readStep_57 rfl ?_ | refine a_aload_nN K dX11_readStep_57 rfl ?_
          refine a_invV K (q_number hM hT (by omega) rfl (by omega) ha hf) my_X11_number ml_X11_150 im_X11_number se_X11_number (ci := 11) (by exact lm_o hM) (by decide) ⟨_, _, rfl⟩ rfl (by omega) (by omega) (by omega) rfl (Nat.le_of_ble_eq_true rfl) dX11_readStep_58 ?_
          intro r9 S2 hp9
          obtain ⟨x9, rfl, ha, hf, hx9, g9⟩ := hp9
          rw [show numD L false (skB L (wrdR L p0).1) = numR L false (wrdR L p0).1 from rfl] at ha hf hx9
          have hT := hT.fr hM g9 (by decide) (by decide) (by decide)
          have f := f.tr (g9.up (fun k hk => absurd hk (by simp)) (by decide))
          have kp := kp.f hM g9 (by decide) (by decide)
          have hs := hs.f hM g9 (by decide) (by decide)
          have hM := g9.lay hM
          refine a_iast K (by exact lm_kk hM (by decide) (by decide)) (by first | (show vp_in _ (sN _ (m 2)); first | exact lm_ix (z := 320) hM (by decide) (by decide) (show R + 1 < 320 by omega) (by decide) | exact lm_ix (z := 320) hM (by decide) (by decide) (show R + 2 < 320 by omega) (by decide) | exact lm_ix (z := 320) hM (by decide) (by decide) (show R + 3 < 320 by omega) (by decide))) dX11_readStep_61 ?_
          rw [nI_clamp (by omega)]
          have hx := hx9 x1 h1
          subst hx
          have g8 : frM S2 (wA S2 (m 2) (R + 1) x9) m [2] [] := frM_wA (by decide)
          have hs : StM (wA S2 (m 2) (R + 1) x9) m R _ := hs.w (k := 1) (x := x9)
          have kp : keR S (wA S2 (m 2) (R + 1) x9) m R := kp.w (k := 1) (x := x9) (by decide)
          have hT := hT.fr hM g8 (by decide) (by decide) (by decide)
          have ha : sI (wA S2 (m 2) (R + 1) x9) 707 (m 33) = _ := ha
          have hf : sI (wA S2 (m 2) (R + 1) x9) 708 (m 33) = _ := hf
          have f := f.tr (g8.up (by decide) (by decide))
          have hM := g8.lay hM
          have hf := hf.trans (fltN_s h1)
          first | refine a_aload_n K dX11_readStep_62 rfl ?_ | refine a_aload_nN K dX11_readStep_62 rfl ?_
          refine a_getI K fd_X11_137 (by exact lm_o hM) (Or.inl rfl) dX11_readStep_63 ?_
          rw [hf]
          refine a_iconst K dX11_readStep_66 (v := -1) (by decide) ?_
          refine a_icmp_ne K dX11_readStep_67 (tgt := 75) (by decide) (fun c_67 => absurd c_67 (fun z => z rfl)) (fun c_67 => ?_)
          refine a_iload_n K dX11_readStep_70 rfl ?_
          refine a_iconst K dX11_readStep_71 (v := 1) (by decide) ?_
          refine a_icmp_ne K dX11_readStep_72 (tgt := 76) (by decide) (fun c_72 => ?_) (fun c_72 => absurd c_72 (by decide))
          first | refine a_aload_n K dX11_readStep_76 rfl ?_ | refine a_aload_nN K dX11_readStep_76 rfl ?_
          refine a_getRs K fd_X11_17 (by exact lm_o hM) (Or.inr ⟨_, rfl⟩) (by exact lm_r710 hM) dX11_readStep_77 ?_
          refine a_iload_n K dX11_readStep_80 rfl ?_
          refine a_iconst K dX11_readStep_81 (v := 2) (by decide) ?_
          refine a_iadd K dX11_readStep_82 ?_
          rw [show nI R + 2 = nI (R + 2) from by rw [show (2 : Int32) = nI 2 from rfl, nI_add]]
          refine a_iload_n K dX11_readStep_83 rfl ?_
          refine a_iconst K dX11_readStep_84 (v := 3) (by decide) ?_
          refine a_icmp_eq K dX11_readStep_85 (tgt := 93) (by decide) (fun c_85 => absurd c_85 (by decide)) (fun c_85 => ?_)
          refine a_iload_n K dX11_readStep_88 rfl ?_
          refine a_iconst K dX11_readStep_89 (v := 4) (by decide) ?_
          refine a_icmp_ne K dX11_readStep_90 (tgt := 100) (by decide) (fun c_90 => absurd c_90 (fun z => z rfl)) (fun c_90 => ?_)
          first | refine a_aload_n K dX11_readStep_93 rfl ?_ | refine a_aload_nN K dX11_readStep_93 rfl ?_
          refine a_invV K (q_number hM hT (by omega) rfl (by omega) ha hf) my_X11_number ml_X11_150 im_X11_number se_X11_number (ci := 11) (by exact lm_o hM) (by decide) ⟨_, _, rfl⟩ rfl (by omega) (by omega) (by omega) rfl (Nat.le_of_ble_eq_true rfl) dX11_readStep_94 ?_
          intro r9 S3 hp9
          obtain ⟨y9, rfl, ha, hf, hy9, g9⟩ := hp9
          rw [show numD L false (skB L (numR L false (wrdR L p0).1).1) = numR L false (numR L false (wrdR L p0).1).1 from rfl] at ha hf hy9
          have hT := hT.fr hM g9 (by decide) (by decide) (by decide)
          have f := f.tr (g9.up (fun k hk => absurd hk (by simp)) (by decide))
          have kp := kp.f hM g9 (by decide) (by decide)
          have hs := hs.f hM g9 (by decide) (by decide)
          have hM := g9.lay hM
          refine a_goto K dX11_readStep_97 (tgt := 104) (by decide) ?_
          refine a_iast K (by exact lm_kk hM (by decide) (by decide)) (by first | (show vp_in _ (sN _ (m 2)); first | exact lm_ix (z := 320) hM (by decide) (by decide) (show R + 1 < 320 by omega) (by decide) | exact lm_ix (z := 320) hM (by decide) (by decide) (show R + 2 < 320 by omega) (by decide) | exact lm_ix (z := 320) hM (by decide) (by decide) (show R + 3 < 320 by omega) (by decide))) dX11_readStep_104 ?_
          rw [nI_clamp (by omega)]
          have g8 : frM S3 (wA S3 (m 2) (R + 2) y9) m [2] [] := frM_wA (by decide)
          have hs : StM (wA S3 (m 2) (R + 2) y9) m R _ := hs.w (k := 2) (x := y9)
          have kp : keR S (wA S3 (m 2) (R + 2) y9) m R := kp.w (k := 2) (x := y9) (by decide)
          have hT := hT.fr hM g8 (by decide) (by decide) (by decide)
          have ha : sI (wA S3 (m 2) (R + 2) y9) 707 (m 33) = _ := ha
          have hf : sI (wA S3 (m 2) (R + 2) y9) 708 (m 33) = _ := hf
          have f := f.tr (g8.up (by decide) (by decide))
          have hM := g8.lay hM
          first | refine a_aload_n K dX11_readStep_105 rfl ?_ | refine a_aload_nN K dX11_readStep_105 rfl ?_
          refine a_getI K fd_X11_137 (by exact lm_o hM) (Or.inl rfl) dX11_readStep_106 ?_
          rw [hf, fltN_n h2]
          refine a_iconst K dX11_readStep_109 (v := -1) (by decide) ?_
          refine a_icmp_ne K dX11_readStep_110 (tgt := 130) (by decide) (fun c_110 => ?_) (fun c_110 => absurd c_110 (nI_m1n (n := (numR L false (numR L false (wrdR L p0).1).1).1) (by omega)))
          exact a_vret K EE (by omega) (by omega) dX11_readStep_130 ⟨rfl, by rw [hE]; exact ha, by rw [hE]; exact hf.trans (fltN_n h2), fun s q => absurd (by rw [hE] at q; exact q) (by simp), kp, f⟩
        | some x2 =>
          have k4 := numR_le (L := L) (less := true) (p := (numR L false (numR L false (wrdR L p0).1).1).1) k3.2.1
          have k4s := skB_le k3.2.1
          cases h3 : (numR L true (numR L false (numR L false (wrdR L p0).1).1).1).2 with
          | none =>
            have hE : ostR L p0 = ((numR L true (numR L false (numR L false (wrdR L p0).1).1).1).1, none) := (ostR_s hw).trans ((nmsR_s (by decide) h1).trans ((nmsR_s (by decide) h2).trans (nmsR_n (by decide) h3)))
            first | refine a_aload_n K dX11_readStep_0 rfl ?_ | refine a_aload_nN K dX11_readStep_0 rfl ?_
            refine a_invV K (q_word hM0 hT0 (by omega) rfl (by omega) ha0 hf0) my_X11_word ml_X11_167 im_X11_word se_X11_word (ci := 11) (by exact lm_o hM) (by decide) ⟨_, _, rfl⟩ rfl (by omega) (by omega) (by omega) rfl (Nat.le_of_ble_eq_true rfl) dX11_readStep_1 ?_
            intro r9 S1 hp9
            obtain ⟨w9, rfl, ha, hf, hw9, g1⟩ := hp9
            have hT := hT0.fr hM0 g1 (by decide) (by decide) (by decide)
            have hM := g1.lay hM0
            refine a_istore_n K dX11_readStep_4 (by decide) ?_
            first | refine a_aload_n K dX11_readStep_5 rfl ?_ | refine a_aload_nN K dX11_readStep_5 rfl ?_
            refine a_getI K fd_X11_137 (by exact lm_o hM) (Or.inl rfl) dX11_readStep_6 ?_
            rw [hf]
            refine a_iconst K dX11_readStep_9 (v := -1) (by decide) ?_
            refine a_icmp_eq K dX11_readStep_10 (tgt := 14) (by decide) (fun c_10 => ?_) (fun c_10 => absurd c_10 (fun z => z (fltW_s hw)))
            rw [show w9 = 4 from hw9 4 hw]
            first | refine a_aload_n K dX11_readStep_14 rfl ?_ | refine a_aload_nN K dX11_readStep_14 rfl ?_
            refine a_getRs K fd_X11_17 (by exact lm_o hM) (Or.inr ⟨_, rfl⟩) (by exact lm_r710 hM) dX11_readStep_15 ?_
            refine a_iload_n K dX11_readStep_18 rfl ?_
            refine a_iload_n K dX11_readStep_19 rfl ?_
            refine a_iast K (by exact lm_kk hM (by decide) (by decide)) (by show vp_in _ (sN S1 (m 2)); exact lm_ix (z := 320) hM (by decide) (by decide) (show R < 320 by omega) (by decide)) dX11_readStep_20 ?_
            rw [nI_clamp (by omega)]
            refine a_iconst K dX11_readStep_21 (v := 1) (by decide) ?_
            refine a_istore_n K dX11_readStep_22 (by decide) ?_
            refine a_iload_n K dX11_readStep_23 rfl ?_
            refine a_iconst K dX11_readStep_24 (v := 4) (by decide) ?_
            refine a_icmp_ge K dX11_readStep_25 (tgt := 44) (by decide) (fun c_25 => absurd c_25 (by decide)) (fun c_25 => ?_)
            first | refine a_aload_n K dX11_readStep_28 rfl ?_ | refine a_aload_nN K dX11_readStep_28 rfl ?_
            refine a_getRs K fd_X11_17 (by exact lm_o hM) (Or.inr ⟨_, rfl⟩) (by exact lm_r710 hM) dX11_readStep_29 ?_
            refine a_iload_n K dX11_readStep_32 rfl ?_
            refine a_iload_n K dX11_readStep_33 rfl ?_
            refine a_iadd K dX11_readStep_34 ?_
            first | rw [nI_add1] | rw [nI_add2] | rw [nI_add3]
            refine a_ldc K kc_X11_170 dX11_readStep_35 ?_
            refine a_iast K (by exact lm_kk hM (by decide) (by decide)) (by first | (show vp_in _ (sN _ (m 2)); first | exact lm_ix (z := 320) hM (by decide) (by decide) (show R + 1 < 320 by omega) (by decide) | exact lm_ix (z := 320) hM (by decide) (by decide) (show R + 2 < 320 by omega) (by decide) | exact lm_ix (z := 320) hM (by decide) (by decide) (show R + 3 < 320 by omega) (by decide))) dX11_readStep_37 ?_
            rw [nI_clamp (by omega)]
            refine a_iinc K dX11_readStep_38 (v := 1) rfl (by decide) (by decide) ?_
            refine a_goto K dX11_readStep_41 (tgt := 23) (by decide) ?_
            refine a_iload_n K dX11_readStep_23 rfl ?_
            refine a_iconst K dX11_readStep_24 (v := 4) (by decide) ?_
            refine a_icmp_ge K dX11_readStep_25 (tgt := 44) (by decide) (fun c_25 => absurd c_25 (by decide)) (fun c_25 => ?_)
            first | refine a_aload_n K dX11_readStep_28 rfl ?_ | refine a_aload_nN K dX11_readStep_28 rfl ?_
            refine a_getRs K fd_X11_17 (by exact lm_o hM) (Or.inr ⟨_, rfl⟩) (by exact lm_r710 hM) dX11_readStep_29 ?_
            refine a_iload_n K dX11_readStep_32 rfl ?_
            refine a_iload_n K dX11_readStep_33 rfl ?_
            refine a_iadd K dX11_readStep_34 ?_
            first | rw [nI_add1] | rw [nI_add2] | rw [nI_add3]
            refine a_ldc K kc_X11_170 dX11_readStep_35 ?_
            refine a_iast K (by exact lm_kk hM (by decide) (by decide)) (by first | (show vp_in _ (sN _ (m 2)); first | exact lm_ix (z := 320) hM (by decide) (by decide) (show R + 1 < 320 by omega) (by decide) | exact lm_ix (z := 320) hM (by decide) (by decide) (show R + 2 < 320 by omega) (by decide) | exact lm_ix (z := 320) hM (by decide) (by decide) (show R + 3 < 320 by omega) (by decide))) dX11_readStep_37 ?_
            rw [nI_clamp (by omega)]
            refine a_iinc K dX11_readStep_38 (v := 1) rfl (by decide) (by decide) ?_
            refine a_goto K dX11_readStep_41 (tgt := 23) (by decide) ?_
            refine a_iload_n K dX11_readStep_23 rfl ?_
            refine a_iconst K dX11_readStep_24 (v := 4) (by decide) ?_
            refine a_icmp_ge K dX11_readStep_25 (tgt := 44) (by decide) (fun c_25 => absurd c_25 (by decide)) (fun c_25 => ?_)
            first | refine a_aload_n K dX11_readStep_28 rfl ?_ | refine a_aload_nN K dX11_readStep_28 rfl ?_
            refine a_getRs K fd_X11_17 (by exact lm_o hM) (Or.inr ⟨_, rfl⟩) (by exact lm_r710 hM) dX11_readStep_29 ?_
            refine a_iload_n K dX11_readStep_32 rfl ?_
            refine a_iload_n K dX11_readStep_33 rfl ?_
            refine a_iadd K dX11_readStep_34 ?_
            first | rw [nI_add1] | rw [nI_add2] | rw [nI_add3]
            refine a_ldc K kc_X11_170 dX11_readStep_35 ?_
            refine a_iast K (by exact lm_kk hM (by decide) (by decide)) (by first | (show vp_in _ (sN _ (m 2)); first | exact lm_ix (z := 320) hM (by decide) (by decide) (show R + 1 < 320 by omega) (by decide) | exact lm_ix (z := 320) hM (by decide) (by decide) (show R + 2 < 320 by omega) (by decide) | exact lm_ix (z := 320) hM (by decide) (by decide) (show R + 3 < 320 by omega) (by decide))) dX11_readStep_37 ?_
            rw [nI_clamp (by omega)]
            refine a_iinc K dX11_readStep_38 (v := 1) rfl (by decide) (by decide) ?_
            refine a_goto K dX11_readStep_41 (tgt := 23) (by decide) ?_
            refine a_iload_n K dX11_readStep_23 rfl ?_
            refine a_iconst K dX11_readStep_24 (v := 4) (by decide) ?_
            refine a_icmp_ge K dX11_readStep_25 (tgt := 44) (by decide) (fun c_25 => ?_) (fun c_25 => absurd c_25 (by decide))
            rw [show wA (wA (wA (wA S1 (m 2) R 4) (m 2) (R + 1) (-1000000)) (m 2) (R + 2) (-1000000)) (m 2) (R + 3) (-1000000) = plS S1 m R 4 from rfl]
            have g2 : frM S1 (plS S1 m R 4) m [2] [] := plS_fr
            have hs : StM (plS S1 m R 4) m R (newS (nI 4)) := plS_st
            have kp : keR S (plS S1 m R 4) m R := (keR.rf.f hM0 g1 (by decide) (by decide)).trans9 plS_ke
            have hT := hT.fr hM g2 (by decide) (by decide) (by decide)
            have ha := (g2.2 707 (by decide)).trans ha
            have hf := ((g2.2 708 (by decide)).trans hf).trans (fltW_s hw)
            have f : frM S (plS S1 m R 4) m [2] [707, 708] := (g1.up (fun k hk => absurd hk (by simp)) (by decide)).tr (g2.up (by decide) (by decide))
            have hM := g2.lay hM
            obtain ⟨V, hV⟩ : ∃ V, plS S1 m R 4 = V := ⟨_, rfl⟩
            rw [hV] at hs kp hT ha hf f hM ⊢
            refine a_iload_n K dX11_readStep_44 rfl ?_
            refine a_iconst K dX11_readStep_45 (v := 5) (by decide) ?_
            refine a_icmp_ne K dX11_readStep_46 (tgt := 50) (by decide) (fun c_46 => ?_) (fun c_46 => absurd c_46 (by decide))
            first | refine a_aload_n K dX11_readStep_50 rfl ?_ | refine a_aload_nN K dX11_readStep_50 rfl ?_
            refine a_getRs K fd_X11_17 (by exact lm_o hM) (Or.inr ⟨_, rfl⟩) (by exact lm_r710 hM) dX11_readStep_51 ?_
            refine a_iload_n K dX11_readStep_54 rfl ?_
            refine a_iconst K dX11_readStep_55 (v := 1) (by decide) ?_
            refine a_iadd K dX11_readStep_56 ?_
            rw [nI_add1]
            first | refine a_aload_n K dX11_readStep_57 rfl ?_ | refine a_aload_nN K dX11_readStep_57 rfl ?_
            refine a_invV K (q_number hM hT (by omega) rfl (by omega) ha hf) my_X11_number ml_X11_150 im_X11_number se_X11_number (ci := 11) (by exact lm_o hM) (by decide) ⟨_, _, rfl⟩ rfl (by omega) (by omega) (by omega) rfl (Nat.le_of_ble_eq_true rfl) dX11_readStep_58 ?_
            intro r9 S2 hp9
            obtain ⟨x9, rfl, ha, hf, hx9, g9⟩ := hp9
            rw [show numD L false (skB L (wrdR L p0).1) = numR L false (wrdR L p0).1 from rfl] at ha hf hx9
            have hT := hT.fr hM g9 (by decide) (by decide) (by decide)
            have f := f.tr (g9.up (fun k hk => absurd hk (by simp)) (by decide))
            have kp := kp.f hM g9 (by decide) (by decide)
            have hs := hs.f hM g9 (by decide) (by decide)
            have hM := g9.lay hM
            refine a_iast K (by exact lm_kk hM (by decide) (by decide)) (by first | (show vp_in _ (sN _ (m 2)); first | exact lm_ix (z := 320) hM (by decide) (by decide) (show R + 1 < 320 by omega) (by decide) | exact lm_ix (z := 320) hM (by decide) (by decide) (show R + 2 < 320 by omega) (by decide) | exact lm_ix (z := 320) hM (by decide) (by decide) (show R + 3 < 320 by omega) (by decide))) dX11_readStep_61 ?_
            rw [nI_clamp (by omega)]
            have hx := hx9 x1 h1
            subst hx
            have g8 : frM S2 (wA S2 (m 2) (R + 1) x9) m [2] [] := frM_wA (by decide)
            have hs : StM (wA S2 (m 2) (R + 1) x9) m R _ := hs.w (k := 1) (x := x9)
            have kp : keR S (wA S2 (m 2) (R + 1) x9) m R := kp.w (k := 1) (x := x9) (by decide)
            have hT := hT.fr hM g8 (by decide) (by decide) (by decide)
            have ha : sI (wA S2 (m 2) (R + 1) x9) 707 (m 33) = _ := ha
            have hf : sI (wA S2 (m 2) (R + 1) x9) 708 (m 33) = _ := hf
            have f := f.tr (g8.up (by decide) (by decide))
            have hM := g8.lay hM
            have hf := hf.trans (fltN_s h1)
            first | refine a_aload_n K dX11_readStep_62 rfl ?_ | refine a_aload_nN K dX11_readStep_62 rfl ?_
            refine a_getI K fd_X11_137 (by exact lm_o hM) (Or.inl rfl) dX11_readStep_63 ?_
            rw [hf]
            refine a_iconst K dX11_readStep_66 (v := -1) (by decide) ?_
            refine a_icmp_ne K dX11_readStep_67 (tgt := 75) (by decide) (fun c_67 => absurd c_67 (fun z => z rfl)) (fun c_67 => ?_)
            refine a_iload_n K dX11_readStep_70 rfl ?_
            refine a_iconst K dX11_readStep_71 (v := 1) (by decide) ?_
            refine a_icmp_ne K dX11_readStep_72 (tgt := 76) (by decide) (fun c_72 => ?_) (fun c_72 => absurd c_72 (by decide))
            first | refine a_aload_n K dX11_readStep_76 rfl ?_ | refine a_aload_nN K dX11_readStep_76 rfl ?_
            refine a_getRs K fd_X11_17 (by exact lm_o hM) (Or.inr ⟨_, rfl⟩) (by exact lm_r710 hM) dX11_readStep_77 ?_
            refine a_iload_n K dX11_readStep_80 rfl ?_
            refine a_iconst K dX11_readStep_81 (v := 2) (by decide) ?_
            refine a_iadd K dX11_readStep_82 ?_
            rw [show nI R + 2 = nI (R + 2) from by rw [show (2 : Int32) = nI 2 from rfl, nI_add]]
            refine a_iload_n K dX11_readStep_83 rfl ?_
            refine a_iconst K dX11_readStep_84 (v := 3) (by decide) ?_
            refine a_icmp_eq K dX11_readStep_85 (tgt := 93) (by decide) (fun c_85 => absurd c_85 (by decide)) (fun c_85 => ?_)
            refine a_iload_n K dX11_readStep_88 rfl ?_
            refine a_iconst K dX11_readStep_89 (v := 4) (by decide) ?_
            refine a_icmp_ne K dX11_readStep_90 (tgt := 100) (by decide) (fun c_90 => absurd c_90 (fun z => z rfl)) (fun c_90 => ?_)
            first | refine a_aload_n K dX11_readStep_93 rfl ?_ | refine a_aload_nN K dX11_readStep_93 rfl ?_
            refine a_invV K (q_number hM hT (by omega) rfl (by omega) ha hf) my_X11_number ml_X11_150 im_X11_number se_X11_number (ci := 11) (by exact lm_o hM) (by decide) ⟨_, _, rfl⟩ rfl (by omega) (by omega) (by omega) rfl (Nat.le_of_ble_eq_true rfl) dX11_readStep_94 ?_
            intro r9 S3 hp9
            obtain ⟨y9, rfl, ha, hf, hy9, g9⟩ := hp9
            rw [show numD L false (skB L (numR L false (wrdR L p0).1).1) = numR L false (numR L false (wrdR L p0).1).1 from rfl] at ha hf hy9
            have hT := hT.fr hM g9 (by decide) (by decide) (by decide)
            have f := f.tr (g9.up (fun k hk => absurd hk (by simp)) (by decide))
            have kp := kp.f hM g9 (by decide) (by decide)
            have hs := hs.f hM g9 (by decide) (by decide)
            have hM := g9.lay hM
            refine a_goto K dX11_readStep_97 (tgt := 104) (by decide) ?_
            refine a_iast K (by exact lm_kk hM (by decide) (by decide)) (by first | (show vp_in _ (sN _ (m 2)); first | exact lm_ix (z := 320) hM (by decide) (by decide) (show R + 1 < 320 by omega) (by decide) | exact lm_ix (z := 320) hM (by decide) (by decide) (show R + 2 < 320 by omega) (by decide) | exact lm_ix (z := 320) hM (by decide) (by decide) (show R + 3 < 320 by omega) (by decide))) dX11_readStep_104 ?_
            rw [nI_clamp (by omega)]
            have hy := hy9 x2 h2
            subst hy
            have g8 : frM S3 (wA S3 (m 2) (R + 2) y9) m [2] [] := frM_wA (by decide)
            have hs : StM (wA S3 (m 2) (R + 2) y9) m R _ := hs.w (k := 2) (x := y9)
            have kp : keR S (wA S3 (m 2) (R + 2) y9) m R := kp.w (k := 2) (x := y9) (by decide)
            have hT := hT.fr hM g8 (by decide) (by decide) (by decide)
            have ha : sI (wA S3 (m 2) (R + 2) y9) 707 (m 33) = _ := ha
            have hf : sI (wA S3 (m 2) (R + 2) y9) 708 (m 33) = _ := hf
            have f := f.tr (g8.up (by decide) (by decide))
            have hM := g8.lay hM
            have hf := hf.trans (fltN_s h2)
            first | refine a_aload_n K dX11_readStep_105 rfl ?_ | refine a_aload_nN K dX11_readStep_105 rfl ?_
            refine a_getI K fd_X11_137 (by exact lm_o hM) (Or.inl rfl) dX11_readStep_106 ?_
            rw [hf]
            refine a_iconst K dX11_readStep_109 (v := -1) (by decide) ?_
            refine a_icmp_ne K dX11_readStep_110 (tgt := 130) (by decide) (fun c_110 => absurd c_110 (fun z => z rfl)) (fun c_110 => ?_)
            refine a_iload_n K dX11_readStep_113 rfl ?_
            refine a_iconst K dX11_readStep_114 (v := 4) (by decide) ?_
            refine a_icmp_ne K dX11_readStep_115 (tgt := 130) (by decide) (fun c_115 => absurd c_115 (fun z => z rfl)) (fun c_115 => ?_)
            first | refine a_aload_n K dX11_readStep_118 rfl ?_ | refine a_aload_nN K dX11_readStep_118 rfl ?_
            refine a_getRs K fd_X11_17 (by exact lm_o hM) (Or.inr ⟨_, rfl⟩) (by exact lm_r710 hM) dX11_readStep_119 ?_
            refine a_iload_n K dX11_readStep_122 rfl ?_
            refine a_iconst K dX11_readStep_123 (v := 3) (by decide) ?_
            refine a_iadd K dX11_readStep_124 ?_
            rw [show nI R + 3 = nI (R + 3) from by rw [show (3 : Int32) = nI 3 from rfl, nI_add]]
            first | refine a_aload_n K dX11_readStep_125 rfl ?_ | refine a_aload_nN K dX11_readStep_125 rfl ?_
            refine a_invV K (q_value hM hT (by omega) rfl (by omega) ha hf) my_X11_value ml_X11_156 im_X11_value se_X11_value (ci := 11) (by exact lm_o hM) (by decide) ⟨_, _, rfl⟩ rfl (by omega) (by omega) (by omega) rfl (Nat.le_of_ble_eq_true rfl) dX11_readStep_126 ?_
            intro r9 S4 hp9
            obtain ⟨z9, rfl, ha, hf, hz9, g9⟩ := hp9
            have hT := hT.fr hM g9 (by decide) (by decide) (by decide)
            have f := f.tr (g9.up (fun k hk => absurd hk (by simp)) (by decide))
            have kp := kp.f hM g9 (by decide) (by decide)
            have hs := hs.f hM g9 (by decide) (by decide)
            have hM := g9.lay hM
            refine a_iast K (by exact lm_kk hM (by decide) (by decide)) (by first | (show vp_in _ (sN _ (m 2)); first | exact lm_ix (z := 320) hM (by decide) (by decide) (show R + 1 < 320 by omega) (by decide) | exact lm_ix (z := 320) hM (by decide) (by decide) (show R + 2 < 320 by omega) (by decide) | exact lm_ix (z := 320) hM (by decide) (by decide) (show R + 3 < 320 by omega) (by decide))) dX11_readStep_129 ?_
            rw [nI_clamp (by omega)]
            have g8 : frM S4 (wA S4 (m 2) (R + 3) z9) m [2] [] := frM_wA (by decide)
            have hs : StM (wA S4 (m 2) (R + 3) z9) m R _ := hs.w (k := 3) (x := z9)
            have kp : keR S (wA S4 (m 2) (R + 3) z9) m R := kp.w (k := 3) (x := z9) (by decide)
            have hT := hT.fr hM g8 (by decide) (by decide) (by decide)
            have ha : sI (wA S4 (m 2) (R + 3) z9) 707 (m 33) = _ := ha
            have hf : sI (wA S4 (m 2) (R + 3) z9) 708 (m 33) = _ := hf
            have f := f.tr (g8.up (by decide) (by decide))
            have hM := g8.lay hM
            exact a_vret K EE (by omega) (by omega) dX11_readStep_130 ⟨rfl, by rw [hE]; exact ha, by rw [hE]; exact hf.trans (fltN_n h3), fun s q => absurd (by rw [hE] at q; exact q) (by simp), kp, f⟩
          | some x3 =>
            have hE : ostR L p0 = ((numR L true (numR L false (numR L false (wrdR L p0).1).1).1).1, some (setN (setN (setN (newS (nI 4)) 1 x1) 2 x2) 3 x3)) := (ostR_s hw).trans ((nmsR_s (by decide) h1).trans ((nmsR_s (by decide) h2).trans (nmsR_s (by decide) h3)))
            first | refine a_aload_n K dX11_readStep_0 rfl ?_ | refine a_aload_nN K dX11_readStep_0 rfl ?_
            refine a_invV K (q_word hM0 hT0 (by omega) rfl (by omega) ha0 hf0) my_X11_word ml_X11_167 im_X11_word se_X11_word (ci := 11) (by exact lm_o hM) (by decide) ⟨_, _, rfl⟩ rfl (by omega) (by omega) (by omega) rfl (Nat.le_of_ble_eq_true rfl) dX11_readStep_1 ?_
            intro r9 S1 hp9
            obtain ⟨w9, rfl, ha, hf, hw9, g1⟩ := hp9
            have hT := hT0.fr hM0 g1 (by decide) (by decide) (by decide)
            have hM := g1.lay hM0
            refine a_istore_n K dX11_readStep_4 (by decide) ?_
            first | refine a_aload_n K dX11_readStep_5 rfl ?_ | refine a_aload_nN K dX11_readStep_5 rfl ?_
            refine a_getI K fd_X11_137 (by exact lm_o hM) (Or.inl rfl) dX11_readStep_6 ?_
            rw [hf]
            refine a_iconst K dX11_readStep_9 (v := -1) (by decide) ?_
            refine a_icmp_eq K dX11_readStep_10 (tgt := 14) (by decide) (fun c_10 => ?_) (fun c_10 => absurd c_10 (fun z => z (fltW_s hw)))
            rw [show w9 = 4 from hw9 4 hw]
            first | refine a_aload_n K dX11_readStep_14 rfl ?_ | refine a_aload_nN K dX11_readStep_14 rfl ?_
            refine a_getRs K fd_X11_17 (by exact lm_o hM) (Or.inr ⟨_, rfl⟩) (by exact lm_r710 hM) dX11_readStep_15 ?_
            refine a_iload_n K dX11_readStep_18 rfl ?_
            refine a_iload_n K dX11_readStep_19 rfl ?_
            refine a_iast K (by exact lm_kk hM (by decide) (by decide)) (by show vp_in _ (sN S1 (m 2)); exact lm_ix (z := 320) hM (by decide) (by decide) (show R < 320 by omega) (by decide)) dX11_readStep_20 ?_
            rw [nI_clamp (by omega)]
            refine a_iconst K dX11_readStep_21 (v := 1) (by decide) ?_
            refine a_istore_n K dX11_readStep_22 (by decide) ?_
            refine a_iload_n K dX11_readStep_23 rfl ?_
            refine a_iconst K dX11_readStep_24 (v := 4) (by decide) ?_
            refine a_icmp_ge K dX11_readStep_25 (tgt := 44) (by decide) (fun c_25 => absurd c_25 (by decide)) (fun c_25 => ?_)
            first | refine a_aload_n K dX11_readStep_28 rfl ?_ | refine a_aload_nN K dX11_readStep_28 rfl ?_
            refine a_getRs K fd_X11_17 (by exact lm_o hM) (Or.inr ⟨_, rfl⟩) (by exact lm_r710 hM) dX11_readStep_29 ?_
            refine a_iload_n K dX11_readStep_32 rfl ?_
            refine a_iload_n K dX11_readStep_33 rfl ?_
            refine a_iadd K dX11_readStep_34 ?_
            first | rw [nI_add1] | rw [nI_add2] | rw [nI_add3]
            refine a_ldc K kc_X11_170 dX11_readStep_35 ?_
            refine a_iast K (by exact lm_kk hM (by decide) (by decide)) (by first | (show vp_in _ (sN _ (m 2)); first | exact lm_ix (z := 320) hM (by decide) (by decide) (show R + 1 < 320 by omega) (by decide) | exact lm_ix (z := 320) hM (by decide) (by decide) (show R + 2 < 320 by omega) (by decide) | exact lm_ix (z := 320) hM (by decide) (by decide) (show R + 3 < 320 by omega) (by decide))) dX11_readStep_37 ?_
            rw [nI_clamp (by omega)]
            refine a_iinc K dX11_readStep_38 (v := 1) rfl (by decide) (by decide) ?_
            refine a_goto K dX11_readStep_41 (tgt := 23) (by decide) ?_
            refine a_iload_n K dX11_readStep_23 rfl ?_
            refine a_iconst K dX11_readStep_24 (v := 4) (by decide) ?_
            refine a_icmp_ge K dX11_readStep_25 (tgt := 44) (by decide) (fun c_25 => absurd c_25 (by decide)) (fun c_25 => ?_)
            first | refine a_aload_n K dX11_readStep_28 rfl ?_ | refine a_aload_nN K dX11_readStep_28 rfl ?_
            refine a_getRs K fd_X11_17 (by exact lm_o hM) (Or.inr ⟨_, rfl⟩) (by exact lm_r710 hM) dX11_readStep_29 ?_
            refine a_iload_n K dX11_readStep_32 rfl ?_
            refine a_iload_n K dX11_readStep_33 rfl ?_
            refine a_iadd K dX11_readStep_34 ?_
            first | rw [nI_add1] | rw [nI_add2] | rw [nI_add3]
            refine a_ldc K kc_X11_170 dX11_readStep_35 ?_
            refine a_iast K (by exact lm_kk hM (by decide) (by decide)) (by first | (show vp_in _ (sN _ (m 2)); first | exact lm_ix (z := 320) hM (by decide) (by decide) (show R + 1 < 320 by omega) (by decide) | exact lm_ix (z := 320) hM (by decide) (by decide) (show R + 2 < 320 by omega) (by decide) | exact lm_ix (z := 320) hM (by decide) (by decide) (show R + 3 < 320 by omega) (by decide))) dX11_readStep_37 ?_
            rw [nI_clamp (by omega)]
            refine a_iinc K dX11_readStep_38 (v := 1) rfl (by decide) (by decide) ?_
            refine a_goto K dX11_readStep_41 (tgt := 23) (by decide) ?_
            refine a_iload_n K dX11_readStep_23 rfl ?_
            refine a_iconst K dX11_readStep_24 (v := 4) (by decide) ?_
            refine a_icmp_ge K dX11_readStep_25 (tgt := 44) (by decide) (fun c_25 => absurd c_25 (by decide)) (fun c_25 => ?_)
            first | refine a_aload_n K dX11_readStep_28 rfl ?_ | refine a_aload_nN K dX11_readStep_28 rfl ?_
            refine a_getRs K fd_X11_17 (by exact lm_o hM) (Or.inr ⟨_, rfl⟩) (by exact lm_r710 hM) dX11_readStep_29 ?_
            refine a_iload_n K dX11_readStep_32 rfl ?_
            refine a_iload_n K dX11_readStep_33 rfl ?_
            refine a_iadd K dX11_readStep_34 ?_
            first | rw [nI_add1] | rw [nI_add2] | rw [nI_add3]
            refine a_ldc K kc_X11_170 dX11_readStep_35 ?_
            refine a_iast K (by exact lm_kk hM (by decide) (by decide)) (by first | (show vp_in _ (sN _ (m 2)); first | exact lm_ix (z := 320) hM (by decide) (by decide) (show R + 1 < 320 by omega) (by decide) | exact lm_ix (z := 320) hM (by decide) (by decide) (show R + 2 < 320 by omega) (by decide) | exact lm_ix (z := 320) hM (by decide) (by decide) (show R + 3 < 320 by omega) (by decide))) dX11_readStep_37 ?_
            rw [nI_clamp (by omega)]
            refine a_iinc K dX11_readStep_38 (v := 1) rfl (by decide) (by decide) ?_
            refine a_goto K dX11_readStep_41 (tgt := 23) (by decide) ?_
            refine a_iload_n K dX11_readStep_23 rfl ?_
            refine a_iconst K dX11_readStep_24 (v := 4) (by decide) ?_
            refine a_icmp_ge K dX11_readStep_25 (tgt := 44) (by decide) (fun c_25 => ?_) (fun c_25 => absurd c_25 (by decide))
            rw [show wA (wA (wA (wA S1 (m 2) R 4) (m 2) (R + 1) (-1000000)) (m 2) (R + 2) (-1000000)) (m 2) (R + 3) (-1000000) = plS S1 m R 4 from rfl]
            have g2 : frM S1 (plS S1 m R 4) m [2] [] := plS_fr
            have hs : StM (plS S1 m R 4) m R (newS (nI 4)) := plS_st
            have kp : keR S (plS S1 m R 4) m R := (keR.rf.f hM0 g1 (by decide) (by decide)).trans9 plS_ke
            have hT := hT.fr hM g2 (by decide) (by decide) (by decide)
            have ha := (g2.2 707 (by decide)).trans ha
            have hf := ((g2.2 708 (by decide)).trans hf).trans (fltW_s hw)
            have f : frM S (plS S1 m R 4) m [2] [707, 708] := (g1.up (fun k hk => absurd hk (by simp)) (by decide)).tr (g2.up (by decide) (by decide))
            have hM := g2.lay hM
            obtain ⟨V, hV⟩ : ∃ V, plS S1 m R 4 = V := ⟨_, rfl⟩
            rw [hV] at hs kp hT ha hf f hM ⊢
            refine a_iload_n K dX11_readStep_44 rfl ?_
            refine a_iconst K dX11_readStep_45 (v := 5) (by decide) ?_
            refine a_icmp_ne K dX11_readStep_46 (tgt := 50) (by decide) (fun c_46 => ?_) (fun c_46 => absurd c_46 (by decide))
            first | refine a_aload_n K dX11_readStep_50 rfl ?_ | refine a_aload_nN K dX11_readStep_50 rfl ?_
            refine a_getRs K fd_X11_17 (by exact lm_o hM) (Or.inr ⟨_, rfl⟩) (by exact lm_r710 hM) dX11_readStep_51 ?_
            refine a_iload_n K dX11_readStep_54 rfl ?_
            refine a_iconst K dX11_readStep_55 (v := 1) (by decide) ?_
            refine a_iadd K dX11_readStep_56 ?_
            rw [nI_add1]
            first | refine a_aload_n K dX11_readStep_57 rfl ?_ | refine a_aload_nN K dX11_readStep_57 rfl ?_
            refine a_invV K (q_number hM hT (by omega) rfl (by omega) ha hf) my_X11_number ml_X11_150 im_X11_number se_X11_number (ci := 11) (by exact lm_o hM) (by decide) ⟨_, _, rfl⟩ rfl (by omega) (by omega) (by omega) rfl (Nat.le_of_ble_eq_true rfl) dX11_readStep_58 ?_
            intro r9 S2 hp9
            obtain ⟨x9, rfl, ha, hf, hx9, g9⟩ := hp9
            rw [show numD L false (skB L (wrdR L p0).1) = numR L false (wrdR L p0).1 from rfl] at ha hf hx9
            have hT := hT.fr hM g9 (by decide) (by decide) (by decide)
            have f := f.tr (g9.up (fun k hk => absurd hk (by simp)) (by decide))
            have kp := kp.f hM g9 (by decide) (by decide)
            have hs := hs.f hM g9 (by decide) (by decide)
            have hM := g9.lay hM
            refine a_iast K (by exact lm_kk hM (by decide) (by decide)) (by first | (show vp_in _ (sN _ (m 2)); first | exact lm_ix (z := 320) hM (by decide) (by decide) (show R + 1 < 320 by omega) (by decide) | exact lm_ix (z := 320) hM (by decide) (by decide) (show R + 2 < 320 by omega) (by decide) | exact lm_ix (z := 320) hM (by decide) (by decide) (show R + 3 < 320 by omega) (by decide))) dX11_readStep_61 ?_
            rw [nI_clamp (by omega)]
            have hx := hx9 x1 h1
            subst hx
            have g8 : frM S2 (wA S2 (m 2) (R + 1) x9) m [2] [] := frM_wA (by decide)
            have hs : StM (wA S2 (m 2) (R + 1) x9) m R _ := hs.w (k := 1) (x := x9)
            have kp : keR S (wA S2 (m 2) (R + 1) x9) m R := kp.w (k := 1) (x := x9) (by decide)
            have hT := hT.fr hM g8 (by decide) (by decide) (by decide)
            have ha : sI (wA S2 (m 2) (R + 1) x9) 707 (m 33) = _ := ha
            have hf : sI (wA S2 (m 2) (R + 1) x9) 708 (m 33) = _ := hf
            have f := f.tr (g8.up (by decide) (by decide))
            have hM := g8.lay hM
            have hf := hf.trans (fltN_s h1)
            first | refine a_aload_n K dX11_readStep_62 rfl ?_ | refine a_aload_nN K dX11_readStep_62 rfl ?_
            refine a_getI K fd_X11_137 (by exact lm_o hM) (Or.inl rfl) dX11_readStep_63 ?_
            rw [hf]
            refine a_iconst K dX11_readStep_66 (v := -1) (by decide) ?_
            refine a_icmp_ne K dX11_readStep_67 (tgt := 75) (by decide) (fun c_67 => absurd c_67 (fun z => z rfl)) (fun c_67 => ?_)
            refine a_iload_n K dX11_readStep_70 rfl ?_
            refine a_iconst K dX11_readStep_71 (v := 1) (by decide) ?_
            refine a_icmp_ne K dX11_readStep_72 (tgt := 76) (by decide) (fun c_72 => ?_) (fun c_72 => absurd c_72 (by decide))
            first | refine a_aload_n K dX11_readStep_76 rfl ?_ | refine a_aload_nN K dX11_readStep_76 rfl ?_
            refine a_getRs K fd_X11_17 (by exact lm_o hM) (Or.inr ⟨_, rfl⟩) (by exact lm_r710 hM) dX11_readStep_77 ?_
            refine a_iload_n K dX11_readStep_80 rfl ?_
            refine a_iconst K dX11_readStep_81 (v := 2) (by decide) ?_
            refine a_iadd K dX11_readStep_82 ?_
            rw [show nI R + 2 = nI (R + 2) from by rw [show (2 : Int32) = nI 2 from rfl, nI_add]]
            refine a_iload_n K dX11_readStep_83 rfl ?_
            refine a_iconst K dX11_readStep_84 (v := 3) (by decide) ?_
            refine a_icmp_eq K dX11_readStep_85 (tgt := 93) (by decide) (fun c_85 => absurd c_85 (by decide)) (fun c_85 => ?_)
            refine a_iload_n K dX11_readStep_88 rfl ?_
            refine a_iconst K dX11_readStep_89 (v := 4) (by decide) ?_
            refine a_icmp_ne K dX11_readStep_90 (tgt := 100) (by decide) (fun c_90 => absurd c_90 (fun z => z rfl)) (fun c_90 => ?_)
            first | refine a_aload_n K dX11_readStep_93 rfl ?_ | refine a_aload_nN K dX11_readStep_93 rfl ?_
            refine a_invV K (q_number hM hT (by omega) rfl (by omega) ha hf) my_X11_number ml_X11_150 im_X11_number se_X11_number (ci := 11) (by exact lm_o hM) (by decide) ⟨_, _, rfl⟩ rfl (by omega) (by omega) (by omega) rfl (Nat.le_of_ble_eq_true rfl) dX11_readStep_94 ?_
            intro r9 S3 hp9
            obtain ⟨y9, rfl, ha, hf, hy9, g9⟩ := hp9
            rw [show numD L false (skB L (numR L false (wrdR L p0).1).1) = numR L false (numR L false (wrdR L p0).1).1 from rfl] at ha hf hy9
            have hT := hT.fr hM g9 (by decide) (by decide) (by decide)
            have f := f.tr (g9.up (fun k hk => absurd hk (by simp)) (by decide))
            have kp := kp.f hM g9 (by decide) (by decide)
            have hs := hs.f hM g9 (by decide) (by decide)
            have hM := g9.lay hM
            refine a_goto K dX11_readStep_97 (tgt := 104) (by decide) ?_
            refine a_iast K (by exact lm_kk hM (by decide) (by decide)) (by first | (show vp_in _ (sN _ (m 2)); first | exact lm_ix (z := 320) hM (by decide) (by decide) (show R + 1 < 320 by omega) (by decide) | exact lm_ix (z := 320) hM (by decide) (by decide) (show R + 2 < 320 by omega) (by decide) | exact lm_ix (z := 320) hM (by decide) (by decide) (show R + 3 < 320 by omega) (by decide))) dX11_readStep_104 ?_
            rw [nI_clamp (by omega)]
            have hy := hy9 x2 h2
            subst hy
            have g8 : frM S3 (wA S3 (m 2) (R + 2) y9) m [2] [] := frM_wA (by decide)
            have hs : StM (wA S3 (m 2) (R + 2) y9) m R _ := hs.w (k := 2) (x := y9)
            have kp : keR S (wA S3 (m 2) (R + 2) y9) m R := kp.w (k := 2) (x := y9) (by decide)
            have hT := hT.fr hM g8 (by decide) (by decide) (by decide)
            have ha : sI (wA S3 (m 2) (R + 2) y9) 707 (m 33) = _ := ha
            have hf : sI (wA S3 (m 2) (R + 2) y9) 708 (m 33) = _ := hf
            have f := f.tr (g8.up (by decide) (by decide))
            have hM := g8.lay hM
            have hf := hf.trans (fltN_s h2)
            first | refine a_aload_n K dX11_readStep_105 rfl ?_ | refine a_aload_nN K dX11_readStep_105 rfl ?_
            refine a_getI K fd_X11_137 (by exact lm_o hM) (Or.inl rfl) dX11_readStep_106 ?_
            rw [hf]
            refine a_iconst K dX11_readStep_109 (v := -1) (by decide) ?_
            refine a_icmp_ne K dX11_readStep_110 (tgt := 130) (by decide) (fun c_110 => absurd c_110 (fun z => z rfl)) (fun c_110 => ?_)
            refine a_iload_n K dX11_readStep_113 rfl ?_
            refine a_iconst K dX11_readStep_114 (v := 4) (by decide) ?_
            refine a_icmp_ne K dX11_readStep_115 (tgt := 130) (by decide) (fun c_115 => absurd c_115 (fun z => z rfl)) (fun c_115 => ?_)
            first | refine a_aload_n K dX11_readStep_118 rfl ?_ | refine a_aload_nN K dX11_readStep_118 rfl ?_
            refine a_getRs K fd_X11_17 (by exact lm_o hM) (Or.inr ⟨_, rfl⟩) (by exact lm_r710 hM) dX11_readStep_119 ?_
            refine a_iload_n K dX11_readStep_122 rfl ?_
            refine a_iconst K dX11_readStep_123 (v := 3) (by decide) ?_
            refine a_iadd K dX11_readStep_124 ?_
            rw [show nI R + 3 = nI (R + 3) from by rw [show (3 : Int32) = nI 3 from rfl, nI_add]]
            first | refine a_aload_n K dX11_readStep_125 rfl ?_ | refine a_aload_nN K dX11_readStep_125 rfl ?_
            refine a_invV K (q_value hM hT (by omega) rfl (by omega) ha hf) my_X11_value ml_X11_156 im_X11_value se_X11_value (ci := 11) (by exact lm_o hM) (by decide) ⟨_, _, rfl⟩ rfl (by omega) (by omega) (by omega) rfl (Nat.le_of_ble_eq_true rfl) dX11_readStep_126 ?_
            intro r9 S4 hp9
            obtain ⟨z9, rfl, ha, hf, hz9, g9⟩ := hp9
            have hT := hT.fr hM g9 (by decide) (by decide) (by decide)
            have f := f.tr (g9.up (fun k hk => absurd hk (by simp)) (by decide))
            have kp := kp.f hM g9 (by decide) (by decide)
            have hs := hs.f hM g9 (by decide) (by decide)
            have hM := g9.lay hM
            refine a_iast K (by exact lm_kk hM (by decide) (by decide)) (by first | (show vp_in _ (sN _ (m 2)); first | exact lm_ix (z := 320) hM (by decide) (by decide) (show R + 1 < 320 by omega) (by decide) | exact lm_ix (z := 320) hM (by decide) (by decide) (show R + 2 < 320 by omega) (by decide) | exact lm_ix (z := 320) hM (by decide) (by decide) (show R + 3 < 320 by omega) (by decide))) dX11_readStep_129 ?_
            rw [nI_clamp (by omega)]
            have hz := hz9 x3 h3
            subst hz
            have g8 : frM S4 (wA S4 (m 2) (R + 3) z9) m [2] [] := frM_wA (by decide)
            have hs : StM (wA S4 (m 2) (R + 3) z9) m R _ := hs.w (k := 3) (x := z9)
            have kp : keR S (wA S4 (m 2) (R + 3) z9) m R := kp.w (k := 3) (x := z9) (by decide)
            have hT := hT.fr hM g8 (by decide) (by decide) (by decide)
            have ha : sI (wA S4 (m 2) (R + 3) z9) 707 (m 33) = _ := ha
            have hf : sI (wA S4 (m 2) (R + 3) z9) 708 (m 33) = _ := hf
            have f := f.tr (g8.up (by decide) (by decide))
            have hM := g8.lay hM
            exact a_vret K EE (by omega) (by omega) dX11_readStep_130 ⟨rfl, by rw [hE]; exact ha, by rw [hE]; exact hf.trans (fltN_s h3), fun s q => by rw [hE] at q; rw [← Option.some.inj q]; exact hs, kp, f⟩
    | 5, hw, _ =>
      have hE : ostR L p0 = ((wrdR L p0).1, some (newS (nI 5))) := ostR_s hw
      first | refine a_aload_n K dX11_readStep_0 rfl ?_ | refine a_aload_nN K dX11_readStep_0 rfl ?_
      refine a_invV K (q_word hM0 hT0 (by omega) rfl (by omega) ha0 hf0) my_X11_word ml_X11_167 im_X11_word se_X11_word (ci := 11) (by exact lm_o hM) (by decide) ⟨_, _, rfl⟩ rfl (by omega) (by omega) (by omega) rfl (Nat.le_of_ble_eq_true rfl) dX11_readStep_1 ?_
      intro r9 S1 hp9
      obtain ⟨w9, rfl, ha, hf, hw9, g1⟩ := hp9
      have hT := hT0.fr hM0 g1 (by decide) (by decide) (by decide)
      have hM := g1.lay hM0
      refine a_istore_n K dX11_readStep_4 (by decide) ?_
      first | refine a_aload_n K dX11_readStep_5 rfl ?_ | refine a_aload_nN K dX11_readStep_5 rfl ?_
      refine a_getI K fd_X11_137 (by exact lm_o hM) (Or.inl rfl) dX11_readStep_6 ?_
      rw [hf]
      refine a_iconst K dX11_readStep_9 (v := -1) (by decide) ?_
      refine a_icmp_eq K dX11_readStep_10 (tgt := 14) (by decide) (fun c_10 => ?_) (fun c_10 => absurd c_10 (fun z => z (fltW_s hw)))
      rw [show w9 = 5 from hw9 5 hw]
      first | refine a_aload_n K dX11_readStep_14 rfl ?_ | refine a_aload_nN K dX11_readStep_14 rfl ?_
      refine a_getRs K fd_X11_17 (by exact lm_o hM) (Or.inr ⟨_, rfl⟩) (by exact lm_r710 hM) dX11_readStep_15 ?_
      refine a_iload_n K dX11_readStep_18 rfl ?_
      refine a_iload_n K dX11_readStep_19 rfl ?_
      refine a_iast K (by exact lm_kk hM (by decide) (by decide)) (by show vp_in _ (sN S1 (m 2)); exact lm_ix (z := 320) hM (by decide) (by decide) (show R < 320 by omega) (by decide)) dX11_readStep_20 ?_
      rw [nI_clamp (by omega)]
      refine a_iconst K dX11_readStep_21 (v := 1) (by decide) ?_
      refine a_istore_n K dX11_readStep_22 (by decide) ?_
      refine a_iload_n K dX11_readStep_23 rfl ?_
      refine a_iconst K dX11_readStep_24 (v := 4) (by decide) ?_
      refine a_icmp_ge K dX11_readStep_25 (tgt := 44) (by decide) (fun c_25 => absurd c_25 (by decide)) (fun c_25 => ?_)
      first | refine a_aload_n K dX11_readStep_28 rfl ?_ | refine a_aload_nN K dX11_readStep_28 rfl ?_
      refine a_getRs K fd_X11_17 (by exact lm_o hM) (Or.inr ⟨_, rfl⟩) (by exact lm_r710 hM) dX11_readStep_29 ?_
      refine a_iload_n K dX11_readStep_32 rfl ?_
      refine a_iload_n K dX11_readStep_33 rfl ?_
      refine a_iadd K dX11_readStep_34 ?_
      first | rw [nI_add1] | rw [nI_add2] | rw [nI_add3]
      refine a_ldc K kc_X11_170 dX11_readStep_35 ?_
      refine a_iast K (by exact lm_kk hM (by decide) (by decide)) (by first | (show vp_in _ (sN _ (m 2)); first | exact lm_ix (z := 320) hM (by decide) (by decide) (show R + 1 < 320 by omega) (by decide) | exact lm_ix (z := 320) hM (by decide) (by decide) (show R + 2 < 320 by omega) (by decide) | exact lm_ix (z := 320) hM (by decide) (by decide) (show R + 3 < 320 by omega) (by decide))) dX11_readStep_37 ?_
      rw [nI_clamp (by omega)]
      refine a_iinc K dX11_readStep_38 (v := 1) rfl (by decide) (by decide) ?_
      refine a_goto K dX11_readStep_41 (tgt := 23) (by decide) ?_
      refine a_iload_n K dX11_readStep_23 rfl ?_
      refine a_iconst K dX11_readStep_24 (v := 4) (by decide) ?_
      refine a_icmp_ge K dX11_readStep_25 (tgt := 44) (by decide) (fun c_25 => absurd c_25 (by decide)) (fun c_25 => ?_)
      first | refine a_aload_n K dX11_readStep_28 rfl ?_ | refine a_aload_nN K dX11_readStep_28 rfl ?_
      refine a_getRs K fd_X11_17 (by exact lm_o hM) (Or.inr ⟨_, rfl⟩) (by exact lm_r710 hM) dX11_readStep_29 ?_
      refine a_iload_n K dX11_readStep_32 rfl ?_
      refine a_iload_n K dX11_readStep_33 rfl ?_
      refine a_iadd K dX11_readStep_34 ?_
      first | rw [nI_add1] | rw [nI_add2] | rw [nI_add3]
      refine a_ldc K kc_X11_170 dX11_readStep_35 ?_
      refine a_iast K (by exact lm_kk hM (by decide) (by decide)) (by first | (show vp_in _ (sN _ (m 2)); first | exact lm_ix (z := 320) hM (by decide) (by decide) (show R + 1 < 320 by omega) (by decide) | exact lm_ix (z := 320) hM (by decide) (by decide) (show R + 2 < 320 by omega) (by decide) | exact lm_ix (z := 320) hM (by decide) (by decide) (show R + 3 < 320 by omega) (by decide))) dX11_readStep_37 ?_
      rw [nI_clamp (by omega)]
      refine a_iinc K dX11_readStep_38 (v := 1) rfl (by decide) (by decide) ?_
      refine a_goto K dX11_readStep_41 (tgt := 23) (by decide) ?_
      refine a_iload_n K dX11_readStep_23 rfl ?_
      refine a_iconst K dX11_readStep_24 (v := 4) (by decide) ?_
      refine a_icmp_ge K dX11_readStep_25 (tgt := 44) (by decide) (fun c_25 => absurd c_25 (by decide)) (fun c_25 => ?_)
      first | refine a_aload_n K dX11_readStep_28 rfl ?_ | refine a_aload_nN K dX11_readStep_28 rfl ?_
      refine a_getRs K fd_X11_17 (by exact lm_o hM) (Or.inr ⟨_, rfl⟩) (by exact lm_r710 hM) dX11_readStep_29 ?_
      refine a_iload_n K dX11_readStep_32 rfl ?_
      refine a_iload_n K dX11_readStep_33 rfl ?_
      refine a_iadd K dX11_readStep_34 ?_
      first | rw [nI_add1] | rw [nI_add2] | rw [nI_add3]
      refine a_ldc K kc_X11_170 dX11_readStep_35 ?_
      refine a_iast K (by exact lm_kk hM (by decide) (by decide)) (by first | (show vp_in _ (sN _ (m 2)); first | exact lm_ix (z := 320) hM (by decide) (by decide) (show R + 1 < 320 by omega) (by decide) | exact lm_ix (z := 320) hM (by decide) (by decide) (show R + 2 < 320 by omega) (by decide) | exact lm_ix (z := 320) hM (by decide) (by decide) (show R + 3 < 320 by omega) (by decide))) dX11_readStep_37 ?_
      rw [nI_clamp (by omega)]
      refine a_iinc K dX11_readStep_38 (v := 1) rfl (by decide) (by decide) ?_
      refine a_goto K dX11_readStep_41 (tgt := 23) (by decide) ?_
      refine a_iload_n K dX11_readStep_23 rfl ?_
      refine a_iconst K dX11_readStep_24 (v := 4) (by decide) ?_
      refine a_icmp_ge K dX11_readStep_25 (tgt := 44) (by decide) (fun c_25 => ?_) (fun c_25 => absurd c_25 (by decide))
      rw [show wA (wA (wA (wA S1 (m 2) R 5) (m 2) (R + 1) (-1000000)) (m 2) (R + 2) (-1000000)) (m 2) (R + 3) (-1000000) = plS S1 m R 5 from rfl]
      have g2 : frM S1 (plS S1 m R 5) m [2] [] := plS_fr
      have hs : StM (plS S1 m R 5) m R (newS (nI 5)) := plS_st
      have kp : keR S (plS S1 m R 5) m R := (keR.rf.f hM0 g1 (by decide) (by decide)).trans9 plS_ke
      have hT := hT.fr hM g2 (by decide) (by decide) (by decide)
      have ha := (g2.2 707 (by decide)).trans ha
      have hf := ((g2.2 708 (by decide)).trans hf).trans (fltW_s hw)
      have f : frM S (plS S1 m R 5) m [2] [707, 708] := (g1.up (fun k hk => absurd hk (by simp)) (by decide)).tr (g2.up (by decide) (by decide))
      have hM := g2.lay hM
      obtain ⟨V, hV⟩ : ∃ V, plS S1 m R 5 = V := ⟨_, rfl⟩
      rw [hV] at hs kp hT ha hf f hM ⊢
      refine a_iload_n K dX11_readStep_44 rfl ?_
      refine a_iconst K dX11_readStep_45 (v := 5) (by decide) ?_
      refine a_icmp_ne K dX11_readStep_46 (tgt := 50) (by decide) (fun c_46 => absurd c_46 (fun z => z rfl)) (fun c_46 => ?_)
      exact a_vret K EE (by omega) (by omega) dX11_readStep_49 ⟨rfl, by rw [hE]; exact ha, by rw [hE]; exact hf, fun s q => by rw [hE] at q; rw [← Option.some.inj q]; exact hs, kp, f⟩
