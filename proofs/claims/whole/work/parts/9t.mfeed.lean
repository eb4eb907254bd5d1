/-! the model: the tape fed -/
theorem bv_sh {x : BitVec 32} {k : Nat} (hk : k ≤ 24) : x.sshiftRight k &&& 255#32 = (x >>> k) &&& 255#32 := by
  refine BitVec.eq_of_getLsbD_eq (fun i hi => ?_)
  rw [BitVec.getLsbD_and, BitVec.getLsbD_and]
  by_cases h8 : i < 8
  · rw [BitVec.getLsbD_sshiftRight, BitVec.getLsbD_ushiftRight, if_pos (by omega), decide_eq_false (by omega)]
    rfl
  · have e : (255#32).getLsbD i = false := by
      rw [BitVec.getLsbD_ofNat, show (255 : Nat) = 2 ^ 8 - 1 from rfl, Nat.testBit_two_pow_sub_one, decide_eq_false h8, Bool.and_false]
    rw [e, Bool.and_false, Bool.and_false]
theorem byS {w : Int32} {n : Nat} (hn : n < 4) : (w >>> (nI (8 * n) &&& 31)) &&& 255 = byN w n := by
  unfold byN
  refine Int32.toBitVec_inj.mp ?_
  have h4 : n = 0 ∨ n = 1 ∨ n = 2 ∨ n = 3 := by omega
  rcases h4 with rfl | rfl | rfl | rfl
  · exact bv_sh (x := w.toBitVec) (k := 0) (by decide)
  · exact bv_sh (x := w.toBitVec) (k := 8) (by decide)
  · exact bv_sh (x := w.toBitVec) (k := 16) (by decide)
  · exact bv_sh (x := w.toBitVec) (k := 24) (by decide)
theorem nar8 : ∀ k, k < 256 → vp_nar .byte (nI k).toInt8.toInt32 &&& 255 = nI k := by decide +kernel
theorem nI_8 (n : Nat) : 8 * nI n = nI (8 * n) := (Int32.ofNat_mul 8 n).symm
theorem byN_ok {w : Int32} {n : Nat} : ∃ k, k < 256 ∧ byN w n = nI k := by
  obtain ⟨j, hj, e⟩ := pk_andE ((w.toUInt32 >>> ((nI (8 * n)).toUInt32 &&& Int32.toUInt32 31)).toInt32) (m := 255) 8 (by decide)
  exact ⟨j, by omega, e⟩
theorem byL_z {w : Int32} {n : Nat} (h : byN w n = 0) : byL w (n + 1) = byL w n := by
  rw [byL, if_pos h]
theorem byL_n {w : Int32} {n : Nat} (h : ¬ byN w n = 0) : byL w (n + 1) = byN w n :: byL w n := by
  rw [byL, if_neg h]
/-- a byte more on the tape -/
theorem TpM.app {S : aw_S} {m : Nat → Nat} {L : List Int32} {k : Nat} (hM : LM S m) (h : TpM S m L) (hl : L.length < 240) (hk : k < 256) : TpM (wI (wA S (m 0) L.length (vp_nar .byte (nI k).toInt8.toInt32)) 706 (m 33) (nI (L.length + 1))) m (L ++ [nI k]) := by
  refine ⟨by rw [wI_at, List.length_append]; rfl, by rw [List.length_append]; exact hl, fun i x hx => ?_⟩
  rw [sA_wI, sA_wA]
  rcases get_app1 hx with ⟨a, b⟩ | ⟨rfl, rfl⟩
  · rw [if_neg (fun z => by have := z.2; omega)]
    exact h.2.2 i x b
  · rw [if_pos ⟨rfl, rfl⟩]
    exact nar8 k hk
/-- the tape has changed -/
theorem RM_tp {S S2 : aw_S} {m ρ : Nat → Nat} {Z : List Nat × Nat} {mb : Nat} {P : PS} {L : List Int32} (h : RM S m ρ Z mb P) (f : frM S S2 m [0] [706]) (hT : TpM S2 m L) : RM S2 m ρ Z mb (setTp P L) ∧ frS S S2 (mQ m) := by
  obtain ⟨h1, h2, h3, h4, h5, h6, h7, h8⟩ := h
  obtain ⟨a1, a2, a3, a4, a5, a6, a7, a8, a9, a10⟩ := h2
  exact ⟨⟨f.lay h1, ⟨hT, (f.2 713 (by decide)).trans a2, (f.2 723 (by decide)).trans a3, (f.2 725 (by decide)).trans a4, (f.2 745 (by decide)).trans a5, (f.2 746 (by decide)).trans a6, (f.2 747 (by decide)).trans a7, (f.2 748 (by decide)).trans a8, (f.2 758 (by decide)).trans a9, a10⟩, h3.fr (P := P) h1 f (by decide) (by decide) (by decide) (by decide), h4.fr (P := P) h1 f (by decide) (by decide) (by decide) (by decide), h5.fr (P := P) h1 f (by decide) (by decide) (by decide) (by decide) (by decide), h6.fr (P := P) h1 f (by decide) (by decide) (by decide), (h7.fr h1 f (by decide) (by decide) (by decide) (by decide) (by decide) (by decide) (by decide) (by decide) (by decide) (by decide)).sub (fun z hz => hz) rfl rfl, h8.fr h1 f (by decide) (by decide) (by decide)⟩, f.mq (by decide)⟩
set_option maxHeartbeats 4000000 in
set_option maxRecDepth 100000 in
theorem q_bytesOf {S : aw_S} {w : Int32} : aw_M yX11_bytesOf cX11_bytesOf 3 (some FieldType.int) 0 0 0 [.int w] S (fun r S2 => r = some (.int (nI (byL w 4).length)) ∧ S2 = S) := by
  refine aw_enter (by decide +kernel) (Nat.le_of_ble_eq_true rfl) (fun g K EE => ?_)
  refine a_iconst K dX11_bytesOf_0 (v := 0) (by decide) ?_
  refine a_istore_n K dX11_bytesOf_1 (by decide) ?_
  refine a_iconst K dX11_bytesOf_2 (v := 0) (by decide) ?_
  refine a_istore_n K dX11_bytesOf_3 (by decide) ?_
  have loop : ∀ (n i : Nat) (x c : Int32), x = nI i → c = nI (byL w i).length → i + n = 4 → aw g 3 S 0 0 [(2, .int x), (1, .int c), (0, .int w)] [] 4 := by
    intro n
    induction n with
    | zero =>
      intro i x c hx hc hn
      subst hx
      subst hc
      refine a_iload_n K dX11_bytesOf_4 rfl ?_
      refine a_iconst K dX11_bytesOf_5 (v := 4) (by decide) ?_
      refine a_icmp_ge K dX11_bytesOf_6 (tgt := 36) (by decide) (fun c_6 => ?_) (fun c_6 => absurd c_6 (fun q => q (by rw [show i = 4 by omega]; decide)))
      refine a_iload_n K dX11_bytesOf_36 rfl ?_
      exact a_iret K EE rfl (by omega) (by omega) dX11_bytesOf_37 ⟨by rw [show i = 4 by omega], rfl⟩
    | succ n ih =>
      intro i x c hx hc hn
      subst hx
      subst hc
      by_cases hz : byN w i = 0
      · refine a_iload_n K dX11_bytesOf_4 rfl ?_
        refine a_iconst K dX11_bytesOf_5 (v := 4) (by decide) ?_
        refine a_icmp_ge K dX11_bytesOf_6 (tgt := 36) (by decide) (fun c_6 => absurd c_6 (nI_ge (a := i) (b := 4) (by omega) (by omega))) (fun c_6 => ?_)
        refine a_iload_n K dX11_bytesOf_9 rfl ?_
        refine a_iload_n K dX11_bytesOf_10 rfl ?_
        refine a_bipush K dX11_bytesOf_11 (v := 8) (by decide) ?_
        refine a_iload_n K dX11_bytesOf_13 rfl ?_
        refine a_imul K dX11_bytesOf_14 ?_
        rw [nI_8 i]
        refine a_ishr K dX11_bytesOf_15 ?_
        refine a_sipush K dX11_bytesOf_16 (v := 255) (by decide) ?_
        refine a_iand K dX11_bytesOf_19 ?_
        rw [byS (show i < 4 by omega)]
        refine a_if_ne K dX11_bytesOf_20 (tgt := 27) (by decide) (fun c_20 => absurd c_20 (fun q => q hz)) (fun c_20 => ?_)
        refine a_iconst K dX11_bytesOf_23 (v := 0) (by decide) ?_
        refine a_goto K dX11_bytesOf_24 (tgt := 28) (by decide) ?_
        refine a_iadd K dX11_bytesOf_28 ?_
        rw [Int32.add_zero]
        refine a_istore_n K dX11_bytesOf_29 (by decide) ?_
        refine a_iinc K dX11_bytesOf_30 (v := 1) rfl (by decide) (by decide) ?_
        refine a_goto K dX11_bytesOf_33 (tgt := 4) (by decide) ?_
        exact aw_locl rfl (ih (i + 1) _ _ (nI_1 i) (by rw [byL_z hz]) (by omega))
      · refine a_iload_n K dX11_bytesOf_4 rfl ?_
        refine a_iconst K dX11_bytesOf_5 (v := 4) (by decide) ?_
        refine a_icmp_ge K dX11_bytesOf_6 (tgt := 36) (by decide) (fun c_6 => absurd c_6 (nI_ge (a := i) (b := 4) (by omega) (by omega))) (fun c_6 => ?_)
        refine a_iload_n K dX11_bytesOf_9 rfl ?_
        refine a_iload_n K dX11_bytesOf_10 rfl ?_
        refine a_bipush K dX11_bytesOf_11 (v := 8) (by decide) ?_
        refine a_iload_n K dX11_bytesOf_13 rfl ?_
        refine a_imul K dX11_bytesOf_14 ?_
        rw [nI_8 i]
        refine a_ishr K dX11_bytesOf_15 ?_
        refine a_sipush K dX11_bytesOf_16 (v := 255) (by decide) ?_
        refine a_iand K dX11_bytesOf_19 ?_
        rw [byS (show i < 4 by omega)]
        refine a_if_ne K dX11_bytesOf_20 (tgt := 27) (by decide) (fun c_20 => ?_) (fun c_20 => absurd c_20 (hz))
        refine a_iconst K dX11_bytesOf_27 (v := 1) (by decide) ?_
        refine a_iadd K dX11_bytesOf_28 ?_
        rw [nI_1]
        refine a_istore_n K dX11_bytesOf_29 (by decide) ?_
        refine a_iinc K dX11_bytesOf_30 (v := 1) rfl (by decide) (by decide) ?_
        refine a_goto K dX11_bytesOf_33 (tgt := 4) (by decide) ?_
        exact aw_locl rfl (ih (i + 1) _ _ (nI_1 i) (by rw [byL_n hz, List.length_cons]) (by omega))
  exact aw_locl rfl (loop 4 0 _ _ nI_0.symm (by rfl) rfl)
def dn8 : Nat → Int32
  | 0 => -8
  | n + 1 => nI (8 * n)
theorem dn8_m : ∀ n, n < 4 → nI (8 * n) + -8 = dn8 n := by decide +kernel
set_option maxHeartbeats 4000000 in
set_option maxRecDepth 100000 in
theorem q_brings {S : aw_S} {m : Nat → Nat} (hM0 : LM S m) {L : List Int32} {w : Int32} (hT0 : TpM S m L) (hl : L.length + (byL w 4).length ≤ 240) : aw_M yX11_brings cX11_brings 4 (none : Option FieldType) 0 0 0 [.ref (m 33), .int w] S (fun r S2 => r = none ∧ TpM S2 m (L ++ byL w 4) ∧ frM S S2 m [0] [706]) := by
  have hM := hM0
  obtain ⟨R, hRR⟩ : ∃ R, L ++ byL w 4 = R := ⟨_, rfl⟩
  have hRl : R.length ≤ 240 := by rw [← hRR, List.length_append]; exact hl
  refine aw_enter (by decide +kernel) (Nat.le_of_ble_eq_true rfl) (fun g K EE => ?_)
  refine a_bipush K dX11_brings_0 (v := 24) (by decide) ?_
  refine a_istore_n K dX11_brings_2 (by decide) ?_
  have loop : ∀ (n : Nat) (V : aw_S) (Lc : List Int32), n ≤ 4 → LM V m → TpM V m Lc → frM S V m [0] [706] → Lc ++ byL w n = R → aw g 4 V 0 0 [(2, .int (dn8 n)), (1, .int w), (0, .ref (m 33))] [] 3 := by
    intro n
    induction n with
    | zero =>
      intro V Lc hn hM hT f hR
      refine a_iload_n K dX11_brings_3 rfl ?_
      refine a_if_lt K dX11_brings_4 (tgt := 49) (by decide) (fun c_4 => ?_) (fun c_4 => absurd c_4 (by decide))
      exact a_vret K EE (by omega) (by omega) dX11_brings_49 ⟨rfl, by rw [hRR, ← hR, show byL w 0 = [] from rfl, List.append_nil]; exact hT, f⟩
    | succ n ih =>
      intro V Lc hn hM hT f hR
      have hM0 := hM
      rw [show dn8 (n + 1) = nI (8 * n) from rfl]
      by_cases hz : byN w n = 0
      · refine a_iload_n K dX11_brings_3 rfl ?_
        refine a_if_lt K dX11_brings_4 (tgt := 49) (by decide) (fun c_4 => absurd c_4 (nI_pos (by omega))) (fun c_4 => ?_)
        refine a_iload_n K dX11_brings_7 rfl ?_
        refine a_iload_n K dX11_brings_8 rfl ?_
        refine a_ishr K dX11_brings_9 ?_
        skip
        refine a_sipush K dX11_brings_10 (v := 255) (by decide) ?_
        refine a_iand K dX11_brings_13 ?_
        rw [byS (show n < 4 by omega)]
        refine a_istore_n K dX11_brings_14 (by decide) ?_
        refine a_iload_n K dX11_brings_15 rfl ?_
        refine a_if_ne K dX11_brings_16 (tgt := 22) (by decide) (fun c_16 => absurd c_16 (fun q => q hz)) (fun c_16 => ?_)
        refine a_goto K dX11_brings_19 (tgt := 43) (by decide) ?_
        refine a_iinc K dX11_brings_43 (v := -8) rfl (by decide) (by decide) ?_
        refine a_goto K dX11_brings_46 (tgt := 3) (by decide) ?_
        exact aw_locl (by rw [← dn8_m n (by omega)]; rfl) (ih V Lc (by omega) hM hT f (by rw [byL_z hz] at hR; exact hR))
      · obtain ⟨k, hk9, hke⟩ := byN_ok (w := w) (n := n)
        have hlc : Lc.length < 240 := by
          have h9 := congrArg List.length hR
          rw [byL_n hz, List.length_append, List.length_cons] at h9
          omega
        refine a_iload_n K dX11_brings_3 rfl ?_
        refine a_if_lt K dX11_brings_4 (tgt := 49) (by decide) (fun c_4 => absurd c_4 (nI_pos (by omega))) (fun c_4 => ?_)
        refine a_iload_n K dX11_brings_7 rfl ?_
        refine a_iload_n K dX11_brings_8 rfl ?_
        refine a_ishr K dX11_brings_9 ?_
        skip
        refine a_sipush K dX11_brings_10 (v := 255) (by decide) ?_
        refine a_iand K dX11_brings_13 ?_
        rw [byS (show n < 4 by omega)]
        refine a_istore_n K dX11_brings_14 (by decide) ?_
        refine a_iload_n K dX11_brings_15 rfl ?_
        refine a_if_ne K dX11_brings_16 (tgt := 22) (by decide) (fun c_16 => ?_) (fun c_16 => absurd c_16 (hz))
        first | refine a_aload_n K dX11_brings_22 rfl ?_ | refine a_aload_nN K dX11_brings_22 rfl ?_
        refine a_getRs K fd_X11_9 (by exact lm_o hM) (Or.inr ⟨_, rfl⟩) (by exact lm_r705 hM) dX11_brings_23 ?_
        first | refine a_aload_n K dX11_brings_26 rfl ?_ | refine a_aload_nN K dX11_brings_26 rfl ?_
        refine a_getI K fd_X11_119 (by exact lm_o hM) (Or.inl rfl) dX11_brings_27 ?_
        rw [hT.1]
        refine a_iload_n K dX11_brings_30 rfl ?_
        rw [hke]
        refine a_i2b K dX11_brings_31 ?_
        refine a_bast K (by exact lm_kk hM (by decide) (by decide)) (by show vp_in _ (sN V (m 0)); exact lm_ix (z := 240) hM (by decide) (by decide) (show Lc.length < 240 by omega) (by decide)) dX11_brings_32 ?_
        rw [nI_clamp (by omega)]
        have hM := (frM_wA (S := V) (m := m) (ks := [0]) (Fs := []) (k := 0) (i := Lc.length) (v := vp_nar .byte (nI k).toInt8.toInt32) (by decide)).lay hM
        first | refine a_aload_n K dX11_brings_33 rfl ?_ | refine a_aload_nN K dX11_brings_33 rfl ?_
        refine a_dup K dX11_brings_34 rfl ?_
        refine a_getI K fd_X11_119 (by exact lm_o hM) (Or.inl rfl) dX11_brings_35 ?_
        rw [show sI (wA V (m 0) Lc.length (vp_nar .byte (nI k).toInt8.toInt32)) 706 (m 33) = nI Lc.length from hT.1]
        refine a_iconst K dX11_brings_38 (v := 1) (by decide) ?_
        refine a_iadd K dX11_brings_39 ?_
        rw [nI_1]
        refine a_putI K fd_X11_119 (by exact lm_o hM) rfl dX11_brings_40 ?_
        refine a_iinc K dX11_brings_43 (v := -8) rfl (by decide) (by decide) ?_
        refine a_goto K dX11_brings_46 (tgt := 3) (by decide) ?_
        exact aw_locl (by rw [← dn8_m n (by omega)]; rfl) (ih _ (Lc ++ [nI k]) (by omega) ((frM_wI (S := (wA V (m 0) Lc.length (vp_nar .byte (nI k).toInt8.toInt32))) (m := m) (ks := []) (Fs := [706]) (F := 706) (v := nI (Lc.length + 1)) (by decide) (by decide)).lay hM) (TpM.app hM0 hT (by omega) hk9) (f.tr ((frM_wA (by decide)).tr (frM_wI (by decide) (by decide)))) (by rw [byL_n hz, hke] at hR; rw [List.append_assoc]; exact hR))
  exact aw_locl rfl (loop 4 S L (Nat.le_refl _) hM0 hT0 frM.rf hRR)
theorem TpM.cut {S : aw_S} {m : Nat → Nat} {L : List Int32} (h : TpM S m L) {n : Nat} (hn : n ≤ L.length) : TpM (wI S 706 (m 33) (nI n)) m (L.take n) := ⟨by rw [wI_at, List.length_take, Nat.min_eq_left hn], by rw [List.length_take]; have := h.2.1; omega, fun i x hx => by
  have hi := (List.getElem?_eq_some_iff.mp hx).1
  rw [List.length_take] at hi
  rw [List.getElem?_take, if_pos (by omega)] at hx
  exact h.2.2 i x hx⟩
set_option maxHeartbeats 4000000 in
set_option maxRecDepth 100000 in
theorem q_end {S : aw_S} {m ρ : Nat → Nat} {Z : List Nat × Nat} {mb n9 : Nat} {P : PS} (h0 : RM S m ρ Z mb P) (hJ : PJ n9 P) (hmb : mb + 1 < 2147483000) {i : Int32} : aw_M yX11_end cX11_end 2 (some FieldType.boolean) 3 0 0 [.ref (m 33), .int i] S (fun r S2 => ∃ ρ2 Z2, r = some (.int (endF P i).1) ∧ RM S2 m ρ2 Z2 (mb + 1) (endF P i).2 ∧ frS S S2 (mQ m)) := by
  have hP := hJ.1
  have hw3 := hP.1.1
  have hM := h0.1
  have hl9 := hJ.ln
  have hw6 := hP.1.2
  have hpH := hJ.2.2.2.2.2.1.1
  have hc16 := hJ.2.2.2.2.2.1.2.1
  refine aw_enter (by decide +kernel) (Nat.le_of_ble_eq_true rfl) (fun g K EE => ?_)
  have ht9 := h0.2.1.1.2.1
  by_cases c1 : i < 0
  · have hn : ¬ (0 ≤ i.toInt ∧ i.toInt ≤ (pT P).length) := fun q => by have h5 : i.toInt < 0 := i32_lt.mp c1; omega
    first | refine a_aload_n K dX11_end_0 rfl ?_ | refine a_aload_nN K dX11_end_0 rfl ?_
    refine a_iconst K dX11_end_1 (v := 0) (by decide) ?_
    refine a_putI K fd_X11_116 (by exact lm_o hM) rfl dX11_end_2 ?_
    have f0 : frM S (wI S 704 (m 33) 0) m [] [704] := frM_wI (by decide) (by decide)
    obtain ⟨T, hT⟩ : ∃ T, T = wI S 704 (m 33) 0 := ⟨_, rfl⟩
    rw [← hT] at f0 ⊢
    obtain ⟨h, q0⟩ := h0.scr hP f0 (by decide) (by decide)
    have hM := h.1
    refine a_iload_n K dX11_end_5 rfl ?_
    refine a_if_lt K dX11_end_6 (tgt := 17) (by decide) (fun c_6 => ?_) (fun c_6 => absurd c_6 (fun q => q c1))
    refine a_iconst K dX11_end_17 (v := 0) (by decide) ?_
    exact a_iret K EE rfl (by omega) (by omega) dX11_end_18 ⟨ρ, Z, by unfold endF; rw [if_neg hn], by unfold endF; rw [if_neg hn]; exact h.up (Nat.le_succ mb) (by omega), q0⟩
  obtain ⟨j, hj, rfl⟩ := nI_of c1
  by_cases c2 : j ≤ (pT P).length
  · first | refine a_aload_n K dX11_end_0 rfl ?_ | refine a_aload_nN K dX11_end_0 rfl ?_
    refine a_iconst K dX11_end_1 (v := 0) (by decide) ?_
    refine a_putI K fd_X11_116 (by exact lm_o hM) rfl dX11_end_2 ?_
    have f0 : frM S (wI S 704 (m 33) 0) m [] [704] := frM_wI (by decide) (by decide)
    obtain ⟨T, hT⟩ : ∃ T, T = wI S 704 (m 33) 0 := ⟨_, rfl⟩
    rw [← hT] at f0 ⊢
    obtain ⟨h, q0⟩ := h0.scr hP f0 (by decide) (by decide)
    have hM := h.1
    obtain ⟨hF, qF⟩ := RM_tp h (frM_wI (by decide) (by decide)) (h.2.1.1.cut c2)
    refine a_iload_n K dX11_end_5 rfl ?_
    refine a_if_lt K dX11_end_6 (tgt := 17) (by decide) (fun c_6 => absurd c_6 (c1)) (fun c_6 => ?_)
    refine a_iload_n K dX11_end_9 rfl ?_
    first | refine a_aload_n K dX11_end_10 rfl ?_ | refine a_aload_nN K dX11_end_10 rfl ?_
    refine a_getI K fd_X11_119 (by exact lm_o hM) (Or.inl rfl) dX11_end_11 ?_
    rw [h.2.1.1.1]
    refine a_icmp_le K dX11_end_14 (tgt := 19) (by decide) (fun c_14 => ?_) (fun c_14 => absurd c_14 (fun q => q (nI_le c2 (by omega))))
    first | refine a_aload_n K dX11_end_19 rfl ?_ | refine a_aload_nN K dX11_end_19 rfl ?_
    refine a_iload_n K dX11_end_20 rfl ?_
    refine a_putI K fd_X11_119 (by exact lm_o hM) rfl dX11_end_21 ?_
    refine a_iconst K dX11_end_24 (v := 1) (by decide) ?_
    exact a_iret K EE rfl (by omega) (by omega) dX11_end_25 ⟨ρ, Z, by unfold endF; rw [if_pos (by rw [nI_toInt hj]; omega)], by unfold endF; rw [if_pos (by rw [nI_toInt hj]; omega), nI_clamp hj]; exact hF.up (Nat.le_succ mb) (by omega), mQ_tr q0 qF⟩
  · have hn : ¬ (0 ≤ (nI j).toInt ∧ (nI j).toInt ≤ (pT P).length) := fun q => by rw [nI_toInt hj] at q; omega
    first | refine a_aload_n K dX11_end_0 rfl ?_ | refine a_aload_nN K dX11_end_0 rfl ?_
    refine a_iconst K dX11_end_1 (v := 0) (by decide) ?_
    refine a_putI K fd_X11_116 (by exact lm_o hM) rfl dX11_end_2 ?_
    have f0 : frM S (wI S 704 (m 33) 0) m [] [704] := frM_wI (by decide) (by decide)
    obtain ⟨T, hT⟩ : ∃ T, T = wI S 704 (m 33) 0 := ⟨_, rfl⟩
    rw [← hT] at f0 ⊢
    obtain ⟨h, q0⟩ := h0.scr hP f0 (by decide) (by decide)
    have hM := h.1
    refine a_iload_n K dX11_end_5 rfl ?_
    refine a_if_lt K dX11_end_6 (tgt := 17) (by decide) (fun c_6 => absurd c_6 (c1)) (fun c_6 => ?_)
    refine a_iload_n K dX11_end_9 rfl ?_
    first | refine a_aload_n K dX11_end_10 rfl ?_ | refine a_aload_nN K dX11_end_10 rfl ?_
    refine a_getI K fd_X11_119 (by exact lm_o hM) (Or.inl rfl) dX11_end_11 ?_
    rw [h.2.1.1.1]
    refine a_icmp_le K dX11_end_14 (tgt := 19) (by decide) (fun c_14 => absurd c_14 (fun q => c2 ((nI_leI (by omega) (by omega)).mp q))) (fun c_14 => ?_)
    refine a_iconst K dX11_end_17 (v := 0) (by decide) ?_
    exact a_iret K EE rfl (by omega) (by omega) dX11_end_18 ⟨ρ, Z, by unfold endF; rw [if_neg hn], by unfold endF; rw [if_neg hn]; exact h.up (Nat.le_succ mb) (by omega), q0⟩
