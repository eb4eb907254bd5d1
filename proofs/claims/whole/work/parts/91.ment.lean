/-- entries read -/
def EnM (S : aw_S) (m : Nat → Nat) (E : List KV) : Prop := sI S 712 (m 33) = nI E.length ∧ ∀ i x, E[i]? = some x → sA S (m 1) (2 * i) = x.1 ∧ sA S (m 1) (2 * i + 1) = x.2
theorem EnM.fr {S S2 : aw_S} {m : Nat → Nat} {E : List KV} {ks Fs : List Nat} (h : EnM S m E) (hM : LM S m) (f : frM S S2 m ks Fs) (hk : ∀ k ∈ ks, k < 33) (n1 : 1 ∉ ks) (n6 : 712 ∉ Fs) : EnM S2 m E := ⟨(f.2 _ n6).trans h.1, fun i x hx => by rw [f.A hM hk (by decide) n1]; exact h.2 i x hx⟩
def enS (S : aw_S) (m : Nat → Nat) (n : Nat) (x : KV) : aw_S := wI (wA (wA S (m 1) (2 * n) x.1) (m 1) (2 * n + 1) x.2) 712 (m 33) (nI (n + 1))
theorem enS_fr {S : aw_S} {m : Nat → Nat} {n : Nat} {x : KV} : frM S (enS S m n x) m [1] [712] := ((frM_wA (by decide)).tr (frM_wA (by decide))).tr (frM_wI (by decide) (by decide))
theorem EnM.app {S : aw_S} {m : Nat → Nat} {E : List KV} (h : EnM S m E) {x : KV} : EnM (enS S m E.length x) m (E ++ [x]) := by
  unfold enS
  refine ⟨by rw [wI_at, List.length_append]; rfl, fun i y hy => ?_⟩
  rw [sA_wI, sA_wA, sA_wA, sA_wA, sA_wA]
  rcases get_app1 hy with ⟨a, b⟩ | ⟨rfl, rfl⟩
  · rw [if_neg (by omega), if_neg (by omega), if_neg (by omega), if_neg (by omega)]
    exact h.2 i y b
  · rw [if_neg (by omega), if_pos ⟨rfl, rfl⟩, if_pos ⟨rfl, rfl⟩]
    exact ⟨rfl, rfl⟩
theorem nI_2m (n : Nat) : 2 * nI n = nI (2 * n) := nI_2 n
theorem fltN_n {r : Nat × Option Int32} (h : r.2 = none) : fltN r = nI r.1 := by unfold fltN; rw [h]
theorem fltN_s {r : Nat × Option Int32} {x : Int32} (h : r.2 = some x) : fltN r = -1 := by unfold fltN; rw [h]
/-- the fault, what was read -/
def fen (S2 : aw_S) (m : Nat → Nat) (R : Option Nat × List KV) : Prop := sI S2 708 (m 33) = fltV R.1 ∧ (R.1 = none → EnM S2 m R.2)
theorem tp_ne {S : aw_S} {m : Nat → Nat} {L : List Int32} (h : TpM S m L) {p : Nat} (hp : p < L.length) : ¬ chr L p = -1 := fun z => by
  rw [chr_in hp, ← h.2.2 p _ (List.getElem?_eq_getElem hp)] at z
  obtain ⟨j, hj, e⟩ := pk_andE (sA S (m 0) p) (m := 255) 8 (by decide)
  rw [show (255 : Int32) = 255 from rfl] at e
  rw [e] at z
  exact nI_m1n (by omega) z
set_option maxHeartbeats 4000000 in
set_option maxRecDepth 100000 in
theorem q_readEntries {S : aw_S} {m : Nat → Nat} (hM0 : LM S m) {L : List Int32} (hT0 : TpM S m L) (ha0 : sI S 707 (m 33) = nI 0) (hf0 : sI S 708 (m 33) = -1) : aw_M yX11_readEntries cX11_readEntries 4 (none : Option FieldType) 4 0 0 [.ref (m 33)] S (fun r S2 => r = none ∧ fen S2 m (redE L) ∧ frM S S2 m [1] [707, 708, 712]) := by
  have h240 := hT0.2.1
  have k0 := skB_le (L := L) (Nat.zero_le _)
  obtain ⟨F, hF0⟩ : ∃ F, redE L = F := ⟨_, rfl⟩
  rw [hF0]
  refine aw_enter (by decide +kernel) (Nat.le_of_ble_eq_true rfl) (fun g K EE => ?_)
  have loop : ∀ (n p : Nat) (T : aw_S) (E : List KV), (p ≤ L.length ∧ 4 * E.length ≤ p) → n + E.length = 240 → LM T m → TpM T m L → EnM T m E → sI T 707 (m 33) = nI p → sI T 708 (m 33) = -1 → frM S T m [1] [707, 708, 712] → etsR L n p E = F → aw g 4 T 0 0 [(1, .int 1), (0, .ref (m 33))] [] 16 := by
    intro n
    induction n with
    | zero =>
      intro p T E hpp hnE hM hT hE ha hf f hF
      obtain ⟨hp, h4⟩ := hpp
      omega
    | succ n ih =>
      intro p T E hpp hnE hM hT hE ha hf f hF
      obtain ⟨hp, h4⟩ := hpp
      have k1 := skB_le hp
      have k2 := numR_le (less := false) hp
      have k3 := skB_le k2.2.1
      cases h1 : (numR L false p).2 with
      | none =>
        refine a_iload_n K dX11_readEntries_16 rfl ?_
        refine a_if_eq K dX11_readEntries_17 (tgt := 158) (by decide) (fun c_17 => absurd c_17 (fun z => absurd z (by decide))) (fun c_17 => ?_)
        first | refine a_aload_n K dX11_readEntries_20 rfl ?_ | refine a_aload_nN K dX11_readEntries_20 rfl ?_
        refine a_getI K fd_X11_137 (by exact lm_o hM) (Or.inl rfl) dX11_readEntries_21 ?_
        rw [hf]
        refine a_iconst K dX11_readEntries_24 (v := -1) (by decide) ?_
        refine a_icmp_ne K dX11_readEntries_25 (tgt := 158) (by decide) (fun c_25 => absurd c_25 (fun z => z rfl)) (fun c_25 => ?_)
        first | refine a_aload_n K dX11_readEntries_28 rfl ?_ | refine a_aload_nN K dX11_readEntries_28 rfl ?_
        refine a_invV K (q_number hM hT (by omega) rfl (by omega) ha hf) my_X11_number ml_X11_150 im_X11_number se_X11_number (ci := 11) (by exact lm_o hM) (by decide) ⟨_, _, rfl⟩ rfl (by omega) (by omega) (by omega) rfl (Nat.le_of_ble_eq_true rfl) dX11_readEntries_29 ?_
        intro r9 S1 hp9
        obtain ⟨w9, rfl, ha, hf, hw9, g1⟩ := hp9
        have hT := hT.fr hM g1 (by decide) (by decide) (by decide)
        have hE := hE.fr hM g1 (by decide) (by decide) (by decide)
        have hM := g1.lay hM
        have f := f.tr (g1.up (fun k hk => absurd hk (by simp)) (by decide))
        rw [show numD L false (skB L p) = numR L false p from rfl] at ha hf hw9
        refine a_istore_n K dX11_readEntries_32 (by decide) ?_
        first | refine a_aload_n K dX11_readEntries_33 rfl ?_ | refine a_aload_nN K dX11_readEntries_33 rfl ?_
        refine a_getI K fd_X11_137 (by exact lm_o hM) (Or.inl rfl) dX11_readEntries_34 ?_
        rw [hf, fltN_n h1]
        refine a_iconst K dX11_readEntries_37 (v := -1) (by decide) ?_
        refine a_icmp_ne K dX11_readEntries_38 (tgt := 54) (by decide) (fun c_38 => ?_) (fun c_38 => absurd c_38 (nI_m1n (n := (numR L false p).1) (by omega)))
        first | refine a_aload_n K dX11_readEntries_54 rfl ?_ | refine a_aload_nN K dX11_readEntries_54 rfl ?_
        refine a_dup K dX11_readEntries_55 rfl ?_
        refine a_getI K fd_X11_130 (by exact lm_o hM) (Or.inl rfl) dX11_readEntries_56 ?_
        rw [ha]
        refine a_iconst K dX11_readEntries_59 (v := 1) (by decide) ?_
        refine a_iadd K dX11_readEntries_60 ?_
        rw [nI_1]
        refine a_putI K fd_X11_130 (by exact lm_o hM) rfl dX11_readEntries_61 ?_
        first | refine a_aload_n K dX11_readEntries_64 rfl ?_ | refine a_aload_nN K dX11_readEntries_64 rfl ?_
        refine a_getI K fd_X11_137 (by exact lm_o hM) (Or.inl rfl) dX11_readEntries_65 ?_
        rw [show sI (wI S1 707 (m 33) (nI ((numR L false p).1 + 1))) 708 (m 33) = nI (numR L false p).1 from by rw [sI_wI, if_neg (fun z => absurd z.1 (by decide)), hf]; exact fltN_n h1]
        refine a_iconst K dX11_readEntries_68 (v := -1) (by decide) ?_
        refine a_icmp_ne K dX11_readEntries_69 (tgt := 79) (by decide) (fun c_69 => ?_) (fun c_69 => absurd c_69 (nI_m1n (n := (numR L false p).1) (by omega)))
        refine a_iconst K dX11_readEntries_79 (v := 0) (by decide) ?_
        refine a_istore_n K dX11_readEntries_80 (by decide) ?_
        first | refine a_aload_n K dX11_readEntries_81 rfl ?_ | refine a_aload_nN K dX11_readEntries_81 rfl ?_
        refine a_getI K fd_X11_137 (by exact lm_o hM) (Or.inl rfl) dX11_readEntries_82 ?_
        rw [show sI (wI S1 707 (m 33) (nI ((numR L false p).1 + 1))) 708 (m 33) = nI (numR L false p).1 from by rw [sI_wI, if_neg (fun z => absurd z.1 (by decide)), hf]; exact fltN_n h1]
        refine a_iconst K dX11_readEntries_85 (v := -1) (by decide) ?_
        refine a_icmp_eq K dX11_readEntries_86 (tgt := 90) (by decide) (fun c_86 => absurd c_86 (nI_m1n (n := (numR L false p).1) (by omega))) (fun c_86 => ?_)
        exact a_vret K EE (by omega) (by omega) dX11_readEntries_89 (by
          rw [← hF, etsR_f (by unfold entR; rw [h1])]
          have g3 : frM S1 (wI S1 707 (m 33) (nI ((numR L false p).1 + 1))) m [] [707] := frM_wI (by decide) (by decide)
          exact ⟨rfl, ⟨(g3.2 708 (by decide)).trans (by rw [hf, fltN_n h1, show (entR L p).1 = (numR L false p).1 from by unfold entR; rw [h1]]; rfl), fun z => absurd z (by simp)⟩, f.tr (g3.up (fun k hk => absurd hk (by simp)) (by decide))⟩)
      | some k9 =>
        by_cases h2 : chr L (skB L (numR L false p).1) = 58
        · have hin : skB L (numR L false p).1 < L.length := Classical.byContradiction (fun z => by rw [chr_out (by omega)] at h2; exact absurd h2 (by decide))
          have k4 := numR_le (L := L) (less := true) (p := (skB L (numR L false p).1 + 1)) (by omega)
          have k5 := skB_le k4.2.1
          have k6 := skB_le (L := L) (p := (skB L (numR L false p).1 + 1)) (by omega)
          cases h3 : (numR L true (skB L (numR L false p).1 + 1)).2 with
          | none =>
            refine a_iload_n K dX11_readEntries_16 rfl ?_
            refine a_if_eq K dX11_readEntries_17 (tgt := 158) (by decide) (fun c_17 => absurd c_17 (fun z => absurd z (by decide))) (fun c_17 => ?_)
            first | refine a_aload_n K dX11_readEntries_20 rfl ?_ | refine a_aload_nN K dX11_readEntries_20 rfl ?_
            refine a_getI K fd_X11_137 (by exact lm_o hM) (Or.inl rfl) dX11_readEntries_21 ?_
            rw [hf]
            refine a_iconst K dX11_readEntries_24 (v := -1) (by decide) ?_
            refine a_icmp_ne K dX11_readEntries_25 (tgt := 158) (by decide) (fun c_25 => absurd c_25 (fun z => z rfl)) (fun c_25 => ?_)
            first | refine a_aload_n K dX11_readEntries_28 rfl ?_ | refine a_aload_nN K dX11_readEntries_28 rfl ?_
            refine a_invV K (q_number hM hT (by omega) rfl (by omega) ha hf) my_X11_number ml_X11_150 im_X11_number se_X11_number (ci := 11) (by exact lm_o hM) (by decide) ⟨_, _, rfl⟩ rfl (by omega) (by omega) (by omega) rfl (Nat.le_of_ble_eq_true rfl) dX11_readEntries_29 ?_
            intro r9 S1 hp9
            obtain ⟨w9, rfl, ha, hf, hw9, g1⟩ := hp9
            have hT := hT.fr hM g1 (by decide) (by decide) (by decide)
            have hE := hE.fr hM g1 (by decide) (by decide) (by decide)
            have hM := g1.lay hM
            have f := f.tr (g1.up (fun k hk => absurd hk (by simp)) (by decide))
            rw [show numD L false (skB L p) = numR L false p from rfl] at ha hf hw9
            refine a_istore_n K dX11_readEntries_32 (by decide) ?_
            first | refine a_aload_n K dX11_readEntries_33 rfl ?_ | refine a_aload_nN K dX11_readEntries_33 rfl ?_
            refine a_getI K fd_X11_137 (by exact lm_o hM) (Or.inl rfl) dX11_readEntries_34 ?_
            rw [hf, fltN_s h1]
            refine a_iconst K dX11_readEntries_37 (v := -1) (by decide) ?_
            refine a_icmp_ne K dX11_readEntries_38 (tgt := 54) (by decide) (fun c_38 => absurd c_38 (fun z => z rfl)) (fun c_38 => ?_)
            first | refine a_aload_n K dX11_readEntries_41 rfl ?_ | refine a_aload_nN K dX11_readEntries_41 rfl ?_
            refine a_invV K (q_look hM hT (by omega) ha) my_X11_look ml_X11_140 im_X11_look se_X11_look (ci := 11) (by exact lm_o hM) (by decide) ⟨_, _, rfl⟩ rfl (by omega) (by omega) (by omega) rfl (Nat.le_of_ble_eq_true rfl) dX11_readEntries_42 ?_
            intro r9 S2 hp9
            obtain ⟨rfl, ha, g2⟩ := hp9
            have hf := (g2.2 708 (by decide)).trans hf
            have hT := hT.fr hM g2 (by decide) (by decide) (by decide)
            have hE := hE.fr hM g2 (by decide) (by decide) (by decide)
            have hM := g2.lay hM
            have f := f.tr (g2.up (fun k hk => absurd hk (by simp)) (by decide))
            refine a_bipush K dX11_readEntries_45 (v := 58) (by decide) ?_
            refine a_icmp_eq K dX11_readEntries_47 (tgt := 54) (by decide) (fun c_47 => ?_) (fun c_47 => absurd c_47 (fun z => z h2))
            first | refine a_aload_n K dX11_readEntries_54 rfl ?_ | refine a_aload_nN K dX11_readEntries_54 rfl ?_
            refine a_dup K dX11_readEntries_55 rfl ?_
            refine a_getI K fd_X11_130 (by exact lm_o hM) (Or.inl rfl) dX11_readEntries_56 ?_
            rw [ha]
            refine a_iconst K dX11_readEntries_59 (v := 1) (by decide) ?_
            refine a_iadd K dX11_readEntries_60 ?_
            rw [nI_1]
            refine a_putI K fd_X11_130 (by exact lm_o hM) rfl dX11_readEntries_61 ?_
            have g3 : frM S2 (wI S2 707 (m 33) (nI (skB L (numR L false p).1 + 1))) m [] [707] := frM_wI (by decide) (by decide)
            have hf := (g3.2 708 (by decide)).trans hf
            have hT := hT.fr hM g3 (by decide) (by decide) (by decide)
            have hE := hE.fr hM g3 (by decide) (by decide) (by decide)
            have hM := g3.lay hM
            have f := f.tr (g3.up (fun k hk => absurd hk (by simp)) (by decide))
            have ha : sI (wI S2 707 (m 33) (nI (skB L (numR L false p).1 + 1))) 707 (m 33) = nI (skB L (numR L false p).1 + 1) := wI_at
            first | refine a_aload_n K dX11_readEntries_64 rfl ?_ | refine a_aload_nN K dX11_readEntries_64 rfl ?_
            refine a_getI K fd_X11_137 (by exact lm_o hM) (Or.inl rfl) dX11_readEntries_65 ?_
            rw [hf, fltN_s h1]
            refine a_iconst K dX11_readEntries_68 (v := -1) (by decide) ?_
            refine a_icmp_ne K dX11_readEntries_69 (tgt := 79) (by decide) (fun c_69 => absurd c_69 (fun z => z rfl)) (fun c_69 => ?_)
            first | refine a_aload_n K dX11_readEntries_72 rfl ?_ | refine a_aload_nN K dX11_readEntries_72 rfl ?_
            refine a_invV K (q_value hM hT (by omega) rfl (by omega) ha (by rw [hf]; exact fltN_s h1)) my_X11_value ml_X11_156 im_X11_value se_X11_value (ci := 11) (by exact lm_o hM) (by decide) ⟨_, _, rfl⟩ rfl (by omega) (by omega) (by omega) rfl (Nat.le_of_ble_eq_true rfl) dX11_readEntries_73 ?_
            intro r9 S5 hp9
            obtain ⟨v9, rfl, ha, hf, hv9, g5⟩ := hp9
            have hT := hT.fr hM g5 (by decide) (by decide) (by decide)
            have hE := hE.fr hM g5 (by decide) (by decide) (by decide)
            have hM := g5.lay hM
            have f := f.tr (g5.up (fun k hk => absurd hk (by simp)) (by decide))
            refine a_goto K dX11_readEntries_76 (tgt := 80) (by decide) ?_
            refine a_istore_n K dX11_readEntries_80 (by decide) ?_
            first | refine a_aload_n K dX11_readEntries_81 rfl ?_ | refine a_aload_nN K dX11_readEntries_81 rfl ?_
            refine a_getI K fd_X11_137 (by exact lm_o hM) (Or.inl rfl) dX11_readEntries_82 ?_
            rw [hf, fltN_n h3]
            refine a_iconst K dX11_readEntries_85 (v := -1) (by decide) ?_
            refine a_icmp_eq K dX11_readEntries_86 (tgt := 90) (by decide) (fun c_86 => absurd c_86 (nI_m1n (n := (numR L true (skB L (numR L false p).1 + 1)).1) (by omega))) (fun c_86 => ?_)
            exact a_vret K EE (by omega) (by omega) dX11_readEntries_89 (by
              rw [← hF, etsR_f (by unfold entR; rw [h1]; show (entK L k9 _).2 = none; unfold entK; rw [if_pos h2]; unfold entV; rw [h3])]
              exact ⟨rfl, ⟨by rw [hf, fltN_n h3, show (entR L p).1 = (numR L true (skB L (numR L false p).1 + 1)).1 from by unfold entR; rw [h1]; show (entK L k9 _).1 = _; unfold entK; rw [if_pos h2]; unfold entV; rw [h3]]; rfl, fun z => absurd z (by simp)⟩, f⟩)
          | some v0 =>
            have k2b := (k2.2.2 k9 h1).1
            have k4b := (k4.2.2 v0 h3).1
            have hx9 : (entR L p).2 = some (k9, v0) := by unfold entR; rw [h1]; show (entK L k9 _).2 = _; unfold entK; rw [if_pos h2]; unfold entV; rw [h3]
            have hx1 : (entR L p).1 = (numR L true (skB L (numR L false p).1 + 1)).1 := by unfold entR; rw [h1]; show (entK L k9 _).1 = _; unfold entK; rw [if_pos h2]; unfold entV; rw [h3]
            by_cases hm : chr L (skB L (numR L true (skB L (numR L false p).1 + 1)).1) = 44
            · have he : ¬ L.length ≤ skB L (numR L true (skB L (numR L false p).1 + 1)).1 := fun z => by rw [chr_out z] at hm; exact absurd hm (by decide)
              refine a_iload_n K dX11_readEntries_16 rfl ?_
              refine a_if_eq K dX11_readEntries_17 (tgt := 158) (by decide) (fun c_17 => absurd c_17 (fun z => absurd z (by decide))) (fun c_17 => ?_)
              first | refine a_aload_n K dX11_readEntries_20 rfl ?_ | refine a_aload_nN K dX11_readEntries_20 rfl ?_
              refine a_getI K fd_X11_137 (by exact lm_o hM) (Or.inl rfl) dX11_readEntries_21 ?_
              rw [hf]
              refine a_iconst K dX11_readEntries_24 (v := -1) (by decide) ?_
              refine a_icmp_ne K dX11_readEntries_25 (tgt := 158) (by decide) (fun c_25 => absurd c_25 (fun z => z rfl)) (fun c_25 => ?_)
              first | refine a_aload_n K dX11_readEntries_28 rfl ?_ | refine a_aload_nN K dX11_readEntries_28 rfl ?_
              refine a_invV K (q_number hM hT (by omega) rfl (by omega) ha hf) my_X11_number ml_X11_150 im_X11_number se_X11_number (ci := 11) (by exact lm_o hM) (by decide) ⟨_, _, rfl⟩ rfl (by omega) (by omega) (by omega) rfl (Nat.le_of_ble_eq_true rfl) dX11_readEntries_29 ?_
              intro r9 S1 hp9
              obtain ⟨w9, rfl, ha, hf, hw9, g1⟩ := hp9
              have hT := hT.fr hM g1 (by decide) (by decide) (by decide)
              have hE := hE.fr hM g1 (by decide) (by decide) (by decide)
              have hM := g1.lay hM
              have f := f.tr (g1.up (fun k hk => absurd hk (by simp)) (by decide))
              rw [show numD L false (skB L p) = numR L false p from rfl] at ha hf hw9
              refine a_istore_n K dX11_readEntries_32 (by decide) ?_
              first | refine a_aload_n K dX11_readEntries_33 rfl ?_ | refine a_aload_nN K dX11_readEntries_33 rfl ?_
              refine a_getI K fd_X11_137 (by exact lm_o hM) (Or.inl rfl) dX11_readEntries_34 ?_
              rw [hf, fltN_s h1]
              refine a_iconst K dX11_readEntries_37 (v := -1) (by decide) ?_
              refine a_icmp_ne K dX11_readEntries_38 (tgt := 54) (by decide) (fun c_38 => absurd c_38 (fun z => z rfl)) (fun c_38 => ?_)
              first | refine a_aload_n K dX11_readEntries_41 rfl ?_ | refine a_aload_nN K dX11_readEntries_41 rfl ?_
              refine a_invV K (q_look hM hT (by omega) ha) my_X11_look ml_X11_140 im_X11_look se_X11_look (ci := 11) (by exact lm_o hM) (by decide) ⟨_, _, rfl⟩ rfl (by omega) (by omega) (by omega) rfl (Nat.le_of_ble_eq_true rfl) dX11_readEntries_42 ?_
              intro r9 S2 hp9
              obtain ⟨rfl, ha, g2⟩ := hp9
              have hf := (g2.2 708 (by decide)).trans hf
              have hT := hT.fr hM g2 (by decide) (by decide) (by decide)
              have hE := hE.fr hM g2 (by decide) (by decide) (by decide)
              have hM := g2.lay hM
              have f := f.tr (g2.up (fun k hk => absurd hk (by simp)) (by decide))
              refine a_bipush K dX11_readEntries_45 (v := 58) (by decide) ?_
              refine a_icmp_eq K dX11_readEntries_47 (tgt := 54) (by decide) (fun c_47 => ?_) (fun c_47 => absurd c_47 (fun z => z h2))
              first | refine a_aload_n K dX11_readEntries_54 rfl ?_ | refine a_aload_nN K dX11_readEntries_54 rfl ?_
              refine a_dup K dX11_readEntries_55 rfl ?_
              refine a_getI K fd_X11_130 (by exact lm_o hM) (Or.inl rfl) dX11_readEntries_56 ?_
              rw [ha]
              refine a_iconst K dX11_readEntries_59 (v := 1) (by decide) ?_
              refine a_iadd K dX11_readEntries_60 ?_
              rw [nI_1]
              refine a_putI K fd_X11_130 (by exact lm_o hM) rfl dX11_readEntries_61 ?_
              have g3 : frM S2 (wI S2 707 (m 33) (nI (skB L (numR L false p).1 + 1))) m [] [707] := frM_wI (by decide) (by decide)
              have hf := (g3.2 708 (by decide)).trans hf
              have hT := hT.fr hM g3 (by decide) (by decide) (by decide)
              have hE := hE.fr hM g3 (by decide) (by decide) (by decide)
              have hM := g3.lay hM
              have f := f.tr (g3.up (fun k hk => absurd hk (by simp)) (by decide))
              have ha : sI (wI S2 707 (m 33) (nI (skB L (numR L false p).1 + 1))) 707 (m 33) = nI (skB L (numR L false p).1 + 1) := wI_at
              first | refine a_aload_n K dX11_readEntries_64 rfl ?_ | refine a_aload_nN K dX11_readEntries_64 rfl ?_
              refine a_getI K fd_X11_137 (by exact lm_o hM) (Or.inl rfl) dX11_readEntries_65 ?_
              rw [hf, fltN_s h1]
              refine a_iconst K dX11_readEntries_68 (v := -1) (by decide) ?_
              refine a_icmp_ne K dX11_readEntries_69 (tgt := 79) (by decide) (fun c_69 => absurd c_69 (fun z => z rfl)) (fun c_69 => ?_)
              first | refine a_aload_n K dX11_readEntries_72 rfl ?_ | refine a_aload_nN K dX11_readEntries_72 rfl ?_
              refine a_invV K (q_value hM hT (by omega) rfl (by omega) ha (by rw [hf]; exact fltN_s h1)) my_X11_value ml_X11_156 im_X11_value se_X11_value (ci := 11) (by exact lm_o hM) (by decide) ⟨_, _, rfl⟩ rfl (by omega) (by omega) (by omega) rfl (Nat.le_of_ble_eq_true rfl) dX11_readEntries_73 ?_
              intro r9 S5 hp9
              obtain ⟨v9, rfl, ha, hf, hv9, g5⟩ := hp9
              have hT := hT.fr hM g5 (by decide) (by decide) (by decide)
              have hE := hE.fr hM g5 (by decide) (by decide) (by decide)
              have hM := g5.lay hM
              have f := f.tr (g5.up (fun k hk => absurd hk (by simp)) (by decide))
              refine a_goto K dX11_readEntries_76 (tgt := 80) (by decide) ?_
              refine a_istore_n K dX11_readEntries_80 (by decide) ?_
              first | refine a_aload_n K dX11_readEntries_81 rfl ?_ | refine a_aload_nN K dX11_readEntries_81 rfl ?_
              refine a_getI K fd_X11_137 (by exact lm_o hM) (Or.inl rfl) dX11_readEntries_82 ?_
              rw [hf, fltN_s h3]
              refine a_iconst K dX11_readEntries_85 (v := -1) (by decide) ?_
              refine a_icmp_eq K dX11_readEntries_86 (tgt := 90) (by decide) (fun c_86 => ?_) (fun c_86 => absurd c_86 (fun z => z rfl))
              rw [hw9 k9 h1, hv9 v0 h3]
              first | refine a_aload_n K dX11_readEntries_90 rfl ?_ | refine a_aload_nN K dX11_readEntries_90 rfl ?_
              refine a_getRs K fd_X11_13 (by exact lm_o hM) (Or.inr ⟨_, rfl⟩) (by exact lm_r709 hM) dX11_readEntries_91 ?_
              refine a_iconst K dX11_readEntries_94 (v := 2) (by decide) ?_
              first | refine a_aload_n K dX11_readEntries_95 rfl ?_ | refine a_aload_nN K dX11_readEntries_95 rfl ?_
              refine a_getI K fd_X11_153 (by exact lm_o hM) (Or.inl rfl) dX11_readEntries_96 ?_
              rw [hE.1]
              refine a_imul K dX11_readEntries_99 ?_
              rw [nI_2]
              refine a_iload_n K dX11_readEntries_100 rfl ?_
              refine a_iast K (by exact lm_kk hM (by decide) (by decide)) (by show vp_in _ (sN S5 (m 1)); exact lm_ix (z := 480) hM (by decide) (by decide) (show 2 * E.length < 480 by omega) (by decide)) dX11_readEntries_101 ?_
              rw [nI_clamp (by omega)]
              first | refine a_aload_n K dX11_readEntries_102 rfl ?_ | refine a_aload_nN K dX11_readEntries_102 rfl ?_
              refine a_getRs K fd_X11_13 (by exact lm_o hM) (Or.inr ⟨_, rfl⟩) (by exact lm_r709 hM) dX11_readEntries_103 ?_
              refine a_iconst K dX11_readEntries_106 (v := 2) (by decide) ?_
              first | refine a_aload_n K dX11_readEntries_107 rfl ?_ | refine a_aload_nN K dX11_readEntries_107 rfl ?_
              refine a_getI K fd_X11_153 (by exact lm_o hM) (Or.inl rfl) dX11_readEntries_108 ?_
              rw [show sI (wA S5 (m 1) (2 * E.length) k9) 712 (m 33) = nI E.length from hE.1]
              refine a_imul K dX11_readEntries_111 ?_
              rw [nI_2]
              refine a_iconst K dX11_readEntries_112 (v := 1) (by decide) ?_
              refine a_iadd K dX11_readEntries_113 ?_
              rw [nI_1]
              refine a_iload_n K dX11_readEntries_114 rfl ?_
              refine a_iast K (by exact lm_kk hM (by decide) (by decide)) (by show vp_in _ (sN S5 (m 1)); exact lm_ix (z := 480) hM (by decide) (by decide) (show 2 * E.length + 1 < 480 by omega) (by decide)) dX11_readEntries_115 ?_
              rw [nI_clamp (by omega)]
              first | refine a_aload_n K dX11_readEntries_116 rfl ?_ | refine a_aload_nN K dX11_readEntries_116 rfl ?_
              refine a_dup K dX11_readEntries_117 rfl ?_
              refine a_getI K fd_X11_153 (by exact lm_o hM) (Or.inl rfl) dX11_readEntries_118 ?_
              rw [show sI (wA (wA S5 (m 1) (2 * E.length) k9) (m 1) (2 * E.length + 1) v0) 712 (m 33) = nI E.length from hE.1]
              refine a_iconst K dX11_readEntries_121 (v := 1) (by decide) ?_
              refine a_iadd K dX11_readEntries_122 ?_
              rw [nI_1]
              refine a_putI K fd_X11_153 (by exact lm_o hM) rfl dX11_readEntries_123 ?_
              have g6 : frM S5 (enS S5 m E.length (k9, v0)) m [1] [712] := enS_fr
              have hE : EnM (enS S5 m E.length (k9, v0)) m (E ++ [(k9, v0)]) := hE.app
              have hT := hT.fr hM g6 (by decide) (by decide) (by decide)
              have hf : sI (enS S5 m E.length (k9, v0)) 708 (m 33) = -1 := (g6.2 708 (by decide)).trans (by rw [hf]; exact fltN_s h3)
              have ha : sI (enS S5 m E.length (k9, v0)) 707 (m 33) = nI (numR L true (skB L (numR L false p).1 + 1)).1 := (g6.2 707 (by decide)).trans ha
              have hM := g6.lay hM
              have f := f.tr (g6.up (fun _ z => z) (by decide))
              first | refine a_aload_n K dX11_readEntries_126 rfl ?_ | refine a_aload_nN K dX11_readEntries_126 rfl ?_
              refine a_invV K (q_look (S := (enS S5 m E.length (k9, v0))) hM hT (by omega) ha) my_X11_look ml_X11_140 im_X11_look se_X11_look (ci := 11) (by exact lm_o hM) (by decide) ⟨_, _, rfl⟩ rfl (by omega) (by omega) (by omega) rfl (Nat.le_of_ble_eq_true rfl) dX11_readEntries_127 ?_
              intro r9 S7 hp9
              obtain ⟨rfl, ha, g7⟩ := hp9
              have hf := (g7.2 708 (by decide)).trans hf
              have hT := hT.fr hM g7 (by decide) (by decide) (by decide)
              have hE := hE.fr hM g7 (by decide) (by decide) (by decide)
              have hM := g7.lay hM
              have f := f.tr (g7.up (fun k hk => absurd hk (by simp)) (by decide))
              refine a_bipush K dX11_readEntries_130 (v := 44) (by decide) ?_
              refine a_icmp_ne K dX11_readEntries_132 (tgt := 139) (by decide) (fun c_132 => absurd c_132 (fun z => z hm)) (fun c_132 => ?_)
              refine a_iconst K dX11_readEntries_135 (v := 1) (by decide) ?_
              refine a_goto K dX11_readEntries_136 (tgt := 140) (by decide) ?_
              refine a_istore_n K dX11_readEntries_140 (by decide) ?_
              refine a_iload_n K dX11_readEntries_141 rfl ?_
              refine a_if_eq K dX11_readEntries_142 (tgt := 155) (by decide) (fun c_142 => absurd c_142 (fun z => absurd z (by decide))) (fun c_142 => ?_)
              first | refine a_aload_n K dX11_readEntries_145 rfl ?_ | refine a_aload_nN K dX11_readEntries_145 rfl ?_
              refine a_dup K dX11_readEntries_146 rfl ?_
              refine a_getI K fd_X11_130 (by exact lm_o hM) (Or.inl rfl) dX11_readEntries_147 ?_
              rw [ha]
              refine a_iconst K dX11_readEntries_150 (v := 1) (by decide) ?_
              refine a_iadd K dX11_readEntries_151 ?_
              rw [nI_1]
              refine a_putI K fd_X11_130 (by exact lm_o hM) rfl dX11_readEntries_152 ?_
              refine a_goto K dX11_readEntries_155 (tgt := 16) (by decide) ?_
              have g8 : frM S7 (wI S7 707 (m 33) (nI (skB L (numR L true (skB L (numR L false p).1 + 1)).1 + 1))) m [] [707] := frM_wI (by decide) (by decide)
              exact aw_locl rfl (ih (skB L (numR L true (skB L (numR L false p).1 + 1)).1 + 1) _ (E ++ [(k9, v0)]) ⟨by omega, by rw [List.length_append, List.length_singleton]; omega⟩ (by rw [List.length_append, List.length_singleton]; omega) (g8.lay hM) (hT.fr hM g8 (by decide) (by decide) (by decide)) (hE.fr hM g8 (by decide) (by decide) (by decide)) wI_at ((g8.2 708 (by decide)).trans hf) (f.tr (g8.up (fun k hk => absurd hk (by simp)) (by decide))) (by rw [← hF, etsR_s hx9, hx1, if_neg he, if_pos hm]))
            · by_cases he : L.length ≤ skB L (numR L true (skB L (numR L false p).1 + 1)).1
              · refine a_iload_n K dX11_readEntries_16 rfl ?_
                refine a_if_eq K dX11_readEntries_17 (tgt := 158) (by decide) (fun c_17 => absurd c_17 (fun z => absurd z (by decide))) (fun c_17 => ?_)
                first | refine a_aload_n K dX11_readEntries_20 rfl ?_ | refine a_aload_nN K dX11_readEntries_20 rfl ?_
                refine a_getI K fd_X11_137 (by exact lm_o hM) (Or.inl rfl) dX11_readEntries_21 ?_
                rw [hf]
                refine a_iconst K dX11_readEntries_24 (v := -1) (by decide) ?_
                refine a_icmp_ne K dX11_readEntries_25 (tgt := 158) (by decide) (fun c_25 => absurd c_25 (fun z => z rfl)) (fun c_25 => ?_)
                first | refine a_aload_n K dX11_readEntries_28 rfl ?_ | refine a_aload_nN K dX11_readEntries_28 rfl ?_
                refine a_invV K (q_number hM hT (by omega) rfl (by omega) ha hf) my_X11_number ml_X11_150 im_X11_number se_X11_number (ci := 11) (by exact lm_o hM) (by decide) ⟨_, _, rfl⟩ rfl (by omega) (by omega) (by omega) rfl (Nat.le_of_ble_eq_true rfl) dX11_readEntries_29 ?_
                intro r9 S1 hp9
                obtain ⟨w9, rfl, ha, hf, hw9, g1⟩ := hp9
                have hT := hT.fr hM g1 (by decide) (by decide) (by decide)
                have hE := hE.fr hM g1 (by decide) (by decide) (by decide)
                have hM := g1.lay hM
                have f := f.tr (g1.up (fun k hk => absurd hk (by simp)) (by decide))
                rw [show numD L false (skB L p) = numR L false p from rfl] at ha hf hw9
                refine a_istore_n K dX11_readEntries_32 (by decide) ?_
                first | refine a_aload_n K dX11_readEntries_33 rfl ?_ | refine a_aload_nN K dX11_readEntries_33 rfl ?_
                refine a_getI K fd_X11_137 (by exact lm_o hM) (Or.inl rfl) dX11_readEntries_34 ?_
                rw [hf, fltN_s h1]
                refine a_iconst K dX11_readEntries_37 (v := -1) (by decide) ?_
                refine a_icmp_ne K dX11_readEntries_38 (tgt := 54) (by decide) (fun c_38 => absurd c_38 (fun z => z rfl)) (fun c_38 => ?_)
                first | refine a_aload_n K dX11_readEntries_41 rfl ?_ | refine a_aload_nN K dX11_readEntries_41 rfl ?_
                refine a_invV K (q_look hM hT (by omega) ha) my_X11_look ml_X11_140 im_X11_look se_X11_look (ci := 11) (by exact lm_o hM) (by decide) ⟨_, _, rfl⟩ rfl (by omega) (by omega) (by omega) rfl (Nat.le_of_ble_eq_true rfl) dX11_readEntries_42 ?_
                intro r9 S2 hp9
                obtain ⟨rfl, ha, g2⟩ := hp9
                have hf := (g2.2 708 (by decide)).trans hf
                have hT := hT.fr hM g2 (by decide) (by decide) (by decide)
                have hE := hE.fr hM g2 (by decide) (by decide) (by decide)
                have hM := g2.lay hM
                have f := f.tr (g2.up (fun k hk => absurd hk (by simp)) (by decide))
                refine a_bipush K dX11_readEntries_45 (v := 58) (by decide) ?_
                refine a_icmp_eq K dX11_readEntries_47 (tgt := 54) (by decide) (fun c_47 => ?_) (fun c_47 => absurd c_47 (fun z => z h2))
                first | refine a_aload_n K dX11_readEntries_54 rfl ?_ | refine a_aload_nN K dX11_readEntries_54 rfl ?_
                refine a_dup K dX11_readEntries_55 rfl ?_
                refine a_getI K fd_X11_130 (by exact lm_o hM) (Or.inl rfl) dX11_readEntries_56 ?_
                rw [ha]
                refine a_iconst K dX11_readEntries_59 (v := 1) (by decide) ?_
                refine a_iadd K dX11_readEntries_60 ?_
                rw [nI_1]
                refine a_putI K fd_X11_130 (by exact lm_o hM) rfl dX11_readEntries_61 ?_
                have g3 : frM S2 (wI S2 707 (m 33) (nI (skB L (numR L false p).1 + 1))) m [] [707] := frM_wI (by decide) (by decide)
                have hf := (g3.2 708 (by decide)).trans hf
                have hT := hT.fr hM g3 (by decide) (by decide) (by decide)
                have hE := hE.fr hM g3 (by decide) (by decide) (by decide)
                have hM := g3.lay hM
                have f := f.tr (g3.up (fun k hk => absurd hk (by simp)) (by decide))
                have ha : sI (wI S2 707 (m 33) (nI (skB L (numR L false p).1 + 1))) 707 (m 33) = nI (skB L (numR L false p).1 + 1) := wI_at
                first | refine a_aload_n K dX11_readEntries_64 rfl ?_ | refine a_aload_nN K dX11_readEntries_64 rfl ?_
                refine a_getI K fd_X11_137 (by exact lm_o hM) (Or.inl rfl) dX11_readEntries_65 ?_
                rw [hf, fltN_s h1]
                refine a_iconst K dX11_readEntries_68 (v := -1) (by decide) ?_
                refine a_icmp_ne K dX11_readEntries_69 (tgt := 79) (by decide) (fun c_69 => absurd c_69 (fun z => z rfl)) (fun c_69 => ?_)
                first | refine a_aload_n K dX11_readEntries_72 rfl ?_ | refine a_aload_nN K dX11_readEntries_72 rfl ?_
                refine a_invV K (q_value hM hT (by omega) rfl (by omega) ha (by rw [hf]; exact fltN_s h1)) my_X11_value ml_X11_156 im_X11_value se_X11_value (ci := 11) (by exact lm_o hM) (by decide) ⟨_, _, rfl⟩ rfl (by omega) (by omega) (by omega) rfl (Nat.le_of_ble_eq_true rfl) dX11_readEntries_73 ?_
                intro r9 S5 hp9
                obtain ⟨v9, rfl, ha, hf, hv9, g5⟩ := hp9
                have hT := hT.fr hM g5 (by decide) (by decide) (by decide)
                have hE := hE.fr hM g5 (by decide) (by decide) (by decide)
                have hM := g5.lay hM
                have f := f.tr (g5.up (fun k hk => absurd hk (by simp)) (by decide))
                refine a_goto K dX11_readEntries_76 (tgt := 80) (by decide) ?_
                refine a_istore_n K dX11_readEntries_80 (by decide) ?_
                first | refine a_aload_n K dX11_readEntries_81 rfl ?_ | refine a_aload_nN K dX11_readEntries_81 rfl ?_
                refine a_getI K fd_X11_137 (by exact lm_o hM) (Or.inl rfl) dX11_readEntries_82 ?_
                rw [hf, fltN_s h3]
                refine a_iconst K dX11_readEntries_85 (v := -1) (by decide) ?_
                refine a_icmp_eq K dX11_readEntries_86 (tgt := 90) (by decide) (fun c_86 => ?_) (fun c_86 => absurd c_86 (fun z => z rfl))
                rw [hw9 k9 h1, hv9 v0 h3]
                first | refine a_aload_n K dX11_readEntries_90 rfl ?_ | refine a_aload_nN K dX11_readEntries_90 rfl ?_
                refine a_getRs K fd_X11_13 (by exact lm_o hM) (Or.inr ⟨_, rfl⟩) (by exact lm_r709 hM) dX11_readEntries_91 ?_
                refine a_iconst K dX11_readEntries_94 (v := 2) (by decide) ?_
                first | refine a_aload_n K dX11_readEntries_95 rfl ?_ | refine a_aload_nN K dX11_readEntries_95 rfl ?_
                refine a_getI K fd_X11_153 (by exact lm_o hM) (Or.inl rfl) dX11_readEntries_96 ?_
                rw [hE.1]
                refine a_imul K dX11_readEntries_99 ?_
                rw [nI_2]
                refine a_iload_n K dX11_readEntries_100 rfl ?_
                refine a_iast K (by exact lm_kk hM (by decide) (by decide)) (by show vp_in _ (sN S5 (m 1)); exact lm_ix (z := 480) hM (by decide) (by decide) (show 2 * E.length < 480 by omega) (by decide)) dX11_readEntries_101 ?_
                rw [nI_clamp (by omega)]
                first | refine a_aload_n K dX11_readEntries_102 rfl ?_ | refine a_aload_nN K dX11_readEntries_102 rfl ?_
                refine a_getRs K fd_X11_13 (by exact lm_o hM) (Or.inr ⟨_, rfl⟩) (by exact lm_r709 hM) dX11_readEntries_103 ?_
                refine a_iconst K dX11_readEntries_106 (v := 2) (by decide) ?_
                first | refine a_aload_n K dX11_readEntries_107 rfl ?_ | refine a_aload_nN K dX11_readEntries_107 rfl ?_
                refine a_getI K fd_X11_153 (by exact lm_o hM) (Or.inl rfl) dX11_readEntries_108 ?_
                rw [show sI (wA S5 (m 1) (2 * E.length) k9) 712 (m 33) = nI E.length from hE.1]
                refine a_imul K dX11_readEntries_111 ?_
                rw [nI_2]
                refine a_iconst K dX11_readEntries_112 (v := 1) (by decide) ?_
                refine a_iadd K dX11_readEntries_113 ?_
                rw [nI_1]
                refine a_iload_n K dX11_readEntries_114 rfl ?_
                refine a_iast K (by exact lm_kk hM (by decide) (by decide)) (by show vp_in _ (sN S5 (m 1)); exact lm_ix (z := 480) hM (by decide) (by decide) (show 2 * E.length + 1 < 480 by omega) (by decide)) dX11_readEntries_115 ?_
                rw [nI_clamp (by omega)]
                first | refine a_aload_n K dX11_readEntries_116 rfl ?_ | refine a_aload_nN K dX11_readEntries_116 rfl ?_
                refine a_dup K dX11_readEntries_117 rfl ?_
                refine a_getI K fd_X11_153 (by exact lm_o hM) (Or.inl rfl) dX11_readEntries_118 ?_
                rw [show sI (wA (wA S5 (m 1) (2 * E.length) k9) (m 1) (2 * E.length + 1) v0) 712 (m 33) = nI E.length from hE.1]
                refine a_iconst K dX11_readEntries_121 (v := 1) (by decide) ?_
                refine a_iadd K dX11_readEntries_122 ?_
                rw [nI_1]
                refine a_putI K fd_X11_153 (by exact lm_o hM) rfl dX11_readEntries_123 ?_
                have g6 : frM S5 (enS S5 m E.length (k9, v0)) m [1] [712] := enS_fr
                have hE : EnM (enS S5 m E.length (k9, v0)) m (E ++ [(k9, v0)]) := hE.app
                have hT := hT.fr hM g6 (by decide) (by decide) (by decide)
                have hf : sI (enS S5 m E.length (k9, v0)) 708 (m 33) = -1 := (g6.2 708 (by decide)).trans (by rw [hf]; exact fltN_s h3)
                have ha : sI (enS S5 m E.length (k9, v0)) 707 (m 33) = nI (numR L true (skB L (numR L false p).1 + 1)).1 := (g6.2 707 (by decide)).trans ha
                have hM := g6.lay hM
                have f := f.tr (g6.up (fun _ z => z) (by decide))
                first | refine a_aload_n K dX11_readEntries_126 rfl ?_ | refine a_aload_nN K dX11_readEntries_126 rfl ?_
                refine a_invV K (q_look (S := (enS S5 m E.length (k9, v0))) hM hT (by omega) ha) my_X11_look ml_X11_140 im_X11_look se_X11_look (ci := 11) (by exact lm_o hM) (by decide) ⟨_, _, rfl⟩ rfl (by omega) (by omega) (by omega) rfl (Nat.le_of_ble_eq_true rfl) dX11_readEntries_127 ?_
                intro r9 S7 hp9
                obtain ⟨rfl, ha, g7⟩ := hp9
                have hf := (g7.2 708 (by decide)).trans hf
                have hT := hT.fr hM g7 (by decide) (by decide) (by decide)
                have hE := hE.fr hM g7 (by decide) (by decide) (by decide)
                have hM := g7.lay hM
                have f := f.tr (g7.up (fun k hk => absurd hk (by simp)) (by decide))
                refine a_bipush K dX11_readEntries_130 (v := 44) (by decide) ?_
                refine a_icmp_ne K dX11_readEntries_132 (tgt := 139) (by decide) (fun c_132 => ?_) (fun c_132 => absurd c_132 (hm))
                refine a_iconst K dX11_readEntries_139 (v := 0) (by decide) ?_
                refine a_istore_n K dX11_readEntries_140 (by decide) ?_
                refine a_iload_n K dX11_readEntries_141 rfl ?_
                refine a_if_eq K dX11_readEntries_142 (tgt := 155) (by decide) (fun c_142 => ?_) (fun c_142 => absurd c_142 (fun z => z rfl))
                refine a_goto K dX11_readEntries_155 (tgt := 16) (by decide) ?_
                refine a_iload_n K dX11_readEntries_16 rfl ?_
                refine a_if_eq K dX11_readEntries_17 (tgt := 158) (by decide) (fun c_17 => ?_) (fun c_17 => absurd c_17 (fun z => z rfl))
                first | refine a_aload_n K dX11_readEntries_158 rfl ?_ | refine a_aload_nN K dX11_readEntries_158 rfl ?_
                refine a_getI K fd_X11_137 (by exact lm_o hM) (Or.inl rfl) dX11_readEntries_159 ?_
                rw [hf]
                refine a_iconst K dX11_readEntries_162 (v := -1) (by decide) ?_
                refine a_icmp_ne K dX11_readEntries_163 (tgt := 178) (by decide) (fun c_163 => absurd c_163 (fun z => z rfl)) (fun c_163 => ?_)
                first | refine a_aload_n K dX11_readEntries_166 rfl ?_ | refine a_aload_nN K dX11_readEntries_166 rfl ?_
                refine a_invV K (q_look hM hT (by omega) ha) my_X11_look ml_X11_140 im_X11_look se_X11_look (ci := 11) (by exact lm_o hM) (by decide) ⟨_, _, rfl⟩ rfl (by omega) (by omega) (by omega) rfl (Nat.le_of_ble_eq_true rfl) dX11_readEntries_167 ?_
                intro r9 S8 hp9
                obtain ⟨rfl, ha, g8⟩ := hp9
                rw [skB_skB] at ha
                rw [skB_skB]
                have hf := (g8.2 708 (by decide)).trans hf
                have hT := hT.fr hM g8 (by decide) (by decide) (by decide)
                have hE := hE.fr hM g8 (by decide) (by decide) (by decide)
                have hM := g8.lay hM
                have f := f.tr (g8.up (fun k hk => absurd hk (by simp)) (by decide))
                refine a_iconst K dX11_readEntries_170 (v := -1) (by decide) ?_
                refine a_icmp_eq K dX11_readEntries_171 (tgt := 178) (by decide) (fun c_171 => ?_) (fun c_171 => absurd c_171 (fun z => z (chr_out he)))
                exact a_vret K EE (by omega) (by omega) dX11_readEntries_178 (by
                  rw [← hF, etsR_s hx9, hx1, if_pos he]
                  exact ⟨rfl, ⟨hf, fun _ => hE⟩, f⟩)
              · refine a_iload_n K dX11_readEntries_16 rfl ?_
                refine a_if_eq K dX11_readEntries_17 (tgt := 158) (by decide) (fun c_17 => absurd c_17 (fun z => absurd z (by decide))) (fun c_17 => ?_)
                first | refine a_aload_n K dX11_readEntries_20 rfl ?_ | refine a_aload_nN K dX11_readEntries_20 rfl ?_
                refine a_getI K fd_X11_137 (by exact lm_o hM) (Or.inl rfl) dX11_readEntries_21 ?_
                rw [hf]
                refine a_iconst K dX11_readEntries_24 (v := -1) (by decide) ?_
                refine a_icmp_ne K dX11_readEntries_25 (tgt := 158) (by decide) (fun c_25 => absurd c_25 (fun z => z rfl)) (fun c_25 => ?_)
                first | refine a_aload_n K dX11_readEntries_28 rfl ?_ | refine a_aload_nN K dX11_readEntries_28 rfl ?_
                refine a_invV K (q_number hM hT (by omega) rfl (by omega) ha hf) my_X11_number ml_X11_150 im_X11_number se_X11_number (ci := 11) (by exact lm_o hM) (by decide) ⟨_, _, rfl⟩ rfl (by omega) (by omega) (by omega) rfl (Nat.le_of_ble_eq_true rfl) dX11_readEntries_29 ?_
                intro r9 S1 hp9
                obtain ⟨w9, rfl, ha, hf, hw9, g1⟩ := hp9
                have hT := hT.fr hM g1 (by decide) (by decide) (by decide)
                have hE := hE.fr hM g1 (by decide) (by decide) (by decide)
                have hM := g1.lay hM
                have f := f.tr (g1.up (fun k hk => absurd hk (by simp)) (by decide))
                rw [show numD L false (skB L p) = numR L false p from rfl] at ha hf hw9
                refine a_istore_n K dX11_readEntries_32 (by decide) ?_
                first | refine a_aload_n K dX11_readEntries_33 rfl ?_ | refine a_aload_nN K dX11_readEntries_33 rfl ?_
                refine a_getI K fd_X11_137 (by exact lm_o hM) (Or.inl rfl) dX11_readEntries_34 ?_
                rw [hf, fltN_s h1]
                refine a_iconst K dX11_readEntries_37 (v := -1) (by decide) ?_
                refine a_icmp_ne K dX11_readEntries_38 (tgt := 54) (by decide) (fun c_38 => absurd c_38 (fun z => z rfl)) (fun c_38 => ?_)
                first | refine a_aload_n K dX11_readEntries_41 rfl ?_ | refine a_aload_nN K dX11_readEntries_41 rfl ?_
                refine a_invV K (q_look hM hT (by omega) ha) my_X11_look ml_X11_140 im_X11_look se_X11_look (ci := 11) (by exact lm_o hM) (by decide) ⟨_, _, rfl⟩ rfl (by omega) (by omega) (by omega) rfl (Nat.le_of_ble_eq_true rfl) dX11_readEntries_42 ?_
                intro r9 S2 hp9
                obtain ⟨rfl, ha, g2⟩ := hp9
                have hf := (g2.2 708 (by decide)).trans hf
                have hT := hT.fr hM g2 (by decide) (by decide) (by decide)
                have hE := hE.fr hM g2 (by decide) (by decide) (by decide)
                have hM := g2.lay hM
                have f := f.tr (g2.up (fun k hk => absurd hk (by simp)) (by decide))
                refine a_bipush K dX11_readEntries_45 (v := 58) (by decide) ?_
                refine a_icmp_eq K dX11_readEntries_47 (tgt := 54) (by decide) (fun c_47 => ?_) (fun c_47 => absurd c_47 (fun z => z h2))
                first | refine a_aload_n K dX11_readEntries_54 rfl ?_ | refine a_aload_nN K dX11_readEntries_54 rfl ?_
                refine a_dup K dX11_readEntries_55 rfl ?_
                refine a_getI K fd_X11_130 (by exact lm_o hM) (Or.inl rfl) dX11_readEntries_56 ?_
                rw [ha]
                refine a_iconst K dX11_readEntries_59 (v := 1) (by decide) ?_
                refine a_iadd K dX11_readEntries_60 ?_
                rw [nI_1]
                refine a_putI K fd_X11_130 (by exact lm_o hM) rfl dX11_readEntries_61 ?_
                have g3 : frM S2 (wI S2 707 (m 33) (nI (skB L (numR L false p).1 + 1))) m [] [707] := frM_wI (by decide) (by decide)
                have hf := (g3.2 708 (by decide)).trans hf
                have hT := hT.fr hM g3 (by decide) (by decide) (by decide)
                have hE := hE.fr hM g3 (by decide) (by decide) (by decide)
                have hM := g3.lay hM
                have f := f.tr (g3.up (fun k hk => absurd hk (by simp)) (by decide))
                have ha : sI (wI S2 707 (m 33) (nI (skB L (numR L false p).1 + 1))) 707 (m 33) = nI (skB L (numR L false p).1 + 1) := wI_at
                first | refine a_aload_n K dX11_readEntries_64 rfl ?_ | refine a_aload_nN K dX11_readEntries_64 rfl ?_
                refine a_getI K fd_X11_137 (by exact lm_o hM) (Or.inl rfl) dX11_readEntries_65 ?_
                rw [hf, fltN_s h1]
                refine a_iconst K dX11_readEntries_68 (v := -1) (by decide) ?_
                refine a_icmp_ne K dX11_readEntries_69 (tgt := 79) (by decide) (fun c_69 => absurd c_69 (fun z => z rfl)) (fun c_69 => ?_)
                first | refine a_aload_n K dX11_readEntries_72 rfl ?_ | refine a_aload_nN K dX11_readEntries_72 rfl ?_
                refine a_invV K (q_value hM hT (by omega) rfl (by omega) ha (by rw [hf]; exact fltN_s h1)) my_X11_value ml_X11_156 im_X11_value se_X11_value (ci := 11) (by exact lm_o hM) (by decide) ⟨_, _, rfl⟩ rfl (by omega) (by omega) (by omega) rfl (Nat.le_of_ble_eq_true rfl) dX11_readEntries_73 ?_
                intro r9 S5 hp9
                obtain ⟨v9, rfl, ha, hf, hv9, g5⟩ := hp9
                have hT := hT.fr hM g5 (by decide) (by decide) (by decide)
                have hE := hE.fr hM g5 (by decide) (by decide) (by decide)
                have hM := g5.lay hM
                have f := f.tr (g5.up (fun k hk => absurd hk (by simp)) (by decide))
                refine a_goto K dX11_readEntries_76 (tgt := 80) (by decide) ?_
                refine a_istore_n K dX11_readEntries_80 (by decide) ?_
                first | refine a_aload_n K dX11_readEntries_81 rfl ?_ | refine a_aload_nN K dX11_readEntries_81 rfl ?_
                refine a_getI K fd_X11_137 (by exact lm_o hM) (Or.inl rfl) dX11_readEntries_82 ?_
                rw [hf, fltN_s h3]
                refine a_iconst K dX11_readEntries_85 (v := -1) (by decide) ?_
                refine a_icmp_eq K dX11_readEntries_86 (tgt := 90) (by decide) (fun c_86 => ?_) (fun c_86 => absurd c_86 (fun z => z rfl))
                rw [hw9 k9 h1, hv9 v0 h3]
                first | refine a_aload_n K dX11_readEntries_90 rfl ?_ | refine a_aload_nN K dX11_readEntries_90 rfl ?_
                refine a_getRs K fd_X11_13 (by exact lm_o hM) (Or.inr ⟨_, rfl⟩) (by exact lm_r709 hM) dX11_readEntries_91 ?_
                refine a_iconst K dX11_readEntries_94 (v := 2) (by decide) ?_
                first | refine a_aload_n K dX11_readEntries_95 rfl ?_ | refine a_aload_nN K dX11_readEntries_95 rfl ?_
                refine a_getI K fd_X11_153 (by exact lm_o hM) (Or.inl rfl) dX11_readEntries_96 ?_
                rw [hE.1]
                refine a_imul K dX11_readEntries_99 ?_
                rw [nI_2]
                refine a_iload_n K dX11_readEntries_100 rfl ?_
                refine a_iast K (by exact lm_kk hM (by decide) (by decide)) (by show vp_in _ (sN S5 (m 1)); exact lm_ix (z := 480) hM (by decide) (by decide) (show 2 * E.length < 480 by omega) (by decide)) dX11_readEntries_101 ?_
                rw [nI_clamp (by omega)]
                first | refine a_aload_n K dX11_readEntries_102 rfl ?_ | refine a_aload_nN K dX11_readEntries_102 rfl ?_
                refine a_getRs K fd_X11_13 (by exact lm_o hM) (Or.inr ⟨_, rfl⟩) (by exact lm_r709 hM) dX11_readEntries_103 ?_
                refine a_iconst K dX11_readEntries_106 (v := 2) (by decide) ?_
                first | refine a_aload_n K dX11_readEntries_107 rfl ?_ | refine a_aload_nN K dX11_readEntries_107 rfl ?_
                refine a_getI K fd_X11_153 (by exact lm_o hM) (Or.inl rfl) dX11_readEntries_108 ?_
                rw [show sI (wA S5 (m 1) (2 * E.length) k9) 712 (m 33) = nI E.length from hE.1]
                refine a_imul K dX11_readEntries_111 ?_
                rw [nI_2]
                refine a_iconst K dX11_readEntries_112 (v := 1) (by decide) ?_
                refine a_iadd K dX11_readEntries_113 ?_
                rw [nI_1]
                refine a_iload_n K dX11_readEntries_114 rfl ?_
                refine a_iast K (by exact lm_kk hM (by decide) (by decide)) (by show vp_in _ (sN S5 (m 1)); exact lm_ix (z := 480) hM (by decide) (by decide) (show 2 * E.length + 1 < 480 by omega) (by decide)) dX11_readEntries_115 ?_
                rw [nI_clamp (by omega)]
                first | refine a_aload_n K dX11_readEntries_116 rfl ?_ | refine a_aload_nN K dX11_readEntries_116 rfl ?_
                refine a_dup K dX11_readEntries_117 rfl ?_
                refine a_getI K fd_X11_153 (by exact lm_o hM) (Or.inl rfl) dX11_readEntries_118 ?_
                rw [show sI (wA (wA S5 (m 1) (2 * E.length) k9) (m 1) (2 * E.length + 1) v0) 712 (m 33) = nI E.length from hE.1]
                refine a_iconst K dX11_readEntries_121 (v := 1) (by decide) ?_
                refine a_iadd K dX11_readEntries_122 ?_
                rw [nI_1]
                refine a_putI K fd_X11_153 (by exact lm_o hM) rfl dX11_readEntries_123 ?_
                have g6 : frM S5 (enS S5 m E.length (k9, v0)) m [1] [712] := enS_fr
                have hE : EnM (enS S5 m E.length (k9, v0)) m (E ++ [(k9, v0)]) := hE.app
                have hT := hT.fr hM g6 (by decide) (by decide) (by decide)
                have hf : sI (enS S5 m E.length (k9, v0)) 708 (m 33) = -1 := (g6.2 708 (by decide)).trans (by rw [hf]; exact fltN_s h3)
                have ha : sI (enS S5 m E.length (k9, v0)) 707 (m 33) = nI (numR L true (skB L (numR L false p).1 + 1)).1 := (g6.2 707 (by decide)).trans ha
                have hM := g6.lay hM
                have f := f.tr (g6.up (fun _ z => z) (by decide))
                first | refine a_aload_n K dX11_readEntries_126 rfl ?_ | refine a_aload_nN K dX11_readEntries_126 rfl ?_
                refine a_invV K (q_look (S := (enS S5 m E.length (k9, v0))) hM hT (by omega) ha) my_X11_look ml_X11_140 im_X11_look se_X11_look (ci := 11) (by exact lm_o hM) (by decide) ⟨_, _, rfl⟩ rfl (by omega) (by omega) (by omega) rfl (Nat.le_of_ble_eq_true rfl) dX11_readEntries_127 ?_
                intro r9 S7 hp9
                obtain ⟨rfl, ha, g7⟩ := hp9
                have hf := (g7.2 708 (by decide)).trans hf
                have hT := hT.fr hM g7 (by decide) (by decide) (by decide)
                have hE := hE.fr hM g7 (by decide) (by decide) (by decide)
                have hM := g7.lay hM
                have f := f.tr (g7.up (fun k hk => absurd hk (by simp)) (by decide))
                refine a_bipush K dX11_readEntries_130 (v := 44) (by decide) ?_
                refine a_icmp_ne K dX11_readEntries_132 (tgt := 139) (by decide) (fun c_132 => ?_) (fun c_132 => absurd c_132 (hm))
                refine a_iconst K dX11_readEntries_139 (v := 0) (by decide) ?_
                refine a_istore_n K dX11_readEntries_140 (by decide) ?_
                refine a_iload_n K dX11_readEntries_141 rfl ?_
                refine a_if_eq K dX11_readEntries_142 (tgt := 155) (by decide) (fun c_142 => ?_) (fun c_142 => absurd c_142 (fun z => z rfl))
                refine a_goto K dX11_readEntries_155 (tgt := 16) (by decide) ?_
                refine a_iload_n K dX11_readEntries_16 rfl ?_
                refine a_if_eq K dX11_readEntries_17 (tgt := 158) (by decide) (fun c_17 => ?_) (fun c_17 => absurd c_17 (fun z => z rfl))
                first | refine a_aload_n K dX11_readEntries_158 rfl ?_ | refine a_aload_nN K dX11_readEntries_158 rfl ?_
                refine a_getI K fd_X11_137 (by exact lm_o hM) (Or.inl rfl) dX11_readEntries_159 ?_
                rw [hf]
                refine a_iconst K dX11_readEntries_162 (v := -1) (by decide) ?_
                refine a_icmp_ne K dX11_readEntries_163 (tgt := 178) (by decide) (fun c_163 => absurd c_163 (fun z => z rfl)) (fun c_163 => ?_)
                first | refine a_aload_n K dX11_readEntries_166 rfl ?_ | refine a_aload_nN K dX11_readEntries_166 rfl ?_
                refine a_invV K (q_look hM hT (by omega) ha) my_X11_look ml_X11_140 im_X11_look se_X11_look (ci := 11) (by exact lm_o hM) (by decide) ⟨_, _, rfl⟩ rfl (by omega) (by omega) (by omega) rfl (Nat.le_of_ble_eq_true rfl) dX11_readEntries_167 ?_
                intro r9 S8 hp9
                obtain ⟨rfl, ha, g8⟩ := hp9
                rw [skB_skB] at ha
                rw [skB_skB]
                have hf := (g8.2 708 (by decide)).trans hf
                have hT := hT.fr hM g8 (by decide) (by decide) (by decide)
                have hE := hE.fr hM g8 (by decide) (by decide) (by decide)
                have hM := g8.lay hM
                have f := f.tr (g8.up (fun k hk => absurd hk (by simp)) (by decide))
                refine a_iconst K dX11_readEntries_170 (v := -1) (by decide) ?_
                refine a_icmp_eq K dX11_readEntries_171 (tgt := 178) (by decide) (fun c_171 => absurd c_171 (tp_ne hT0 (by omega))) (fun c_171 => ?_)
                first | refine a_aload_n K dX11_readEntries_174 rfl ?_ | refine a_aload_nN K dX11_readEntries_174 rfl ?_
                refine a_invV K (q_fails hM ha hf) my_X11_fails ml_X11_147 im_X11_fails se_X11_fails (ci := 11) (by exact lm_o hM) (by decide) ⟨_, _, rfl⟩ rfl (by omega) (by omega) (by omega) rfl (Nat.le_of_ble_eq_true rfl) dX11_readEntries_175 ?_
                intro r9 S9 hp9
                obtain ⟨rfl, rfl⟩ := hp9
                exact a_vret K EE (by omega) (by omega) dX11_readEntries_178 (by
                  rw [← hF, etsR_s hx9, hx1, if_neg he, if_neg hm]
                  have g9 : frM S8 (wI S8 708 (m 33) (nI (skB L (numR L true (skB L (numR L false p).1 + 1)).1))) m [] [708] := frM_wI (by decide) (by decide)
                  exact ⟨rfl, ⟨wI_at, fun z => absurd z (by simp)⟩, f.tr (g9.up (fun k hk => absurd hk (by simp)) (by decide))⟩)
        · refine a_iload_n K dX11_readEntries_16 rfl ?_
          refine a_if_eq K dX11_readEntries_17 (tgt := 158) (by decide) (fun c_17 => absurd c_17 (fun z => absurd z (by decide))) (fun c_17 => ?_)
          first | refine a_aload_n K dX11_readEntries_20 rfl ?_ | refine a_aload_nN K dX11_readEntries_20 rfl ?_
          refine a_getI K fd_X11_137 (by exact lm_o hM) (Or.inl rfl) dX11_readEntries_21 ?_
          rw [hf]
          refine a_iconst K dX11_readEntries_24 (v := -1) (by decide) ?_
          refine a_icmp_ne K dX11_readEntries_25 (tgt := 158) (by decide) (fun c_25 => absurd c_25 (fun z => z rfl)) (fun c_25 => ?_)
          first | refine a_aload_n K dX11_readEntries_28 rfl ?_ | refine a_aload_nN K dX11_readEntries_28 rfl ?_
          refine a_invV K (q_number hM hT (by omega) rfl (by omega) ha hf) my_X11_number ml_X11_150 im_X11_number se_X11_number (ci := 11) (by exact lm_o hM) (by decide) ⟨_, _, rfl⟩ rfl (by omega) (by omega) (by omega) rfl (Nat.le_of_ble_eq_true rfl) dX11_readEntries_29 ?_
          intro r9 S1 hp9
          obtain ⟨w9, rfl, ha, hf, hw9, g1⟩ := hp9
          have hT := hT.fr hM g1 (by decide) (by decide) (by decide)
          have hE := hE.fr hM g1 (by decide) (by decide) (by decide)
          have hM := g1.lay hM
          have f := f.tr (g1.up (fun k hk => absurd hk (by simp)) (by decide))
          rw [show numD L false (skB L p) = numR L false p from rfl] at ha hf hw9
          refine a_istore_n K dX11_readEntries_32 (by decide) ?_
          first | refine a_aload_n K dX11_readEntries_33 rfl ?_ | refine a_aload_nN K dX11_readEntries_33 rfl ?_
          refine a_getI K fd_X11_137 (by exact lm_o hM) (Or.inl rfl) dX11_readEntries_34 ?_
          rw [hf, fltN_s h1]
          refine a_iconst K dX11_readEntries_37 (v := -1) (by decide) ?_
          refine a_icmp_ne K dX11_readEntries_38 (tgt := 54) (by decide) (fun c_38 => absurd c_38 (fun z => z rfl)) (fun c_38 => ?_)
          first | refine a_aload_n K dX11_readEntries_41 rfl ?_ | refine a_aload_nN K dX11_readEntries_41 rfl ?_
          refine a_invV K (q_look hM hT (by omega) ha) my_X11_look ml_X11_140 im_X11_look se_X11_look (ci := 11) (by exact lm_o hM) (by decide) ⟨_, _, rfl⟩ rfl (by omega) (by omega) (by omega) rfl (Nat.le_of_ble_eq_true rfl) dX11_readEntries_42 ?_
          intro r9 S2 hp9
          obtain ⟨rfl, ha, g2⟩ := hp9
          have hf := (g2.2 708 (by decide)).trans hf
          have hT := hT.fr hM g2 (by decide) (by decide) (by decide)
          have hE := hE.fr hM g2 (by decide) (by decide) (by decide)
          have hM := g2.lay hM
          have f := f.tr (g2.up (fun k hk => absurd hk (by simp)) (by decide))
          refine a_bipush K dX11_readEntries_45 (v := 58) (by decide) ?_
          refine a_icmp_eq K dX11_readEntries_47 (tgt := 54) (by decide) (fun c_47 => absurd c_47 (h2)) (fun c_47 => ?_)
          first | refine a_aload_n K dX11_readEntries_50 rfl ?_ | refine a_aload_nN K dX11_readEntries_50 rfl ?_
          refine a_invV K (q_fails hM ha (by rw [hf]; exact fltN_s h1)) my_X11_fails ml_X11_147 im_X11_fails se_X11_fails (ci := 11) (by exact lm_o hM) (by decide) ⟨_, _, rfl⟩ rfl (by omega) (by omega) (by omega) rfl (Nat.le_of_ble_eq_true rfl) dX11_readEntries_51 ?_
          intro r9 S3 hp9
          obtain ⟨rfl, rfl⟩ := hp9
          have g4 : frM S2 (wI S2 708 (m 33) (nI (skB L (numR L false p).1))) m [] [708] := frM_wI (by decide) (by decide)
          have ha := (g4.2 707 (by decide)).trans ha
          have hf2 : sI (wI S2 708 (m 33) (nI (skB L (numR L false p).1))) 708 (m 33) = nI (skB L (numR L false p).1) := wI_at
          have f := f.tr (g4.up (fun k hk => absurd hk (by simp)) (by decide))
          have hM := g4.lay hM
          first | refine a_aload_n K dX11_readEntries_54 rfl ?_ | refine a_aload_nN K dX11_readEntries_54 rfl ?_
          refine a_dup K dX11_readEntries_55 rfl ?_
          refine a_getI K fd_X11_130 (by exact lm_o hM) (Or.inl rfl) dX11_readEntries_56 ?_
          rw [ha]
          refine a_iconst K dX11_readEntries_59 (v := 1) (by decide) ?_
          refine a_iadd K dX11_readEntries_60 ?_
          rw [nI_1]
          refine a_putI K fd_X11_130 (by exact lm_o hM) rfl dX11_readEntries_61 ?_
          first | refine a_aload_n K dX11_readEntries_64 rfl ?_ | refine a_aload_nN K dX11_readEntries_64 rfl ?_
          refine a_getI K fd_X11_137 (by exact lm_o hM) (Or.inl rfl) dX11_readEntries_65 ?_
          rw [show sI (wI (wI S2 708 (m 33) (nI (skB L (numR L false p).1))) 707 (m 33) (nI (skB L (numR L false p).1 + 1))) 708 (m 33) = nI (skB L (numR L false p).1) from by rw [sI_wI, if_neg (fun z => absurd z.1 (by decide))]; exact hf2]
          refine a_iconst K dX11_readEntries_68 (v := -1) (by decide) ?_
          refine a_icmp_ne K dX11_readEntries_69 (tgt := 79) (by decide) (fun c_69 => ?_) (fun c_69 => absurd c_69 (nI_m1n (n := skB L (numR L false p).1) (by omega)))
          refine a_iconst K dX11_readEntries_79 (v := 0) (by decide) ?_
          refine a_istore_n K dX11_readEntries_80 (by decide) ?_
          first | refine a_aload_n K dX11_readEntries_81 rfl ?_ | refine a_aload_nN K dX11_readEntries_81 rfl ?_
          refine a_getI K fd_X11_137 (by exact lm_o hM) (Or.inl rfl) dX11_readEntries_82 ?_
          rw [show sI (wI (wI S2 708 (m 33) (nI (skB L (numR L false p).1))) 707 (m 33) (nI (skB L (numR L false p).1 + 1))) 708 (m 33) = nI (skB L (numR L false p).1) from by rw [sI_wI, if_neg (fun z => absurd z.1 (by decide))]; exact hf2]
          refine a_iconst K dX11_readEntries_85 (v := -1) (by decide) ?_
          refine a_icmp_eq K dX11_readEntries_86 (tgt := 90) (by decide) (fun c_86 => absurd c_86 (nI_m1n (n := skB L (numR L false p).1) (by omega))) (fun c_86 => ?_)
          exact a_vret K EE (by omega) (by omega) dX11_readEntries_89 (by
            rw [← hF, etsR_f (by unfold entR; rw [h1]; show (entK L k9 _).2 = none; unfold entK; rw [if_neg h2])]
            have g3 : frM (wI S2 708 (m 33) (nI (skB L (numR L false p).1))) (wI (wI S2 708 (m 33) (nI (skB L (numR L false p).1))) 707 (m 33) (nI (skB L (numR L false p).1 + 1))) m [] [707] := frM_wI (by decide) (by decide)
            exact ⟨rfl, ⟨(g3.2 708 (by decide)).trans (by rw [hf2, show (entR L p).1 = skB L (numR L false p).1 from by unfold entR; rw [h1]; show (entK L k9 _).1 = _; unfold entK; rw [if_neg h2]]; rfl), fun z => absurd z (by simp)⟩, f.tr (g3.up (fun k hk => absurd hk (by simp)) (by decide))⟩)
  by_cases he : L.length ≤ skB L 0
  · first | refine a_aload_n K dX11_readEntries_0 rfl ?_ | refine a_aload_nN K dX11_readEntries_0 rfl ?_
    refine a_iconst K dX11_readEntries_1 (v := 0) (by decide) ?_
    refine a_putI K fd_X11_153 (by exact lm_o hM0) rfl dX11_readEntries_2 ?_
    have g0 : frM S (wI S 712 (m 33) 0) m [] [712] := frM_wI (by decide) (by decide)
    have hM1 := g0.lay hM0
    have hT1 := hT0.fr hM0 g0 (by decide) (by decide) (by decide)
    have hE1 : EnM (wI S 712 (m 33) 0) m [] := ⟨wI_at, fun i x hx => absurd hx (by simp)⟩
    have ha1 : sI (wI S 712 (m 33) 0) 707 (m 33) = nI 0 := (g0.2 707 (by decide)).trans ha0
    have hf1 : sI (wI S 712 (m 33) 0) 708 (m 33) = -1 := (g0.2 708 (by decide)).trans hf0
    have f1 : frM S (wI S 712 (m 33) 0) m [1] [707, 708, 712] := g0.up (fun k hk => absurd hk (by simp)) (by decide)
    first | refine a_aload_n K dX11_readEntries_5 rfl ?_ | refine a_aload_nN K dX11_readEntries_5 rfl ?_
    refine a_invV K (q_look (S := wI S 712 (m 33) 0) (p := 0) hM1 hT1 (by omega) ha1) my_X11_look ml_X11_140 im_X11_look se_X11_look (ci := 11) (by exact lm_o hM1) (by decide) ⟨_, _, rfl⟩ rfl (by omega) (by omega) (by omega) rfl (Nat.le_of_ble_eq_true rfl) dX11_readEntries_6 ?_
    intro r9 S1 hp9
    obtain ⟨rfl, ha, g1⟩ := hp9
    have hM := g1.lay hM1
    have hT := hT1.fr hM1 g1 (by decide) (by decide) (by decide)
    have hE := hE1.fr hM1 g1 (by decide) (by decide) (by decide)
    have hf := (g1.2 708 (by decide)).trans hf1
    have f := f1.tr (g1.up (fun k hk => absurd hk (by simp)) (by decide))
    refine a_iconst K dX11_readEntries_9 (v := -1) (by decide) ?_
    refine a_icmp_ne K dX11_readEntries_10 (tgt := 14) (by decide) (fun c_10 => absurd c_10 (fun z => z (chr_out he))) (fun c_10 => ?_)
    exact a_vret K EE (by omega) (by omega) dX11_readEntries_13 (by
      rw [← hF0, show redE L = (none, []) from by unfold redE; rw [if_pos he]]
      exact ⟨rfl, ⟨hf, fun _ => hE⟩, f⟩)
  · first | refine a_aload_n K dX11_readEntries_0 rfl ?_ | refine a_aload_nN K dX11_readEntries_0 rfl ?_
    refine a_iconst K dX11_readEntries_1 (v := 0) (by decide) ?_
    refine a_putI K fd_X11_153 (by exact lm_o hM0) rfl dX11_readEntries_2 ?_
    have g0 : frM S (wI S 712 (m 33) 0) m [] [712] := frM_wI (by decide) (by decide)
    have hM1 := g0.lay hM0
    have hT1 := hT0.fr hM0 g0 (by decide) (by decide) (by decide)
    have hE1 : EnM (wI S 712 (m 33) 0) m [] := ⟨wI_at, fun i x hx => absurd hx (by simp)⟩
    have ha1 : sI (wI S 712 (m 33) 0) 707 (m 33) = nI 0 := (g0.2 707 (by decide)).trans ha0
    have hf1 : sI (wI S 712 (m 33) 0) 708 (m 33) = -1 := (g0.2 708 (by decide)).trans hf0
    have f1 : frM S (wI S 712 (m 33) 0) m [1] [707, 708, 712] := g0.up (fun k hk => absurd hk (by simp)) (by decide)
    first | refine a_aload_n K dX11_readEntries_5 rfl ?_ | refine a_aload_nN K dX11_readEntries_5 rfl ?_
    refine a_invV K (q_look (S := wI S 712 (m 33) 0) (p := 0) hM1 hT1 (by omega) ha1) my_X11_look ml_X11_140 im_X11_look se_X11_look (ci := 11) (by exact lm_o hM1) (by decide) ⟨_, _, rfl⟩ rfl (by omega) (by omega) (by omega) rfl (Nat.le_of_ble_eq_true rfl) dX11_readEntries_6 ?_
    intro r9 S1 hp9
    obtain ⟨rfl, ha, g1⟩ := hp9
    have hM := g1.lay hM1
    have hT := hT1.fr hM1 g1 (by decide) (by decide) (by decide)
    have hE := hE1.fr hM1 g1 (by decide) (by decide) (by decide)
    have hf := (g1.2 708 (by decide)).trans hf1
    have f := f1.tr (g1.up (fun k hk => absurd hk (by simp)) (by decide))
    refine a_iconst K dX11_readEntries_9 (v := -1) (by decide) ?_
    refine a_icmp_ne K dX11_readEntries_10 (tgt := 14) (by decide) (fun c_10 => ?_) (fun c_10 => absurd c_10 (tp_ne hT0 (by omega)))
    refine a_iconst K dX11_readEntries_14 (v := 1) (by decide) ?_
    refine a_istore_n K dX11_readEntries_15 (by decide) ?_
    exact aw_locl rfl (loop 240 (skB L 0) S1 [] ⟨k0.2, Nat.zero_le _⟩ rfl hM hT hE ha hf f (by rw [← hF0]; unfold redE; rw [if_neg he]))
