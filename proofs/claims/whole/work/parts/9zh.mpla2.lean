/-! the model: programs read, fault -/
/-- the steps read so far -/
def PlE (S : aw_S) (m : Nat → Nat) (E : List ST) : Prop := ∀ i s, E[i]? = some s → StM S m (4 * (64 + i)) s
/-- what stands of the programs told -/
def ke3 (S S2 : aw_S) (m : Nat → Nat) : Prop := (∀ i, i < 256 → sA S2 (m 2) i = sA S (m 2) i) ∧ ∀ i, i < 4 → sA S2 (m 3) i = sA S (m 3) i
theorem ke3.tr {A B C : aw_S} {m : Nat → Nat} (h : ke3 A B m) (k : ke3 B C m) : ke3 A C m := ⟨fun i hi => (k.1 i hi).trans (h.1 i hi), fun i hi => (k.2 i hi).trans (h.2 i hi)⟩
theorem ke3.fr {S S2 : aw_S} {m : Nat → Nat} {ks Fs : List Nat} (hM : LM S m) (f : frM S S2 m ks Fs) (h : ∀ k ∈ ks, k < 33) (n2 : 2 ∉ ks) (n3 : 3 ∉ ks) : ke3 S S2 m := ⟨fun i _ => congrFun (f.A hM h (by decide) n2) i, fun i _ => congrFun (f.A hM h (by decide) n3) i⟩
theorem ke3.st {S S2 : aw_S} {m : Nat → Nat} {R : Nat} {Fs : List Nat} (hM : LM S m) (k : keR S S2 m R) (hR : 256 ≤ R) (f : frM S S2 m [2] Fs) : ke3 S S2 m := ⟨fun i hi => k i (Or.inl (by omega)), fun i _ => congrFun (f.A hM (by decide) (by decide) (by decide)) i⟩
theorem PlE.fr {S S2 : aw_S} {m : Nat → Nat} {ks Fs : List Nat} {E : List ST} (h : PlE S m E) (hM : LM S m) (f : frM S S2 m ks Fs) (hk : ∀ k ∈ ks, k < 33) (n2 : 2 ∉ ks) : PlE S2 m E := fun i s hs => (h i s hs).f hM f hk n2
theorem PlE.app {S S2 : aw_S} {m : Nat → Nat} {E : List ST} {s : ST} (h : PlE S m E) (k : keR S S2 m (4 * (64 + E.length))) (hs : StM S2 m (4 * (64 + E.length)) s) : PlE S2 m (E ++ [s]) := fun i x hx => by
  rcases get_app1 hx with ⟨h1, h2⟩ | ⟨h1, h2⟩
  · intro j hj
    rw [k _ (Or.inl (by omega))]
    exact h i x h2 j hj
  · rw [h1, h2]
    exact hs
set_option maxHeartbeats 4000000 in
set_option maxRecDepth 100000 in
theorem q_readPlan {S : aw_S} {m : Nat → Nat} (hM : LM S m) {L : List Int32} (hT : TpM S m L) (ha0 : sI S 707 (m 33) = nI 0) (hf0 : sI S 708 (m 33) = -1) : aw_M yX11_readPlan cX11_readPlan 3 (none : Option FieldType) 6 0 0 [.ref (m 33)] S (fun r S2 => r = none ∧ sI S2 708 (m 33) = fltV (redP L).1 ∧ ((redP L).1 = none → PlE S2 m (redP L).2 ∧ sA S2 (m 3) 4 = nI (redP L).2.length) ∧ ke3 S S2 m ∧ frM S S2 m [2, 3] [707, 708]) := by
  have PlE0 : PlE S m [] := fun i s hs => absurd hs (by simp)
  obtain ⟨F, hF0⟩ : ∃ F, stsR L 16 0 [] = F := ⟨_, rfl⟩
  rw [show redP L = F from hF0]
  refine aw_enter (by decide +kernel) (Nat.le_of_ble_eq_true rfl) (fun g K EE => ?_)
  have loop : ∀ (n p : Nat) (E : List ST) (T : aw_S), p ≤ L.length → n + 1 + E.length = 16 → LM T m → TpM T m L → PlE T m E → sI T 707 (m 33) = nI p → sI T 708 (m 33) = -1 → ke3 S T m → frM S T m [2, 3] [707, 708] → stsR L (n + 1) p E = F → aw g 3 T 0 0 [(2, .int 1), (1, .int (nI E.length)), (0, .ref (m 33))] [] 4 := by
    intro n
    induction n with
    | zero =>
      intro p E T hp hnE hM hT hE ha hf k3 f hF
      have h240 := hT.2.1
      have k1 := ostR_le hp
      have k2 := skB_le k1.2
      have hT0 := hT
      cases hs : (ostR L p).2 with
      | none =>
        refine a_iload_n K dX11_readPlan_4 rfl ?_
        refine a_if_eq K dX11_readPlan_5 (tgt := 77) (by decide) (fun c_5 => absurd c_5 (by decide)) (fun c_5 => ?_)
        first | refine a_aload_n K dX11_readPlan_8 rfl ?_ | refine a_aload_nN K dX11_readPlan_8 rfl ?_
        refine a_iconst K dX11_readPlan_9 (v := 4) (by decide) ?_
        refine a_bipush K dX11_readPlan_10 (v := 64) (by decide) ?_
        refine a_iload_n K dX11_readPlan_12 rfl ?_
        refine a_iadd K dX11_readPlan_13 ?_
        refine a_imul K dX11_readPlan_14 ?_
        rw [show (4 : Int32) * (64 + nI E.length) = nI (4 * (64 + E.length)) from by rw [show (64 : Int32) = nI 64 from rfl, nI_add]; exact (Int32.ofNat_mul 4 (64 + E.length)).symm]
        refine a_invV K (q_readStep (R := 4 * (64 + E.length)) hM hT hp (by omega) ha hf) my_X11_readStep ml_X11_171 im_X11_readStep se_X11_readStep (ci := 11) (by exact lm_o hM) (by decide) ⟨_, _, rfl⟩ rfl (by omega) (by omega) (by omega) rfl (Nat.le_of_ble_eq_true rfl) dX11_readPlan_15 ?_
        intro r9 S1 hp9
        obtain ⟨rfl, ha, hf, hst, kr, g1⟩ := hp9
        have k3 := k3.tr (ke3.st hM kr (by omega) g1)
        have hT := hT.fr hM g1 (by decide) (by decide) (by decide)
        have f := f.tr (g1.up (by decide) (by decide))
        have hM0 := hM
        have hM := g1.lay hM
        first | refine a_aload_n K dX11_readPlan_18 rfl ?_ | refine a_aload_nN K dX11_readPlan_18 rfl ?_
        refine a_getI K fd_X11_137 (by exact lm_o hM) (Or.inl rfl) dX11_readPlan_19 ?_
        rw [hf, fltS_n hs]
        refine a_iconst K dX11_readPlan_22 (v := -1) (by decide) ?_
        refine a_icmp_eq K dX11_readPlan_23 (tgt := 27) (by decide) (fun c_23 => absurd c_23 (nI_m1n (n := (ostR L p).1) (by omega))) (fun c_23 => ?_)
        exact a_vret K EE (by omega) (by omega) dX11_readPlan_26 (by rw [← hF, stsR_f hs]; exact ⟨rfl, hf.trans (fltS_n hs), fun z => absurd z (by simp), k3, f⟩)
      | some s =>
        by_cases he : L.length ≤ skB L (ostR L p).1
        · refine a_iload_n K dX11_readPlan_4 rfl ?_
          refine a_if_eq K dX11_readPlan_5 (tgt := 77) (by decide) (fun c_5 => absurd c_5 (by decide)) (fun c_5 => ?_)
          first | refine a_aload_n K dX11_readPlan_8 rfl ?_ | refine a_aload_nN K dX11_readPlan_8 rfl ?_
          refine a_iconst K dX11_readPlan_9 (v := 4) (by decide) ?_
          refine a_bipush K dX11_readPlan_10 (v := 64) (by decide) ?_
          refine a_iload_n K dX11_readPlan_12 rfl ?_
          refine a_iadd K dX11_readPlan_13 ?_
          refine a_imul K dX11_readPlan_14 ?_
          rw [show (4 : Int32) * (64 + nI E.length) = nI (4 * (64 + E.length)) from by rw [show (64 : Int32) = nI 64 from rfl, nI_add]; exact (Int32.ofNat_mul 4 (64 + E.length)).symm]
          refine a_invV K (q_readStep (R := 4 * (64 + E.length)) hM hT hp (by omega) ha hf) my_X11_readStep ml_X11_171 im_X11_readStep se_X11_readStep (ci := 11) (by exact lm_o hM) (by decide) ⟨_, _, rfl⟩ rfl (by omega) (by omega) (by omega) rfl (Nat.le_of_ble_eq_true rfl) dX11_readPlan_15 ?_
          intro r9 S1 hp9
          obtain ⟨rfl, ha, hf, hst, kr, g1⟩ := hp9
          have k3 := k3.tr (ke3.st hM kr (by omega) g1)
          have hT := hT.fr hM g1 (by decide) (by decide) (by decide)
          have f := f.tr (g1.up (by decide) (by decide))
          have hM0 := hM
          have hM := g1.lay hM
          first | refine a_aload_n K dX11_readPlan_18 rfl ?_ | refine a_aload_nN K dX11_readPlan_18 rfl ?_
          refine a_getI K fd_X11_137 (by exact lm_o hM) (Or.inl rfl) dX11_readPlan_19 ?_
          have hf := hf.trans (fltS_s hs)
          have hE : PlE S1 m (E ++ [s]) := hE.app kr (hst s hs)
          have hlE : (E ++ [s]).length = E.length + 1 := by rw [List.length_append, List.length_singleton]
          rw [hf]
          refine a_iconst K dX11_readPlan_22 (v := -1) (by decide) ?_
          refine a_icmp_eq K dX11_readPlan_23 (tgt := 27) (by decide) (fun c_23 => ?_) (fun c_23 => absurd c_23 (fun z => z rfl))
          refine a_iinc K dX11_readPlan_27 (v := 1) rfl (by decide) (by decide) ?_
          rw [nI_1]
          first | refine a_aload_n K dX11_readPlan_30 rfl ?_ | refine a_aload_nN K dX11_readPlan_30 rfl ?_
          refine a_invV K (q_look hM hT (by omega) ha) my_X11_look ml_X11_140 im_X11_look se_X11_look (ci := 11) (by exact lm_o hM) (by decide) ⟨_, _, rfl⟩ rfl (by omega) (by omega) (by omega) rfl (Nat.le_of_ble_eq_true rfl) dX11_readPlan_31 ?_
          intro r9 S2 hp9
          obtain ⟨rfl, ha, g2⟩ := hp9
          have hf := (g2.2 708 (by decide)).trans hf
          have hT := hT.fr hM g2 (by decide) (by decide) (by decide)
          have hE := hE.fr hM g2 (by decide) (by decide)
          have k3 := k3.tr (ke3.fr hM g2 (by decide) (by decide) (by decide))
          have f := f.tr (g2.up (fun k hk => absurd hk (by simp)) (by decide))
          have hM := g2.lay hM
          refine a_bipush K dX11_readPlan_34 (v := 59) (by decide) ?_
          refine a_icmp_ne K dX11_readPlan_36 (tgt := 43) (by decide) (fun c_36 => ?_) (fun c_36 => absurd c_36 (fun z => by rw [chr_out he] at z; exact absurd z (by decide)))
          refine a_iconst K dX11_readPlan_43 (v := 0) (by decide) ?_
          refine a_istore_n K dX11_readPlan_44 (by decide) ?_
          refine a_iload_n K dX11_readPlan_45 rfl ?_
          refine a_if_eq K dX11_readPlan_46 (tgt := 60) (by decide) (fun c_46 => ?_) (fun c_46 => absurd c_46 (fun z => z rfl))
          refine a_iload_n K dX11_readPlan_60 rfl ?_
          refine a_if_eq K dX11_readPlan_61 (tgt := 4) (by decide) (fun c_61 => ?_) (fun c_61 => absurd c_61 (fun z => z rfl))
          refine a_iload_n K dX11_readPlan_4 rfl ?_
          refine a_if_eq K dX11_readPlan_5 (tgt := 77) (by decide) (fun c_5 => ?_) (fun c_5 => absurd c_5 (fun z => z rfl))
          first | refine a_aload_n K dX11_readPlan_77 rfl ?_ | refine a_aload_nN K dX11_readPlan_77 rfl ?_
          refine a_getRs K fd_X11_20 (by exact lm_o hM) (Or.inr ⟨_, rfl⟩) (by exact lm_r711 hM) dX11_readPlan_78 ?_
          refine a_iconst K dX11_readPlan_81 (v := 4) (by decide) ?_
          refine a_iload_n K dX11_readPlan_82 rfl ?_
          refine a_iast K (by exact lm_kk hM (by decide) (by decide)) (by show vp_in _ (sN S2 (m 3)); exact lm_ix (z := 5) hM (by decide) (by decide) (show 4 < 5 by omega) (by decide)) dX11_readPlan_83 ?_
          rw [show (4 : Int32).toNatClampNeg = 4 from rfl]
          have g5 : frM S2 (wA S2 (m 3) 4 (nI (E.length + 1))) m [3] [] := frM_wA (by decide)
          have hT := hT.fr hM g5 (by decide) (by decide) (by decide)
          have hE := hE.fr hM g5 (by decide) (by decide)
          have k3 : ke3 S (wA S2 (m 3) 4 (nI (E.length + 1))) m := k3.tr ⟨fun i _ => congrFun (g5.A hM (by decide) (by decide) (by decide)) i, fun i hi => by rw [sA_wA, if_neg (fun z => by have := z.2; omega)]⟩
          have ha : sI (wA S2 (m 3) 4 (nI (E.length + 1))) 707 (m 33) = _ := ha
          have hf : sI (wA S2 (m 3) 4 (nI (E.length + 1))) 708 (m 33) = _ := hf
          have h4 : sA (wA S2 (m 3) 4 (nI (E.length + 1))) (m 3) 4 = nI (E ++ [s]).length := by rw [sA_wA, if_pos ⟨rfl, rfl⟩, hlE]
          have f := f.tr (g5.up (by decide) (by decide))
          have hM := g5.lay hM
          first | refine a_aload_n K dX11_readPlan_84 rfl ?_ | refine a_aload_nN K dX11_readPlan_84 rfl ?_
          refine a_invV K (q_look hM hT (by omega) ha) my_X11_look ml_X11_140 im_X11_look se_X11_look (ci := 11) (by exact lm_o hM) (by decide) ⟨_, _, rfl⟩ rfl (by omega) (by omega) (by omega) rfl (Nat.le_of_ble_eq_true rfl) dX11_readPlan_85 ?_
          intro r9 S3 hp9
          obtain ⟨rfl, ha, g6⟩ := hp9
          have hf := (g6.2 708 (by decide)).trans hf
          have hT := hT.fr hM g6 (by decide) (by decide) (by decide)
          have hE := hE.fr hM g6 (by decide) (by decide)
          have k3 := k3.tr (ke3.fr hM g6 (by decide) (by decide) (by decide))
          have f := f.tr (g6.up (fun k hk => absurd hk (by simp)) (by decide))
          have h4 : sA S3 (m 3) 4 = nI (E ++ [s]).length := (congrFun (g6.A hM (by decide) (by decide) (by decide)) 4).trans h4
          rw [skB_skB]
          rw [skB_skB] at ha
          have hM := g6.lay hM
          refine a_iconst K dX11_readPlan_88 (v := -1) (by decide) ?_
          refine a_icmp_eq K dX11_readPlan_89 (tgt := 96) (by decide) (fun c_89 => ?_) (fun c_89 => absurd c_89 (fun z => z (chr_out he)))
          exact a_vret K EE (by omega) (by omega) dX11_readPlan_96 (by rw [← hF, stsR_s hs, if_pos he]; exact ⟨rfl, hf, fun _ => ⟨hE, h4⟩, k3, f⟩)
        · by_cases hc : chr L (skB L (ostR L p).1) = 59
          · have hlt : skB L (ostR L p).1 < L.length := Nat.lt_of_not_le he
            refine a_iload_n K dX11_readPlan_4 rfl ?_
            refine a_if_eq K dX11_readPlan_5 (tgt := 77) (by decide) (fun c_5 => absurd c_5 (by decide)) (fun c_5 => ?_)
            first | refine a_aload_n K dX11_readPlan_8 rfl ?_ | refine a_aload_nN K dX11_readPlan_8 rfl ?_
            refine a_iconst K dX11_readPlan_9 (v := 4) (by decide) ?_
            refine a_bipush K dX11_readPlan_10 (v := 64) (by decide) ?_
            refine a_iload_n K dX11_readPlan_12 rfl ?_
            refine a_iadd K dX11_readPlan_13 ?_
            refine a_imul K dX11_readPlan_14 ?_
            rw [show (4 : Int32) * (64 + nI E.length) = nI (4 * (64 + E.length)) from by rw [show (64 : Int32) = nI 64 from rfl, nI_add]; exact (Int32.ofNat_mul 4 (64 + E.length)).symm]
            refine a_invV K (q_readStep (R := 4 * (64 + E.length)) hM hT hp (by omega) ha hf) my_X11_readStep ml_X11_171 im_X11_readStep se_X11_readStep (ci := 11) (by exact lm_o hM) (by decide) ⟨_, _, rfl⟩ rfl (by omega) (by omega) (by omega) rfl (Nat.le_of_ble_eq_true rfl) dX11_readPlan_15 ?_
            intro r9 S1 hp9
            obtain ⟨rfl, ha, hf, hst, kr, g1⟩ := hp9
            have k3 := k3.tr (ke3.st hM kr (by omega) g1)
            have hT := hT.fr hM g1 (by decide) (by decide) (by decide)
            have f := f.tr (g1.up (by decide) (by decide))
            have hM0 := hM
            have hM := g1.lay hM
            first | refine a_aload_n K dX11_readPlan_18 rfl ?_ | refine a_aload_nN K dX11_readPlan_18 rfl ?_
            refine a_getI K fd_X11_137 (by exact lm_o hM) (Or.inl rfl) dX11_readPlan_19 ?_
            have hf := hf.trans (fltS_s hs)
            have hE : PlE S1 m (E ++ [s]) := hE.app kr (hst s hs)
            have hlE : (E ++ [s]).length = E.length + 1 := by rw [List.length_append, List.length_singleton]
            rw [hf]
            refine a_iconst K dX11_readPlan_22 (v := -1) (by decide) ?_
            refine a_icmp_eq K dX11_readPlan_23 (tgt := 27) (by decide) (fun c_23 => ?_) (fun c_23 => absurd c_23 (fun z => z rfl))
            refine a_iinc K dX11_readPlan_27 (v := 1) rfl (by decide) (by decide) ?_
            rw [nI_1]
            first | refine a_aload_n K dX11_readPlan_30 rfl ?_ | refine a_aload_nN K dX11_readPlan_30 rfl ?_
            refine a_invV K (q_look hM hT (by omega) ha) my_X11_look ml_X11_140 im_X11_look se_X11_look (ci := 11) (by exact lm_o hM) (by decide) ⟨_, _, rfl⟩ rfl (by omega) (by omega) (by omega) rfl (Nat.le_of_ble_eq_true rfl) dX11_readPlan_31 ?_
            intro r9 S2 hp9
            obtain ⟨rfl, ha, g2⟩ := hp9
            have hf := (g2.2 708 (by decide)).trans hf
            have hT := hT.fr hM g2 (by decide) (by decide) (by decide)
            have hE := hE.fr hM g2 (by decide) (by decide)
            have k3 := k3.tr (ke3.fr hM g2 (by decide) (by decide) (by decide))
            have f := f.tr (g2.up (fun k hk => absurd hk (by simp)) (by decide))
            have hM := g2.lay hM
            refine a_bipush K dX11_readPlan_34 (v := 59) (by decide) ?_
            refine a_icmp_ne K dX11_readPlan_36 (tgt := 43) (by decide) (fun c_36 => absurd c_36 (fun z => z hc)) (fun c_36 => ?_)
            refine a_iconst K dX11_readPlan_39 (v := 1) (by decide) ?_
            refine a_goto K dX11_readPlan_40 (tgt := 44) (by decide) ?_
            refine a_istore_n K dX11_readPlan_44 (by decide) ?_
            refine a_iload_n K dX11_readPlan_45 rfl ?_
            refine a_if_eq K dX11_readPlan_46 (tgt := 60) (by decide) (fun c_46 => absurd c_46 (by decide)) (fun c_46 => ?_)
            refine a_iload_n K dX11_readPlan_49 rfl ?_
            refine a_bipush K dX11_readPlan_50 (v := 16) (by decide) ?_
            refine a_icmp_ne K dX11_readPlan_52 (tgt := 60) (by decide) (fun c_52 => absurd c_52 (fun z => z (by rw [show E.length + 1 = 16 by omega]; rfl))) (fun c_52 => ?_)
            first | refine a_aload_n K dX11_readPlan_55 rfl ?_ | refine a_aload_nN K dX11_readPlan_55 rfl ?_
            refine a_invV K (q_fails hM ha hf) my_X11_fails ml_X11_147 im_X11_fails se_X11_fails (ci := 11) (by exact lm_o hM) (by decide) ⟨_, _, rfl⟩ rfl (by omega) (by omega) (by omega) rfl (Nat.le_of_ble_eq_true rfl) dX11_readPlan_56 ?_
            intro r9 S9 hp9
            obtain ⟨rfl, rfl⟩ := hp9
            exact a_vret K EE (by omega) (by omega) dX11_readPlan_59 (by have g9 : frM S2 (wI S2 708 (m 33) (nI (skB L (ostR L p).1))) m [] [708] := frM_wI (by decide) (by decide); rw [← hF, stsR_s hs, if_neg he, if_pos rfl]; exact ⟨rfl, wI_at, fun z => absurd z (by simp), k3.tr (ke3.fr hM g9 (by decide) (by decide) (by decide)), f.tr (g9.up (fun k hk => absurd hk (by simp)) (by decide))⟩)
          · refine a_iload_n K dX11_readPlan_4 rfl ?_
            refine a_if_eq K dX11_readPlan_5 (tgt := 77) (by decide) (fun c_5 => absurd c_5 (by decide)) (fun c_5 => ?_)
            first | refine a_aload_n K dX11_readPlan_8 rfl ?_ | refine a_aload_nN K dX11_readPlan_8 rfl ?_
            refine a_iconst K dX11_readPlan_9 (v := 4) (by decide) ?_
            refine a_bipush K dX11_readPlan_10 (v := 64) (by decide) ?_
            refine a_iload_n K dX11_readPlan_12 rfl ?_
            refine a_iadd K dX11_readPlan_13 ?_
            refine a_imul K dX11_readPlan_14 ?_
            rw [show (4 : Int32) * (64 + nI E.length) = nI (4 * (64 + E.length)) from by rw [show (64 : Int32) = nI 64 from rfl, nI_add]; exact (Int32.ofNat_mul 4 (64 + E.length)).symm]
            refine a_invV K (q_readStep (R := 4 * (64 + E.length)) hM hT hp (by omega) ha hf) my_X11_readStep ml_X11_171 im_X11_readStep se_X11_readStep (ci := 11) (by exact lm_o hM) (by decide) ⟨_, _, rfl⟩ rfl (by omega) (by omega) (by omega) rfl (Nat.le_of_ble_eq_true rfl) dX11_readPlan_15 ?_
            intro r9 S1 hp9
            obtain ⟨rfl, ha, hf, hst, kr, g1⟩ := hp9
            have k3 := k3.tr (ke3.st hM kr (by omega) g1)
            have hT := hT.fr hM g1 (by decide) (by decide) (by decide)
            have f := f.tr (g1.up (by decide) (by decide))
            have hM0 := hM
            have hM := g1.lay hM
            first | refine a_aload_n K dX11_readPlan_18 rfl ?_ | refine a_aload_nN K dX11_readPlan_18 rfl ?_
            refine a_getI K fd_X11_137 (by exact lm_o hM) (Or.inl rfl) dX11_readPlan_19 ?_
            have hf := hf.trans (fltS_s hs)
            have hE : PlE S1 m (E ++ [s]) := hE.app kr (hst s hs)
            have hlE : (E ++ [s]).length = E.length + 1 := by rw [List.length_append, List.length_singleton]
            rw [hf]
            refine a_iconst K dX11_readPlan_22 (v := -1) (by decide) ?_
            refine a_icmp_eq K dX11_readPlan_23 (tgt := 27) (by decide) (fun c_23 => ?_) (fun c_23 => absurd c_23 (fun z => z rfl))
            refine a_iinc K dX11_readPlan_27 (v := 1) rfl (by decide) (by decide) ?_
            rw [nI_1]
            first | refine a_aload_n K dX11_readPlan_30 rfl ?_ | refine a_aload_nN K dX11_readPlan_30 rfl ?_
            refine a_invV K (q_look hM hT (by omega) ha) my_X11_look ml_X11_140 im_X11_look se_X11_look (ci := 11) (by exact lm_o hM) (by decide) ⟨_, _, rfl⟩ rfl (by omega) (by omega) (by omega) rfl (Nat.le_of_ble_eq_true rfl) dX11_readPlan_31 ?_
            intro r9 S2 hp9
            obtain ⟨rfl, ha, g2⟩ := hp9
            have hf := (g2.2 708 (by decide)).trans hf
            have hT := hT.fr hM g2 (by decide) (by decide) (by decide)
            have hE := hE.fr hM g2 (by decide) (by decide)
            have k3 := k3.tr (ke3.fr hM g2 (by decide) (by decide) (by decide))
            have f := f.tr (g2.up (fun k hk => absurd hk (by simp)) (by decide))
            have hM := g2.lay hM
            refine a_bipush K dX11_readPlan_34 (v := 59) (by decide) ?_
            refine a_icmp_ne K dX11_readPlan_36 (tgt := 43) (by decide) (fun c_36 => ?_) (fun c_36 => absurd c_36 (hc))
            refine a_iconst K dX11_readPlan_43 (v := 0) (by decide) ?_
            refine a_istore_n K dX11_readPlan_44 (by decide) ?_
            refine a_iload_n K dX11_readPlan_45 rfl ?_
            refine a_if_eq K dX11_readPlan_46 (tgt := 60) (by decide) (fun c_46 => ?_) (fun c_46 => absurd c_46 (fun z => z rfl))
            refine a_iload_n K dX11_readPlan_60 rfl ?_
            refine a_if_eq K dX11_readPlan_61 (tgt := 4) (by decide) (fun c_61 => ?_) (fun c_61 => absurd c_61 (fun z => z rfl))
            refine a_iload_n K dX11_readPlan_4 rfl ?_
            refine a_if_eq K dX11_readPlan_5 (tgt := 77) (by decide) (fun c_5 => ?_) (fun c_5 => absurd c_5 (fun z => z rfl))
            first | refine a_aload_n K dX11_readPlan_77 rfl ?_ | refine a_aload_nN K dX11_readPlan_77 rfl ?_
            refine a_getRs K fd_X11_20 (by exact lm_o hM) (Or.inr ⟨_, rfl⟩) (by exact lm_r711 hM) dX11_readPlan_78 ?_
            refine a_iconst K dX11_readPlan_81 (v := 4) (by decide) ?_
            refine a_iload_n K dX11_readPlan_82 rfl ?_
            refine a_iast K (by exact lm_kk hM (by decide) (by decide)) (by show vp_in _ (sN S2 (m 3)); exact lm_ix (z := 5) hM (by decide) (by decide) (show 4 < 5 by omega) (by decide)) dX11_readPlan_83 ?_
            rw [show (4 : Int32).toNatClampNeg = 4 from rfl]
            have g5 : frM S2 (wA S2 (m 3) 4 (nI (E.length + 1))) m [3] [] := frM_wA (by decide)
            have hT := hT.fr hM g5 (by decide) (by decide) (by decide)
            have hE := hE.fr hM g5 (by decide) (by decide)
            have k3 : ke3 S (wA S2 (m 3) 4 (nI (E.length + 1))) m := k3.tr ⟨fun i _ => congrFun (g5.A hM (by decide) (by decide) (by decide)) i, fun i hi => by rw [sA_wA, if_neg (fun z => by have := z.2; omega)]⟩
            have ha : sI (wA S2 (m 3) 4 (nI (E.length + 1))) 707 (m 33) = _ := ha
            have hf : sI (wA S2 (m 3) 4 (nI (E.length + 1))) 708 (m 33) = _ := hf
            have h4 : sA (wA S2 (m 3) 4 (nI (E.length + 1))) (m 3) 4 = nI (E ++ [s]).length := by rw [sA_wA, if_pos ⟨rfl, rfl⟩, hlE]
            have f := f.tr (g5.up (by decide) (by decide))
            have hM := g5.lay hM
            first | refine a_aload_n K dX11_readPlan_84 rfl ?_ | refine a_aload_nN K dX11_readPlan_84 rfl ?_
            refine a_invV K (q_look hM hT (by omega) ha) my_X11_look ml_X11_140 im_X11_look se_X11_look (ci := 11) (by exact lm_o hM) (by decide) ⟨_, _, rfl⟩ rfl (by omega) (by omega) (by omega) rfl (Nat.le_of_ble_eq_true rfl) dX11_readPlan_85 ?_
            intro r9 S3 hp9
            obtain ⟨rfl, ha, g6⟩ := hp9
            have hf := (g6.2 708 (by decide)).trans hf
            have hT := hT.fr hM g6 (by decide) (by decide) (by decide)
            have hE := hE.fr hM g6 (by decide) (by decide)
            have k3 := k3.tr (ke3.fr hM g6 (by decide) (by decide) (by decide))
            have f := f.tr (g6.up (fun k hk => absurd hk (by simp)) (by decide))
            have h4 : sA S3 (m 3) 4 = nI (E ++ [s]).length := (congrFun (g6.A hM (by decide) (by decide) (by decide)) 4).trans h4
            rw [skB_skB]
            rw [skB_skB] at ha
            have hM := g6.lay hM
            refine a_iconst K dX11_readPlan_88 (v := -1) (by decide) ?_
            refine a_icmp_eq K dX11_readPlan_89 (tgt := 96) (by decide) (fun c_89 => absurd c_89 (tp_ne hT0 (by omega))) (fun c_89 => ?_)
            first | refine a_aload_n K dX11_readPlan_92 rfl ?_ | refine a_aload_nN K dX11_readPlan_92 rfl ?_
            refine a_invV K (q_fails hM ha hf) my_X11_fails ml_X11_147 im_X11_fails se_X11_fails (ci := 11) (by exact lm_o hM) (by decide) ⟨_, _, rfl⟩ rfl (by omega) (by omega) (by omega) rfl (Nat.le_of_ble_eq_true rfl) dX11_readPlan_93 ?_
            intro r9 S9 hp9
            obtain ⟨rfl, rfl⟩ := hp9
            exact a_vret K EE (by omega) (by omega) dX11_readPlan_96 (by have g9 : frM S3 (wI S3 708 (m 33) (nI (skB L (ostR L p).1))) m [] [708] := frM_wI (by decide) (by decide); rw [← hF, stsR_s hs, if_neg he, if_pos rfl]; exact ⟨rfl, wI_at, fun z => absurd z (by simp), k3.tr (ke3.fr hM g9 (by decide) (by decide) (by decide)), f.tr (g9.up (fun k hk => absurd hk (by simp)) (by decide))⟩)
    | succ n ih =>
      intro p E T hp hnE hM hT hE ha hf k3 f hF
      have h240 := hT.2.1
      have k1 := ostR_le hp
      have k2 := skB_le k1.2
      have hT0 := hT
      cases hs : (ostR L p).2 with
      | none =>
        refine a_iload_n K dX11_readPlan_4 rfl ?_
        refine a_if_eq K dX11_readPlan_5 (tgt := 77) (by decide) (fun c_5 => absurd c_5 (by decide)) (fun c_5 => ?_)
        first | refine a_aload_n K dX11_readPlan_8 rfl ?_ | refine a_aload_nN K dX11_readPlan_8 rfl ?_
        refine a_iconst K dX11_readPlan_9 (v := 4) (by decide) ?_
        refine a_bipush K dX11_readPlan_10 (v := 64) (by decide) ?_
        refine a_iload_n K dX11_readPlan_12 rfl ?_
        refine a_iadd K dX11_readPlan_13 ?_
        refine a_imul K dX11_readPlan_14 ?_
        rw [show (4 : Int32) * (64 + nI E.length) = nI (4 * (64 + E.length)) from by rw [show (64 : Int32) = nI 64 from rfl, nI_add]; exact (Int32.ofNat_mul 4 (64 + E.length)).symm]
        refine a_invV K (q_readStep (R := 4 * (64 + E.length)) hM hT hp (by omega) ha hf) my_X11_readStep ml_X11_171 im_X11_readStep se_X11_readStep (ci := 11) (by exact lm_o hM) (by decide) ⟨_, _, rfl⟩ rfl (by omega) (by omega) (by omega) rfl (Nat.le_of_ble_eq_true rfl) dX11_readPlan_15 ?_
        intro r9 S1 hp9
        obtain ⟨rfl, ha, hf, hst, kr, g1⟩ := hp9
        have k3 := k3.tr (ke3.st hM kr (by omega) g1)
        have hT := hT.fr hM g1 (by decide) (by decide) (by decide)
        have f := f.tr (g1.up (by decide) (by decide))
        have hM0 := hM
        have hM := g1.lay hM
        first | refine a_aload_n K dX11_readPlan_18 rfl ?_ | refine a_aload_nN K dX11_readPlan_18 rfl ?_
        refine a_getI K fd_X11_137 (by exact lm_o hM) (Or.inl rfl) dX11_readPlan_19 ?_
        rw [hf, fltS_n hs]
        refine a_iconst K dX11_readPlan_22 (v := -1) (by decide) ?_
        refine a_icmp_eq K dX11_readPlan_23 (tgt := 27) (by decide) (fun c_23 => absurd c_23 (nI_m1n (n := (ostR L p).1) (by omega))) (fun c_23 => ?_)
        exact a_vret K EE (by omega) (by omega) dX11_readPlan_26 (by rw [← hF, stsR_f hs]; exact ⟨rfl, hf.trans (fltS_n hs), fun z => absurd z (by simp), k3, f⟩)
      | some s =>
        by_cases he : L.length ≤ skB L (ostR L p).1
        · refine a_iload_n K dX11_readPlan_4 rfl ?_
          refine a_if_eq K dX11_readPlan_5 (tgt := 77) (by decide) (fun c_5 => absurd c_5 (by decide)) (fun c_5 => ?_)
          first | refine a_aload_n K dX11_readPlan_8 rfl ?_ | refine a_aload_nN K dX11_readPlan_8 rfl ?_
          refine a_iconst K dX11_readPlan_9 (v := 4) (by decide) ?_
          refine a_bipush K dX11_readPlan_10 (v := 64) (by decide) ?_
          refine a_iload_n K dX11_readPlan_12 rfl ?_
          refine a_iadd K dX11_readPlan_13 ?_
          refine a_imul K dX11_readPlan_14 ?_
          rw [show (4 : Int32) * (64 + nI E.length) = nI (4 * (64 + E.length)) from by rw [show (64 : Int32) = nI 64 from rfl, nI_add]; exact (Int32.ofNat_mul 4 (64 + E.length)).symm]
          refine a_invV K (q_readStep (R := 4 * (64 + E.length)) hM hT hp (by omega) ha hf) my_X11_readStep ml_X11_171 im_X11_readStep se_X11_readStep (ci := 11) (by exact lm_o hM) (by decide) ⟨_, _, rfl⟩ rfl (by omega) (by omega) (by omega) rfl (Nat.le_of_ble_eq_true rfl) dX11_readPlan_15 ?_
          intro r9 S1 hp9
          obtain ⟨rfl, ha, hf, hst, kr, g1⟩ := hp9
          have k3 := k3.tr (ke3.st hM kr (by omega) g1)
          have hT := hT.fr hM g1 (by decide) (by decide) (by decide)
          have f := f.tr (g1.up (by decide) (by decide))
          have hM0 := hM
          have hM := g1.lay hM
          first | refine a_aload_n K dX11_readPlan_18 rfl ?_ | refine a_aload_nN K dX11_readPlan_18 rfl ?_
          refine a_getI K fd_X11_137 (by exact lm_o hM) (Or.inl rfl) dX11_readPlan_19 ?_
          have hf := hf.trans (fltS_s hs)
          have hE : PlE S1 m (E ++ [s]) := hE.app kr (hst s hs)
          have hlE : (E ++ [s]).length = E.length + 1 := by rw [List.length_append, List.length_singleton]
          rw [hf]
          refine a_iconst K dX11_readPlan_22 (v := -1) (by decide) ?_
          refine a_icmp_eq K dX11_readPlan_23 (tgt := 27) (by decide) (fun c_23 => ?_) (fun c_23 => absurd c_23 (fun z => z rfl))
          refine a_iinc K dX11_readPlan_27 (v := 1) rfl (by decide) (by decide) ?_
          rw [nI_1]
          first | refine a_aload_n K dX11_readPlan_30 rfl ?_ | refine a_aload_nN K dX11_readPlan_30 rfl ?_
          refine a_invV K (q_look hM hT (by omega) ha) my_X11_look ml_X11_140 im_X11_look se_X11_look (ci := 11) (by exact lm_o hM) (by decide) ⟨_, _, rfl⟩ rfl (by omega) (by omega) (by omega) rfl (Nat.le_of_ble_eq_true rfl) dX11_readPlan_31 ?_
          intro r9 S2 hp9
          obtain ⟨rfl, ha, g2⟩ := hp9
          have hf := (g2.2 708 (by decide)).trans hf
          have hT := hT.fr hM g2 (by decide) (by decide) (by decide)
          have hE := hE.fr hM g2 (by decide) (by decide)
          have k3 := k3.tr (ke3.fr hM g2 (by decide) (by decide) (by decide))
          have f := f.tr (g2.up (fun k hk => absurd hk (by simp)) (by decide))
          have hM := g2.lay hM
          refine a_bipush K dX11_readPlan_34 (v := 59) (by decide) ?_
          refine a_icmp_ne K dX11_readPlan_36 (tgt := 43) (by decide) (fun c_36 => ?_) (fun c_36 => absurd c_36 (fun z => by rw [chr_out he] at z; exact absurd z (by decide)))
          refine a_iconst K dX11_readPlan_43 (v := 0) (by decide) ?_
          refine a_istore_n K dX11_readPlan_44 (by decide) ?_
          refine a_iload_n K dX11_readPlan_45 rfl ?_
          refine a_if_eq K dX11_readPlan_46 (tgt := 60) (by decide) (fun c_46 => ?_) (fun c_46 => absurd c_46 (fun z => z rfl))
          refine a_iload_n K dX11_readPlan_60 rfl ?_
          refine a_if_eq K dX11_readPlan_61 (tgt := 4) (by decide) (fun c_61 => ?_) (fun c_61 => absurd c_61 (fun z => z rfl))
          refine a_iload_n K dX11_readPlan_4 rfl ?_
          refine a_if_eq K dX11_readPlan_5 (tgt := 77) (by decide) (fun c_5 => ?_) (fun c_5 => absurd c_5 (fun z => z rfl))
          first | refine a_aload_n K dX11_readPlan_77 rfl ?_ | refine a_aload_nN K dX11_readPlan_77 rfl ?_
          refine a_getRs K fd_X11_20 (by exact lm_o hM) (Or.inr ⟨_, rfl⟩) (by exact lm_r711 hM) dX11_readPlan_78 ?_
          refine a_iconst K dX11_readPlan_81 (v := 4) (by decide) ?_
          refine a_iload_n K dX11_readPlan_82 rfl ?_
          refine a_iast K (by exact lm_kk hM (by decide) (by decide)) (by show vp_in _ (sN S2 (m 3)); exact lm_ix (z := 5) hM (by decide) (by decide) (show 4 < 5 by omega) (by decide)) dX11_readPlan_83 ?_
          rw [show (4 : Int32).toNatClampNeg = 4 from rfl]
          have g5 : frM S2 (wA S2 (m 3) 4 (nI (E.length + 1))) m [3] [] := frM_wA (by decide)
          have hT := hT.fr hM g5 (by decide) (by decide) (by decide)
          have hE := hE.fr hM g5 (by decide) (by decide)
          have k3 : ke3 S (wA S2 (m 3) 4 (nI (E.length + 1))) m := k3.tr ⟨fun i _ => congrFun (g5.A hM (by decide) (by decide) (by decide)) i, fun i hi => by rw [sA_wA, if_neg (fun z => by have := z.2; omega)]⟩
          have ha : sI (wA S2 (m 3) 4 (nI (E.length + 1))) 707 (m 33) = _ := ha
          have hf : sI (wA S2 (m 3) 4 (nI (E.length + 1))) 708 (m 33) = _ := hf
          have h4 : sA (wA S2 (m 3) 4 (nI (E.length + 1))) (m 3) 4 = nI (E ++ [s]).length := by rw [sA_wA, if_pos ⟨rfl, rfl⟩, hlE]
          have f := f.tr (g5.up (by decide) (by decide))
          have hM := g5.lay hM
          first | refine a_aload_n K dX11_readPlan_84 rfl ?_ | refine a_aload_nN K dX11_readPlan_84 rfl ?_
          refine a_invV K (q_look hM hT (by omega) ha) my_X11_look ml_X11_140 im_X11_look se_X11_look (ci := 11) (by exact lm_o hM) (by decide) ⟨_, _, rfl⟩ rfl (by omega) (by omega) (by omega) rfl (Nat.le_of_ble_eq_true rfl) dX11_readPlan_85 ?_
          intro r9 S3 hp9
          obtain ⟨rfl, ha, g6⟩ := hp9
          have hf := (g6.2 708 (by decide)).trans hf
          have hT := hT.fr hM g6 (by decide) (by decide) (by decide)
          have hE := hE.fr hM g6 (by decide) (by decide)
          have k3 := k3.tr (ke3.fr hM g6 (by decide) (by decide) (by decide))
          have f := f.tr (g6.up (fun k hk => absurd hk (by simp)) (by decide))
          have h4 : sA S3 (m 3) 4 = nI (E ++ [s]).length := (congrFun (g6.A hM (by decide) (by decide) (by decide)) 4).trans h4
          rw [skB_skB]
          rw [skB_skB] at ha
          have hM := g6.lay hM
          refine a_iconst K dX11_readPlan_88 (v := -1) (by decide) ?_
          refine a_icmp_eq K dX11_readPlan_89 (tgt := 96) (by decide) (fun c_89 => ?_) (fun c_89 => absurd c_89 (fun z => z (chr_out he)))
          exact a_vret K EE (by omega) (by omega) dX11_readPlan_96 (by rw [← hF, stsR_s hs, if_pos he]; exact ⟨rfl, hf, fun _ => ⟨hE, h4⟩, k3, f⟩)
        · by_cases hc : chr L (skB L (ostR L p).1) = 59
          · have hlt : skB L (ostR L p).1 < L.length := Nat.lt_of_not_le he
            refine a_iload_n K dX11_readPlan_4 rfl ?_
            refine a_if_eq K dX11_readPlan_5 (tgt := 77) (by decide) (fun c_5 => absurd c_5 (by decide)) (fun c_5 => ?_)
            first | refine a_aload_n K dX11_readPlan_8 rfl ?_ | refine a_aload_nN K dX11_readPlan_8 rfl ?_
            refine a_iconst K dX11_readPlan_9 (v := 4) (by decide) ?_
            refine a_bipush K dX11_readPlan_10 (v := 64) (by decide) ?_
            refine a_iload_n K dX11_readPlan_12 rfl ?_
            refine a_iadd K dX11_readPlan_13 ?_
            refine a_imul K dX11_readPlan_14 ?_
            rw [show (4 : Int32) * (64 + nI E.length) = nI (4 * (64 + E.length)) from by rw [show (64 : Int32) = nI 64 from rfl, nI_add]; exact (Int32.ofNat_mul 4 (64 + E.length)).symm]
            refine a_invV K (q_readStep (R := 4 * (64 + E.length)) hM hT hp (by omega) ha hf) my_X11_readStep ml_X11_171 im_X11_readStep se_X11_readStep (ci := 11) (by exact lm_o hM) (by decide) ⟨_, _, rfl⟩ rfl (by omega) (by omega) (by omega) rfl (Nat.le_of_ble_eq_true rfl) dX11_readPlan_15 ?_
            intro r9 S1 hp9
            obtain ⟨rfl, ha, hf, hst, kr, g1⟩ := hp9
            have k3 := k3.tr (ke3.st hM kr (by omega) g1)
            have hT := hT.fr hM g1 (by decide) (by decide) (by decide)
            have f := f.tr (g1.up (by decide) (by decide))
            have hM0 := hM
            have hM := g1.lay hM
            first | refine a_aload_n K dX11_readPlan_18 rfl ?_ | refine a_aload_nN K dX11_readPlan_18 rfl ?_
            refine a_getI K fd_X11_137 (by exact lm_o hM) (Or.inl rfl) dX11_readPlan_19 ?_
            have hf := hf.trans (fltS_s hs)
            have hE : PlE S1 m (E ++ [s]) := hE.app kr (hst s hs)
            have hlE : (E ++ [s]).length = E.length + 1 := by rw [List.length_append, List.length_singleton]
            rw [hf]
            refine a_iconst K dX11_readPlan_22 (v := -1) (by decide) ?_
            refine a_icmp_eq K dX11_readPlan_23 (tgt := 27) (by decide) (fun c_23 => ?_) (fun c_23 => absurd c_23 (fun z => z rfl))
            refine a_iinc K dX11_readPlan_27 (v := 1) rfl (by decide) (by decide) ?_
            rw [nI_1]
            first | refine a_aload_n K dX11_readPlan_30 rfl ?_ | refine a_aload_nN K dX11_readPlan_30 rfl ?_
            refine a_invV K (q_look hM hT (by omega) ha) my_X11_look ml_X11_140 im_X11_look se_X11_look (ci := 11) (by exact lm_o hM) (by decide) ⟨_, _, rfl⟩ rfl (by omega) (by omega) (by omega) rfl (Nat.le_of_ble_eq_true rfl) dX11_readPlan_31 ?_
            intro r9 S2 hp9
            obtain ⟨rfl, ha, g2⟩ := hp9
            have hf := (g2.2 708 (by decide)).trans hf
            have hT := hT.fr hM g2 (by decide) (by decide) (by decide)
            have hE := hE.fr hM g2 (by decide) (by decide)
            have k3 := k3.tr (ke3.fr hM g2 (by decide) (by decide) (by decide))
            have f := f.tr (g2.up (fun k hk => absurd hk (by simp)) (by decide))
            have hM := g2.lay hM
            refine a_bipush K dX11_readPlan_34 (v := 59) (by decide) ?_
            refine a_icmp_ne K dX11_readPlan_36 (tgt := 43) (by decide) (fun c_36 => absurd c_36 (fun z => z hc)) (fun c_36 => ?_)
            refine a_iconst K dX11_readPlan_39 (v := 1) (by decide) ?_
            refine a_goto K dX11_readPlan_40 (tgt := 44) (by decide) ?_
            refine a_istore_n K dX11_readPlan_44 (by decide) ?_
            refine a_iload_n K dX11_readPlan_45 rfl ?_
            refine a_if_eq K dX11_readPlan_46 (tgt := 60) (by decide) (fun c_46 => absurd c_46 (by decide)) (fun c_46 => ?_)
            refine a_iload_n K dX11_readPlan_49 rfl ?_
            refine a_bipush K dX11_readPlan_50 (v := 16) (by decide) ?_
            refine a_icmp_ne K dX11_readPlan_52 (tgt := 60) (by decide) (fun c_52 => ?_) (fun c_52 => absurd c_52 (fun z => absurd (nI_inj (a := E.length + 1) (b := 16) (by omega) (by decide) z) (by omega)))
            refine a_iload_n K dX11_readPlan_60 rfl ?_
            refine a_if_eq K dX11_readPlan_61 (tgt := 4) (by decide) (fun c_61 => absurd c_61 (by decide)) (fun c_61 => ?_)
            first | refine a_aload_n K dX11_readPlan_64 rfl ?_ | refine a_aload_nN K dX11_readPlan_64 rfl ?_
            refine a_dup K dX11_readPlan_65 rfl ?_
            refine a_getI K fd_X11_130 (by exact lm_o hM) (Or.inl rfl) dX11_readPlan_66 ?_
            rw [ha]
            refine a_iconst K dX11_readPlan_69 (v := 1) (by decide) ?_
            refine a_iadd K dX11_readPlan_70 ?_
            rw [nI_1]
            refine a_putI K fd_X11_130 (by exact lm_o hM) rfl dX11_readPlan_71 ?_
            refine a_goto K dX11_readPlan_74 (tgt := 4) (by decide) ?_
            have g9 : frM S2 (wI S2 707 (m 33) (nI (skB L (ostR L p).1 + 1))) m [] [707] := frM_wI (by decide) (by decide)
            rw [show nI (E.length + 1) = nI (E ++ [s]).length from by rw [hlE]]
            exact aw_locl rfl (ih (skB L (ostR L p).1 + 1) (E ++ [s]) (wI S2 707 (m 33) (nI (skB L (ostR L p).1 + 1))) (by omega) (by rw [hlE]; omega) (g9.lay hM) (hT.fr hM g9 (by decide) (by decide) (by decide)) (hE.fr hM g9 (by decide) (by decide)) wI_at ((g9.2 708 (by decide)).trans hf) (k3.tr (ke3.fr hM g9 (by decide) (by decide) (by decide))) (f.tr (g9.up (fun k hk => absurd hk (by simp)) (by decide))) (by rw [← hF, stsR_s hs, if_neg he, if_neg (Nat.succ_ne_zero n), if_pos hc]))
          · refine a_iload_n K dX11_readPlan_4 rfl ?_
            refine a_if_eq K dX11_readPlan_5 (tgt := 77) (by decide) (fun c_5 => absurd c_5 (by decide)) (fun c_5 => ?_)
            first | refine a_aload_n K dX11_readPlan_8 rfl ?_ | refine a_aload_nN K dX11_readPlan_8 rfl ?_
            refine a_iconst K dX11_readPlan_9 (v := 4) (by decide) ?_
            refine a_bipush K dX11_readPlan_10 (v := 64) (by decide) ?_
            refine a_iload_n K dX11_readPlan_12 rfl ?_
            refine a_iadd K dX11_readPlan_13 ?_
            refine a_imul K dX11_readPlan_14 ?_
            rw [show (4 : Int32) * (64 + nI E.length) = nI (4 * (64 + E.length)) from by rw [show (64 : Int32) = nI 64 from rfl, nI_add]; exact (Int32.ofNat_mul 4 (64 + E.length)).symm]
            refine a_invV K (q_readStep (R := 4 * (64 + E.length)) hM hT hp (by omega) ha hf) my_X11_readStep ml_X11_171 im_X11_readStep se_X11_readStep (ci := 11) (by exact lm_o hM) (by decide) ⟨_, _, rfl⟩ rfl (by omega) (by omega) (by omega) rfl (Nat.le_of_ble_eq_true rfl) dX11_readPlan_15 ?_
            intro r9 S1 hp9
            obtain ⟨rfl, ha, hf, hst, kr, g1⟩ := hp9
            have k3 := k3.tr (ke3.st hM kr (by omega) g1)
            have hT := hT.fr hM g1 (by decide) (by decide) (by decide)
            have f := f.tr (g1.up (by decide) (by decide))
            have hM0 := hM
            have hM := g1.lay hM
            first | refine a_aload_n K dX11_readPlan_18 rfl ?_ | refine a_aload_nN K dX11_readPlan_18 rfl ?_
            refine a_getI K fd_X11_137 (by exact lm_o hM) (Or.inl rfl) dX11_readPlan_19 ?_
            have hf := hf.trans (fltS_s hs)
            have hE : PlE S1 m (E ++ [s]) := hE.app kr (hst s hs)
            have hlE : (E ++ [s]).length = E.length + 1 := by rw [List.length_append, List.length_singleton]
            rw [hf]
            refine a_iconst K dX11_readPlan_22 (v := -1) (by decide) ?_
            refine a_icmp_eq K dX11_readPlan_23 (tgt := 27) (by decide) (fun c_23 => ?_) (fun c_23 => absurd c_23 (fun z => z rfl))
            refine a_iinc K dX11_readPlan_27 (v := 1) rfl (by decide) (by decide) ?_
            rw [nI_1]
            first | refine a_aload_n K dX11_readPlan_30 rfl ?_ | refine a_aload_nN K dX11_readPlan_30 rfl ?_
            refine a_invV K (q_look hM hT (by omega) ha) my_X11_look ml_X11_140 im_X11_look se_X11_look (ci := 11) (by exact lm_o hM) (by decide) ⟨_, _, rfl⟩ rfl (by omega) (by omega) (by omega) rfl (Nat.le_of_ble_eq_true rfl) dX11_readPlan_31 ?_
            intro r9 S2 hp9
            obtain ⟨rfl, ha, g2⟩ := hp9
            have hf := (g2.2 708 (by decide)).trans hf
            have hT := hT.fr hM g2 (by decide) (by decide) (by decide)
            have hE := hE.fr hM g2 (by decide) (by decide)
            have k3 := k3.tr (ke3.fr hM g2 (by decide) (by decide) (by decide))
            have f := f.tr (g2.up (fun k hk => absurd hk (by simp)) (by decide))
            have hM := g2.lay hM
            refine a_bipush K dX11_readPlan_34 (v := 59) (by decide) ?_
            refine a_icmp_ne K dX11_readPlan_36 (tgt := 43) (by decide) (fun c_36 => ?_) (fun c_36 => absurd c_36 (hc))
            refine a_iconst K dX11_readPlan_43 (v := 0) (by decide) ?_
            refine a_istore_n K dX11_readPlan_44 (by decide) ?_
            refine a_iload_n K dX11_readPlan_45 rfl ?_
            refine a_if_eq K dX11_readPlan_46 (tgt := 60) (by decide) (fun c_46 => ?_) (fun c_46 => absurd c_46 (fun z => z rfl))
            refine a_iload_n K dX11_readPlan_60 rfl ?_
            refine a_if_eq K dX11_readPlan_61 (tgt := 4) (by decide) (fun c_61 => ?_) (fun c_61 => absurd c_61 (fun z => z rfl))
            refine a_iload_n K dX11_readPlan_4 rfl ?_
            refine a_if_eq K dX11_readPlan_5 (tgt := 77) (by decide) (fun c_5 => ?_) (fun c_5 => absurd c_5 (fun z => z rfl))
            first | refine a_aload_n K dX11_readPlan_77 rfl ?_ | refine a_aload_nN K dX11_readPlan_77 rfl ?_
            refine a_getRs K fd_X11_20 (by exact lm_o hM) (Or.inr ⟨_, rfl⟩) (by exact lm_r711 hM) dX11_readPlan_78 ?_
            refine a_iconst K dX11_readPlan_81 (v := 4) (by decide) ?_
            refine a_iload_n K dX11_readPlan_82 rfl ?_
            refine a_iast K (by exact lm_kk hM (by decide) (by decide)) (by show vp_in _ (sN S2 (m 3)); exact lm_ix (z := 5) hM (by decide) (by decide) (show 4 < 5 by omega) (by decide)) dX11_readPlan_83 ?_
            rw [show (4 : Int32).toNatClampNeg = 4 from rfl]
            have g5 : frM S2 (wA S2 (m 3) 4 (nI (E.length + 1))) m [3] [] := frM_wA (by decide)
            have hT := hT.fr hM g5 (by decide) (by decide) (by decide)
            have hE := hE.fr hM g5 (by decide) (by decide)
            have k3 : ke3 S (wA S2 (m 3) 4 (nI (E.length + 1))) m := k3.tr ⟨fun i _ => congrFun (g5.A hM (by decide) (by decide) (by decide)) i, fun i hi => by rw [sA_wA, if_neg (fun z => by have := z.2; omega)]⟩
            have ha : sI (wA S2 (m 3) 4 (nI (E.length + 1))) 707 (m 33) = _ := ha
            have hf : sI (wA S2 (m 3) 4 (nI (E.length + 1))) 708 (m 33) = _ := hf
            have h4 : sA (wA S2 (m 3) 4 (nI (E.length + 1))) (m 3) 4 = nI (E ++ [s]).length := by rw [sA_wA, if_pos ⟨rfl, rfl⟩, hlE]
            have f := f.tr (g5.up (by decide) (by decide))
            have hM := g5.lay hM
            first | refine a_aload_n K dX11_readPlan_84 rfl ?_ | refine a_aload_nN K dX11_readPlan_84 rfl ?_
            refine a_invV K (q_look hM hT (by omega) ha) my_X11_look ml_X11_140 im_X11_look se_X11_look (ci := 11) (by exact lm_o hM) (by decide) ⟨_, _, rfl⟩ rfl (by omega) (by omega) (by omega) rfl (Nat.le_of_ble_eq_true rfl) dX11_readPlan_85 ?_
            intro r9 S3 hp9
            obtain ⟨rfl, ha, g6⟩ := hp9
            have hf := (g6.2 708 (by decide)).trans hf
            have hT := hT.fr hM g6 (by decide) (by decide) (by decide)
            have hE := hE.fr hM g6 (by decide) (by decide)
            have k3 := k3.tr (ke3.fr hM g6 (by decide) (by decide) (by decide))
            have f := f.tr (g6.up (fun k hk => absurd hk (by simp)) (by decide))
            have h4 : sA S3 (m 3) 4 = nI (E ++ [s]).length := (congrFun (g6.A hM (by decide) (by decide) (by decide)) 4).trans h4
            rw [skB_skB]
            rw [skB_skB] at ha
            have hM := g6.lay hM
            refine a_iconst K dX11_readPlan_88 (v := -1) (by decide) ?_
            refine a_icmp_eq K dX11_readPlan_89 (tgt := 96) (by decide) (fun c_89 => absurd c_89 (tp_ne hT0 (by omega))) (fun c_89 => ?_)
            first | refine a_aload_n K dX11_readPlan_92 rfl ?_ | refine a_aload_nN K dX11_readPlan_92 rfl ?_
            refine a_invV K (q_fails hM ha hf) my_X11_fails ml_X11_147 im_X11_fails se_X11_fails (ci := 11) (by exact lm_o hM) (by decide) ⟨_, _, rfl⟩ rfl (by omega) (by omega) (by omega) rfl (Nat.le_of_ble_eq_true rfl) dX11_readPlan_93 ?_
            intro r9 S9 hp9
            obtain ⟨rfl, rfl⟩ := hp9
            exact a_vret K EE (by omega) (by omega) dX11_readPlan_96 (by have g9 : frM S3 (wI S3 708 (m 33) (nI (skB L (ostR L p).1))) m [] [708] := frM_wI (by decide) (by decide); rw [← hF, stsR_s hs, if_neg he, if_neg (Nat.succ_ne_zero n), if_neg hc]; exact ⟨rfl, wI_at, fun z => absurd z (by simp), k3.tr (ke3.fr hM g9 (by decide) (by decide) (by decide)), f.tr (g9.up (fun k hk => absurd hk (by simp)) (by decide))⟩)
  refine a_iconst K dX11_readPlan_0 (v := 0) (by decide) ?_
  refine a_istore_n K dX11_readPlan_1 (by decide) ?_
  refine a_iconst K dX11_readPlan_2 (v := 1) (by decide) ?_
  refine a_istore_n K dX11_readPlan_3 (by decide) ?_
  exact aw_locl rfl (loop 15 0 [] S (Nat.zero_le _) rfl hM hT PlE0 ha0 hf0 ⟨fun _ _ => rfl, fun _ _ => rfl⟩ frM.rf hF0)
/-- reading changes nothing that the state tells -/
theorem RM_rd {S S2 : aw_S} {m ρ : Nat → Nat} {Z : List Nat × Nat} {mb : Nat} {P : PS} (h : RM S m ρ Z mb P) (hG : PG P) (f : frM S S2 m [1, 2, 3] [704, 707, 708, 712]) (k : ke3 S S2 m) : RM S2 m ρ Z mb P ∧ frS S S2 (mQ m) := by
  obtain ⟨h1, h2, h3, h4, h5, h6, h7, h8⟩ := h
  refine ⟨⟨f.lay h1, h2.fr h1 f (by decide) (by decide) (by decide), h3.fr h1 f (by decide) (by decide) (by decide) (by decide), h4.fr h1 f (by decide) (by decide) (by decide) (by decide), h5.fr h1 f (by decide) (by decide) (by decide) (by decide) (by decide), fun i p hp => ?_, h7.fr h1 f (by decide) (by decide) (by decide) (by decide) (by decide) (by decide) (by decide) (by decide) (by decide) (by decide), h8.fr h1 f (by decide) (by decide) (by decide)⟩, f.mq (by decide)⟩
  have hi := (List.getElem?_eq_some_iff.mp hp).1
  have hp16 := (hG.2 p (List.mem_of_getElem? hp)).1
  have hl := hG.1
  rw [k.2 i (by omega)]
  refine ⟨(h6 i p hp).1, fun q s hs w hw => ?_⟩
  have hq := (List.getElem?_eq_some_iff.mp hs).1
  rw [k.1 _ (by omega)]
  exact (h6 i p hp).2 q s hs w hw
set_option maxHeartbeats 4000000 in
set_option maxRecDepth 100000 in
theorem q_faultX {S : aw_S} {m ρ : Nat → Nat} {Z : List Nat × Nat} {mb n9 : Nat} {P : PS} (h0 : RM S m ρ Z mb P) (hJ : PJ n9 P) {w : Int32} : aw_M yX11_fault cX11_fault 2 (some FieldType.int) 7 0 0 [.ref (m 33), .int w] S (fun r S2 => r = some (.int (fauA P w)) ∧ RM S2 m ρ Z mb P ∧ frS S S2 (mQ m) ∧ (w = 0 → (redE (pT P)).1 = none → EnM S2 m (redE (pT P)).2) ∧ (w = 1 → (redP (pT P)).1 = none → PlE S2 m (redP (pT P)).2 ∧ sA S2 (m 3) 4 = nI (redP (pT P)).2.length)) := by
  have hP := hJ.1
  have hw3 := hP.1.1
  have hM := h0.1
  have hl9 := hJ.ln
  refine aw_enter (by decide +kernel) (Nat.le_of_ble_eq_true rfl) (fun g K EE => ?_)
  by_cases hw : ¬ (0 ≤ w.toInt ∧ w.toInt ≤ 1)
  · have hE : fauA P w = -2 := by
      unfold fauA
      rw [if_neg (fun z => hw (by rw [z]; decide)), if_neg (fun z => hw (by rw [z]; decide))]
    first | refine a_aload_n K dX11_fault_0 rfl ?_ | refine a_aload_nN K dX11_fault_0 rfl ?_
    refine a_iconst K dX11_fault_1 (v := 0) (by decide) ?_
    refine a_putI K fd_X11_116 (by exact lm_o hM) rfl dX11_fault_2 ?_
    have f0 : frM S (wI S 704 (m 33) 0) m [] [704] := frM_wI (by decide) (by decide)
    obtain ⟨T, hT⟩ : ∃ T, T = wI S 704 (m 33) 0 := ⟨_, rfl⟩
    rw [← hT] at f0 ⊢
    obtain ⟨h, q0⟩ := h0.scr hP f0 (by decide) (by decide)
    have hM := h.1
    refine a_iload_n K dX11_fault_5 rfl ?_
    refine a_i2l K dX11_fault_6 ?_
    refine a_lconst K dX11_fault_7 (v := 0) (by decide) ?_
    refine a_lconst K dX11_fault_8 (v := 1) (by decide) ?_
    refine a_invS K (q_inN (p := 0) (q := 1) (by decide) (by decide) hw) my_X11_isIn ml_X11_174 st_X11_isIn rfl (by omega) (by omega) (by omega) rfl (Nat.le_of_ble_eq_true rfl) dX11_fault_9 ?_
    intro r9 S9 hp9
    obtain ⟨rfl, hS9⟩ := hp9
    obtain rfl := hS9.symm
    refine a_if_ne K dX11_fault_12 (tgt := 18) (by decide) (fun c_12 => absurd c_12 (fun q => q rfl)) (fun c_12 => ?_)
    refine a_bipush K dX11_fault_15 (v := -2) (by decide) ?_
    exact a_iret K EE rfl (by omega) (by omega) dX11_fault_17 ⟨by rw [hE], h, q0, fun z => absurd (by rw [z]; decide) hw, fun z => absurd (by rw [z]; decide) hw⟩
  rcases alk_w (Classical.not_not.mp hw) with rfl | rfl
  · have hE : fauA P 0 = fltV (redE (pT P)).1 := if_pos rfl
    first | refine a_aload_n K dX11_fault_0 rfl ?_ | refine a_aload_nN K dX11_fault_0 rfl ?_
    refine a_iconst K dX11_fault_1 (v := 0) (by decide) ?_
    refine a_putI K fd_X11_116 (by exact lm_o hM) rfl dX11_fault_2 ?_
    have f0 : frM S (wI S 704 (m 33) 0) m [] [704] := frM_wI (by decide) (by decide)
    obtain ⟨T, hT⟩ : ∃ T, T = wI S 704 (m 33) 0 := ⟨_, rfl⟩
    rw [← hT] at f0 ⊢
    obtain ⟨h, q0⟩ := h0.scr hP f0 (by decide) (by decide)
    have hM := h.1
    refine a_iload_n K dX11_fault_5 rfl ?_
    refine a_i2l K dX11_fault_6 ?_
    refine a_lconst K dX11_fault_7 (v := 0) (by decide) ?_
    refine a_lconst K dX11_fault_8 (v := 1) (by decide) ?_
    refine a_invS K (q_inY (p := 0) (q := 1) (by decide) (by decide) (by decide)) my_X11_isIn ml_X11_174 st_X11_isIn rfl (by omega) (by omega) (by omega) rfl (Nat.le_of_ble_eq_true rfl) dX11_fault_9 ?_
    intro r9 S9 hp9
    obtain ⟨rfl, hS9⟩ := hp9
    obtain rfl := hS9.symm
    refine a_if_ne K dX11_fault_12 (tgt := 18) (by decide) (fun c_12 => ?_) (fun c_12 => absurd c_12 (by decide))
    first | refine a_aload_n K dX11_fault_18 rfl ?_ | refine a_aload_nN K dX11_fault_18 rfl ?_
    refine a_iconst K dX11_fault_19 (v := 0) (by decide) ?_
    refine a_putI K fd_X11_130 (by exact lm_o hM) rfl dX11_fault_20 ?_
    first | refine a_aload_n K dX11_fault_23 rfl ?_ | refine a_aload_nN K dX11_fault_23 rfl ?_
    refine a_iconst K dX11_fault_24 (v := -1) (by decide) ?_
    refine a_putI K fd_X11_137 (by exact lm_o hM) rfl dX11_fault_25 ?_
    have fT : frM T (wI (wI T 707 (m 33) 0) 708 (m 33) (-1)) m [] [707, 708] := (frM_wI (by decide) (by decide)).tr (frM_wI (by decide) (by decide))
    have hTp : TpM (wI (wI T 707 (m 33) 0) 708 (m 33) (-1)) m (pT P) := h.2.1.1.fr hM fT (by decide) (by decide) (by decide)
    have hM2 := fT.lay hM
    have ha : sI (wI (wI T 707 (m 33) 0) 708 (m 33) (-1)) 707 (m 33) = nI 0 := by rw [sI_wI, if_neg (fun z => absurd z.1 (by decide))]; exact wI_at
    have hf : sI (wI (wI T 707 (m 33) 0) 708 (m 33) (-1)) 708 (m 33) = -1 := wI_at
    refine a_iload_n K dX11_fault_28 rfl ?_
    refine a_if_ne K dX11_fault_29 (tgt := 39) (by decide) (fun c_29 => absurd c_29 (fun z => z rfl)) (fun c_29 => ?_)
    first | refine a_aload_n K dX11_fault_32 rfl ?_ | refine a_aload_nN K dX11_fault_32 rfl ?_
    refine a_invV K (q_readEntries hM2 hTp ha hf) my_X11_readEntries ml_X11_178 im_X11_readEntries se_X11_readEntries (ci := 11) (by exact lm_o hM2) (by decide) ⟨_, _, rfl⟩ rfl (by omega) (by omega) (by omega) rfl (Nat.le_of_ble_eq_true rfl) dX11_fault_33 ?_
    intro r9 S9 hp9
    obtain ⟨rfl, hfe, g9⟩ := hp9
    have gA : frM T S9 m [1, 2, 3] [704, 707, 708, 712] := (fT.up (fun k hk => absurd hk (by simp)) (by decide)).tr (g9.up (by decide) (by decide))
    obtain ⟨h9, q9⟩ := RM_rd h hJ.2.2.2.1 gA ((ke3.fr hM fT (by decide) (by decide) (by decide)).tr (ke3.fr hM2 g9 (by decide) (by decide) (by decide)))
    have hM := h9.1
    refine a_goto K dX11_fault_36 (tgt := 43) (by decide) ?_
    first | refine a_aload_n K dX11_fault_43 rfl ?_ | refine a_aload_nN K dX11_fault_43 rfl ?_
    refine a_getI K fd_X11_137 (by exact lm_o hM) (Or.inl rfl) dX11_fault_44 ?_
    rw [hfe.1]
    exact a_iret K EE rfl (by omega) (by omega) dX11_fault_47 ⟨by rw [hE], h9, mQ_tr q0 q9, fun _ => hfe.2, fun z => absurd z (by decide)⟩
  · have hE : fauA P 1 = fltV (redP (pT P)).1 := (if_neg (by decide)).trans (if_pos rfl)
    first | refine a_aload_n K dX11_fault_0 rfl ?_ | refine a_aload_nN K dX11_fault_0 rfl ?_
    refine a_iconst K dX11_fault_1 (v := 0) (by decide) ?_
    refine a_putI K fd_X11_116 (by exact lm_o hM) rfl dX11_fault_2 ?_
    have f0 : frM S (wI S 704 (m 33) 0) m [] [704] := frM_wI (by decide) (by decide)
    obtain ⟨T, hT⟩ : ∃ T, T = wI S 704 (m 33) 0 := ⟨_, rfl⟩
    rw [← hT] at f0 ⊢
    obtain ⟨h, q0⟩ := h0.scr hP f0 (by decide) (by decide)
    have hM := h.1
    refine a_iload_n K dX11_fault_5 rfl ?_
    refine a_i2l K dX11_fault_6 ?_
    refine a_lconst K dX11_fault_7 (v := 0) (by decide) ?_
    refine a_lconst K dX11_fault_8 (v := 1) (by decide) ?_
    refine a_invS K (q_inY (p := 0) (q := 1) (by decide) (by decide) (by decide)) my_X11_isIn ml_X11_174 st_X11_isIn rfl (by omega) (by omega) (by omega) rfl (Nat.le_of_ble_eq_true rfl) dX11_fault_9 ?_
    intro r9 S9 hp9
    obtain ⟨rfl, hS9⟩ := hp9
    obtain rfl := hS9.symm
    refine a_if_ne K dX11_fault_12 (tgt := 18) (by decide) (fun c_12 => ?_) (fun c_12 => absurd c_12 (by decide))
    first | refine a_aload_n K dX11_fault_18 rfl ?_ | refine a_aload_nN K dX11_fault_18 rfl ?_
    refine a_iconst K dX11_fault_19 (v := 0) (by decide) ?_
    refine a_putI K fd_X11_130 (by exact lm_o hM) rfl dX11_fault_20 ?_
    first | refine a_aload_n K dX11_fault_23 rfl ?_ | refine a_aload_nN K dX11_fault_23 rfl ?_
    refine a_iconst K dX11_fault_24 (v := -1) (by decide) ?_
    refine a_putI K fd_X11_137 (by exact lm_o hM) rfl dX11_fault_25 ?_
    have fT : frM T (wI (wI T 707 (m 33) 0) 708 (m 33) (-1)) m [] [707, 708] := (frM_wI (by decide) (by decide)).tr (frM_wI (by decide) (by decide))
    have hTp : TpM (wI (wI T 707 (m 33) 0) 708 (m 33) (-1)) m (pT P) := h.2.1.1.fr hM fT (by decide) (by decide) (by decide)
    have hM2 := fT.lay hM
    have ha : sI (wI (wI T 707 (m 33) 0) 708 (m 33) (-1)) 707 (m 33) = nI 0 := by rw [sI_wI, if_neg (fun z => absurd z.1 (by decide))]; exact wI_at
    have hf : sI (wI (wI T 707 (m 33) 0) 708 (m 33) (-1)) 708 (m 33) = -1 := wI_at
    refine a_iload_n K dX11_fault_28 rfl ?_
    refine a_if_ne K dX11_fault_29 (tgt := 39) (by decide) (fun c_29 => ?_) (fun c_29 => absurd c_29 (by decide))
    first | refine a_aload_n K dX11_fault_39 rfl ?_ | refine a_aload_nN K dX11_fault_39 rfl ?_
    refine a_invV K (q_readPlan hM2 hTp ha hf) my_X11_readPlan ml_X11_181 im_X11_readPlan se_X11_readPlan (ci := 11) (by exact lm_o hM2) (by decide) ⟨_, _, rfl⟩ rfl (by omega) (by omega) (by omega) rfl (Nat.le_of_ble_eq_true rfl) dX11_fault_40 ?_
    intro r9 S9 hp9
    obtain ⟨rfl, hfe, hpl, k9, g9⟩ := hp9
    have gA : frM T S9 m [1, 2, 3] [704, 707, 708, 712] := (fT.up (fun k hk => absurd hk (by simp)) (by decide)).tr (g9.up (by decide) (by decide))
    obtain ⟨h9, q9⟩ := RM_rd h hJ.2.2.2.1 gA ((ke3.fr hM fT (by decide) (by decide) (by decide)).tr k9)
    have hM := h9.1
    first | refine a_aload_n K dX11_fault_43 rfl ?_ | refine a_aload_nN K dX11_fault_43 rfl ?_
    refine a_getI K fd_X11_137 (by exact lm_o hM) (Or.inl rfl) dX11_fault_44 ?_
    rw [hfe]
    exact a_iret K EE rfl (by omega) (by omega) dX11_fault_47 ⟨by rw [hE], h9, mQ_tr q0 q9, fun z => absurd z (by decide), fun _ => hpl⟩
theorem q_fault {S : aw_S} {m ρ : Nat → Nat} {Z : List Nat × Nat} {mb n9 : Nat} {P : PS} (h0 : RM S m ρ Z mb P) (hJ : PJ n9 P) {w : Int32} : aw_M yX11_fault cX11_fault 2 (some FieldType.int) 7 0 0 [.ref (m 33), .int w] S (fun r S2 => r = some (.int (fauA P w)) ∧ RM S2 m ρ Z mb P ∧ frS S S2 (mQ m)) := (q_faultX h0 hJ).post (fun r S2 hp => ⟨hp.1, hp.2.1, hp.2.2.1⟩)
