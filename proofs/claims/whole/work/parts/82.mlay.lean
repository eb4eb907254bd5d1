/-! the model: frames; a tree laid in rows -/
theorem Qm_no {S : aw_S} {m : Nat → Nat} (hM : LM S m) {ks : List Nat} {j : Nat} (hk : ∀ k ∈ ks, k < 34) (hj : j < 34) (hn : j ∉ ks) : ¬ Qk m ks (m j) := fun ⟨k, h1, e⟩ => hn (by rw [hM.2.2 j k hj (hk k h1) e]; exact h1)
/-- rows ks and fields Fs of the model are written, nothing else -/
def frM (S S2 : aw_S) (m : Nat → Nat) (ks Fs : List Nat) : Prop := frS S S2 (Qk m (33 :: ks)) ∧ ∀ F, F ∉ Fs → sI S2 F (m 33) = sI S F (m 33)
theorem frM.rf {S : aw_S} {m : Nat → Nat} {ks Fs : List Nat} : frM S S m ks Fs := ⟨frS.rf, fun _ _ => rfl⟩
theorem frM.tr {S S2 S3 : aw_S} {m : Nat → Nat} {ks Fs : List Nat} (h : frM S S2 m ks Fs) (k : frM S2 S3 m ks Fs) : frM S S3 m ks Fs := ⟨h.1.st k.1 (fun _ z => z), fun F hF => (k.2 F hF).trans (h.2 F hF)⟩
theorem frM.up {S S2 : aw_S} {m : Nat → Nat} {ks Fs ks2 Fs2 : List Nat} (h : frM S S2 m ks Fs) (h1 : ∀ k ∈ ks, k ∈ ks2) (h2 : ∀ F ∈ Fs, F ∈ Fs2) : frM S S2 m ks2 Fs2 := ⟨h.1.mono (fun b ⟨k, hk, e⟩ => ⟨k, by
  rcases List.mem_cons.mp hk with rfl | hk
  · exact List.mem_cons_self
  · exact List.mem_cons_of_mem _ (h1 k hk), e⟩), fun F hF => h.2 F (fun z => hF (h2 F z))⟩
theorem frM_wI {S : aw_S} {m : Nat → Nat} {ks Fs : List Nat} {F : Nat} {v : Int32} (h : F ∈ Fs) (h7 : 704 ≤ F) : frM S (wI S F (m 33) v) m ks Fs := ⟨(frS_wI (by omega)).mono (fun b e => ⟨33, List.mem_cons_self, e⟩), fun G hG => by
  rw [sI_wI]
  exact if_neg (fun z : G = F ∧ m 33 = m 33 => hG (by rw [z.1]; exact h))⟩
theorem frM_wA {S : aw_S} {m : Nat → Nat} {ks Fs : List Nat} {k i : Nat} {v : Int32} (h : k ∈ ks) : frM S (wA S (m k) i v) m ks Fs := ⟨frS_wA.mono (fun b e => ⟨k, List.mem_cons_of_mem _ h, e⟩), fun _ _ => rfl⟩
theorem frM.lay {S S2 : aw_S} {m : Nat → Nat} {ks Fs : List Nat} (h : frM S S2 m ks Fs) (hM : LM S m) : LM S2 m := hM.fr h.1
theorem frM.A {S S2 : aw_S} {m : Nat → Nat} {ks Fs : List Nat} (h : frM S S2 m ks Fs) (hM : LM S m) {j : Nat} (hk : ∀ k ∈ ks, k < 33) (hj : j < 33) (hn : j ∉ ks) : sA S2 (m j) = sA S (m j) := (h.1.2.2.2.2.2.2.2 _ (Qm_no hM (fun k hk2 => (List.mem_cons.mp hk2).elim (fun z => by omega) (fun z => by have := hk k z; omega)) (by omega) (fun z => (List.mem_cons.mp z).elim (fun y => by omega) hn))).2.1
theorem RepM_eq {S S2 : aw_S} {m ρ ρ2 : Nat → Nat} (e4 : sA S2 (m 4) = sA S (m 4)) (e5 : sA S2 (m 5) = sA S (m 5)) (e6 : sA S2 (m 6) = sA S (m 6)) (e9 : sA S2 (m 9) = sA S (m 9)) (e10 : sA S2 (m 10) = sA S (m 10)) : ∀ (h : Nat) (t : Tr h), RepM S m ρ h t → RepM S2 m ρ h t := by
  have eN : ∀ (h : Nat) (t : Tr h), NdM S m ρ h t → NdM S2 m ρ h t := fun h t n => by
    obtain ⟨n1, n2, n3, n4, n5, n6⟩ := n
    refine ⟨n1, by unfold gL; rw [e4]; exact n2, by unfold gN; rw [e5]; exact n3, by unfold gT; rw [e6]; exact n4, n5, ?_⟩
    cases h with
    | zero => exact fun k x hx => by unfold g1 g2; rw [e9, e10]; exact n6 k x hx
    | succ h => exact fun k c hc => by unfold g1; rw [e9]; exact n6 k c hc
  intro h
  induction h with
  | zero => exact fun t r => eN 0 t r
  | succ h ih => exact fun t r => ⟨eN _ t r.1, fun c hc => ih c (r.2 c hc)⟩
theorem frM.rep {S S2 : aw_S} {m ρ : Nat → Nat} {ks Fs : List Nat} (f : frM S S2 m ks Fs) (hM : LM S m) (hk : ∀ k ∈ ks, k < 33) (n4 : 4 ∉ ks) (n5 : 5 ∉ ks) (n6 : 6 ∉ ks) (n9 : 9 ∉ ks) (n10 : 10 ∉ ks) {h : Nat} {t : Tr h} (r : RepM S m ρ h t) : RepM S2 m ρ h t := RepM_eq (ρ2 := ρ) (f.A hM hk (by decide) n4) (f.A hM hk (by decide) n5) (f.A hM hk (by decide) n6) (f.A hM hk (by decide) n9) (f.A hM hk (by decide) n10) h t r
/-- nodes with their depths -/
def dpT : (h : Nat) → Tr h → Nat → List (Nat × Nat)
  | 0, t, d => [(t.1, d)]
  | h + 1, t, d => (t.1, d) :: (kds t).flatMap (fun c => dpT h c (d + 1))
theorem dpT_len : ∀ (h : Nat) (t : Tr h) (d : Nat), (dpT h t d).length = (ndl h t).length
  | 0, _, _ => rfl
  | h + 1, t, d => by
    have e : ∀ l : List (Tr h), (l.flatMap (fun c => dpT h c (d + 1))).length = (l.flatMap (ndl h)).length := fun l => by
      induction l with
      | nil => rfl
      | cons c l ih => rw [List.flatMap_cons, List.flatMap_cons, List.length_append, List.length_append, ih, dpT_len h c (d + 1)]
    show (_ :: _).length = (_ :: _).length
    rw [List.length_cons, List.length_cons, e]
/-- keys K and nodes N are laid -/
def LyM (S : aw_S) (m ρ : Nat → Nat) (K : List KV) (N : List (Nat × Nat)) : Prop := sI S 734 (m 33) = nI K.length ∧ sI S 735 (m 33) = nI N.length ∧ (∀ i x, K[i]? = some x → sA S (m 13) i = x.1 ∧ sA S (m 14) i = x.2) ∧ ∀ i y, N[i]? = some y → sA S (m 15) i = nI (ρ y.1) ∧ sA S (m 16) i = nI y.2
abbrev ksL : List Nat := [13, 14, 15, 16]
abbrev fsL : List Nat := [734, 735]
theorem get_app1 {α : Type} {l : List α} {x y : α} {i : Nat} (h : (l ++ [x])[i]? = some y) : (i < l.length ∧ l[i]? = some y) ∨ (i = l.length ∧ y = x) := by
  by_cases hi : i < l.length
  · rw [List.getElem?_append_left hi] at h
    exact Or.inl ⟨hi, h⟩
  · rw [List.getElem?_append_right (by omega)] at h
    have hi2 : i = l.length := by
      have h12 := (List.getElem?_eq_some_iff.mp h).1
      simp at h12
      omega
    subst hi2
    rw [Nat.sub_self] at h
    exact Or.inr ⟨rfl, (Option.some.inj h).symm⟩
/-- a node more -/
def lyN (S : aw_S) (m : Nat → Nat) (n : Nat) (r d : Int32) : aw_S := wI (wA (wA S (m 15) n r) (m 16) n d) 735 (m 33) (nI (n + 1))
def lyK (S : aw_S) (m : Nat → Nat) (n : Nat) (x : KV) : aw_S := wI (wA (wA S (m 13) n x.1) (m 14) n x.2) 734 (m 33) (nI (n + 1))
theorem lyN_fr {S : aw_S} {m : Nat → Nat} {n : Nat} {r d : Int32} : frM S (lyN S m n r d) m ksL fsL := ((frM_wA (by decide)).tr (frM_wA (by decide))).tr (frM_wI (by decide) (by decide))
theorem lyK_fr {S : aw_S} {m : Nat → Nat} {n : Nat} {x : KV} : frM S (lyK S m n x) m ksL fsL := ((frM_wA (by decide)).tr (frM_wA (by decide))).tr (frM_wI (by decide) (by decide))
theorem LyM.node {S : aw_S} {m ρ : Nat → Nat} {K : List KV} {N : List (Nat × Nat)} (hM : LM S m) (h : LyM S m ρ K N) {i d : Nat} : LyM (lyN S m N.length (nI (ρ i)) (nI d)) m ρ K (N ++ [(i, d)]) := by
  obtain ⟨h1, h2, h3, h4⟩ := h
  unfold lyN
  refine ⟨by rw [sI_wI, if_neg (fun z => absurd z.1 (by decide))]; exact h1, by rw [wI_at, List.length_append]; rfl, fun j x hx => ?_, fun j y hy => ?_⟩
  · rw [sA_wI, sA_wA, sA_wA, sA_wA, sA_wA, if_neg (fun z => lm_ne hM (by decide) (by decide) (by decide) z.1), if_neg (fun z => lm_ne hM (by decide) (by decide) (by decide) z.1), if_neg (fun z => lm_ne hM (by decide) (by decide) (by decide) z.1), if_neg (fun z => lm_ne hM (by decide) (by decide) (by decide) z.1)]
    exact h3 j x hx
  · rw [sA_wI, sA_wA, sA_wA, sA_wA, sA_wA, if_neg (fun z => lm_ne hM (by decide) (by decide) (by decide) z.1)]
    rcases get_app1 hy with ⟨a, b⟩ | ⟨rfl, rfl⟩
    · rw [if_neg (by omega), if_neg (by omega), if_neg (fun z => lm_ne hM (by decide) (by decide) (by decide) z.1)]
      exact h4 j y b
    · rw [if_pos ⟨rfl, rfl⟩, if_pos ⟨rfl, rfl⟩]
      exact ⟨rfl, rfl⟩
theorem LyM.key {S : aw_S} {m ρ : Nat → Nat} {K : List KV} {N : List (Nat × Nat)} (hM : LM S m) (h : LyM S m ρ K N) {x : KV} : LyM (lyK S m K.length x) m ρ (K ++ [x]) N := by
  obtain ⟨h1, h2, h3, h4⟩ := h
  unfold lyK
  refine ⟨by rw [wI_at, List.length_append]; rfl, by rw [sI_wI, if_neg (fun z => absurd z.1 (by decide))]; exact h2, fun j y hy => ?_, fun j y hy => ?_⟩
  · rw [sA_wI, sA_wA, sA_wA, sA_wA, sA_wA, if_neg (fun z => lm_ne hM (by decide) (by decide) (by decide) z.1)]
    rcases get_app1 hy with ⟨a, b⟩ | ⟨rfl, rfl⟩
    · rw [if_neg (by omega), if_neg (by omega), if_neg (fun z => lm_ne hM (by decide) (by decide) (by decide) z.1)]
      exact h3 j y b
    · rw [if_pos ⟨rfl, rfl⟩, if_pos ⟨rfl, rfl⟩]
      exact ⟨rfl, rfl⟩
  · rw [sA_wI, sA_wA, sA_wA, sA_wA, sA_wA, if_neg (fun z => lm_ne hM (by decide) (by decide) (by decide) z.1), if_neg (fun z => lm_ne hM (by decide) (by decide) (by decide) z.1), if_neg (fun z => lm_ne hM (by decide) (by decide) (by decide) z.1), if_neg (fun z => lm_ne hM (by decide) (by decide) (by decide) z.1)]
    exact h4 j y hy
theorem dpL_len {h d : Nat} : ∀ (l : List (Tr h)), True → (l.flatMap (fun c => dpT h c d)).length = (l.flatMap (ndl h)).length
  | [], _ => rfl
  | c :: l, _ => by rw [List.flatMap_cons, List.flatMap_cons, List.length_append, List.length_append, dpL_len l trivial, dpT_len h c d]
set_option maxHeartbeats 4000000 in
set_option maxRecDepth 100000 in
theorem m_goesThrough {m ρ : Nat → Nat} : ∀ (h : Nat) (t : Tr h) (S : aw_S) (K : List KV) (N : List (Nat × Nat)) (d : Nat), LM S m → RepM S m ρ h t → LyM S m ρ K N → K.length + (ent h t).length ≤ 140 → N.length + (ndl h t).length ≤ 240 → d + h < 1000 → aw_M yX11_goesThrough cX11_goesThrough 4 (none : Option FieldType) (h + 1) 0 0 [.ref (m 33), .int (nI (ρ t.1)), .int (nI d)] S (fun r S2 => r = none ∧ LyM S2 m ρ (K ++ ent h t) (N ++ dpT h t d) ∧ frM S S2 m ksL fsL) := by
  intro h
  induction h with
  | zero =>
    intro t S K N d hM0 rp hLy0 hk hn0 hd
    have h7 : (ets t).length ≤ 7 := rp.2.2.2.2.1
    have hk : K.length + (ets t).length ≤ 140 := hk
    have hr := rp.own.1
    have h735 := hLy0.2.1
    have h1l : 1 ≤ (ndl 0 t).length := by rw [ndl_L]; exact Nat.succ_pos _
    refine aw_enter (by decide +kernel) (Nat.le_of_ble_eq_true rfl) (fun g KF EE => ?_)
    have loop : ∀ (n i : Nat) (x : Int32) (T : aw_S), x = nI i → i + n = (ets t).length → LM T m → LyM T m ρ (K ++ (ets t).take i) (N ++ [(t.1, d)]) → frM S T m ksL fsL → aw g 4 T 0 0 [(3, .int x), (2, .int (nI d)), (1, .int (nI (ρ t.1))), (0, .ref (m 33))] [] 32 := by
      intro n
      induction n with
      | zero =>
        intro i x T hx hn hM hLy f
        subst hx
        have rT := f.rep hM0 (by decide) (by decide) (by decide) (by decide) (by decide) (by decide) rp
        refine a_iload_n KF dX11_goesThrough_32 rfl ?_
        first | refine a_aload_n KF dX11_goesThrough_33 rfl ?_ | refine a_aload_nN KF dX11_goesThrough_33 rfl ?_
        refine a_getRs KF fd_X11_26 (by exact lm_o hM) (Or.inr ⟨_, rfl⟩) (by exact lm_r715 hM) dX11_goesThrough_34 ?_
        refine a_iload_n KF dX11_goesThrough_37 rfl ?_
        refine a_iald KF (by exact lm_kk hM (by decide) (by decide)) (by show vp_in _ (sN T (m 5)); exact lm_ix (z := 12000) hM (by decide) (by decide) (show ρ t.1 < 12000 by omega) (by decide)) dX11_goesThrough_38 ?_
        rw [nI_clamp (by omega)]
        rw [show sA T (m 5) (ρ t.1) = nI (ets t).length from rT.2.2.1]
        refine a_icmp_ge KF dX11_goesThrough_39 (tgt := 123) (by decide) (fun c_39 => ?_) (fun c_39 => absurd c_39 (fun z => z (nI_le (a := (ets t).length) (b := i) (by omega) (by omega))))
        exact a_vret KF EE (by omega) (by omega) dX11_goesThrough_123 ⟨rfl, by rw [show i = (ets t).length by omega, List.take_length] at hLy; exact hLy, f⟩
      | succ n ih =>
        intro i x T hx0 hn hM hLy f
        subst hx0
        have rT := f.rep hM0 (by decide) (by decide) (by decide) (by decide) (by decide) (by decide) rp
        have hi : i < (ets t).length := by omega
        have hx := List.getElem?_eq_getElem hi
        have hKl : (K ++ (ets t).take i).length = K.length + i := by rw [List.length_append, List.length_take]; omega
        refine a_iload_n KF dX11_goesThrough_32 rfl ?_
        first | refine a_aload_n KF dX11_goesThrough_33 rfl ?_ | refine a_aload_nN KF dX11_goesThrough_33 rfl ?_
        refine a_getRs KF fd_X11_26 (by exact lm_o hM) (Or.inr ⟨_, rfl⟩) (by exact lm_r715 hM) dX11_goesThrough_34 ?_
        refine a_iload_n KF dX11_goesThrough_37 rfl ?_
        refine a_iald KF (by exact lm_kk hM (by decide) (by decide)) (by show vp_in _ (sN T (m 5)); exact lm_ix (z := 12000) hM (by decide) (by decide) (show ρ t.1 < 12000 by omega) (by decide)) dX11_goesThrough_38 ?_
        rw [nI_clamp (by omega)]
        rw [show sA T (m 5) (ρ t.1) = nI (ets t).length from rT.2.2.1]
        refine a_icmp_ge KF dX11_goesThrough_39 (tgt := 123) (by decide) (fun c_39 => absurd c_39 (nI_ge (a := i) (b := (ets t).length) (by omega) (by omega))) (fun c_39 => ?_)
        first | refine a_aload_n KF dX11_goesThrough_42 rfl ?_ | refine a_aload_nN KF dX11_goesThrough_42 rfl ?_
        refine a_getRs KF fd_X11_23 (by exact lm_o hM) (Or.inr ⟨_, rfl⟩) (by exact lm_r714 hM) dX11_goesThrough_43 ?_
        refine a_iload_n KF dX11_goesThrough_46 rfl ?_
        refine a_iald KF (by exact lm_kk hM (by decide) (by decide)) (by show vp_in _ (sN T (m 4)); exact lm_ix (z := 12000) hM (by decide) (by decide) (show ρ t.1 < 12000 by omega) (by decide)) dX11_goesThrough_47 ?_
        rw [nI_clamp (by omega)]
        rw [show sA T (m 4) (ρ t.1) = 1 from rT.2.1]
        refine a_if_ne KF dX11_goesThrough_48 (tgt := 67) (by decide) (fun c_48 => ?_) (fun c_48 => absurd c_48 (by decide))
        first | refine a_aload_n KF dX11_goesThrough_67 rfl ?_ | refine a_aload_nN KF dX11_goesThrough_67 rfl ?_
        refine a_getRs KF fd_X11_55 (by exact lm_o hM) (Or.inr ⟨_, rfl⟩) (by exact lm_r730 hM) dX11_goesThrough_68 ?_
        first | refine a_aload_n KF dX11_goesThrough_71 rfl ?_ | refine a_aload_nN KF dX11_goesThrough_71 rfl ?_
        refine a_getI KF fd_X11_249 (by exact lm_o hM) (Or.inl rfl) dX11_goesThrough_72 ?_
        rw [hLy.1]
        first | refine a_aload_n KF dX11_goesThrough_75 rfl ?_ | refine a_aload_nN KF dX11_goesThrough_75 rfl ?_
        refine a_getRs KF fd_X11_39 (by exact lm_o hM) (Or.inr ⟨_, rfl⟩) (by exact lm_r719 hM) dX11_goesThrough_76 ?_
        refine a_bipush KF dX11_goesThrough_79 (v := 7) (by decide) ?_
        refine a_iload_n KF dX11_goesThrough_81 rfl ?_
        skip
        refine a_imul KF dX11_goesThrough_82 ?_
        rw [nI_7]
        refine a_iload_n KF dX11_goesThrough_83 rfl ?_
        refine a_iadd KF dX11_goesThrough_84 ?_
        rw [nI_add]
        refine a_iald KF (by exact lm_kk hM (by decide) (by decide)) (by show vp_in _ (sN T (m 9)); exact lm_ix (z := 84000) hM (by decide) (by decide) (show 7 * ρ t.1 + i < 84000 by omega) (by decide)) dX11_goesThrough_85 ?_
        rw [nI_clamp (by omega)]
        rw [show sA T (m 9) (7 * ρ t.1 + i) = ((ets t)[i]).1 from (rT.ent hx).1]
        refine a_iast KF (by exact lm_kk hM (by decide) (by decide)) (by show vp_in _ (sN T (m 13)); exact lm_ix (z := 140) hM (by decide) (by decide) (show (K ++ (ets t).take i).length < 140 by omega) (by decide)) dX11_goesThrough_86 ?_
        rw [nI_clamp (by omega)]
        first | refine a_aload_n KF dX11_goesThrough_87 rfl ?_ | refine a_aload_nN KF dX11_goesThrough_87 rfl ?_
        refine a_getRs KF fd_X11_58 (by exact lm_o hM) (Or.inr ⟨_, rfl⟩) (by exact lm_r731 hM) dX11_goesThrough_88 ?_
        first | refine a_aload_n KF dX11_goesThrough_91 rfl ?_ | refine a_aload_nN KF dX11_goesThrough_91 rfl ?_
        refine a_getI KF fd_X11_249 (by exact lm_o hM) (Or.inl rfl) dX11_goesThrough_92 ?_
        rw [show sI (wA T (m 13) (K ++ (ets t).take i).length ((ets t)[i]).1) 734 (m 33) = nI (K ++ (ets t).take i).length from hLy.1]
        first | refine a_aload_n KF dX11_goesThrough_95 rfl ?_ | refine a_aload_nN KF dX11_goesThrough_95 rfl ?_
        refine a_getRs KF fd_X11_42 (by exact lm_o hM) (Or.inr ⟨_, rfl⟩) (by exact lm_r720 hM) dX11_goesThrough_96 ?_
        refine a_bipush KF dX11_goesThrough_99 (v := 7) (by decide) ?_
        refine a_iload_n KF dX11_goesThrough_101 rfl ?_
        skip
        refine a_imul KF dX11_goesThrough_102 ?_
        rw [nI_7]
        refine a_iload_n KF dX11_goesThrough_103 rfl ?_
        refine a_iadd KF dX11_goesThrough_104 ?_
        rw [nI_add]
        refine a_iald KF (by exact lm_kk hM (by decide) (by decide)) (by show vp_in _ (sN T (m 10)); exact lm_ix (z := 84000) hM (by decide) (by decide) (show 7 * ρ t.1 + i < 84000 by omega) (by decide)) dX11_goesThrough_105 ?_
        rw [nI_clamp (by omega)]
        rw [show sA (wA T (m 13) (K ++ (ets t).take i).length ((ets t)[i]).1) (m 10) (7 * ρ t.1 + i) = ((ets t)[i]).2 from by rw [sA_wA, if_neg (fun z => lm_ne hM (by decide) (by decide) (by decide) z.1)]; exact (rT.ent hx).2.1]
        refine a_iast KF (by exact lm_kk hM (by decide) (by decide)) (by show vp_in _ (sN T (m 14)); exact lm_ix (z := 140) hM (by decide) (by decide) (show (K ++ (ets t).take i).length < 140 by omega) (by decide)) dX11_goesThrough_106 ?_
        rw [nI_clamp (by omega)]
        first | refine a_aload_n KF dX11_goesThrough_107 rfl ?_ | refine a_aload_nN KF dX11_goesThrough_107 rfl ?_
        refine a_dup KF dX11_goesThrough_108 rfl ?_
        refine a_getI KF fd_X11_249 (by exact lm_o hM) (Or.inl rfl) dX11_goesThrough_109 ?_
        rw [show sI (wA (wA T (m 13) (K ++ (ets t).take i).length ((ets t)[i]).1) (m 14) (K ++ (ets t).take i).length ((ets t)[i]).2) 734 (m 33) = nI (K ++ (ets t).take i).length from hLy.1]
        refine a_iconst KF dX11_goesThrough_112 (v := 1) (by decide) ?_
        refine a_iadd KF dX11_goesThrough_113 ?_
        rw [nI_1]
        refine a_putI KF fd_X11_249 (by exact lm_o hM) rfl dX11_goesThrough_114 ?_
        refine a_iinc KF dX11_goesThrough_117 (v := 1) rfl (by decide) (by decide) ?_
        refine a_goto KF dX11_goesThrough_120 (tgt := 32) (by decide) ?_
        exact aw_locl rfl (ih (i + 1) _ (lyK T m (K ++ (ets t).take i).length (ets t)[i]) (nI_1 i) (by omega) (lyK_fr.lay hM) (by have k := LyM.key hM hLy (x := (ets t)[i]); rw [List.take_succ_eq_append_getElem hi, ← List.append_assoc]; exact k) (f.tr lyK_fr))
    first | refine a_aload_n KF dX11_goesThrough_0 rfl ?_ | refine a_aload_nN KF dX11_goesThrough_0 rfl ?_
    refine a_getRs KF fd_X11_61 (by exact lm_o hM0) (Or.inr ⟨_, rfl⟩) (by exact lm_r732 hM0) dX11_goesThrough_1 ?_
    first | refine a_aload_n KF dX11_goesThrough_4 rfl ?_ | refine a_aload_nN KF dX11_goesThrough_4 rfl ?_
    refine a_getI KF fd_X11_243 (by exact lm_o hM0) (Or.inl rfl) dX11_goesThrough_5 ?_
    rw [h735]
    refine a_iload_n KF dX11_goesThrough_8 rfl ?_
    refine a_iast KF (by exact lm_kk hM0 (by decide) (by decide)) (by show vp_in _ (sN S (m 15)); exact lm_ix (z := 240) hM0 (by decide) (by decide) (show N.length < 240 by omega) (by decide)) dX11_goesThrough_9 ?_
    rw [nI_clamp (by omega)]
    first | refine a_aload_n KF dX11_goesThrough_10 rfl ?_ | refine a_aload_nN KF dX11_goesThrough_10 rfl ?_
    refine a_getRs KF fd_X11_64 (by exact lm_o hM0) (Or.inr ⟨_, rfl⟩) (by exact lm_r733 hM0) dX11_goesThrough_11 ?_
    first | refine a_aload_n KF dX11_goesThrough_14 rfl ?_ | refine a_aload_nN KF dX11_goesThrough_14 rfl ?_
    refine a_getI KF fd_X11_243 (by exact lm_o hM0) (Or.inl rfl) dX11_goesThrough_15 ?_
    rw [show sI (wA S (m 15) N.length (nI (ρ t.1))) 735 (m 33) = nI N.length from h735]
    refine a_iload_n KF dX11_goesThrough_18 rfl ?_
    refine a_iast KF (by exact lm_kk hM0 (by decide) (by decide)) (by show vp_in _ (sN S (m 16)); exact lm_ix (z := 240) hM0 (by decide) (by decide) (show N.length < 240 by omega) (by decide)) dX11_goesThrough_19 ?_
    rw [nI_clamp (by omega)]
    first | refine a_aload_n KF dX11_goesThrough_20 rfl ?_ | refine a_aload_nN KF dX11_goesThrough_20 rfl ?_
    refine a_dup KF dX11_goesThrough_21 rfl ?_
    refine a_getI KF fd_X11_243 (by exact lm_o hM0) (Or.inl rfl) dX11_goesThrough_22 ?_
    rw [show sI (wA (wA S (m 15) N.length (nI (ρ t.1))) (m 16) N.length (nI d)) 735 (m 33) = nI N.length from h735]
    refine a_iconst KF dX11_goesThrough_25 (v := 1) (by decide) ?_
    refine a_iadd KF dX11_goesThrough_26 ?_
    rw [nI_1]
    refine a_putI KF fd_X11_243 (by exact lm_o hM0) rfl dX11_goesThrough_27 ?_
    refine a_iconst KF dX11_goesThrough_30 (v := 0) (by decide) ?_
    refine a_istore_n KF dX11_goesThrough_31 (by decide) ?_
    exact aw_locl rfl (loop (ets t).length 0 _ (lyN S m N.length (nI (ρ t.1)) (nI d)) nI_0.symm (by omega) (lyN_fr.lay hM0) (by have k := LyM.node hM0 hLy0 (i := t.1) (d := d); rw [List.take_zero, List.append_nil]; exact k) lyN_fr)
  | succ h ihh =>
    intro t S K N d hM0 rp hLy0 hk hn0 hd
    have h7 : (kds t).length ≤ 7 := rp.1.2.2.2.2.1
    have hr := rp.own.1
    have h735 := hLy0.2.1
    have h1l : 1 ≤ (ndl (h + 1) t).length := by rw [ndl_L]; exact Nat.succ_pos _
    refine aw_enter (by decide +kernel) (Nat.le_of_ble_eq_true rfl) (fun g KF EE => ?_)
    have loop : ∀ (n i : Nat) (x : Int32) (T : aw_S), x = nI i → i + n = (kds t).length → LM T m → LyM T m ρ (K ++ ((kds t).take i).flatMap (ent h)) (N ++ (t.1, d) :: ((kds t).take i).flatMap (fun c => dpT h c (d + 1))) → frM S T m ksL fsL → aw g 4 T 0 0 [(3, .int x), (2, .int (nI d)), (1, .int (nI (ρ t.1))), (0, .ref (m 33))] [] 32 := by
      intro n
      induction n with
      | zero =>
        intro i x T hx hn hM hLy f
        subst hx
        have rT := f.rep hM0 (by decide) (by decide) (by decide) (by decide) (by decide) (by decide) rp
        refine a_iload_n KF dX11_goesThrough_32 rfl ?_
        first | refine a_aload_n KF dX11_goesThrough_33 rfl ?_ | refine a_aload_nN KF dX11_goesThrough_33 rfl ?_
        refine a_getRs KF fd_X11_26 (by exact lm_o hM) (Or.inr ⟨_, rfl⟩) (by exact lm_r715 hM) dX11_goesThrough_34 ?_
        refine a_iload_n KF dX11_goesThrough_37 rfl ?_
        refine a_iald KF (by exact lm_kk hM (by decide) (by decide)) (by show vp_in _ (sN T (m 5)); exact lm_ix (z := 12000) hM (by decide) (by decide) (show ρ t.1 < 12000 by omega) (by decide)) dX11_goesThrough_38 ?_
        rw [nI_clamp (by omega)]
        rw [show sA T (m 5) (ρ t.1) = nI (kds t).length from rT.1.2.2.1]
        refine a_icmp_ge KF dX11_goesThrough_39 (tgt := 123) (by decide) (fun c_39 => ?_) (fun c_39 => absurd c_39 (fun z => z (nI_le (a := (kds t).length) (b := i) (by omega) (by omega))))
        exact a_vret KF EE (by omega) (by omega) dX11_goesThrough_123 ⟨rfl, by rw [show i = (kds t).length by omega, List.take_length] at hLy; exact hLy, f⟩
      | succ n ih =>
        intro i x T hx0 hn hM hLy f
        subst hx0
        have rT := f.rep hM0 (by decide) (by decide) (by decide) (by decide) (by decide) (by decide) rp
        have hi : i < (kds t).length := by omega
        have hc := List.getElem?_eq_getElem hi
        have hsp := get_split hc
        generalize hcc : (kds t)[i] = c at hc hsp
        have hk1 : (K ++ ((kds t).take i).flatMap (ent h)).length + (ent h c).length ≤ 140 := by
          have e := congrArg List.length (ent_kds (t := t) hsp)
          rw [List.length_append, List.length_append] at e
          rw [List.length_append]
          omega
        have hn1 : (N ++ (t.1, d) :: ((kds t).take i).flatMap (fun c => dpT h c (d + 1))).length + (ndl h c).length ≤ 240 := by
          have e := congrArg List.length (ndl_kds (t := t) hsp)
          rw [List.length_cons, List.length_append, List.length_append] at e
          have e2 : (((kds t).take i).flatMap (fun c => dpT h c (d + 1))).length = (((kds t).take i).flatMap (ndl h)).length := dpL_len _ trivial
          rw [List.length_append, List.length_cons, e2]
          omega
        refine a_iload_n KF dX11_goesThrough_32 rfl ?_
        first | refine a_aload_n KF dX11_goesThrough_33 rfl ?_ | refine a_aload_nN KF dX11_goesThrough_33 rfl ?_
        refine a_getRs KF fd_X11_26 (by exact lm_o hM) (Or.inr ⟨_, rfl⟩) (by exact lm_r715 hM) dX11_goesThrough_34 ?_
        refine a_iload_n KF dX11_goesThrough_37 rfl ?_
        refine a_iald KF (by exact lm_kk hM (by decide) (by decide)) (by show vp_in _ (sN T (m 5)); exact lm_ix (z := 12000) hM (by decide) (by decide) (show ρ t.1 < 12000 by omega) (by decide)) dX11_goesThrough_38 ?_
        rw [nI_clamp (by omega)]
        rw [show sA T (m 5) (ρ t.1) = nI (kds t).length from rT.1.2.2.1]
        refine a_icmp_ge KF dX11_goesThrough_39 (tgt := 123) (by decide) (fun c_39 => absurd c_39 (nI_ge (a := i) (b := (kds t).length) (by omega) (by omega))) (fun c_39 => ?_)
        first | refine a_aload_n KF dX11_goesThrough_42 rfl ?_ | refine a_aload_nN KF dX11_goesThrough_42 rfl ?_
        refine a_getRs KF fd_X11_23 (by exact lm_o hM) (Or.inr ⟨_, rfl⟩) (by exact lm_r714 hM) dX11_goesThrough_43 ?_
        refine a_iload_n KF dX11_goesThrough_46 rfl ?_
        refine a_iald KF (by exact lm_kk hM (by decide) (by decide)) (by show vp_in _ (sN T (m 4)); exact lm_ix (z := 12000) hM (by decide) (by decide) (show ρ t.1 < 12000 by omega) (by decide)) dX11_goesThrough_47 ?_
        rw [nI_clamp (by omega)]
        rw [show sA T (m 4) (ρ t.1) = 0 from rT.1.2.1]
        refine a_if_ne KF dX11_goesThrough_48 (tgt := 67) (by decide) (fun c_48 => absurd c_48 (fun z => z rfl)) (fun c_48 => ?_)
        first | refine a_aload_n KF dX11_goesThrough_51 rfl ?_ | refine a_aload_nN KF dX11_goesThrough_51 rfl ?_
        first | refine a_aload_n KF dX11_goesThrough_52 rfl ?_ | refine a_aload_nN KF dX11_goesThrough_52 rfl ?_
        refine a_iload_n KF dX11_goesThrough_53 rfl ?_
        refine a_iload_n KF dX11_goesThrough_54 rfl ?_
        refine a_invV KF (m_child hM (r := ρ t.1) (k := i) hr (by omega)) my_X11_child ml_X11_197 im_X11_child se_X11_child (ci := 11) (by exact lm_o hM) (by decide) ⟨_, _, rfl⟩ rfl (by omega) (by omega) (by omega) rfl (Nat.le_of_ble_eq_true rfl) dX11_goesThrough_55 ?_
        intro r9 S9 hp9
        obtain ⟨rfl, hS9⟩ := hp9
        obtain rfl := hS9.symm
        rw [(rT.kid hc).2.1]
        refine a_iload_n KF dX11_goesThrough_58 rfl ?_
        refine a_iconst KF dX11_goesThrough_59 (v := 1) (by decide) ?_
        refine a_iadd KF dX11_goesThrough_60 ?_
        rw [nI_1]
        refine a_invV KF (ihh c T (K ++ ((kds t).take i).flatMap (ent h)) (N ++ (t.1, d) :: ((kds t).take i).flatMap (fun c => dpT h c (d + 1))) (d + 1) hM (rT.kid hc).1 hLy hk1 hn1 (by omega)) my_X11_goesThrough ml_X11_246 im_X11_goesThrough se_X11_goesThrough (ci := 11) (by exact lm_o hM) (by decide) ⟨_, _, rfl⟩ rfl (by omega) (by omega) (by omega) rfl (Nat.le_of_ble_eq_true rfl) dX11_goesThrough_61 ?_
        intro r9 T2 hp9
        obtain ⟨rfl, hLy2, f2⟩ := hp9
        refine a_goto KF dX11_goesThrough_64 (tgt := 117) (by decide) ?_
        refine a_iinc KF dX11_goesThrough_117 (v := 1) rfl (by decide) (by decide) ?_
        refine a_goto KF dX11_goesThrough_120 (tgt := 32) (by decide) ?_
        exact aw_locl rfl (ih (i + 1) _ T2 (nI_1 i) (by omega) (f2.lay hM) (by rw [List.take_succ_eq_append_getElem hi, hcc, List.flatMap_append, List.flatMap_append, List.flatMap_cons, List.flatMap_cons, List.flatMap_nil, List.flatMap_nil, List.append_nil, List.append_nil, ← List.append_assoc, ← List.cons_append, ← List.append_assoc]; exact hLy2) (f.tr f2))
    first | refine a_aload_n KF dX11_goesThrough_0 rfl ?_ | refine a_aload_nN KF dX11_goesThrough_0 rfl ?_
    refine a_getRs KF fd_X11_61 (by exact lm_o hM0) (Or.inr ⟨_, rfl⟩) (by exact lm_r732 hM0) dX11_goesThrough_1 ?_
    first | refine a_aload_n KF dX11_goesThrough_4 rfl ?_ | refine a_aload_nN KF dX11_goesThrough_4 rfl ?_
    refine a_getI KF fd_X11_243 (by exact lm_o hM0) (Or.inl rfl) dX11_goesThrough_5 ?_
    rw [h735]
    refine a_iload_n KF dX11_goesThrough_8 rfl ?_
    refine a_iast KF (by exact lm_kk hM0 (by decide) (by decide)) (by show vp_in _ (sN S (m 15)); exact lm_ix (z := 240) hM0 (by decide) (by decide) (show N.length < 240 by omega) (by decide)) dX11_goesThrough_9 ?_
    rw [nI_clamp (by omega)]
    first | refine a_aload_n KF dX11_goesThrough_10 rfl ?_ | refine a_aload_nN KF dX11_goesThrough_10 rfl ?_
    refine a_getRs KF fd_X11_64 (by exact lm_o hM0) (Or.inr ⟨_, rfl⟩) (by exact lm_r733 hM0) dX11_goesThrough_11 ?_
    first | refine a_aload_n KF dX11_goesThrough_14 rfl ?_ | refine a_aload_nN KF dX11_goesThrough_14 rfl ?_
    refine a_getI KF fd_X11_243 (by exact lm_o hM0) (Or.inl rfl) dX11_goesThrough_15 ?_
    rw [show sI (wA S (m 15) N.length (nI (ρ t.1))) 735 (m 33) = nI N.length from h735]
    refine a_iload_n KF dX11_goesThrough_18 rfl ?_
    refine a_iast KF (by exact lm_kk hM0 (by decide) (by decide)) (by show vp_in _ (sN S (m 16)); exact lm_ix (z := 240) hM0 (by decide) (by decide) (show N.length < 240 by omega) (by decide)) dX11_goesThrough_19 ?_
    rw [nI_clamp (by omega)]
    first | refine a_aload_n KF dX11_goesThrough_20 rfl ?_ | refine a_aload_nN KF dX11_goesThrough_20 rfl ?_
    refine a_dup KF dX11_goesThrough_21 rfl ?_
    refine a_getI KF fd_X11_243 (by exact lm_o hM0) (Or.inl rfl) dX11_goesThrough_22 ?_
    rw [show sI (wA (wA S (m 15) N.length (nI (ρ t.1))) (m 16) N.length (nI d)) 735 (m 33) = nI N.length from h735]
    refine a_iconst KF dX11_goesThrough_25 (v := 1) (by decide) ?_
    refine a_iadd KF dX11_goesThrough_26 ?_
    rw [nI_1]
    refine a_putI KF fd_X11_243 (by exact lm_o hM0) rfl dX11_goesThrough_27 ?_
    refine a_iconst KF dX11_goesThrough_30 (v := 0) (by decide) ?_
    refine a_istore_n KF dX11_goesThrough_31 (by decide) ?_
    exact aw_locl rfl (loop (kds t).length 0 _ (lyN S m N.length (nI (ρ t.1)) (nI d)) nI_0.symm (by omega) (lyN_fr.lay hM0) (by have k := LyM.node hM0 hLy0 (i := t.1) (d := d); rw [List.take_zero, List.flatMap_nil, List.flatMap_nil, List.append_nil]; exact k) lyN_fr)
