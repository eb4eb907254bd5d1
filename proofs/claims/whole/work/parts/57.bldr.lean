def buiZ (w : Int32) (b : BI) : Int32 := if w = 0 then nI (ent b.1.1 b.1.2).length else if w = 1 then nI (sub b.1.1 b.1.2).length else if w = 2 then nI (tkC b.2.1 (sub b.1.1 b.1.2) 0) else if w = 3 then b.2.2 else -1000000
def buiB (P : PS) (w : Int32) (j : Nat) : Int32 := match pB P j with
  | none => -1000000
  | some b => buiZ w b
def buiA (P : PS) (i w : Int32) : Int32 := match bAt i with
  | none => -1000000
  | some j => buiB P w j
set_option maxHeartbeats 4000000 in
set_option maxRecDepth 100000 in
theorem c_builder {S : aw_S} {v ad ar : Nat → Nat} {PA : List (Nat × Nat)} {X : List Nat} {mb : Nat} {P : PS} (h : RC S v ad ar PA X mb P) (hP : PI P) {i w : Int32} : aw_M yX10_builder cX10_builder 4 (some FieldType.int) 9 0 0 [.ref (v 4), .int i, .int w] S (fun r S2 => r = some (.int (buiA P i w)) ∧ RC S2 v ad ar PA X mb P ∧ keepX X S S2) := by
  have hL := h.L
  obtain ⟨e, hj⟩ := bAt_at h.L i
  cases hb : bAt i with
  | none =>
    rw [hb] at e
    have e : atR (sQ S (v 13)) 4 i = none := e
    exact ((m_X10_builder_null hL e).post (fun r S2 p => by obtain ⟨rfl, rfl⟩ := p; unfold buiA; rw [hb]; exact ⟨rfl, h, h.X⟩)).le (by decide) (Nat.zero_le _) (Nat.zero_le _)
  | some j =>
    rw [hb] at e
    have e : atR (sQ S (v 13)) 4 i = some (v (14 + j)) := e
    have hj := hj j hb
    cases hp : pB P j with
    | none => exact ((m_X10_builder_stale hL e (lw_b hL hj) ((h.2.2.2.1 j hj).1 hp)).post (fun r S2 p => by obtain ⟨rfl, rfl⟩ := p; unfold buiA; rw [hb]; show some (Value.int _) = some (Value.int (buiB P _ j)) ∧ _; unfold buiB; rw [hp]; exact ⟨rfl, h, h.X⟩)).le (by decide) (Nat.zero_le _) (Nat.zero_le _)
    | some b =>
      obtain ⟨z, t, f⟩ := b
      obtain ⟨ob, qr, qt, ht, htk, htl, hh⟩ := h.bk hP hj hp
      refine aw_enter (by decide +kernel) (Nat.le_of_ble_eq_true rfl) (fun g K EE => ?_)
      first | refine a_aload_n K dX10_builder_0 rfl ?_ | refine a_aload_nN K dX10_builder_0 rfl ?_
      refine a_iload_n K dX10_builder_1 rfl ?_
      refine a_invV K (w_builderAt hL _) my_X10_builderAt ml_X10_313 im_X10_builderAt se_X10_builderAt (ci := 10) (lw_i4 hL) (by decide) ⟨_, _, rfl⟩ rfl (by omega) (by omega) (by omega) rfl (Nat.le_of_ble_eq_true rfl) dX10_builder_2 ?_
      intro r9 S9 hp9
      obtain ⟨hS9, rfl⟩ := hp9
      obtain rfl := hS9.symm
      rw [e]
      first | refine a_astore_n K dX10_builder_5 (by decide) ?_ | refine a_astore_nN K dX10_builder_5 (by decide) ?_
      first | refine a_aload_n K dX10_builder_6 rfl ?_ | refine a_aload_nN K dX10_builder_6 rfl ?_
      refine a_ifnull K dX10_builder_7 ?_
      first | refine a_aload_n K dX10_builder_10 rfl ?_ | refine a_aload_nN K dX10_builder_10 rfl ?_
      refine a_invV K (m_X0_isStale_n ob qr) my_X0_isStale ml_X10_342 im_X0_isStale se_X0_isStale (ci := 0) (by assumption) (by decide) ⟨_, _, rfl⟩ rfl (by omega) (by omega) (by omega) rfl (Nat.le_of_ble_eq_true rfl) dX10_builder_11 ?_
      intro r9 S9 hp9
      obtain ⟨rfl, hS9⟩ := hp9
      obtain rfl := hS9.symm
      refine a_if_eq K dX10_builder_14 (tgt := 20) (by decide) (fun c_14 => ?_) (fun c_14 => absurd c_14 (fun z => z rfl))
      first | refine a_aload_n K dX10_builder_20 rfl ?_ | refine a_aload_nN K dX10_builder_20 rfl ?_
      refine a_getRs K fd_X10_90 (lw_i4 hL) (Or.inl ⟨_, rfl⟩) (lw_f655 hL) dX10_builder_21 ?_
      first | refine a_aload_n K dX10_builder_24 rfl ?_ | refine a_aload_nN K dX10_builder_24 rfl ?_
      refine a_invV K (m_X0_root ob) my_X0_root ml_X10_345 im_X0_root se_X0_root (ci := 0) (by assumption) (by decide) ⟨_, _, rfl⟩ rfl (by omega) (by omega) (by omega) rfl (Nat.le_of_ble_eq_true rfl) dX10_builder_25 ?_
      intro r9 S9 hp9
      obtain ⟨rfl, hS9⟩ := hp9
      obtain rfl := hS9.symm
      rw [qr]
      refine a_invV K (m_fillL h hP.1.1 ht) my_X2_fill ml_X10_181 im_X2_fill se_X2_fill (ci := 2) (lw_i34 hL) (by decide) ⟨_, _, rfl⟩ rfl (by omega) (by omega) (by omega) rfl (Nat.le_of_ble_eq_true rfl) dX10_builder_28 ?_
      intro r9 S9 hp9
      obtain ⟨rfl, hLs, h3, k3, f3⟩ := hp9
      have hL := h3.L
      have t3 := TT_.fr h f3 (scr_Ls v) ht
      have hO := LsO_sub z.1 t3.1.1
      obtain ⟨ob, qr, qt, -, -, -, -⟩ := h3.bk hP hj hp
      have qf3 := ((h3.2.2.2.1 j hj).2 _ hp).2.2
      by_cases w0 : w = 0
      · subst w0
        refine a_iload_n K dX10_builder_31 rfl ?_
        refine a_tsIn K dX10_builder_32 (off := 32) (tgt := 64) (by decide) (by decide) rfl (by decide) ?_
        first | refine a_aload_n K dX10_builder_64 rfl ?_ | refine a_aload_nN K dX10_builder_64 rfl ?_
        refine a_invV K (m_X0_root ob) my_X0_root ml_X10_345 im_X0_root se_X0_root (ci := 0) (by assumption) (by decide) ⟨_, _, rfl⟩ rfl (by omega) (by omega) (by omega) rfl (Nat.le_of_ble_eq_true rfl) dX10_builder_65 ?_
        intro r9 S9 hp9
        obtain ⟨rfl, hS9⟩ := hp9
        obtain rfl := hS9.symm
        rw [qr]
        refine a_iconst K dX10_builder_68 (v := 0) (by decide) ?_
        refine a_invS K (m_X10_keysIn z.1 (dep := 0) t3.1.1 (by omega)) my_X10_keysIn ml_X10_225 st_X10_keysIn rfl (by omega) (by omega) (by omega) rfl (Nat.le_of_ble_eq_true rfl) dX10_builder_69 ?_
        intro r9 S9 hp9
        obtain ⟨rfl, hS9⟩ := hp9
        obtain rfl := hS9.symm
        exact a_iret K EE rfl (by omega) (by omega) dX10_builder_72 (by unfold buiA; rw [hb]; show some (Value.int _) = some (Value.int (buiB P _ j)) ∧ _; unfold buiB; rw [hp]; exact ⟨by show some (Value.int _) = some (Value.int (ite _ _ _)); rw [if_pos rfl, ← cnt_ent], h3, k3⟩)
      · by_cases w1 : w = 1
        · subst w1
          refine a_iload_n K dX10_builder_31 rfl ?_
          refine a_tsIn K dX10_builder_32 (off := 41) (tgt := 73) (by decide) (by decide) rfl (by decide) ?_
          first | refine a_aload_n K dX10_builder_73 rfl ?_ | refine a_aload_nN K dX10_builder_73 rfl ?_
          refine a_getRs K fd_X10_90 (lw_i4 hL) (Or.inl ⟨_, rfl⟩) (lw_f655 hL) dX10_builder_74 ?_
          refine a_invV K (m_X2_size hLs.1) my_X2_size ml_X10_185 im_X2_size se_X2_size (ci := 2) (lw_i34 hL) (by decide) ⟨_, _, rfl⟩ rfl (by omega) (by omega) (by omega) rfl (Nat.le_of_ble_eq_true rfl) dX10_builder_77 ?_
          intro r9 S9 hp9
          obtain ⟨rfl, hS9⟩ := hp9
          obtain rfl := hS9.symm
          rw [hLs.2.2.2.2.2.2.2.1]
          exact a_iret K EE rfl (by omega) (by omega) dX10_builder_80 (by unfold buiA; rw [hb]; show some (Value.int _) = some (Value.int (buiB P _ j)) ∧ _; unfold buiB; rw [hp]; exact ⟨by show some (Value.int _) = some (Value.int (ite _ _ _)); rw [if_neg (by decide), if_pos rfl], h3, k3⟩)
        · by_cases w2 : w = 2
          · subst w2
            refine a_iload_n K dX10_builder_31 rfl ?_
            refine a_tsIn K dX10_builder_32 (off := 49) (tgt := 81) (by decide) (by decide) rfl (by decide) ?_
            first | refine a_aload_n K dX10_builder_81 rfl ?_ | refine a_aload_nN K dX10_builder_81 rfl ?_
            refine a_getRs K fd_X10_90 (lw_i4 hL) (Or.inl ⟨_, rfl⟩) (lw_f655 hL) dX10_builder_82 ?_
            first | refine a_aload_n K dX10_builder_85 rfl ?_ | refine a_aload_nN K dX10_builder_85 rfl ?_
            refine a_invV K (m_X0_token ob) my_X0_token ml_X10_349 im_X0_token se_X0_token (ci := 0) (by assumption) (by decide) ⟨_, _, rfl⟩ rfl (by omega) (by omega) (by omega) rfl (Nat.le_of_ble_eq_true rfl) dX10_builder_86 ?_
            intro r9 S9 hp9
            obtain ⟨rfl, hS9⟩ := hp9
            obtain rfl := hS9.symm
            rw [qt]
            refine a_invV K (m_Ls_sizeOf hLs hO (by omega) rfl) my_X2_sizeOf ml_X10_365 im_X2_sizeOf se_X2_sizeOf (ci := 2) (lw_i34 hL) (by decide) ⟨_, _, rfl⟩ rfl (by omega) (by omega) (by omega) rfl (Nat.le_of_ble_eq_true rfl) dX10_builder_89 ?_
            intro r9 S9 hp9
            obtain ⟨rfl, hS9⟩ := hp9
            obtain rfl := hS9.symm
            exact a_iret K EE rfl (by omega) (by omega) dX10_builder_92 (by unfold buiA; rw [hb]; show some (Value.int _) = some (Value.int (buiB P _ j)) ∧ _; unfold buiB; rw [hp]; exact ⟨by show some (Value.int _) = some (Value.int (ite _ _ _)); rw [if_neg (by decide), if_neg (by decide), if_pos rfl], h3, k3⟩)
          · by_cases w3 : w = 3
            · subst w3
              refine a_iload_n K dX10_builder_31 rfl ?_
              refine a_tsIn K dX10_builder_32 (off := 61) (tgt := 93) (by decide) (by decide) rfl (by decide) ?_
              first | refine a_aload_n K dX10_builder_93 rfl ?_ | refine a_aload_nN K dX10_builder_93 rfl ?_
              refine a_invV K (m_X0_from ob) my_X0_from ml_X10_362 im_X0_from se_X0_from (ci := 0) (by assumption) (by decide) ⟨_, _, rfl⟩ rfl (by omega) (by omega) (by omega) rfl (Nat.le_of_ble_eq_true rfl) dX10_builder_94 ?_
              intro r9 S9 hp9
              obtain ⟨rfl, hS9⟩ := hp9
              obtain rfl := hS9.symm
              rw [qf3]
              exact a_iret K EE rfl (by omega) (by omega) dX10_builder_97 (by unfold buiA; rw [hb]; show some (Value.int _) = some (Value.int (buiB P _ j)) ∧ _; unfold buiB; rw [hp]; exact ⟨by show some (Value.int _) = some (Value.int (ite _ _ _)); rw [if_neg (by decide), if_neg (by decide), if_neg (by decide), if_pos rfl], h3, k3⟩)
            · have hw : w.toInt < 0 ∨ 3 < w.toInt := tswn4 w0 w1 w2 w3
              refine a_iload_n K dX10_builder_31 rfl ?_
              refine a_tsOut K dX10_builder_32 (tgt := 98) (hw) (by decide) ?_
              refine a_ldc K kc_X10_180 dX10_builder_98 ?_
              exact a_iret K EE rfl (by omega) (by omega) dX10_builder_100 (by unfold buiA; rw [hb]; show some (Value.int _) = some (Value.int (buiB P _ j)) ∧ _; unfold buiB; rw [hp]; exact ⟨by show some (Value.int _) = some (Value.int (ite _ _ _)); rw [if_neg (fun y => by rw [y] at hw; revert hw; decide), if_neg (fun y => by rw [y] at hw; revert hw; decide), if_neg (fun y => by rw [y] at hw; revert hw; decide), if_neg (fun y => by rw [y] at hw; revert hw; decide)], h3, k3⟩)
