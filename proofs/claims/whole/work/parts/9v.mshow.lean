/-! the model: text written -/
theorem st_math_abs : Cond.static Lib.Math.abs.name ∈ TT := tt_r 1866 (by decide +kernel) rfl
theorem co_math_abs : Cond.code Lib.Math.abs.name Lib.Math.abs.code 1 (some .int) ∈ TT := tt_r 1867 (by decide +kernel) rfl
theorem a_mabs {g : aw_G} {y : MethodName} {cc : ByteArray} {mL : Nat} {ret : Option FieldType} {d mc ms : Nat} (K : aw_K g y cc mL ret d mc ms) {S : aw_S} {k n : Nat} {lv : List (Nat × Value)} {st : List Value} {pc : Nat} {idx : Nat} {x : Int32} (w1 : Cond.methodLink y.cls idx Lib.Math.abs.name ∈ TT) (hd : 1 ≤ d) (h8 : (st.map fun v => v.category).sum ≤ 8) (hk : k ≤ mc) (hn : n ≤ ms) (dg : decode cc pc = .ok (.invokestatic idx, 3)) (q : aw g mL S k n lv (.int (if 0 ≤ x then x else 0 - x) :: st) (pc + 3)) : aw g mL S k n lv (.int x :: st) pc := by
  obtain ⟨p, l, e, R, s, m, args, below, meth, c, D, cy, A, Q⟩ := g
  obtain ⟨hx, hb, hml, hr, hown, hnm, hts, hlk, hK, hA, hE, hfr, hlo, hce, hsl⟩ := K
  exact fun H locs ls hP hD hS hl => va_mabs hx hb (hml.trans hl.1.symm) hown (hts _ w1) (hts _ st_math_abs) (hts _ ini_math) (hts _ co_math_abs) (Nat.le_trans hd hfr) (by omega) (Nat.le_trans hk hce) (Nat.le_trans hn hsl) dg (q H locs ls hP hD hS hl)
theorem nar7 : ∀ k, k < 128 → vp_nar .byte (nI k).toInt8.toInt32 = nI k := by decide +kernel
/-- what is written -/
def TxM (S : aw_S) (m : Nat → Nat) (L : List Nat) : Prop := sI S 757 (m 33) = nI L.length ∧ L.length ≤ 1400 ∧ ∀ i b, L[i]? = some b → sA S (m 30) i = nI b
theorem TxM.app {S : aw_S} {m : Nat → Nat} {L : List Nat} {k : Nat} (h : TxM S m L) (hl : L.length < 1400) (hk : k < 128) : TxM (wI (wA S (m 30) L.length (vp_nar .byte (nI k).toInt8.toInt32)) 757 (m 33) (nI (L.length + 1))) m (L ++ [k]) := by
  refine ⟨by rw [wI_at, List.length_append]; rfl, by rw [List.length_append]; exact hl, fun i x hx => ?_⟩
  rw [sA_wI, sA_wA]
  rcases get_app1 hx with ⟨a, b⟩ | ⟨rfl, rfl⟩
  · rw [if_neg (fun z => by have := z.2; omega)]
    exact h.2.2 i x b
  · rw [if_pos ⟨rfl, rfl⟩]
    exact nar7 _ hk
set_option maxHeartbeats 4000000 in
set_option maxRecDepth 100000 in
theorem q_writes {S : aw_S} {m : Nat → Nat} (hM : LM S m) {L : List Nat} (hT : TxM S m L) (hl : L.length < 1400) {b : Nat} (hb : b < 128) : aw_M yX11_writes cX11_writes 2 (none : Option FieldType) 0 0 0 [.ref (m 33), .int (nI b)] S (fun r S2 => r = none ∧ TxM S2 m (L ++ [b]) ∧ frM S S2 m [30] [757]) := by
  refine aw_enter (by decide +kernel) (Nat.le_of_ble_eq_true rfl) (fun g K EE => ?_)
  first | refine a_aload_n K dX11_writes_0 rfl ?_ | refine a_aload_nN K dX11_writes_0 rfl ?_
  refine a_getRs K fd_X11_107 (by exact lm_o hM) (Or.inr ⟨_, rfl⟩) (by exact lm_r755 hM) dX11_writes_1 ?_
  first | refine a_aload_n K dX11_writes_4 rfl ?_ | refine a_aload_nN K dX11_writes_4 rfl ?_
  refine a_getI K fd_X11_435 (by exact lm_o hM) (Or.inl rfl) dX11_writes_5 ?_
  rw [hT.1]
  refine a_iload_n K dX11_writes_8 rfl ?_
  refine a_i2b K dX11_writes_9 ?_
  refine a_bast K (by exact lm_kk hM (by decide) (by decide)) (by show vp_in _ (sN S (m 30)); exact lm_ix (z := 1400) hM (by decide) (by decide) (show L.length < 1400 by omega) (by decide)) dX11_writes_10 ?_
  rw [nI_clamp (by omega)]
  have hM := (frM_wA (S := S) (m := m) (ks := [30]) (Fs := []) (k := 30) (i := L.length) (v := vp_nar .byte (nI b).toInt8.toInt32) (by decide)).lay hM
  first | refine a_aload_n K dX11_writes_11 rfl ?_ | refine a_aload_nN K dX11_writes_11 rfl ?_
  refine a_dup K dX11_writes_12 rfl ?_
  refine a_getI K fd_X11_435 (by exact lm_o hM) (Or.inl rfl) dX11_writes_13 ?_
  rw [show sI (wA S (m 30) L.length (vp_nar .byte (nI b).toInt8.toInt32)) 757 (m 33) = nI L.length from hT.1]
  refine a_iconst K dX11_writes_16 (v := 1) (by decide) ?_
  refine a_iadd K dX11_writes_17 ?_
  rw [nI_1]
  refine a_putI K fd_X11_435 (by exact lm_o hM) rfl dX11_writes_18 ?_
  exact a_vret K EE (by omega) (by omega) dX11_writes_21 ⟨rfl, hT.app hl hb, (frM_wA (by decide)).tr (frM_wI (by decide) (by decide))⟩
set_option maxHeartbeats 4000000 in
set_option maxRecDepth 100000 in
theorem q_writesNumber {S : aw_S} {m : Nat → Nat} (hM : LM S m) {L : List Nat} (hT0 : TxM S m L) (hl : L.length + 4 ≤ 1400) {v : Int32} (hv : okV v) : aw_M yX11_writesNumber cX11_writesNumber 3 (none : Option FieldType) 1 0 0 [.ref (m 33), .int v] S (fun r S2 => r = none ∧ TxM S2 m (L ++ nmT v) ∧ frM S S2 m [30] [757]) := by
  refine aw_enter (by decide +kernel) (Nat.le_of_ble_eq_true rfl) (fun g K EE => ?_)
  obtain ⟨R, hRR⟩ : ∃ R, L ++ nmT v = R := ⟨_, rfl⟩
  obtain ⟨n, hn, rfl | ⟨h0, rfl⟩⟩ := hv
  · have tail : ∀ (V : aw_S) (Lc : List Nat), LM V m → TxM V m Lc → Lc.length + 3 ≤ 1400 → frM S V m [30] [757] → Lc ++ dgT n = R → aw g 3 V 0 0 [(2, .int (nI n)), (1, .int (nI n)), (0, .ref (m 33))] [] 15 := by
      intro V Lc hM hT0 hl3 fL hR
      by_cases hb : 100 ≤ n
      · have hm : 10 ≤ n := by omega
        refine a_iload_n K dX11_writesNumber_15 rfl ?_
        refine a_bipush K dX11_writesNumber_16 (v := 99) (by decide) ?_
        refine a_icmp_le K dX11_writesNumber_18 (tgt := 32) (by decide) (fun c_18 => absurd c_18 (by rw [show (99 : Int32) = nI 99 from by decide]; exact fun q => absurd ((nI_leI (by omega) (by decide)).mp q) (by omega))) (fun c_18 => ?_)
        first | refine a_aload_n K dX11_writesNumber_21 rfl ?_ | refine a_aload_nN K dX11_writesNumber_21 rfl ?_
        refine a_bipush K dX11_writesNumber_22 (v := 48) (by decide) ?_
        refine a_iload_n K dX11_writesNumber_24 rfl ?_
        refine a_bipush K dX11_writesNumber_25 (v := 100) (by decide) ?_
        refine a_idiv K dX11_writesNumber_27 (by decide) ?_
        refine a_iadd K dX11_writesNumber_28 ?_
        rw [show (100 : Int32) = nI 100 from by decide, pk_div (by omega) (by decide) (by decide), show (48 : Int32) = nI 48 from by decide, nI_add]
        refine a_invV K (q_writes hM hT0 (b := 48 + n / 100) (by first | omega | (simp only [List.length_append, List.length_cons, List.length_nil]; omega)) (by omega)) my_X11_writes ml_X11_438 im_X11_writes se_X11_writes (ci := 11) (by exact lm_o hM) (by decide) ⟨_, _, rfl⟩ rfl (by omega) (by omega) (by omega) rfl (Nat.le_of_ble_eq_true rfl) dX11_writesNumber_29 ?_
        intro r9 V1 hp9
        obtain ⟨rfl, hT1, f1⟩ := hp9
        have hM := f1.lay hM
        refine a_iload_n K dX11_writesNumber_32 rfl ?_
        refine a_bipush K dX11_writesNumber_33 (v := 9) (by decide) ?_
        refine a_icmp_le K dX11_writesNumber_35 (tgt := 52) (by decide) (fun c_35 => absurd c_35 (by rw [show (9 : Int32) = nI 9 from by decide]; exact fun q => absurd ((nI_leI (by omega) (by decide)).mp q) (by omega))) (fun c_35 => ?_)
        first | refine a_aload_n K dX11_writesNumber_38 rfl ?_ | refine a_aload_nN K dX11_writesNumber_38 rfl ?_
        refine a_bipush K dX11_writesNumber_39 (v := 48) (by decide) ?_
        refine a_iload_n K dX11_writesNumber_41 rfl ?_
        refine a_bipush K dX11_writesNumber_42 (v := 10) (by decide) ?_
        refine a_idiv K dX11_writesNumber_44 (by decide) ?_
        refine a_bipush K dX11_writesNumber_45 (v := 10) (by decide) ?_
        refine a_irem K dX11_writesNumber_47 (by decide) ?_
        refine a_iadd K dX11_writesNumber_48 ?_
        rw [show (10 : Int32) = nI 10 from by decide, pk_div (by omega) (by decide) (by decide), pk_rem (by omega) (by decide) (by decide), show (48 : Int32) = nI 48 from by decide, nI_add]
        refine a_invV K (q_writes hM hT1 (b := 48 + n / 10 % 10) (by first | omega | (simp only [List.length_append, List.length_cons, List.length_nil]; omega)) (by omega)) my_X11_writes ml_X11_438 im_X11_writes se_X11_writes (ci := 11) (by exact lm_o hM) (by decide) ⟨_, _, rfl⟩ rfl (by omega) (by omega) (by omega) rfl (Nat.le_of_ble_eq_true rfl) dX11_writesNumber_49 ?_
        intro r9 V2 hp9
        obtain ⟨rfl, hT2, f2⟩ := hp9
        have hM := f2.lay hM
        first | refine a_aload_n K dX11_writesNumber_52 rfl ?_ | refine a_aload_nN K dX11_writesNumber_52 rfl ?_
        refine a_bipush K dX11_writesNumber_53 (v := 48) (by decide) ?_
        refine a_iload_n K dX11_writesNumber_55 rfl ?_
        refine a_bipush K dX11_writesNumber_56 (v := 10) (by decide) ?_
        refine a_irem K dX11_writesNumber_58 (by decide) ?_
        refine a_iadd K dX11_writesNumber_59 ?_
        rw [show (10 : Int32) = nI 10 from by decide, pk_rem (by omega) (by decide) (by decide), show (48 : Int32) = nI 48 from by decide, nI_add]
        refine a_invV K (q_writes hM hT2 (b := 48 + n % 10) (by first | omega | (simp only [List.length_append, List.length_cons, List.length_nil]; omega)) (by omega)) my_X11_writes ml_X11_438 im_X11_writes se_X11_writes (ci := 11) (by exact lm_o hM) (by decide) ⟨_, _, rfl⟩ rfl (by omega) (by omega) (by omega) rfl (Nat.le_of_ble_eq_true rfl) dX11_writesNumber_60 ?_
        intro r9 V3 hp9
        obtain ⟨rfl, hT3, f3⟩ := hp9
        have hM := f3.lay hM
        exact a_vret K EE (by omega) (by omega) dX11_writesNumber_63 ⟨rfl, by rw [hRR, ← hR]; unfold dgT; rw [if_pos hb, if_pos hm, show n / 100 % 10 = n / 100 by omega]; simpa using hT3, (((fL.tr f1).tr f2).tr f3)⟩
      by_cases hm : 10 ≤ n
      · refine a_iload_n K dX11_writesNumber_15 rfl ?_
        refine a_bipush K dX11_writesNumber_16 (v := 99) (by decide) ?_
        refine a_icmp_le K dX11_writesNumber_18 (tgt := 32) (by decide) (fun c_18 => ?_) (fun c_18 => absurd c_18 (fun q => q (by rw [show (99 : Int32) = nI 99 from by decide]; exact nI_le (by omega) (by decide))))
        refine a_iload_n K dX11_writesNumber_32 rfl ?_
        refine a_bipush K dX11_writesNumber_33 (v := 9) (by decide) ?_
        refine a_icmp_le K dX11_writesNumber_35 (tgt := 52) (by decide) (fun c_35 => absurd c_35 (by rw [show (9 : Int32) = nI 9 from by decide]; exact fun q => absurd ((nI_leI (by omega) (by decide)).mp q) (by omega))) (fun c_35 => ?_)
        first | refine a_aload_n K dX11_writesNumber_38 rfl ?_ | refine a_aload_nN K dX11_writesNumber_38 rfl ?_
        refine a_bipush K dX11_writesNumber_39 (v := 48) (by decide) ?_
        refine a_iload_n K dX11_writesNumber_41 rfl ?_
        refine a_bipush K dX11_writesNumber_42 (v := 10) (by decide) ?_
        refine a_idiv K dX11_writesNumber_44 (by decide) ?_
        refine a_bipush K dX11_writesNumber_45 (v := 10) (by decide) ?_
        refine a_irem K dX11_writesNumber_47 (by decide) ?_
        refine a_iadd K dX11_writesNumber_48 ?_
        rw [show (10 : Int32) = nI 10 from by decide, pk_div (by omega) (by decide) (by decide), pk_rem (by omega) (by decide) (by decide), show (48 : Int32) = nI 48 from by decide, nI_add]
        refine a_invV K (q_writes hM hT0 (b := 48 + n / 10 % 10) (by first | omega | (simp only [List.length_append, List.length_cons, List.length_nil]; omega)) (by omega)) my_X11_writes ml_X11_438 im_X11_writes se_X11_writes (ci := 11) (by exact lm_o hM) (by decide) ⟨_, _, rfl⟩ rfl (by omega) (by omega) (by omega) rfl (Nat.le_of_ble_eq_true rfl) dX11_writesNumber_49 ?_
        intro r9 V1 hp9
        obtain ⟨rfl, hT1, f1⟩ := hp9
        have hM := f1.lay hM
        first | refine a_aload_n K dX11_writesNumber_52 rfl ?_ | refine a_aload_nN K dX11_writesNumber_52 rfl ?_
        refine a_bipush K dX11_writesNumber_53 (v := 48) (by decide) ?_
        refine a_iload_n K dX11_writesNumber_55 rfl ?_
        refine a_bipush K dX11_writesNumber_56 (v := 10) (by decide) ?_
        refine a_irem K dX11_writesNumber_58 (by decide) ?_
        refine a_iadd K dX11_writesNumber_59 ?_
        rw [show (10 : Int32) = nI 10 from by decide, pk_rem (by omega) (by decide) (by decide), show (48 : Int32) = nI 48 from by decide, nI_add]
        refine a_invV K (q_writes hM hT1 (b := 48 + n % 10) (by first | omega | (simp only [List.length_append, List.length_cons, List.length_nil]; omega)) (by omega)) my_X11_writes ml_X11_438 im_X11_writes se_X11_writes (ci := 11) (by exact lm_o hM) (by decide) ⟨_, _, rfl⟩ rfl (by omega) (by omega) (by omega) rfl (Nat.le_of_ble_eq_true rfl) dX11_writesNumber_60 ?_
        intro r9 V2 hp9
        obtain ⟨rfl, hT2, f2⟩ := hp9
        have hM := f2.lay hM
        exact a_vret K EE (by omega) (by omega) dX11_writesNumber_63 ⟨rfl, by rw [hRR, ← hR]; unfold dgT; rw [if_neg hb, if_pos hm]; simpa using hT2, ((fL.tr f1).tr f2)⟩
      · refine a_iload_n K dX11_writesNumber_15 rfl ?_
        refine a_bipush K dX11_writesNumber_16 (v := 99) (by decide) ?_
        refine a_icmp_le K dX11_writesNumber_18 (tgt := 32) (by decide) (fun c_18 => ?_) (fun c_18 => absurd c_18 (fun q => q (by rw [show (99 : Int32) = nI 99 from by decide]; exact nI_le (by omega) (by decide))))
        refine a_iload_n K dX11_writesNumber_32 rfl ?_
        refine a_bipush K dX11_writesNumber_33 (v := 9) (by decide) ?_
        refine a_icmp_le K dX11_writesNumber_35 (tgt := 52) (by decide) (fun c_35 => ?_) (fun c_35 => absurd c_35 (fun q => q (by rw [show (9 : Int32) = nI 9 from by decide]; exact nI_le (by omega) (by decide))))
        first | refine a_aload_n K dX11_writesNumber_52 rfl ?_ | refine a_aload_nN K dX11_writesNumber_52 rfl ?_
        refine a_bipush K dX11_writesNumber_53 (v := 48) (by decide) ?_
        refine a_iload_n K dX11_writesNumber_55 rfl ?_
        refine a_bipush K dX11_writesNumber_56 (v := 10) (by decide) ?_
        refine a_irem K dX11_writesNumber_58 (by decide) ?_
        refine a_iadd K dX11_writesNumber_59 ?_
        rw [show (10 : Int32) = nI 10 from by decide, pk_rem (by omega) (by decide) (by decide), show (48 : Int32) = nI 48 from by decide, nI_add]
        refine a_invV K (q_writes hM hT0 (b := 48 + n % 10) (by first | omega | (simp only [List.length_append, List.length_cons, List.length_nil]; omega)) (by omega)) my_X11_writes ml_X11_438 im_X11_writes se_X11_writes (ci := 11) (by exact lm_o hM) (by decide) ⟨_, _, rfl⟩ rfl (by omega) (by omega) (by omega) rfl (Nat.le_of_ble_eq_true rfl) dX11_writesNumber_60 ?_
        intro r9 V1 hp9
        obtain ⟨rfl, hT1, f1⟩ := hp9
        have hM := f1.lay hM
        exact a_vret K EE (by omega) (by omega) dX11_writesNumber_63 ⟨rfl, by rw [hRR, ← hR]; unfold dgT; rw [if_neg hb, if_neg hm]; simpa using hT1, (fL.tr f1)⟩
    refine a_iload_n K dX11_writesNumber_0 rfl ?_
    refine a_if_ge K dX11_writesNumber_1 (tgt := 10) (by decide) (fun c_1 => ?_) (fun c_1 => absurd c_1 (fun q => q (Int32.not_lt.mp (nI_pos (by omega)))))
    refine a_iload_n K dX11_writesNumber_10 rfl ?_
    refine a_mabs K ml_X11_441 (by omega) (Nat.le_of_ble_eq_true rfl) (by omega) (by omega) dX11_writesNumber_11 ?_
    rw [if_pos (Int32.not_lt.mp (nI_pos (show n < 2 ^ 31 by omega)))]
    refine a_istore_n K dX11_writesNumber_14 (by decide) ?_
    exact aw_locl rfl (tail S L hM hT0 (by omega) frM.rf (by rw [← hRR, nmT_p hn]))
  · have tail : ∀ (V : aw_S) (Lc : List Nat), LM V m → TxM V m Lc → Lc.length + 3 ≤ 1400 → frM S V m [30] [757] → Lc ++ dgT n = R → aw g 3 V 0 0 [(2, .int (nI n)), (1, .int (-(nI n))), (0, .ref (m 33))] [] 15 := by
      intro V Lc hM hT0 hl3 fL hR
      by_cases hb : 100 ≤ n
      · have hm : 10 ≤ n := by omega
        refine a_iload_n K dX11_writesNumber_15 rfl ?_
        refine a_bipush K dX11_writesNumber_16 (v := 99) (by decide) ?_
        refine a_icmp_le K dX11_writesNumber_18 (tgt := 32) (by decide) (fun c_18 => absurd c_18 (by rw [show (99 : Int32) = nI 99 from by decide]; exact fun q => absurd ((nI_leI (by omega) (by decide)).mp q) (by omega))) (fun c_18 => ?_)
        first | refine a_aload_n K dX11_writesNumber_21 rfl ?_ | refine a_aload_nN K dX11_writesNumber_21 rfl ?_
        refine a_bipush K dX11_writesNumber_22 (v := 48) (by decide) ?_
        refine a_iload_n K dX11_writesNumber_24 rfl ?_
        refine a_bipush K dX11_writesNumber_25 (v := 100) (by decide) ?_
        refine a_idiv K dX11_writesNumber_27 (by decide) ?_
        refine a_iadd K dX11_writesNumber_28 ?_
        rw [show (100 : Int32) = nI 100 from by decide, pk_div (by omega) (by decide) (by decide), show (48 : Int32) = nI 48 from by decide, nI_add]
        refine a_invV K (q_writes hM hT0 (b := 48 + n / 100) (by first | omega | (simp only [List.length_append, List.length_cons, List.length_nil]; omega)) (by omega)) my_X11_writes ml_X11_438 im_X11_writes se_X11_writes (ci := 11) (by exact lm_o hM) (by decide) ⟨_, _, rfl⟩ rfl (by omega) (by omega) (by omega) rfl (Nat.le_of_ble_eq_true rfl) dX11_writesNumber_29 ?_
        intro r9 V1 hp9
        obtain ⟨rfl, hT1, f1⟩ := hp9
        have hM := f1.lay hM
        refine a_iload_n K dX11_writesNumber_32 rfl ?_
        refine a_bipush K dX11_writesNumber_33 (v := 9) (by decide) ?_
        refine a_icmp_le K dX11_writesNumber_35 (tgt := 52) (by decide) (fun c_35 => absurd c_35 (by rw [show (9 : Int32) = nI 9 from by decide]; exact fun q => absurd ((nI_leI (by omega) (by decide)).mp q) (by omega))) (fun c_35 => ?_)
        first | refine a_aload_n K dX11_writesNumber_38 rfl ?_ | refine a_aload_nN K dX11_writesNumber_38 rfl ?_
        refine a_bipush K dX11_writesNumber_39 (v := 48) (by decide) ?_
        refine a_iload_n K dX11_writesNumber_41 rfl ?_
        refine a_bipush K dX11_writesNumber_42 (v := 10) (by decide) ?_
        refine a_idiv K dX11_writesNumber_44 (by decide) ?_
        refine a_bipush K dX11_writesNumber_45 (v := 10) (by decide) ?_
        refine a_irem K dX11_writesNumber_47 (by decide) ?_
        refine a_iadd K dX11_writesNumber_48 ?_
        rw [show (10 : Int32) = nI 10 from by decide, pk_div (by omega) (by decide) (by decide), pk_rem (by omega) (by decide) (by decide), show (48 : Int32) = nI 48 from by decide, nI_add]
        refine a_invV K (q_writes hM hT1 (b := 48 + n / 10 % 10) (by first | omega | (simp only [List.length_append, List.length_cons, List.length_nil]; omega)) (by omega)) my_X11_writes ml_X11_438 im_X11_writes se_X11_writes (ci := 11) (by exact lm_o hM) (by decide) ⟨_, _, rfl⟩ rfl (by omega) (by omega) (by omega) rfl (Nat.le_of_ble_eq_true rfl) dX11_writesNumber_49 ?_
        intro r9 V2 hp9
        obtain ⟨rfl, hT2, f2⟩ := hp9
        have hM := f2.lay hM
        first | refine a_aload_n K dX11_writesNumber_52 rfl ?_ | refine a_aload_nN K dX11_writesNumber_52 rfl ?_
        refine a_bipush K dX11_writesNumber_53 (v := 48) (by decide) ?_
        refine a_iload_n K dX11_writesNumber_55 rfl ?_
        refine a_bipush K dX11_writesNumber_56 (v := 10) (by decide) ?_
        refine a_irem K dX11_writesNumber_58 (by decide) ?_
        refine a_iadd K dX11_writesNumber_59 ?_
        rw [show (10 : Int32) = nI 10 from by decide, pk_rem (by omega) (by decide) (by decide), show (48 : Int32) = nI 48 from by decide, nI_add]
        refine a_invV K (q_writes hM hT2 (b := 48 + n % 10) (by first | omega | (simp only [List.length_append, List.length_cons, List.length_nil]; omega)) (by omega)) my_X11_writes ml_X11_438 im_X11_writes se_X11_writes (ci := 11) (by exact lm_o hM) (by decide) ⟨_, _, rfl⟩ rfl (by omega) (by omega) (by omega) rfl (Nat.le_of_ble_eq_true rfl) dX11_writesNumber_60 ?_
        intro r9 V3 hp9
        obtain ⟨rfl, hT3, f3⟩ := hp9
        have hM := f3.lay hM
        exact a_vret K EE (by omega) (by omega) dX11_writesNumber_63 ⟨rfl, by rw [hRR, ← hR]; unfold dgT; rw [if_pos hb, if_pos hm, show n / 100 % 10 = n / 100 by omega]; simpa using hT3, (((fL.tr f1).tr f2).tr f3)⟩
      by_cases hm : 10 ≤ n
      · refine a_iload_n K dX11_writesNumber_15 rfl ?_
        refine a_bipush K dX11_writesNumber_16 (v := 99) (by decide) ?_
        refine a_icmp_le K dX11_writesNumber_18 (tgt := 32) (by decide) (fun c_18 => ?_) (fun c_18 => absurd c_18 (fun q => q (by rw [show (99 : Int32) = nI 99 from by decide]; exact nI_le (by omega) (by decide))))
        refine a_iload_n K dX11_writesNumber_32 rfl ?_
        refine a_bipush K dX11_writesNumber_33 (v := 9) (by decide) ?_
        refine a_icmp_le K dX11_writesNumber_35 (tgt := 52) (by decide) (fun c_35 => absurd c_35 (by rw [show (9 : Int32) = nI 9 from by decide]; exact fun q => absurd ((nI_leI (by omega) (by decide)).mp q) (by omega))) (fun c_35 => ?_)
        first | refine a_aload_n K dX11_writesNumber_38 rfl ?_ | refine a_aload_nN K dX11_writesNumber_38 rfl ?_
        refine a_bipush K dX11_writesNumber_39 (v := 48) (by decide) ?_
        refine a_iload_n K dX11_writesNumber_41 rfl ?_
        refine a_bipush K dX11_writesNumber_42 (v := 10) (by decide) ?_
        refine a_idiv K dX11_writesNumber_44 (by decide) ?_
        refine a_bipush K dX11_writesNumber_45 (v := 10) (by decide) ?_
        refine a_irem K dX11_writesNumber_47 (by decide) ?_
        refine a_iadd K dX11_writesNumber_48 ?_
        rw [show (10 : Int32) = nI 10 from by decide, pk_div (by omega) (by decide) (by decide), pk_rem (by omega) (by decide) (by decide), show (48 : Int32) = nI 48 from by decide, nI_add]
        refine a_invV K (q_writes hM hT0 (b := 48 + n / 10 % 10) (by first | omega | (simp only [List.length_append, List.length_cons, List.length_nil]; omega)) (by omega)) my_X11_writes ml_X11_438 im_X11_writes se_X11_writes (ci := 11) (by exact lm_o hM) (by decide) ⟨_, _, rfl⟩ rfl (by omega) (by omega) (by omega) rfl (Nat.le_of_ble_eq_true rfl) dX11_writesNumber_49 ?_
        intro r9 V1 hp9
        obtain ⟨rfl, hT1, f1⟩ := hp9
        have hM := f1.lay hM
        first | refine a_aload_n K dX11_writesNumber_52 rfl ?_ | refine a_aload_nN K dX11_writesNumber_52 rfl ?_
        refine a_bipush K dX11_writesNumber_53 (v := 48) (by decide) ?_
        refine a_iload_n K dX11_writesNumber_55 rfl ?_
        refine a_bipush K dX11_writesNumber_56 (v := 10) (by decide) ?_
        refine a_irem K dX11_writesNumber_58 (by decide) ?_
        refine a_iadd K dX11_writesNumber_59 ?_
        rw [show (10 : Int32) = nI 10 from by decide, pk_rem (by omega) (by decide) (by decide), show (48 : Int32) = nI 48 from by decide, nI_add]
        refine a_invV K (q_writes hM hT1 (b := 48 + n % 10) (by first | omega | (simp only [List.length_append, List.length_cons, List.length_nil]; omega)) (by omega)) my_X11_writes ml_X11_438 im_X11_writes se_X11_writes (ci := 11) (by exact lm_o hM) (by decide) ⟨_, _, rfl⟩ rfl (by omega) (by omega) (by omega) rfl (Nat.le_of_ble_eq_true rfl) dX11_writesNumber_60 ?_
        intro r9 V2 hp9
        obtain ⟨rfl, hT2, f2⟩ := hp9
        have hM := f2.lay hM
        exact a_vret K EE (by omega) (by omega) dX11_writesNumber_63 ⟨rfl, by rw [hRR, ← hR]; unfold dgT; rw [if_neg hb, if_pos hm]; simpa using hT2, ((fL.tr f1).tr f2)⟩
      · refine a_iload_n K dX11_writesNumber_15 rfl ?_
        refine a_bipush K dX11_writesNumber_16 (v := 99) (by decide) ?_
        refine a_icmp_le K dX11_writesNumber_18 (tgt := 32) (by decide) (fun c_18 => ?_) (fun c_18 => absurd c_18 (fun q => q (by rw [show (99 : Int32) = nI 99 from by decide]; exact nI_le (by omega) (by decide))))
        refine a_iload_n K dX11_writesNumber_32 rfl ?_
        refine a_bipush K dX11_writesNumber_33 (v := 9) (by decide) ?_
        refine a_icmp_le K dX11_writesNumber_35 (tgt := 52) (by decide) (fun c_35 => ?_) (fun c_35 => absurd c_35 (fun q => q (by rw [show (9 : Int32) = nI 9 from by decide]; exact nI_le (by omega) (by decide))))
        first | refine a_aload_n K dX11_writesNumber_52 rfl ?_ | refine a_aload_nN K dX11_writesNumber_52 rfl ?_
        refine a_bipush K dX11_writesNumber_53 (v := 48) (by decide) ?_
        refine a_iload_n K dX11_writesNumber_55 rfl ?_
        refine a_bipush K dX11_writesNumber_56 (v := 10) (by decide) ?_
        refine a_irem K dX11_writesNumber_58 (by decide) ?_
        refine a_iadd K dX11_writesNumber_59 ?_
        rw [show (10 : Int32) = nI 10 from by decide, pk_rem (by omega) (by decide) (by decide), show (48 : Int32) = nI 48 from by decide, nI_add]
        refine a_invV K (q_writes hM hT0 (b := 48 + n % 10) (by first | omega | (simp only [List.length_append, List.length_cons, List.length_nil]; omega)) (by omega)) my_X11_writes ml_X11_438 im_X11_writes se_X11_writes (ci := 11) (by exact lm_o hM) (by decide) ⟨_, _, rfl⟩ rfl (by omega) (by omega) (by omega) rfl (Nat.le_of_ble_eq_true rfl) dX11_writesNumber_60 ?_
        intro r9 V1 hp9
        obtain ⟨rfl, hT1, f1⟩ := hp9
        have hM := f1.lay hM
        exact a_vret K EE (by omega) (by omega) dX11_writesNumber_63 ⟨rfl, by rw [hRR, ← hR]; unfold dgT; rw [if_neg hb, if_neg hm]; simpa using hT1, (fL.tr f1)⟩
    refine a_iload_n K dX11_writesNumber_0 rfl ?_
    refine a_if_ge K dX11_writesNumber_1 (tgt := 10) (by decide) (fun c_1 => absurd c_1 (fun q => absurd (nI_neg_lt h0 hn) (Int32.not_lt.mpr q))) (fun c_1 => ?_)
    first | refine a_aload_n K dX11_writesNumber_4 rfl ?_ | refine a_aload_nN K dX11_writesNumber_4 rfl ?_
    refine a_bipush K dX11_writesNumber_5 (v := 45) (by decide) ?_
    rw [show (45 : Int32) = nI 45 from by decide]
    refine a_invV K (q_writes hM hT0 (b := 45) (by omega) (by decide)) my_X11_writes ml_X11_438 im_X11_writes se_X11_writes (ci := 11) (by exact lm_o hM) (by decide) ⟨_, _, rfl⟩ rfl (by omega) (by omega) (by omega) rfl (Nat.le_of_ble_eq_true rfl) dX11_writesNumber_7 ?_
    intro r9 W1 hp9
    obtain ⟨rfl, hTW, fW⟩ := hp9
    have hM := fW.lay hM
    refine a_iload_n K dX11_writesNumber_10 rfl ?_
    refine a_mabs K ml_X11_441 (by omega) (Nat.le_of_ble_eq_true rfl) (by omega) (by omega) dX11_writesNumber_11 ?_
    rw [if_neg (fun q => absurd (nI_neg_lt h0 hn) (Int32.not_lt.mpr q)), Int32.sub_eq_add_neg, Int32.neg_neg, Int32.zero_add]
    refine a_istore_n K dX11_writesNumber_14 (by decide) ?_
    exact aw_locl rfl (tail W1 (L ++ [45]) hM hTW (by rw [List.length_append]; show L.length + 1 + 3 ≤ 1400; omega) fW (by rw [← hRR, nmT_m h0 hn, List.append_assoc]; rfl))
