/-- a sheet at s, its signs sa -/
def ShW (S : aw_S) (s sa : Nat) (B : List Nat) : Prop := aw_is S s 8 ∧ sR S 512 s = some sa ∧ aw_is S sa 13 ∧ sN S sa = 700 ∧ sI S 513 s = nI B.length ∧ B.length ≤ 700 ∧ ∀ i x, B[i]? = some x → sA S sa i = nI x
def Qsh (s sa b : Nat) : Prop := b = s ∨ b = sa
theorem ShW.fr {S S2 : aw_S} {P : Nat → Prop} {s sa : Nat} {B : List Nat} (h : ShW S s sa B) (f : fr S S2 P) (n1 : ¬ P s) (n2 : ¬ P sa) : ShW S2 s sa B := by
  obtain ⟨h1, h2, h3, h4, h5, h6, h7⟩ := h
  obtain ⟨⟨a1, a2, a3, a4, -⟩, a8⟩ := f s h1.1
  obtain ⟨⟨b1, b2, b3, b4, -⟩, b8⟩ := f sa h3.1
  exact ⟨f.is h1, (a4 _).trans h2, f.is h3, b3.trans h4, ((a8 n1).1 _).trans h5, h6, fun i x hx => by
    rw [(b8 n2).2.1]
    exact h7 i x hx⟩
/-- a sheet's shape -/
def ShS (S : aw_S) (s sa : Nat) : Prop := aw_is S s 8 ∧ sR S 512 s = some sa ∧ aw_is S sa 13 ∧ sN S sa = 700
theorem ShS.clear {S : aw_S} {s sa : Nat} (h : ShS S s sa) : ShW (wI S 513 s 0) s sa [] ∧ frS S (wI S 513 s 0) (Qsh s sa) := by
  obtain ⟨h1, h2, h3, h4⟩ := h
  exact ⟨⟨h1, h2, h3, h4, wI_at, Nat.zero_le _, fun i x hx => absurd hx (by simp)⟩, (frS_wI (by decide)).mono (fun _ z => Or.inl z)⟩
theorem m_Sh_append {S : aw_S} {s sa : Nat} {B : List Nat} {k : Int32} (c : Nat) (h : ShW S s sa B) (hk : k = nI c) (hn : B.length < 700) : aw_M yX8_append cX8_append 2 (none : Option FieldType) 0 0 0 [.ref s, .int k] S (fun r2 S2 => r2 = none ∧ ShW S2 s sa (B ++ [c]) ∧ frS S S2 (Qsh s sa)) := by
  obtain ⟨h1, h2, h3, h4, h5, h6, h7⟩ := h
  refine (m_X8_append h1 h2 h3 h4 h5 hn).post (fun r2 S2 hp => ?_)
  obtain ⟨hr, rfl⟩ := hp
  refine ⟨hr, ⟨h1, h2, h3, h4, by rw [wI_at, List.length_append]; rfl, by rw [List.length_append]; show B.length + 1 ≤ 700; omega, fun i x hx => ?_⟩, (frS_wA (S := S)).tr (frS_wI (by decide)) (fun _ z => Or.inr z) (fun _ z => Or.inl z)⟩
  rw [sA_wI, sA_wA]
  by_cases hi : i < B.length
  · rw [List.getElem?_append_left hi] at hx
    rw [if_neg (by omega)]
    exact h7 i x hx
  · rw [List.getElem?_append_right (by omega)] at hx
    have hi2 : i = B.length := by
      have h12 := (List.getElem?_eq_some_iff.mp hx).1
      simp at h12
      omega
    subst hi2
    rw [Nat.sub_self] at hx
    have hx2 : c = x := Option.some.inj hx
    subst hx2
    rw [if_pos ⟨rfl, rfl⟩]
    exact hk
theorem dig_c {d : Nat} (h : d < 10) : ((48 + nI d).toUInt32 % 65536).toInt32 = nI (48 + d) := by
  have k : ∀ d : Fin 10, ((48 + nI d.val).toUInt32 % 65536).toInt32 = nI (48 + d.val) := by decide +kernel
  exact k ⟨d, h⟩
/-- a number's digits, a number -/
def dgT (n : Nat) : List Nat := (if 100 ≤ n then [48 + n / 100 % 10] else []) ++ ((if 10 ≤ n then [48 + n / 10 % 10] else []) ++ [48 + n % 10])
def nmT (v : Int32) : List Nat := if v < 0 then 45 :: dgT (-v).toNatClampNeg else dgT v.toNatClampNeg
theorem dgT_len (n : Nat) : (dgT n).length ≤ 3 := by
  unfold dgT
  split <;> split <;> simp
theorem nmT_p {n : Nat} (h : n < 1000) : nmT (nI n) = dgT n := by
  unfold nmT
  rw [if_neg (nI_pos (by omega)), nI_clamp (by omega)]
theorem nI_neg_lt {n : Nat} (h0 : 0 < n) (h : n < 1000) : -(nI n) < 0 := by
  have h1 := nI_toInt (show n < 2 ^ 31 by omega)
  rw [i32_lt, Int32.toInt_neg, h1]
  show Int.bmod _ _ < 0
  rw [Int.bmod_eq_of_le (by omega) (by omega)]
  omega
theorem nmT_m {n : Nat} (h0 : 0 < n) (h : n < 1000) : nmT (-(nI n)) = 45 :: dgT n := by
  unfold nmT
  rw [if_pos (nI_neg_lt h0 h), Int32.neg_neg, nI_clamp (by omega)]
/-- a value is within its bounds -/
def okV (v : Int32) : Prop := ∃ n, n < 1000 ∧ (v = nI n ∨ (0 < n ∧ v = -(nI n)))
theorem nmT_len {v : Int32} (h : okV v) : (nmT v).length ≤ 4 := by
  obtain ⟨n, hn, rfl | ⟨h0, rfl⟩⟩ := h
  · rw [nmT_p hn]
    have := dgT_len n
    omega
  · rw [nmT_m h0 hn, List.length_cons]
    have := dgT_len n
    omega
set_option maxHeartbeats 4000000 in
set_option maxRecDepth 100000 in
theorem m_Sh_num_p {S : aw_S} {s sa n : Nat} {B : List Nat} (hB : ShW S s sa B) (hl : B.length + 4 ≤ 700) (hn : n < 1000) : aw_M yX8_writeNumber cX8_writeNumber 3 (none : Option FieldType) 1 0 0 [.ref s, .int (nI n)] S (fun r2 S2 => r2 = none ∧ ShW S2 s sa (B ++ dgT n) ∧ frS S S2 (Qsh s sa)) := by
  have oB := hB.1
  have hF : frS S S (Qsh s sa) := frS.rf
  refine aw_enter (by decide +kernel) (Nat.le_of_ble_eq_true rfl) (fun g K EE => ?_)
  refine a_iload_n K dX8_writeNumber_0 rfl ?_
  refine a_if_ge K dX8_writeNumber_1 (tgt := 10) (by decide) (fun c_1 => ?_) (fun c_1 => absurd c_1 (fun z => z (Int32.not_lt.mp (nI_pos (by omega)))))
  refine a_iload_n K dX8_writeNumber_10 rfl ?_
  refine a_if_ge K dX8_writeNumber_11 (tgt := 19) (by decide) (fun c_11 => ?_) (fun c_11 => absurd c_11 (fun z => z (Int32.not_lt.mp (nI_pos (by omega)))))
  refine a_iload_n K dX8_writeNumber_19 rfl ?_
  refine a_istore_n K dX8_writeNumber_20 (by decide) ?_
  refine a_iload_n K dX8_writeNumber_21 rfl ?_
  refine a_bipush K dX8_writeNumber_22 (v := 100) (by decide) ?_
  refine a_icmp_lt K dX8_writeNumber_24 (tgt := 42) (by decide) (fun c_24 => ?_) (fun c_24 => ?_)
  · have h100 : ¬ 100 ≤ n := fun z => absurd (nI_le (a := 100) z (by omega)) (Int32.not_le.mpr c_24)
    refine a_iload_n K dX8_writeNumber_42 rfl ?_
    refine a_bipush K dX8_writeNumber_43 (v := 10) (by decide) ?_
    refine a_icmp_lt K dX8_writeNumber_45 (tgt := 63) (by decide) (fun c_45 => ?_) (fun c_45 => ?_)
    · have h10 : ¬ 10 ≤ n := fun z => absurd (nI_le (a := 10) z (by omega)) (Int32.not_le.mpr c_45)
      first | refine a_aload_n K dX8_writeNumber_63 rfl ?_ | refine a_aload_nN K dX8_writeNumber_63 rfl ?_
      refine a_bipush K dX8_writeNumber_64 (v := 48) (by decide) ?_
      refine a_iload_n K dX8_writeNumber_66 rfl ?_
      refine a_bipush K dX8_writeNumber_67 (v := 10) (by decide) ?_
      refine a_irem K dX8_writeNumber_69 (by decide) ?_
      rw [show (10 : Int32) = nI 10 from by decide, pk_rem (by omega) (by decide) (by decide)]
      refine a_iadd K dX8_writeNumber_70 ?_
      refine a_i2c K dX8_writeNumber_71 ?_
      rw [dig_c (by omega)]
      refine a_invV K (m_Sh_append (48 + n % 10) hB rfl (by first | omega | (simp only [List.length_append, List.length_cons, List.length_nil] at *; omega))) my_X8_append ml_X8_33 im_X8_append se_X8_append (ci := 8) (by assumption) (by decide) ⟨_, _, rfl⟩ rfl (by omega) (by omega) (by omega) rfl (Nat.le_of_ble_eq_true rfl) dX8_writeNumber_72 ?_
      intro r9 T hp9
      obtain ⟨rfl, hB, f9⟩ := hp9
      replace hF := hF.tr f9 (fun _ z => z) (fun _ z => z)
      have oB := hB.1
      exact a_vret K EE (by omega) (by omega) dX8_writeNumber_75 ⟨rfl, by first | (simpa [dgT, h100, h10] using hB) | exact absurd h100 (by omega), hF⟩
    · have h10 : 10 ≤ n := (nI_leI (a := 10) (b := n) (by decide) (by omega)).mp (Int32.not_lt.mp c_45)
      first | refine a_aload_n K dX8_writeNumber_48 rfl ?_ | refine a_aload_nN K dX8_writeNumber_48 rfl ?_
      refine a_bipush K dX8_writeNumber_49 (v := 48) (by decide) ?_
      refine a_iload_n K dX8_writeNumber_51 rfl ?_
      refine a_bipush K dX8_writeNumber_52 (v := 10) (by decide) ?_
      refine a_idiv K dX8_writeNumber_54 (by decide) ?_
      refine a_bipush K dX8_writeNumber_55 (v := 10) (by decide) ?_
      refine a_irem K dX8_writeNumber_57 (by decide) ?_
      rw [show (10 : Int32) = nI 10 from by decide, pk_div (by omega) (by decide) (by decide), pk_rem (by omega) (by decide) (by decide)]
      refine a_iadd K dX8_writeNumber_58 ?_
      refine a_i2c K dX8_writeNumber_59 ?_
      rw [dig_c (by omega)]
      refine a_invV K (m_Sh_append (48 + n / 10 % 10) hB rfl (by first | omega | (simp only [List.length_append, List.length_cons, List.length_nil] at *; omega))) my_X8_append ml_X8_33 im_X8_append se_X8_append (ci := 8) (by assumption) (by decide) ⟨_, _, rfl⟩ rfl (by omega) (by omega) (by omega) rfl (Nat.le_of_ble_eq_true rfl) dX8_writeNumber_60 ?_
      intro r9 T hp9
      obtain ⟨rfl, hB, f9⟩ := hp9
      replace hF := hF.tr f9 (fun _ z => z) (fun _ z => z)
      have oB := hB.1
      first | refine a_aload_n K dX8_writeNumber_63 rfl ?_ | refine a_aload_nN K dX8_writeNumber_63 rfl ?_
      refine a_bipush K dX8_writeNumber_64 (v := 48) (by decide) ?_
      refine a_iload_n K dX8_writeNumber_66 rfl ?_
      refine a_bipush K dX8_writeNumber_67 (v := 10) (by decide) ?_
      refine a_irem K dX8_writeNumber_69 (by decide) ?_
      rw [show (10 : Int32) = nI 10 from by decide, pk_rem (by omega) (by decide) (by decide)]
      refine a_iadd K dX8_writeNumber_70 ?_
      refine a_i2c K dX8_writeNumber_71 ?_
      rw [dig_c (by omega)]
      refine a_invV K (m_Sh_append (48 + n % 10) hB rfl (by first | omega | (simp only [List.length_append, List.length_cons, List.length_nil] at *; omega))) my_X8_append ml_X8_33 im_X8_append se_X8_append (ci := 8) (by assumption) (by decide) ⟨_, _, rfl⟩ rfl (by omega) (by omega) (by omega) rfl (Nat.le_of_ble_eq_true rfl) dX8_writeNumber_72 ?_
      intro r9 T hp9
      obtain ⟨rfl, hB, f9⟩ := hp9
      replace hF := hF.tr f9 (fun _ z => z) (fun _ z => z)
      have oB := hB.1
      exact a_vret K EE (by omega) (by omega) dX8_writeNumber_75 ⟨rfl, by first | (simpa [dgT, h100, h10] using hB) | exact absurd h100 (by omega), hF⟩
  · have h100 : 100 ≤ n := (nI_leI (a := 100) (b := n) (by decide) (by omega)).mp (Int32.not_lt.mp c_24)
    first | refine a_aload_n K dX8_writeNumber_27 rfl ?_ | refine a_aload_nN K dX8_writeNumber_27 rfl ?_
    refine a_bipush K dX8_writeNumber_28 (v := 48) (by decide) ?_
    refine a_iload_n K dX8_writeNumber_30 rfl ?_
    refine a_bipush K dX8_writeNumber_31 (v := 100) (by decide) ?_
    refine a_idiv K dX8_writeNumber_33 (by decide) ?_
    refine a_bipush K dX8_writeNumber_34 (v := 10) (by decide) ?_
    refine a_irem K dX8_writeNumber_36 (by decide) ?_
    rw [show (10 : Int32) = nI 10 from by decide, show (100 : Int32) = nI 100 from by decide, pk_div (by omega) (by decide) (by decide), pk_rem (by omega) (by decide) (by decide)]
    refine a_iadd K dX8_writeNumber_37 ?_
    refine a_i2c K dX8_writeNumber_38 ?_
    rw [dig_c (by omega)]
    refine a_invV K (m_Sh_append (48 + n / 100 % 10) hB rfl (by first | omega | (simp only [List.length_append, List.length_cons, List.length_nil] at *; omega))) my_X8_append ml_X8_33 im_X8_append se_X8_append (ci := 8) (by assumption) (by decide) ⟨_, _, rfl⟩ rfl (by omega) (by omega) (by omega) rfl (Nat.le_of_ble_eq_true rfl) dX8_writeNumber_39 ?_
    intro r9 T hp9
    obtain ⟨rfl, hB, f9⟩ := hp9
    replace hF := hF.tr f9 (fun _ z => z) (fun _ z => z)
    have oB := hB.1
    refine a_iload_n K dX8_writeNumber_42 rfl ?_
    refine a_bipush K dX8_writeNumber_43 (v := 10) (by decide) ?_
    refine a_icmp_lt K dX8_writeNumber_45 (tgt := 63) (by decide) (fun c_45 => ?_) (fun c_45 => ?_)
    · have h10 : ¬ 10 ≤ n := fun z => absurd (nI_le (a := 10) z (by omega)) (Int32.not_le.mpr c_45)
      first | refine a_aload_n K dX8_writeNumber_63 rfl ?_ | refine a_aload_nN K dX8_writeNumber_63 rfl ?_
      refine a_bipush K dX8_writeNumber_64 (v := 48) (by decide) ?_
      refine a_iload_n K dX8_writeNumber_66 rfl ?_
      refine a_bipush K dX8_writeNumber_67 (v := 10) (by decide) ?_
      refine a_irem K dX8_writeNumber_69 (by decide) ?_
      rw [show (10 : Int32) = nI 10 from by decide, pk_rem (by omega) (by decide) (by decide)]
      refine a_iadd K dX8_writeNumber_70 ?_
      refine a_i2c K dX8_writeNumber_71 ?_
      rw [dig_c (by omega)]
      refine a_invV K (m_Sh_append (48 + n % 10) hB rfl (by first | omega | (simp only [List.length_append, List.length_cons, List.length_nil] at *; omega))) my_X8_append ml_X8_33 im_X8_append se_X8_append (ci := 8) (by assumption) (by decide) ⟨_, _, rfl⟩ rfl (by omega) (by omega) (by omega) rfl (Nat.le_of_ble_eq_true rfl) dX8_writeNumber_72 ?_
      intro r9 T hp9
      obtain ⟨rfl, hB, f9⟩ := hp9
      replace hF := hF.tr f9 (fun _ z => z) (fun _ z => z)
      have oB := hB.1
      exact a_vret K EE (by omega) (by omega) dX8_writeNumber_75 ⟨rfl, by first | (simpa [dgT, h100, h10] using hB) | exact absurd h100 (by omega), hF⟩
    · have h10 : 10 ≤ n := (nI_leI (a := 10) (b := n) (by decide) (by omega)).mp (Int32.not_lt.mp c_45)
      first | refine a_aload_n K dX8_writeNumber_48 rfl ?_ | refine a_aload_nN K dX8_writeNumber_48 rfl ?_
      refine a_bipush K dX8_writeNumber_49 (v := 48) (by decide) ?_
      refine a_iload_n K dX8_writeNumber_51 rfl ?_
      refine a_bipush K dX8_writeNumber_52 (v := 10) (by decide) ?_
      refine a_idiv K dX8_writeNumber_54 (by decide) ?_
      refine a_bipush K dX8_writeNumber_55 (v := 10) (by decide) ?_
      refine a_irem K dX8_writeNumber_57 (by decide) ?_
      rw [show (10 : Int32) = nI 10 from by decide, pk_div (by omega) (by decide) (by decide), pk_rem (by omega) (by decide) (by decide)]
      refine a_iadd K dX8_writeNumber_58 ?_
      refine a_i2c K dX8_writeNumber_59 ?_
      rw [dig_c (by omega)]
      refine a_invV K (m_Sh_append (48 + n / 10 % 10) hB rfl (by first | omega | (simp only [List.length_append, List.length_cons, List.length_nil] at *; omega))) my_X8_append ml_X8_33 im_X8_append se_X8_append (ci := 8) (by assumption) (by decide) ⟨_, _, rfl⟩ rfl (by omega) (by omega) (by omega) rfl (Nat.le_of_ble_eq_true rfl) dX8_writeNumber_60 ?_
      intro r9 T hp9
      obtain ⟨rfl, hB, f9⟩ := hp9
      replace hF := hF.tr f9 (fun _ z => z) (fun _ z => z)
      have oB := hB.1
      first | refine a_aload_n K dX8_writeNumber_63 rfl ?_ | refine a_aload_nN K dX8_writeNumber_63 rfl ?_
      refine a_bipush K dX8_writeNumber_64 (v := 48) (by decide) ?_
      refine a_iload_n K dX8_writeNumber_66 rfl ?_
      refine a_bipush K dX8_writeNumber_67 (v := 10) (by decide) ?_
      refine a_irem K dX8_writeNumber_69 (by decide) ?_
      rw [show (10 : Int32) = nI 10 from by decide, pk_rem (by omega) (by decide) (by decide)]
      refine a_iadd K dX8_writeNumber_70 ?_
      refine a_i2c K dX8_writeNumber_71 ?_
      rw [dig_c (by omega)]
      refine a_invV K (m_Sh_append (48 + n % 10) hB rfl (by first | omega | (simp only [List.length_append, List.length_cons, List.length_nil] at *; omega))) my_X8_append ml_X8_33 im_X8_append se_X8_append (ci := 8) (by assumption) (by decide) ⟨_, _, rfl⟩ rfl (by omega) (by omega) (by omega) rfl (Nat.le_of_ble_eq_true rfl) dX8_writeNumber_72 ?_
      intro r9 T hp9
      obtain ⟨rfl, hB, f9⟩ := hp9
      replace hF := hF.tr f9 (fun _ z => z) (fun _ z => z)
      have oB := hB.1
      exact a_vret K EE (by omega) (by omega) dX8_writeNumber_75 ⟨rfl, by first | (simpa [dgT, h100, h10] using hB) | exact absurd h100 (by omega), hF⟩
set_option maxHeartbeats 4000000 in
set_option maxRecDepth 100000 in
theorem m_Sh_num_m {S : aw_S} {s sa n : Nat} {B : List Nat} (hB : ShW S s sa B) (hl : B.length + 4 ≤ 700) (hn : n < 1000) (h0 : 0 < n) : aw_M yX8_writeNumber cX8_writeNumber 3 (none : Option FieldType) 1 0 0 [.ref s, .int (-(nI n))] S (fun r2 S2 => r2 = none ∧ ShW S2 s sa (B ++ (45 :: dgT n)) ∧ frS S S2 (Qsh s sa)) := by
  have oB := hB.1
  have hF : frS S S (Qsh s sa) := frS.rf
  refine aw_enter (by decide +kernel) (Nat.le_of_ble_eq_true rfl) (fun g K EE => ?_)
  refine a_iload_n K dX8_writeNumber_0 rfl ?_
  refine a_if_ge K dX8_writeNumber_1 (tgt := 10) (by decide) (fun c_1 => absurd c_1 (Int32.not_le.mpr (nI_neg_lt h0 hn))) (fun c_1 => ?_)
  first | refine a_aload_n K dX8_writeNumber_4 rfl ?_ | refine a_aload_nN K dX8_writeNumber_4 rfl ?_
  refine a_bipush K dX8_writeNumber_5 (v := 45) (by decide) ?_
  refine a_invV K (m_Sh_append 45 hB rfl (by first | omega | (simp only [List.length_append, List.length_cons, List.length_nil] at *; omega))) my_X8_append ml_X8_33 im_X8_append se_X8_append (ci := 8) (by assumption) (by decide) ⟨_, _, rfl⟩ rfl (by omega) (by omega) (by omega) rfl (Nat.le_of_ble_eq_true rfl) dX8_writeNumber_7 ?_
  intro r9 T hp9
  obtain ⟨rfl, hB, f9⟩ := hp9
  replace hF := hF.tr f9 (fun _ z => z) (fun _ z => z)
  have oB := hB.1
  refine a_iload_n K dX8_writeNumber_10 rfl ?_
  refine a_if_ge K dX8_writeNumber_11 (tgt := 19) (by decide) (fun c_11 => absurd c_11 (Int32.not_le.mpr (nI_neg_lt h0 hn))) (fun c_11 => ?_)
  refine a_iload_n K dX8_writeNumber_14 rfl ?_
  refine a_ineg K dX8_writeNumber_15 ?_
  rw [Int32.neg_neg]
  refine a_goto K dX8_writeNumber_16 (tgt := 20) (by decide) ?_
  refine a_istore_n K dX8_writeNumber_20 (by decide) ?_
  refine a_iload_n K dX8_writeNumber_21 rfl ?_
  refine a_bipush K dX8_writeNumber_22 (v := 100) (by decide) ?_
  refine a_icmp_lt K dX8_writeNumber_24 (tgt := 42) (by decide) (fun c_24 => ?_) (fun c_24 => ?_)
  · have h100 : ¬ 100 ≤ n := fun z => absurd (nI_le (a := 100) z (by omega)) (Int32.not_le.mpr c_24)
    refine a_iload_n K dX8_writeNumber_42 rfl ?_
    refine a_bipush K dX8_writeNumber_43 (v := 10) (by decide) ?_
    refine a_icmp_lt K dX8_writeNumber_45 (tgt := 63) (by decide) (fun c_45 => ?_) (fun c_45 => ?_)
    · have h10 : ¬ 10 ≤ n := fun z => absurd (nI_le (a := 10) z (by omega)) (Int32.not_le.mpr c_45)
      first | refine a_aload_n K dX8_writeNumber_63 rfl ?_ | refine a_aload_nN K dX8_writeNumber_63 rfl ?_
      refine a_bipush K dX8_writeNumber_64 (v := 48) (by decide) ?_
      refine a_iload_n K dX8_writeNumber_66 rfl ?_
      refine a_bipush K dX8_writeNumber_67 (v := 10) (by decide) ?_
      refine a_irem K dX8_writeNumber_69 (by decide) ?_
      rw [show (10 : Int32) = nI 10 from by decide, pk_rem (by omega) (by decide) (by decide)]
      refine a_iadd K dX8_writeNumber_70 ?_
      refine a_i2c K dX8_writeNumber_71 ?_
      rw [dig_c (by omega)]
      refine a_invV K (m_Sh_append (48 + n % 10) hB rfl (by first | omega | (simp only [List.length_append, List.length_cons, List.length_nil] at *; omega))) my_X8_append ml_X8_33 im_X8_append se_X8_append (ci := 8) (by assumption) (by decide) ⟨_, _, rfl⟩ rfl (by omega) (by omega) (by omega) rfl (Nat.le_of_ble_eq_true rfl) dX8_writeNumber_72 ?_
      intro r9 T hp9
      obtain ⟨rfl, hB, f9⟩ := hp9
      replace hF := hF.tr f9 (fun _ z => z) (fun _ z => z)
      have oB := hB.1
      exact a_vret K EE (by omega) (by omega) dX8_writeNumber_75 ⟨rfl, by first | (simpa [dgT, h100, h10, List.append_assoc] using hB) | exact absurd h100 (by omega), hF⟩
    · have h10 : 10 ≤ n := (nI_leI (a := 10) (b := n) (by decide) (by omega)).mp (Int32.not_lt.mp c_45)
      first | refine a_aload_n K dX8_writeNumber_48 rfl ?_ | refine a_aload_nN K dX8_writeNumber_48 rfl ?_
      refine a_bipush K dX8_writeNumber_49 (v := 48) (by decide) ?_
      refine a_iload_n K dX8_writeNumber_51 rfl ?_
      refine a_bipush K dX8_writeNumber_52 (v := 10) (by decide) ?_
      refine a_idiv K dX8_writeNumber_54 (by decide) ?_
      refine a_bipush K dX8_writeNumber_55 (v := 10) (by decide) ?_
      refine a_irem K dX8_writeNumber_57 (by decide) ?_
      rw [show (10 : Int32) = nI 10 from by decide, pk_div (by omega) (by decide) (by decide), pk_rem (by omega) (by decide) (by decide)]
      refine a_iadd K dX8_writeNumber_58 ?_
      refine a_i2c K dX8_writeNumber_59 ?_
      rw [dig_c (by omega)]
      refine a_invV K (m_Sh_append (48 + n / 10 % 10) hB rfl (by first | omega | (simp only [List.length_append, List.length_cons, List.length_nil] at *; omega))) my_X8_append ml_X8_33 im_X8_append se_X8_append (ci := 8) (by assumption) (by decide) ⟨_, _, rfl⟩ rfl (by omega) (by omega) (by omega) rfl (Nat.le_of_ble_eq_true rfl) dX8_writeNumber_60 ?_
      intro r9 T hp9
      obtain ⟨rfl, hB, f9⟩ := hp9
      replace hF := hF.tr f9 (fun _ z => z) (fun _ z => z)
      have oB := hB.1
      first | refine a_aload_n K dX8_writeNumber_63 rfl ?_ | refine a_aload_nN K dX8_writeNumber_63 rfl ?_
      refine a_bipush K dX8_writeNumber_64 (v := 48) (by decide) ?_
      refine a_iload_n K dX8_writeNumber_66 rfl ?_
      refine a_bipush K dX8_writeNumber_67 (v := 10) (by decide) ?_
      refine a_irem K dX8_writeNumber_69 (by decide) ?_
      rw [show (10 : Int32) = nI 10 from by decide, pk_rem (by omega) (by decide) (by decide)]
      refine a_iadd K dX8_writeNumber_70 ?_
      refine a_i2c K dX8_writeNumber_71 ?_
      rw [dig_c (by omega)]
      refine a_invV K (m_Sh_append (48 + n % 10) hB rfl (by first | omega | (simp only [List.length_append, List.length_cons, List.length_nil] at *; omega))) my_X8_append ml_X8_33 im_X8_append se_X8_append (ci := 8) (by assumption) (by decide) ⟨_, _, rfl⟩ rfl (by omega) (by omega) (by omega) rfl (Nat.le_of_ble_eq_true rfl) dX8_writeNumber_72 ?_
      intro r9 T hp9
      obtain ⟨rfl, hB, f9⟩ := hp9
      replace hF := hF.tr f9 (fun _ z => z) (fun _ z => z)
      have oB := hB.1
      exact a_vret K EE (by omega) (by omega) dX8_writeNumber_75 ⟨rfl, by first | (simpa [dgT, h100, h10, List.append_assoc] using hB) | exact absurd h100 (by omega), hF⟩
  · have h100 : 100 ≤ n := (nI_leI (a := 100) (b := n) (by decide) (by omega)).mp (Int32.not_lt.mp c_24)
    first | refine a_aload_n K dX8_writeNumber_27 rfl ?_ | refine a_aload_nN K dX8_writeNumber_27 rfl ?_
    refine a_bipush K dX8_writeNumber_28 (v := 48) (by decide) ?_
    refine a_iload_n K dX8_writeNumber_30 rfl ?_
    refine a_bipush K dX8_writeNumber_31 (v := 100) (by decide) ?_
    refine a_idiv K dX8_writeNumber_33 (by decide) ?_
    refine a_bipush K dX8_writeNumber_34 (v := 10) (by decide) ?_
    refine a_irem K dX8_writeNumber_36 (by decide) ?_
    rw [show (10 : Int32) = nI 10 from by decide, show (100 : Int32) = nI 100 from by decide, pk_div (by omega) (by decide) (by decide), pk_rem (by omega) (by decide) (by decide)]
    refine a_iadd K dX8_writeNumber_37 ?_
    refine a_i2c K dX8_writeNumber_38 ?_
    rw [dig_c (by omega)]
    refine a_invV K (m_Sh_append (48 + n / 100 % 10) hB rfl (by first | omega | (simp only [List.length_append, List.length_cons, List.length_nil] at *; omega))) my_X8_append ml_X8_33 im_X8_append se_X8_append (ci := 8) (by assumption) (by decide) ⟨_, _, rfl⟩ rfl (by omega) (by omega) (by omega) rfl (Nat.le_of_ble_eq_true rfl) dX8_writeNumber_39 ?_
    intro r9 T hp9
    obtain ⟨rfl, hB, f9⟩ := hp9
    replace hF := hF.tr f9 (fun _ z => z) (fun _ z => z)
    have oB := hB.1
    refine a_iload_n K dX8_writeNumber_42 rfl ?_
    refine a_bipush K dX8_writeNumber_43 (v := 10) (by decide) ?_
    refine a_icmp_lt K dX8_writeNumber_45 (tgt := 63) (by decide) (fun c_45 => ?_) (fun c_45 => ?_)
    · have h10 : ¬ 10 ≤ n := fun z => absurd (nI_le (a := 10) z (by omega)) (Int32.not_le.mpr c_45)
      first | refine a_aload_n K dX8_writeNumber_63 rfl ?_ | refine a_aload_nN K dX8_writeNumber_63 rfl ?_
      refine a_bipush K dX8_writeNumber_64 (v := 48) (by decide) ?_
      refine a_iload_n K dX8_writeNumber_66 rfl ?_
      refine a_bipush K dX8_writeNumber_67 (v := 10) (by decide) ?_
      refine a_irem K dX8_writeNumber_69 (by decide) ?_
      rw [show (10 : Int32) = nI 10 from by decide, pk_rem (by omega) (by decide) (by decide)]
      refine a_iadd K dX8_writeNumber_70 ?_
      refine a_i2c K dX8_writeNumber_71 ?_
      rw [dig_c (by omega)]
      refine a_invV K (m_Sh_append (48 + n % 10) hB rfl (by first | omega | (simp only [List.length_append, List.length_cons, List.length_nil] at *; omega))) my_X8_append ml_X8_33 im_X8_append se_X8_append (ci := 8) (by assumption) (by decide) ⟨_, _, rfl⟩ rfl (by omega) (by omega) (by omega) rfl (Nat.le_of_ble_eq_true rfl) dX8_writeNumber_72 ?_
      intro r9 T hp9
      obtain ⟨rfl, hB, f9⟩ := hp9
      replace hF := hF.tr f9 (fun _ z => z) (fun _ z => z)
      have oB := hB.1
      exact a_vret K EE (by omega) (by omega) dX8_writeNumber_75 ⟨rfl, by first | (simpa [dgT, h100, h10, List.append_assoc] using hB) | exact absurd h100 (by omega), hF⟩
    · have h10 : 10 ≤ n := (nI_leI (a := 10) (b := n) (by decide) (by omega)).mp (Int32.not_lt.mp c_45)
      first | refine a_aload_n K dX8_writeNumber_48 rfl ?_ | refine a_aload_nN K dX8_writeNumber_48 rfl ?_
      refine a_bipush K dX8_writeNumber_49 (v := 48) (by decide) ?_
      refine a_iload_n K dX8_writeNumber_51 rfl ?_
      refine a_bipush K dX8_writeNumber_52 (v := 10) (by decide) ?_
      refine a_idiv K dX8_writeNumber_54 (by decide) ?_
      refine a_bipush K dX8_writeNumber_55 (v := 10) (by decide) ?_
      refine a_irem K dX8_writeNumber_57 (by decide) ?_
      rw [show (10 : Int32) = nI 10 from by decide, pk_div (by omega) (by decide) (by decide), pk_rem (by omega) (by decide) (by decide)]
      refine a_iadd K dX8_writeNumber_58 ?_
      refine a_i2c K dX8_writeNumber_59 ?_
      rw [dig_c (by omega)]
      refine a_invV K (m_Sh_append (48 + n / 10 % 10) hB rfl (by first | omega | (simp only [List.length_append, List.length_cons, List.length_nil] at *; omega))) my_X8_append ml_X8_33 im_X8_append se_X8_append (ci := 8) (by assumption) (by decide) ⟨_, _, rfl⟩ rfl (by omega) (by omega) (by omega) rfl (Nat.le_of_ble_eq_true rfl) dX8_writeNumber_60 ?_
      intro r9 T hp9
      obtain ⟨rfl, hB, f9⟩ := hp9
      replace hF := hF.tr f9 (fun _ z => z) (fun _ z => z)
      have oB := hB.1
      first | refine a_aload_n K dX8_writeNumber_63 rfl ?_ | refine a_aload_nN K dX8_writeNumber_63 rfl ?_
      refine a_bipush K dX8_writeNumber_64 (v := 48) (by decide) ?_
      refine a_iload_n K dX8_writeNumber_66 rfl ?_
      refine a_bipush K dX8_writeNumber_67 (v := 10) (by decide) ?_
      refine a_irem K dX8_writeNumber_69 (by decide) ?_
      rw [show (10 : Int32) = nI 10 from by decide, pk_rem (by omega) (by decide) (by decide)]
      refine a_iadd K dX8_writeNumber_70 ?_
      refine a_i2c K dX8_writeNumber_71 ?_
      rw [dig_c (by omega)]
      refine a_invV K (m_Sh_append (48 + n % 10) hB rfl (by first | omega | (simp only [List.length_append, List.length_cons, List.length_nil] at *; omega))) my_X8_append ml_X8_33 im_X8_append se_X8_append (ci := 8) (by assumption) (by decide) ⟨_, _, rfl⟩ rfl (by omega) (by omega) (by omega) rfl (Nat.le_of_ble_eq_true rfl) dX8_writeNumber_72 ?_
      intro r9 T hp9
      obtain ⟨rfl, hB, f9⟩ := hp9
      replace hF := hF.tr f9 (fun _ z => z) (fun _ z => z)
      have oB := hB.1
      exact a_vret K EE (by omega) (by omega) dX8_writeNumber_75 ⟨rfl, by first | (simpa [dgT, h100, h10, List.append_assoc] using hB) | exact absurd h100 (by omega), hF⟩
theorem m_Sh_num {S : aw_S} {s sa : Nat} {v : Int32} {B : List Nat} (hB : ShW S s sa B) (hl : B.length + 4 ≤ 700) (hv : okV v) : aw_M yX8_writeNumber cX8_writeNumber 3 (none : Option FieldType) 1 0 0 [.ref s, .int v] S (fun r2 S2 => r2 = none ∧ ShW S2 s sa (B ++ nmT v) ∧ frS S S2 (Qsh s sa)) := by
  obtain ⟨n, hn, rfl | ⟨h0, rfl⟩⟩ := hv
  · rw [nmT_p hn]
    exact m_Sh_num_p hB hl hn
  · rw [nmT_m h0 hn]
    exact m_Sh_num_m hB hl hn h0
