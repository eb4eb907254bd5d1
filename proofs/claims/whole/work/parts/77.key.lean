/-! key, which throws -/
/-- the words of the throw that aren't good ones -/
def kyB : List Cond := (vx_at0 RX10 179 "java/util/NoSuchElementException" ["java/lang/RuntimeException", "java/lang/Exception"]).filter (fun w => !goodWord w)
theorem kyB_eq : kyB = [.declares (Bundle.init0 "java/lang/RuntimeException"), .declares (Bundle.init0 "java/lang/Exception"), .declares (Bundle.init0 Bundle.tN), .castable "java/util/NoSuchElementException" "java/util/NoSuchElementException"] := by decide +kernel
theorem ky_tt : ((vx_at0 RX10 179 "java/util/NoSuchElementException" ["java/lang/RuntimeException", "java/lang/Exception"]).filter goodWord).all (fun w => decide (w ∈ tables_1)) = true := by decide +kernel
theorem ky_ot : (Cond.classLink RX10 177 "java/util/NoSuchElementException" :: Cond.initialized "java/util/NoSuchElementException" :: vx_at0 RX10 179 "java/util/NoSuchElementException" ["java/lang/RuntimeException", "java/lang/Exception"]).all vx_ot = true := by decide +kernel
def kyE (A : Nat → Prop) (U : State) (H : Heap) : Prop := (va_Nw (.declares (Bundle.init0 "java/lang/RuntimeException")) U ∧ va_Nw (.declares (Bundle.init0 "java/lang/Exception")) U ∧ va_Nw (.declares (Bundle.init0 Bundle.tN)) U ∧ va_Nw (.castable "java/util/NoSuchElementException" "java/util/NoSuchElementException") U) ∧ vx_Zq Bundle.tN "UNASSIGNED_STACK" Bundle.steD A U H ∧ vx_Zq Bundle.tN "SUPPRESSED_SENTINEL" Bundle.listD A U H
theorem kyE_ok : aw_Ok kyE := ⟨fun A B s U H H1 hW hq hAB h => by
  obtain ⟨⟨h1, h2, h3, h4⟩, h5, h6⟩ := h
  have ha := hW.alike
  exact ⟨⟨va_Nw.warmD hW h1, va_Nw.warmD hW h2, va_Nw.warmD hW h3, va_Nw.warmC hW h4⟩, ((vx_Zq.moved ha h5).kept hq).narrow hAB, ((vx_Zq.moved ha h6).kept hq).narrow hAB⟩, fun A s U H hv h => by
  obtain ⟨⟨h1, h2, h3, h4⟩, h5, h6⟩ := h
  have ha : s.vm.Alike U.vm := by rw [hv]; exact Vm.Alike.refl _
  exact ⟨⟨va_Nw.same rfl hv h1, va_Nw.same rfl hv h2, va_Nw.same rfl hv h3, va_Nw.same rfl hv h4⟩, vx_Zq.moved ha h5, vx_Zq.moved ha h6⟩⟩
/-- behind a throw: the class, the heap -/
def kyX (D : va_G) (cy : Nat → ClassId) (A : Nat → Prop) : String → aw_S → State → Prop := fun E S2 t => E = "java/util/NoSuchElementException" ∧ va_P D vwCl (aw_W cy S2) t.heap ∧ va_K D vwCl (aw_tys cy) t ∧ va_D A (aw_W cy S2)
def ky_end (g : aw_G) (mc ms : Nat) (post : Option Value → aw_S → Prop) (pX : aw_S → Prop) : Prop := match g with
  | (_, l, _, _, s, _, args, below, _, c, D, cy, A, Q) => Q = vx_MQ below (aw_Qc post cy D A) (vx_X pX (kyX D cy A) A) args s mc ms A ∧ l.stackTraces = false ∧ ∀ x ∈ c.exceptionTable.toList, False
/-- a contract that answers or throws -/
def ky_M (y : MethodName) (cc : ByteArray) (mL : Nat) (ret : Option FieldType) (d mc ms : Nat) (av : List Value) (S : aw_S) (post : Option Value → aw_S → Prop) (pX : aw_S → Prop) : Prop := ∀ (l : Launch), l.stackTraces = false → ∀ (D : va_G) (cy : Nat → ClassId) (sz : Nat), vx_Met l y (Cond.code y cc mL ret :: TT) (aw_rm d mc ms) (va_Pc av (aw_PX kyE cy D sz S)) (aw_Qc post cy D (va_A (aw_W cy S) sz)) (vx_X pX (kyX D cy (va_A (aw_W cy S) sz)) (va_A (aw_W cy S) sz)) mc ms (va_A (aw_W cy S) sz)
theorem ky_enter {y : MethodName} {cc : ByteArray} {mL : Nat} {ret : Option FieldType} {d mc ms : Nat} {av : List Value} {S : aw_S} {post : Option Value → aw_S → Prop} {pX : aw_S → Prop} (hpn : plainName y.cls = true) (hlen : (lg_sl av).length ≤ mL) (body : ∀ g : aw_G, aw_K g y cc mL ret d mc ms → aw_X g kyE → ky_end g mc ms post pX → aw g mL S 0 0 (lv_args 0 av) [] 0) : ky_M y cc mL ret d mc ms av S post pX := by
  intro l hls D cy sz
  refine vx_ofW (cc := cc) (maxL := mL) (ret := ret) hpn rfl ?_
  intro p e s m args below meth c s₁ B hml htb hv
  obtain ⟨rfl, ⟨hsz, hP, hK, hD0, hE⟩, hZ⟩ := hv
  subst hsz
  have hts0 := atoms_spec (ws := Cond.code y cc mL ret :: TT) B.pre
  have hown : s.vm.findClass y.cls = some m.cls := findClass_of_methodNamed B.named
  have hD := hD0.self (sz := s.heap.size)
  have hA : ∀ q : Nat, s.heap.size ≤ q → va_A (aw_W cy S) s.heap.size q := fun q h => Or.inr h
  have hb := body (p, l, e, aw_rm d mc ms, s, m, av.toArray, below, meth, c, D, cy, va_A (aw_W cy S) s.heap.size, vx_MQ below (aw_Qc post cy D (va_A (aw_W cy S) s.heap.size)) (vx_X pX (kyX D cy (va_A (aw_W cy S) s.heap.size)) (va_A (aw_W cy S) s.heap.size)) av.toArray s mc ms (va_A (aw_W cy S) s.heap.size))
    ⟨B.exec, B.bytes, hml, B.returns, hown, (name_of_methodNamed B.named B.method).1, fun w hw => hts0 w (List.mem_cons_of_mem _ hw), B.notSynchronized, hK, hA, hE, Nat.le_refl _, Nat.le_refl _, Nat.le_refl _, Nat.le_refl _⟩ hZ ⟨rfl, hls, htb⟩
  have hl := lv_entry av (n := mL) hlen
  rw [lg_entry_eq]
  exact hb s.heap [] _ hP hD va_S.rf hl
theorem ky_iret {g : aw_G} {y : MethodName} {cc : ByteArray} {mL : Nat} {d mc ms : Nat} {ty : FieldType} (K : aw_K g y cc mL (some ty) d mc ms) {post : Option Value → aw_S → Prop} {pX : aw_S → Prop} (E : ky_end g mc ms post pX) {S : aw_S} {k n : Nat} {lv : List (Nat × Value)} {pc : Nat} {v : Int32} (hn : narrow ty (.int v) = .int v) (hk : k ≤ mc) (hm : n ≤ ms) (dg : decode cc pc = .ok (.ireturn, 1)) (h : post (some (.int v)) S) : aw g mL S k n lv [.int v] pc := by
  obtain ⟨p, l, e, R, s, m, args, below, meth, c, D, cy, A, Q⟩ := g
  obtain ⟨hx, hb, hml, hr, hown, hnm, hts, hlk, hK, hA, hE, hfr, hlo, hce, hsl⟩ := K
  obtain ⟨rfl, hls, htb⟩ := E
  exact fun H locs ls hP hD hS hl => vx_ret (W.widen hk hm (W.zret hx hb hr hn (fun t ht hW => ⟨⟨some (.int v), S, rfl, h, by rw [ht]; exact hP, va_K.moved hW.alike hK, hD⟩, hS.F ht⟩) hS.2.2 dg hlk))
theorem ky_in : ∀ w ∈ (vx_at0 RX10 179 "java/util/NoSuchElementException" ["java/lang/RuntimeException", "java/lang/Exception"]).filter goodWord, w ∈ TT := fun w hw => by
  have h1 := List.all_eq_true.mp ky_tt w hw
  exact List.mem_filter.mpr ⟨List.mem_append_right _ (of_decide_eq_true h1), (List.mem_filter.mp hw).2⟩
theorem kl_X10_177n : Cond.classLink RX10 177 "java/util/NoSuchElementException" ∈ TT := tt_r 1161 (by decide +kernel) rfl
theorem ini_NX : Cond.initialized "java/util/NoSuchElementException" ∈ TT := tt_r 20 (by decide +kernel) rfl
theorem ky_throw {g : aw_G} {d mc ms : Nat} (K : aw_K g yX10_key cX10_key 3 (some .int) d mc ms) (Z : aw_X g kyE) {post : Option Value → aw_S → Prop} {pX : aw_S → Prop} (E : ky_end g mc ms post pX) {S : aw_S} {k n : Nat} {lv : List (Nat × Value)} {st : List Value} (hp : pX S) (hk : k + 1 ≤ mc) (hn : n + 6 ≤ ms) (h8 : (st.map fun v => v.category).sum ≤ 8) (hd : 6 ≤ d) : aw g 3 S k n lv st 30 := by
  obtain ⟨p, l, e, R, s, m, args, below, meth, c, D, cy, A, Q⟩ := g
  obtain ⟨hx, hb, hml, hrr, hown, hnm, hts, hlk, hK, hA, hE, hfr, hlo, hce, hsl⟩ := K
  obtain ⟨rfl, hls, htb⟩ := E
  intro H locs ls hP hD hS hl
  have h3 : ∀ w ∈ kyB, w.before args s = true := by
    rw [kyB_eq]
    exact vx_c (va_Nw.use rfl Z.1.1) (vx_c (va_Nw.use rfl Z.1.2.1) (vx_c (va_Nw.use rfl Z.1.2.2.1) (vx_c (va_Nw.use rfl Z.1.2.2.2) vx_n)))
  have hat : ∀ w ∈ vx_at0 RX10 179 "java/util/NoSuchElementException" ["java/lang/RuntimeException", "java/lang/Exception"], w.before args s = true := vx_hat (B := kyB) (fun w hw => hts w (ky_in w hw)) (fun w hw => hw) h3
  exact vx_throw0 hx hb hls (own := RX10) (cls := "java/util/NoSuchElementException") (names := ["java/lang/RuntimeException", "java/lang/Exception"]) (ik := 177) (ic := 179) hown (by decide +kernel) (by decide +kernel) (hts _ kl_X10_177n) (hts _ ini_NX) hat (fun w hw => List.all_eq_true.mp ky_ot w hw) Z.2.1 Z.2.2 hS (hl.1.trans hml.symm) dX10_key_30 dX10_key_33 dX10_key_34 dX10_key_37 (fun x hx => (htb x hx).elim) (by show 2 + 3 < R.frames; omega) (by show _ + (13 * (2 + 1) + 42) ≤ R.locals; omega) (Nat.le_trans hk hce) (Nat.le_trans hn hsl) hlk (fun t hal hsz hq => ⟨S, hp, ⟨rfl, hP.kept (fun k q hk => hq q.1 (hP k q hk).lt), va_K.moved hal hK, hD⟩, ⟨Nat.le_trans hS.1 hsz, fun q h1 h2 => (hq q (Nat.lt_of_lt_of_le h1 hS.1)).trans (hS.2.1 q h1 h2)⟩⟩) hS.2.2 hk hn
theorem ky_neg {i : Int32} (h : i < 0) : ¬ 0 ≤ i.toInt := fun z => by
  have h1 := i32_lt.mp h
  have e : (0 : Int32).toInt = 0 := by decide
  omega
/-- the map's entry i, its key -/
def keyV (P : PS) (m i : Int32) : Option Int32 := if 0 ≤ i.toInt then (((rootP P m).elim [] (fun z => ent z.1 z.2))[i.toNatClampNeg]?).map Prod.fst else none
set_option maxHeartbeats 4000000 in
set_option maxRecDepth 100000 in
theorem c_key {S : aw_S} {v ad ar : Nat → Nat} {PA : List (Nat × Nat)} {X : List Nat} {mb : Nat} {P : PS} (h : RC S v ad ar PA X mb P) (hP : PI P) {m i : Int32} : ky_M yX10_key cX10_key 3 (some FieldType.int) 9 1 6 [.ref (v 4), .int m, .int i] S (fun r S2 => ∃ w, keyV P m i = some w ∧ r = some (.int w) ∧ RC S2 v ad ar PA X mb P ∧ keepX X S S2) (fun S2 => keyV P m i = none ∧ RC S2 v ad ar PA X mb P ∧ keepX X S S2) := by
  have hL := h.L
  have hneg : i < 0 → keyV P m i = none := fun hi => by unfold keyV; exact if_neg (ky_neg hi)
  cases hz : rootP P m with
  | none =>
    have hV : keyV P m i = none := by unfold keyV; rw [hz]; simp
    refine ky_enter (by decide +kernel) (Nat.le_of_ble_eq_true rfl) (fun g K Z E => ?_)
    by_cases hi : i < 0
    · first | refine a_aload_n K dX10_key_0 rfl ?_ | refine a_aload_nN K dX10_key_0 rfl ?_
      refine a_getRs K fd_X10_77 (lw_i4 hL) (Or.inl ⟨_, rfl⟩) (lw_f652 hL) dX10_key_1 ?_
      first | refine a_aload_n K dX10_key_4 rfl ?_ | refine a_aload_nN K dX10_key_4 rfl ?_
      refine a_getRs K fd_X10_46 (lw_i4 hL) (Or.inl ⟨_, rfl⟩) (lw_f646 hL) dX10_key_5 ?_
      refine a_iload_n K dX10_key_8 rfl ?_
      refine a_invV K (m_root h m) my_X3_heldRoot ml_X10_165 im_X3_heldRoot se_X3_heldRoot (ci := 3) (lw_i6 hL) (by decide) ⟨_, _, rfl⟩ rfl (by omega) (by omega) (by omega) rfl (Nat.le_of_ble_eq_true rfl) dX10_key_9 ?_
      intro r9 S9 hp9
      obtain ⟨rfl, hS9⟩ := hp9
      obtain rfl := hS9.symm
      rw [hz]
      refine a_invV K (m_X7_fill_null (lw_i25 hL)) my_X7_fill ml_X10_173 im_X7_fill se_X7_fill (ci := 7) (by first | exact lw_i25 hL | exact lw_i28 hL | exact lw_i31 hL) (by decide) ⟨_, _, rfl⟩ rfl (by omega) (by omega) (by omega) rfl (Nat.le_of_ble_eq_true rfl) dX10_key_12 ?_
      intro r9 S9 hp9
      obtain ⟨rfl, hS9⟩ := hp9
      obtain ⟨hR0, f0⟩ := (lw_Ro25 hL).clear
      rw [← hS9] at hR0 f0
      obtain ⟨h2, k2⟩ := RC.scr h f0 (scr_Ro25 v)
      have hL := h2.L
      have hs := hR0.2.2.2.2.2.2.2.2.1
      refine a_iload_n K dX10_key_15 rfl ?_
      refine a_if_lt K dX10_key_16 (tgt := 30) (by decide) (fun c_16 => ?_) (fun c_16 => absurd c_16 (fun z => z hi))
      exact ky_throw K Z E ⟨hV, h2, k2⟩ (by omega) (by omega) (Nat.le_of_ble_eq_true rfl) (by omega)
    · first | refine a_aload_n K dX10_key_0 rfl ?_ | refine a_aload_nN K dX10_key_0 rfl ?_
      refine a_getRs K fd_X10_77 (lw_i4 hL) (Or.inl ⟨_, rfl⟩) (lw_f652 hL) dX10_key_1 ?_
      first | refine a_aload_n K dX10_key_4 rfl ?_ | refine a_aload_nN K dX10_key_4 rfl ?_
      refine a_getRs K fd_X10_46 (lw_i4 hL) (Or.inl ⟨_, rfl⟩) (lw_f646 hL) dX10_key_5 ?_
      refine a_iload_n K dX10_key_8 rfl ?_
      refine a_invV K (m_root h m) my_X3_heldRoot ml_X10_165 im_X3_heldRoot se_X3_heldRoot (ci := 3) (lw_i6 hL) (by decide) ⟨_, _, rfl⟩ rfl (by omega) (by omega) (by omega) rfl (Nat.le_of_ble_eq_true rfl) dX10_key_9 ?_
      intro r9 S9 hp9
      obtain ⟨rfl, hS9⟩ := hp9
      obtain rfl := hS9.symm
      rw [hz]
      refine a_invV K (m_X7_fill_null (lw_i25 hL)) my_X7_fill ml_X10_173 im_X7_fill se_X7_fill (ci := 7) (by first | exact lw_i25 hL | exact lw_i28 hL | exact lw_i31 hL) (by decide) ⟨_, _, rfl⟩ rfl (by omega) (by omega) (by omega) rfl (Nat.le_of_ble_eq_true rfl) dX10_key_12 ?_
      intro r9 S9 hp9
      obtain ⟨rfl, hS9⟩ := hp9
      obtain ⟨hR0, f0⟩ := (lw_Ro25 hL).clear
      rw [← hS9] at hR0 f0
      obtain ⟨h2, k2⟩ := RC.scr h f0 (scr_Ro25 v)
      have hL := h2.L
      have hs := hR0.2.2.2.2.2.2.2.2.1
      refine a_iload_n K dX10_key_15 rfl ?_
      refine a_if_lt K dX10_key_16 (tgt := 30) (by decide) (fun c_16 => absurd c_16 (hi)) (fun c_16 => ?_)
      refine a_iload_n K dX10_key_19 rfl ?_
      first | refine a_aload_n K dX10_key_20 rfl ?_ | refine a_aload_nN K dX10_key_20 rfl ?_
      refine a_getRs K fd_X10_77 (lw_i4 hL) (Or.inl ⟨_, rfl⟩) (lw_f652 hL) dX10_key_21 ?_
      refine a_invV K (m_X7_size hR0.1) my_X7_size ml_X10_138 im_X7_size se_X7_size (ci := 7) (by first | exact lw_i25 hL | exact lw_i28 hL | exact lw_i31 hL) (by decide) ⟨_, _, rfl⟩ rfl (by omega) (by omega) (by omega) rfl (Nat.le_of_ble_eq_true rfl) dX10_key_24 ?_
      intro r9 S9 hp9
      obtain ⟨rfl, hS9⟩ := hp9
      obtain rfl := hS9.symm
      refine a_icmp_lt K dX10_key_27 (tgt := 38) (by decide) (fun c_27 => absurd c_27 (by rw [hs]; exact fun z => absurd z (fun z => hi (Int32.not_le.mp (fun q => absurd (Int32.lt_of_lt_of_le z (show nI 0 ≤ 0 by decide)) (Int32.not_lt.mpr q)))))) (fun c_27 => ?_)
      exact ky_throw K Z E ⟨hV, h2, k2⟩ (by omega) (by omega) (Nat.le_of_ble_eq_true rfl) (by omega)
  | some z =>
    have t := h.tt hP hz
    obtain ⟨hz4, -, -⟩ := t.2.h4 hP.1.1
    refine ky_enter (by decide +kernel) (Nat.le_of_ble_eq_true rfl) (fun g K Z E => ?_)
    by_cases hi : i < 0
    · have hV := hneg hi
      first | refine a_aload_n K dX10_key_0 rfl ?_ | refine a_aload_nN K dX10_key_0 rfl ?_
      refine a_getRs K fd_X10_77 (lw_i4 hL) (Or.inl ⟨_, rfl⟩) (lw_f652 hL) dX10_key_1 ?_
      first | refine a_aload_n K dX10_key_4 rfl ?_ | refine a_aload_nN K dX10_key_4 rfl ?_
      refine a_getRs K fd_X10_46 (lw_i4 hL) (Or.inl ⟨_, rfl⟩) (lw_f646 hL) dX10_key_5 ?_
      refine a_iload_n K dX10_key_8 rfl ?_
      refine a_invV K (m_root h m) my_X3_heldRoot ml_X10_165 im_X3_heldRoot se_X3_heldRoot (ci := 3) (lw_i6 hL) (by decide) ⟨_, _, rfl⟩ rfl (by omega) (by omega) (by omega) rfl (Nat.le_of_ble_eq_true rfl) dX10_key_9 ?_
      intro r9 S9 hp9
      obtain ⟨rfl, hS9⟩ := hp9
      obtain rfl := hS9.symm
      rw [hz]
      refine a_invV K (m_fill25 h hP.1.1 t) my_X7_fill ml_X10_173 im_X7_fill se_X7_fill (ci := 7) (by first | exact lw_i25 hL | exact lw_i28 hL | exact lw_i31 hL) (by decide) ⟨_, _, rfl⟩ rfl (by omega) (by omega) (by omega) rfl (Nat.le_of_ble_eq_true rfl) dX10_key_12 ?_
      intro r9 S9 hp9
      obtain ⟨rfl, hR0, h2, k2, f2⟩ := hp9
      have hL := h2.L
      have hs := hR0.2.2.2.2.2.2.2.2.1
      have hE60 := hR0.2.2.2.2.2.2.2.2.2.1
      refine a_iload_n K dX10_key_15 rfl ?_
      refine a_if_lt K dX10_key_16 (tgt := 30) (by decide) (fun c_16 => ?_) (fun c_16 => absurd c_16 (fun z => z hi))
      exact ky_throw K Z E ⟨hV, h2, k2⟩ (by omega) (by omega) (Nat.le_of_ble_eq_true rfl) (by omega)
    · obtain ⟨j, hj9, rfl⟩ := nI_of hi
      have hVe : keyV P m (nI j) = ((ent z.1 z.2)[j]?).map Prod.fst := by unfold keyV; rw [if_pos (by rw [nI_toInt hj9]; exact Int.natCast_nonneg _), nI_clamp hj9, hz]; rfl
      by_cases hlt : j < (ent z.1 z.2).length
      · have hx9 := List.getElem?_eq_getElem hlt
        have hV : keyV P m (nI j) = some (ent z.1 z.2)[j].1 := by rw [hVe, hx9]; rfl
        first | refine a_aload_n K dX10_key_0 rfl ?_ | refine a_aload_nN K dX10_key_0 rfl ?_
        refine a_getRs K fd_X10_77 (lw_i4 hL) (Or.inl ⟨_, rfl⟩) (lw_f652 hL) dX10_key_1 ?_
        first | refine a_aload_n K dX10_key_4 rfl ?_ | refine a_aload_nN K dX10_key_4 rfl ?_
        refine a_getRs K fd_X10_46 (lw_i4 hL) (Or.inl ⟨_, rfl⟩) (lw_f646 hL) dX10_key_5 ?_
        refine a_iload_n K dX10_key_8 rfl ?_
        refine a_invV K (m_root h m) my_X3_heldRoot ml_X10_165 im_X3_heldRoot se_X3_heldRoot (ci := 3) (lw_i6 hL) (by decide) ⟨_, _, rfl⟩ rfl (by omega) (by omega) (by omega) rfl (Nat.le_of_ble_eq_true rfl) dX10_key_9 ?_
        intro r9 S9 hp9
        obtain ⟨rfl, hS9⟩ := hp9
        obtain rfl := hS9.symm
        rw [hz]
        refine a_invV K (m_fill25 h hP.1.1 t) my_X7_fill ml_X10_173 im_X7_fill se_X7_fill (ci := 7) (by first | exact lw_i25 hL | exact lw_i28 hL | exact lw_i31 hL) (by decide) ⟨_, _, rfl⟩ rfl (by omega) (by omega) (by omega) rfl (Nat.le_of_ble_eq_true rfl) dX10_key_12 ?_
        intro r9 S9 hp9
        obtain ⟨rfl, hR0, h2, k2, f2⟩ := hp9
        have hL := h2.L
        have hs := hR0.2.2.2.2.2.2.2.2.1
        have hE60 := hR0.2.2.2.2.2.2.2.2.2.1
        refine a_iload_n K dX10_key_15 rfl ?_
        refine a_if_lt K dX10_key_16 (tgt := 30) (by decide) (fun c_16 => absurd c_16 (hi)) (fun c_16 => ?_)
        refine a_iload_n K dX10_key_19 rfl ?_
        first | refine a_aload_n K dX10_key_20 rfl ?_ | refine a_aload_nN K dX10_key_20 rfl ?_
        refine a_getRs K fd_X10_77 (lw_i4 hL) (Or.inl ⟨_, rfl⟩) (lw_f652 hL) dX10_key_21 ?_
        refine a_invV K (m_X7_size hR0.1) my_X7_size ml_X10_138 im_X7_size se_X7_size (ci := 7) (by first | exact lw_i25 hL | exact lw_i28 hL | exact lw_i31 hL) (by decide) ⟨_, _, rfl⟩ rfl (by omega) (by omega) (by omega) rfl (Nat.le_of_ble_eq_true rfl) dX10_key_24 ?_
        intro r9 S9 hp9
        obtain ⟨rfl, hS9⟩ := hp9
        obtain rfl := hS9.symm
        refine a_icmp_lt K dX10_key_27 (tgt := 38) (by decide) (fun c_27 => ?_) (fun c_27 => absurd c_27 (by rw [hs]; exact fun z => z (nI_lt hlt (by omega))))
        first | refine a_aload_n K dX10_key_38 rfl ?_ | refine a_aload_nN K dX10_key_38 rfl ?_
        refine a_getRs K fd_X10_77 (lw_i4 hL) (Or.inl ⟨_, rfl⟩) (lw_f652 hL) dX10_key_39 ?_
        refine a_iload_n K dX10_key_42 rfl ?_
        refine a_invV K (m_R_keyAt hR0 (show j < 2 ^ 31 by omega)) my_X7_keyAt ml_X10_139 im_X7_keyAt se_X7_keyAt (ci := 7) (by first | exact lw_i25 hL | exact lw_i28 hL | exact lw_i31 hL) (by decide) ⟨_, _, rfl⟩ rfl (by omega) (by omega) (by omega) rfl (Nat.le_of_ble_eq_true rfl) dX10_key_43 ?_
        intro r9 S9 hp9
        obtain ⟨rfl, hS9⟩ := hp9
        obtain rfl := hS9.symm
        exact ky_iret K E rfl (by omega) (by omega) dX10_key_46 (by rw [keyAtL_in hx9]; exact ⟨_, hV, rfl, h2, k2⟩)
      · have hV : keyV P m (nI j) = none := by rw [hVe, List.getElem?_eq_none_iff.mpr (by omega)]; rfl
        first | refine a_aload_n K dX10_key_0 rfl ?_ | refine a_aload_nN K dX10_key_0 rfl ?_
        refine a_getRs K fd_X10_77 (lw_i4 hL) (Or.inl ⟨_, rfl⟩) (lw_f652 hL) dX10_key_1 ?_
        first | refine a_aload_n K dX10_key_4 rfl ?_ | refine a_aload_nN K dX10_key_4 rfl ?_
        refine a_getRs K fd_X10_46 (lw_i4 hL) (Or.inl ⟨_, rfl⟩) (lw_f646 hL) dX10_key_5 ?_
        refine a_iload_n K dX10_key_8 rfl ?_
        refine a_invV K (m_root h m) my_X3_heldRoot ml_X10_165 im_X3_heldRoot se_X3_heldRoot (ci := 3) (lw_i6 hL) (by decide) ⟨_, _, rfl⟩ rfl (by omega) (by omega) (by omega) rfl (Nat.le_of_ble_eq_true rfl) dX10_key_9 ?_
        intro r9 S9 hp9
        obtain ⟨rfl, hS9⟩ := hp9
        obtain rfl := hS9.symm
        rw [hz]
        refine a_invV K (m_fill25 h hP.1.1 t) my_X7_fill ml_X10_173 im_X7_fill se_X7_fill (ci := 7) (by first | exact lw_i25 hL | exact lw_i28 hL | exact lw_i31 hL) (by decide) ⟨_, _, rfl⟩ rfl (by omega) (by omega) (by omega) rfl (Nat.le_of_ble_eq_true rfl) dX10_key_12 ?_
        intro r9 S9 hp9
        obtain ⟨rfl, hR0, h2, k2, f2⟩ := hp9
        have hL := h2.L
        have hs := hR0.2.2.2.2.2.2.2.2.1
        have hE60 := hR0.2.2.2.2.2.2.2.2.2.1
        refine a_iload_n K dX10_key_15 rfl ?_
        refine a_if_lt K dX10_key_16 (tgt := 30) (by decide) (fun c_16 => absurd c_16 (hi)) (fun c_16 => ?_)
        refine a_iload_n K dX10_key_19 rfl ?_
        first | refine a_aload_n K dX10_key_20 rfl ?_ | refine a_aload_nN K dX10_key_20 rfl ?_
        refine a_getRs K fd_X10_77 (lw_i4 hL) (Or.inl ⟨_, rfl⟩) (lw_f652 hL) dX10_key_21 ?_
        refine a_invV K (m_X7_size hR0.1) my_X7_size ml_X10_138 im_X7_size se_X7_size (ci := 7) (by first | exact lw_i25 hL | exact lw_i28 hL | exact lw_i31 hL) (by decide) ⟨_, _, rfl⟩ rfl (by omega) (by omega) (by omega) rfl (Nat.le_of_ble_eq_true rfl) dX10_key_24 ?_
        intro r9 S9 hp9
        obtain ⟨rfl, hS9⟩ := hp9
        obtain rfl := hS9.symm
        refine a_icmp_lt K dX10_key_27 (tgt := 38) (by decide) (fun c_27 => absurd c_27 (by rw [hs]; exact nI_nlt (by omega) hj9)) (fun c_27 => ?_)
        exact ky_throw K Z E ⟨hV, h2, k2⟩ (by omega) (by omega) (Nat.le_of_ble_eq_true rfl) (by omega)
