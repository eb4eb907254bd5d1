/-! THE CLAIM OUT OF ONE WALK OF THE LAW'S BODY. Your part is whole_start (and what it stands on); all else here is the same for every law, but numbers. -/
def R_law : String := "WideMapLaw"
def lw_P (b : Addr) (xs : List Int32) (args : Array Value) (s : State) : Prop := args = #[.ref b] ∧ s.IntsAt b xs ∧ xs.length ≤ 3072 ∧ (Jvm.Cond.and given_1 narrow_1).before args s = true
def lw_Q (_ : Array Value) (s : State) (o : Outcome) (t : State) : Prop := o = .returned (some (.int 1)) ∧ Framed s o t [] 601024 7293034
def lw_Z (below : List Frame) (a : Array Value) (s : State) : State → Prop := fun t => ∃ o, t.status = .running ∧ Ended t below o ∧ lw_Q a s o t
/-- the law's own end, with 1 on the stack, nothing written that was there before, its room as the claim has it -/
theorem lw_ret {p : Program} {l : Launch} {e : Env} {s : State} {m : MethodId} {below : List Frame} {meth : Method} {c : Code} {b : Nat} (hx : p.tables.exec = Jvm.exec) (hb : c.code = code) (hr : meth.sig.returnType = ret) (hlocks : meth.locks = false) {pc : Nat} {H : Heap} {ls : Array Slot} (hdg : decode code pc = .ok (.ireturn, 1)) : W p l e room_1 s m #[Value.ref b] below meth c H [] 601024 7293034 (lw_Z below #[Value.ref b] s) (F0 m pc ls [.int 1]) := by
  intro T hT X
  obtain ⟨fs, hret, hrun, hended, hW, hframe⟩ := X.leave (v := some (.int 1)) (hlocks := hlocks) (fun h => by rw [hr] at h; cases h)
  have hmeth' : T.vm.method? m = some meth := X.method'
  refine ⟨T.setFrames fs, ?_, .returned (some (.int 1)), hrun, hended, rfl, ⟨_, rfl⟩, hW, hframe⟩
  jvm_step X.here [X.here.top, hx, hb, hdg, hmeth', hr, ret, narrow_b1]
  (try refine ⟨rfl, ?_⟩); (try refine ⟨rfl, ?_⟩)
  first | (intro acts; rw [hret _ acts rfl rfl rfl]) | rw [hret _ _ rfl rfl rfl]
  exact Steps.refl _
/-- what holds at the law's entry: the machine, the code, the tables' words (any of lw_tbl by 'hts w (by decide +kernel)'), the script of L ints xs at the cell b, what the Statement gives of the start (any of its parts by flat_of_before) -/
def lw_At (p : Program) (s : State) (m : MethodId) (meth : Method) (c : Code) (b L : Nat) (xs : Nat → Int32) : Prop :=
  p.tables.exec = Jvm.exec ∧ c.code = code ∧ meth.sig.returnType = ret ∧ c.maxLocals = 7 ∧ s.vm.findClass R_law = some m.cls ∧ (∀ w ∈ lw_tbl, w.before #[Value.ref b] s = true) ∧ va_X b L xs s s.heap ∧ b < s.heap.size ∧ meth.locks = false ∧ (Jvm.Cond.and given_1 narrow_1).before #[Value.ref b] s = true
/-! the law's frame, its world, its rows -/
theorem lwt {w : Cond} (i : Nat) (h : tables_1[i]? = some w) : w ∈ lw_tbl := List.mem_append_right _ (List.mem_of_getElem? h)
theorem lw_inst : ∀ (ci : Nat) (r : vw_C), vwCl[ci]? = some r → ∃ n, Cond.instantiable r.1 n ∈ TT := by
  intro ci r h
  match ci, h with
  | 0, h => cases h; exact ⟨_, in_X0⟩
  | 1, h => cases h; exact ⟨_, in_X1⟩
  | 2, h => cases h; exact ⟨_, in_X2⟩
  | 3, h => cases h; exact ⟨_, in_X3⟩
  | 4, h => cases h; exact ⟨_, in_X4⟩
  | 5, h => cases h; exact ⟨_, in_X5⟩
  | 6, h => cases h; exact ⟨_, in_X6⟩
  | 7, h => cases h; exact ⟨_, in_X7⟩
  | 8, h => cases h; exact ⟨_, in_X8⟩
  | 9, h => cases h; exact ⟨_, in_X9⟩
  | 10, h => cases h; exact ⟨_, in_X10⟩
  | 11, h => cases h; exact ⟨_, in_X11⟩
  | k + 12, h => simp [vwCl] at h
theorem lw_arP {args : Array Value} {s : State} {ty : FieldType} (hty : ∀ C, ty ≠ .object C) (h : (Cond.arrayClass ty).before args s = true) : ∃ cA, ArrOfT s cA ty ∧ va_RA s cA ty := by
  obtain ⟨c, k, comp, h1, h2, h3⟩ := Cond.arrayClass_spec (args := args) (first := s) (o := none) (s := s) (idx := []) h
  refine ⟨c, fun n z => ⟨(fun k h => by cases h), k, h2, comp, h3⟩, ?_⟩
  cases ty <;> first | exact h1 | exact absurd rfl (hty _)
theorem lw_arO {args : Array Value} {s : State} {C : String} (h : (Cond.arrayOver (.object C)).before args s = true) : ∃ cA, ArrOfT s cA (.object C) ∧ va_RA s cA (.object C) := by
  obtain ⟨comp, c, k, h1, h2, h3, h4, h5⟩ := Cond.arrayOver_spec (args := args) (first := s) (o := none) (s := s) (idx := []) h
  exact ⟨c, fun n z => ⟨(fun k h => by cases h), k, h3, comp, h4⟩, k, comp, h3, h4, h1, h5⟩
theorem lw_TT {s : State} {b : Nat} (hts : ∀ w ∈ lw_tbl, w.before #[Value.ref b] s = true) : ∀ w ∈ TT, w.before #[Value.ref b] s = true := fun w hw => hts w (List.mem_filter.mp hw).1
theorem lw_va_K {s : State} {b : Nat} (hts : ∀ w ∈ lw_tbl, w.before #[Value.ref b] s = true) : ∃ (D : va_G) (cy : Nat → ClassId), va_K D vwCl (aw_tys cy) s := by
  have hTT := lw_TT hts
  obtain ⟨c2, h2⟩ := lw_arP (ty := .byte) (fun C z => nomatch z) (hTT _ ac_byte)
  obtain ⟨c3, h3⟩ := lw_arP (ty := .int) (fun C z => nomatch z) (hTT _ ac_int)
  obtain ⟨c4, h4⟩ := lw_arP (ty := .boolean) (fun C z => nomatch z) (hTT _ ac_boolean)
  obtain ⟨c5, h5⟩ := lw_arO (hts _ ao_X0)
  obtain ⟨c6, h6⟩ := lw_arO (hts _ ao_X4)
  obtain ⟨c7, h7⟩ := lw_arO (hts _ ao_X5)
  obtain ⟨c8, h8⟩ := lw_arP (ty := .long) (fun C z => nomatch z) (hTT _ ac_long)
  have hcl : ∀ ci : Nat, ∃ q : ClassId × (Nat → Nat), ∀ r, vwCl[ci]? = some r → u_Kn s r.1 r.2.1 r.2.2 q.1 q.2 := by
    intro ci
    cases hr : vwCl[ci]? with
    | none => exact ⟨(c2, fun _ => 0), fun r h => nomatch h⟩
    | some r =>
      obtain ⟨n, hn⟩ := lw_inst ci r hr
      obtain ⟨cC, iS, h⟩ := u_known hTT (aw_tab ci r hr).1 (hTT _ hn)
      exact ⟨(cC, iS), fun r2 h2 => by cases h2; exact h⟩
  obtain ⟨D, hD⟩ := Classical.axiomOfChoice hcl
  refine ⟨(fun c => (D c).1, fun c => (D c).2), fun k => match k with
    | 12 => c2
    | 13 => c3
    | 14 => c4
    | 15 => c5
    | 16 => c6
    | 17 => c7
    | _ => c8, fun c q hq => hD c q hq, ?_⟩
  intro k q hk
  match k, hk with
  | 0, hk => cases hk; exact h2
  | 1, hk => cases hk; exact h3
  | 2, hk => cases hk; exact h4
  | 3, hk => cases hk; exact h5
  | 4, hk => cases hk; exact h6
  | 5, hk => cases hk; exact h7
  | 6, hk => cases hk; exact h8
  | k + 7, hk => simp [aw_tys] at hk
abbrev lwF : List Cond := flatC (Jvm.Cond.and given_1 narrow_1)
abbrev lwKW : Term := .static "WideMap" "KEYS_OF_WORD" "[I"
abbrev lwVW : Term := .static "WideMap" "VALUES_OF_WORD" "[I"
theorem lw_k1 : Cond.arrayOf lwKW .int ∈ lwF := by decide +kernel
theorem lw_k2 : Cond.eq (.length lwKW) (.int 6) ∈ lwF := by decide +kernel
theorem lw_k3 : ∀ j, j < 6 → Cond.eq (.elem lwKW (.int (Int32.ofNat j))) (.int (([1, 1, 1, 2, 2, 0] : List Int32).getD j 0)) ∈ lwF := by decide +kernel
theorem lw_v1 : Cond.arrayOf lwVW .int ∈ lwF := by decide +kernel
theorem lw_v2 : Cond.eq (.length lwVW) (.int 6) ∈ lwF := by decide +kernel
theorem lw_v3 : ∀ j, j < 6 → Cond.eq (.elem lwVW (.int (Int32.ofNat j))) (.int (([1, 0, 1, 0, 1, 0] : List Int32).getD j 0)) ∈ lwF := by decide +kernel
abbrev lwT (i : Nat) : Term := .string (st_own i) (st_idx i)
abbrev lwTv (i : Nat) : Term := .field (lwT i) "java/lang/String" "value" "[B"
theorem lw_s0 : ∀ i, i < 8 → st_len.getD i 0 < 2 ^ 31 := by decide
theorem lw_s1 : ∀ i, i < 8 → Cond.exactly (lwT i) "java/lang/String" ∈ lwF := by decide +kernel
theorem lw_s2 : ∀ i, i < 8 → Cond.eq (.field (lwT i) "java/lang/String" "coder" "B") (.int 0) ∈ lwF := by decide +kernel
theorem lw_s3 : ∀ i, i < 8 → Cond.arrayOf (lwTv i) .byte ∈ lwF := by decide +kernel
theorem lw_s4 : ∀ i, i < 8 → Cond.eq (.length (lwTv i)) (.int (Int32.ofNat (st_len.getD i 0))) ∈ lwF := by decide +kernel
theorem lw_s5 : ∀ i, i < 8 → ∀ j, j < st_len.getD i 0 → Cond.eq (.elem (lwTv i) (.int (Int32.ofNat j))) (.int ((st_byt.getD i []).getD j 0)) ∈ lwF := by decide +kernel
theorem lw_s6 : ∀ i, i < 8 → ∀ j, j < 8 → i ≠ j → Cond.not (Cond.eq (lwT i) (lwT j)) ∈ lwF ∨ Cond.not (Cond.eq (lwT j) (lwT i)) ∈ lwF := by decide +kernel
theorem lw_s7 : ∀ i, i < 8 → Cond.stringRef (st_own i) (st_idx i) (st_tx i) ∈ tables_1 := by decide +kernel
theorem lw_c1 : Cond.eq (.static "java/lang/String" "COMPACT_STRINGS" "Z") (.int 1) ∈ lwF := by decide +kernel
theorem lw_c2 : Cond.isRef (.static "jdk/internal/util/Preconditions" "SIOOBE_FORMATTER" "Ljava/util/function/BiFunction;") ∈ lwF := by decide +kernel
theorem lw_c3 : Cond.isRef (.static Bundle.tN "UNASSIGNED_STACK" Bundle.steD) ∈ lwF := by decide +kernel
theorem lw_c4 : Cond.isRef (.static Bundle.tN "SUPPRESSED_SENTINEL" Bundle.listD) ∈ lwF := by decide +kernel
def lwA (s : State) : Nat → Prop := fun q => s.heap.size ≤ q
theorem lw_out {s : State} : ∀ a : Nat, a < s.heap.size → ¬ lwA s a := fun a h => Nat.not_le.mpr h
theorem lw_env {s : State} {b : Nat} (hts : ∀ w ∈ lw_tbl, w.before #[Value.ref b] s = true) (hgv : (Jvm.Cond.and given_1 narrow_1).before #[Value.ref b] s = true) : aw_env (lwA s) s s.heap := by
  have hs := flat_of_before _ hgv
  have hTT := lw_TT hts
  obtain ⟨t1, e1, T1⟩ := va_Tof (tm := lwKW) (ty := .int) (N := 6) (f := fun j => .int (([1, 1, 1, 2, 2, 0] : List Int32).getD j 0)) (by decide) (hs _ lw_k1) (va_eqt (hs _ lw_k2)) (fun j hj => va_eqt (hs _ (lw_k3 j hj))) (lw_out (s := s))
  obtain ⟨t2, e2, T2⟩ := va_Tof (tm := lwVW) (ty := .int) (N := 6) (f := fun j => .int (([1, 0, 1, 0, 1, 0] : List Int32).getD j 0)) (by decide) (hs _ lw_v1) (va_eqt (hs _ lw_v2)) (fun j hj => va_eqt (hs _ (lw_v3 j hj))) (lw_out (s := s))
  obtain ⟨adK, adV, g1, g2⟩ := vk_Sof (N := 8) (tm := lwT) (len := st_len) (byt := st_byt) lw_s0 (fun i hi => hs _ (lw_s1 i hi)) (fun i hi => hs _ (lw_s2 i hi)) (fun i hi => hs _ (lw_s3 i hi)) (fun i hi => hs _ (lw_s4 i hi)) (fun i hi j hj => hs _ (lw_s5 i hi j hj)) (fun i j hi hj hij => (lw_s6 i hi j hj hij).imp (hs _) (hs _)) (lw_out (s := s))
  refine ⟨⟨va_Nw.of rfl (hts _ mn_X10_38), va_Nw.of rfl (hts _ mn_X10_56), va_Nw.of rfl (hts _ mn_X1_45), va_Nw.of rfl (hts _ fn_X6_59), va_Nw.of rfl (hts _ fn_X6_63), va_AO.of (hts _ ao_X0), va_AO.of (hts _ ao_X4), va_AO.of (hts _ ao_X5), va_Nw.of rfl (hts _ (lwt 517 (by decide +kernel))), va_Nw.of rfl (hts _ (lwt 522 (by decide +kernel)))⟩, ⟨t1, t2, ?_, T1, ?_, T2⟩, ⟨adK, adV, fun i hi => vk_R.of (hts _ (List.mem_append_right _ (lw_s7 i hi))) (g2 i hi), g1⟩, ?_, ?_⟩
  · exact va_Zref (hts _ (lwt 385 (by decide +kernel))) (hTT _ ini_X10) e1 lw_out
  · exact va_Zref (hts _ (lwt 387 (by decide +kernel))) (hTT _ ini_X10) e2 lw_out
  · exact va_Zof (hts _ (lwt 345 (by decide +kernel))) (hTT _ ini_J0) (va_eqi (hs _ lw_c1)) lw_out
  · exact va_Zqof (hts _ (lwt 361 (by decide +kernel))) (hTT _ ini_J3) (hs _ lw_c2) lw_out
theorem lw_kyE {s : State} {b : Nat} (hts : ∀ w ∈ lw_tbl, w.before #[Value.ref b] s = true) (hgv : (Jvm.Cond.and given_1 narrow_1).before #[Value.ref b] s = true) : kyE (lwA s) s s.heap := by
  have hs := flat_of_before _ hgv
  refine ⟨⟨va_Nw.of rfl (hts _ (lwt 1164 (by decide +kernel))), va_Nw.of rfl (hts _ (lwt 1166 (by decide +kernel))), va_Nw.of rfl (hts _ (lwt 1168 (by decide +kernel))), va_Nw.of rfl (hts _ (lwt 1163 (by decide +kernel)))⟩, ?_, ?_⟩
  · exact vx_Zqof (hts _ (lwt 1188 (by decide +kernel))) (hts _ (lwt 17 (by decide +kernel))) (hs _ lw_c3) lw_out
  · exact vx_Zqof (hts _ (lwt 1190 (by decide +kernel))) (hts _ (lwt 17 (by decide +kernel))) (hs _ lw_c4) lw_out
/-- the script's row -/
def scE (b L : Nat) (xs : Nat → Int32) : (Nat → Prop) → State → Heap → Prop := fun A U H => va_T .int b L (fun j => .int (xs j)) A U H
theorem lw_scE {s : State} {b L : Nat} {xs : Nat → Int32} (hX : va_X b L xs s s.heap) (hbl : b < s.heap.size) : scE b L xs (lwA s) s s.heap := by
  obtain ⟨scr, h1, h2, h3, h4, h5⟩ := hX
  exact ⟨scr, h1, h2, h3, Nat.le_of_eq h4.symm, by rw [h4], h5, lw_out b hbl⟩
abbrev lwY (nm : String) : MethodName := ⟨RL, nm, "([I)Z"⟩
/-- the law's own frame -/
def lw_end (g : aw_G) (b : Nat) : Prop := match g with
  | (_, l, _, R, s, _, args, below, _, _, _, _, A, Q) => R = room_1 ∧ args = #[Value.ref b] ∧ A = lwA s ∧ Q = lw_Z below #[Value.ref b] s ∧ l.stackTraces = false
/-- the law's end: with 1 -/
theorem a_lend {g : aw_G} {nm : String} {b : Nat} {d : Nat} (K : aw_K g (lwY nm) cL_law 7 ret d 601024 7293034) (E : lw_end g b) {S : aw_S} {k n : Nat} {lv : List (Nat × Value)} {pc : Nat} (hk : k ≤ 601024) (hn : n ≤ 7293034) (dg : decode cL_law pc = .ok (.ireturn, 1)) : aw g 7 S k n lv [.int 1] pc := by
  obtain ⟨p, l, e, R, s, m, args, below, meth, c, D, cy, A, Q⟩ := g
  obtain ⟨hx, hb, hml, hr, hown, hnm, hts, hlk, hK, hA, hE, hfr, hlo, hce, hsl⟩ := K
  obtain ⟨rfl, rfl, rfl, rfl, hls⟩ := E
  exact fun H locs ls hP hD hS hl => va_forget hS.2.2 (W.widen hk hn (lw_ret hx hb hr hlk dg))
/-- the law asks its helper -/
theorem a_lkey {g : aw_G} {nm : String} {b : Nat} {d mc ms : Nat} (K : aw_K g (lwY nm) cL_law 7 ret d mc ms) (Z : aw_X g kyE) (E : lw_end g b) {S : aw_S} {k n : Nat} {lv : List (Nat × Value)} {st stk : List Value} {pc d2 mc2 ms2 : Nat} {av : List Value} {post : Option Value → aw_S → Prop} (M : kl_M d2 mc2 ms2 av S post) (ha : av.length = 4) (hd : d2 + 1 ≤ d) (hk : k + mc2 ≤ mc) (hn : n + ms2 ≤ ms) (hs : stk = av.reverse ++ st) (h8 : (st.map fun v => v.category).sum ≤ 8) (dg : decode cL_law pc = .ok (.invokestatic 46, 3))
    (q : ∀ (r : Option Value) (S2 : aw_S), post r S2 → aw g 7 S2 (k + mc2) (n + ms2) lv (r.toList ++ st) (pc + 3)) : aw g 7 S k n lv stk pc := by
  subst hs
  refine aw_back K (mc2 := mc2) (ms2 := ms2) (st := st) (post := post) (a := av.toArray) ?_ q
  obtain ⟨p, l, e, R, s, m, args, below, meth, c, D, cy, A, Q⟩ := g
  obtain ⟨hx, hb, hml, hrr, hown, hnm, hts, hlk, hK, hA, hE, hfr, hlo, hce, hsl⟩ := K
  have hls := E.2.2.2.2
  intro H locs ls hP hD hS hl
  have hp := aw_preX kyE_ok (p := p) (av := av) hK hE Z hA hP hD hS
  exact vx_runSW (As := av) (rest := st) (nL := 7) (Ts := TT) (own := RL) ⟨hx, hb, hml, hown, hts⟩ (M l hls D cy H.size) (vx_cwSW (hh := kHH) 4 hts (fun w hw => by
      have h1 : w ∈ TT := by
        rcases List.mem_append.mp hw with h | h
        · simp only [List.mem_cons, List.mem_nil_iff, or_false] at h
          rcases h with rfl | rfl | rfl
          · exact ml_L_46
          · exact st_L_key
          · exact ini_L
        · rcases List.mem_cons.mp h with h | h
          · rw [h]; exact cw_L_key
          · exact h
      exact ⟨h1, tt_good w h1⟩) rfl rfl rfl ⟨by decide, by decide, by decide +kernel⟩ ⟨Nat.le_trans hd hfr, by show 8 + (5 + 11) + 48 * d2 ≤ R.locals; omega⟩) ⟨aw_blindX kyE_ok, hp⟩ rfl ha hl.1 rfl (lv_room h8) dg ⟨Nat.le_trans hk hce, Nat.le_trans hn hsl⟩
theorem lw_nt {l : Launch} (h : l.flags = flags0) : l.stackTraces = false := by
  unfold Launch.stackTraces
  rw [h]
  decide +kernel
/-- the law, out of its walk -/
theorem lw_go {p : Program} {e : Env} {s : State} {m : MethodId} {below : List Frame} {meth : Method} {c : Code} (l : Launch) (hflags : l.flags = flags0) {b L : Nat} {xs : Nat → Int32} (C0 : lw_At p s m meth c b L xs) (body : ∀ (g : aw_G) (nm : String), aw_K g (lwY nm) cL_law 7 ret 60 601024 7293034 → aw_X g kyE → aw_X g (scE b L xs) → lw_end g b → aw g 7 ([], fun _ => 0, fun _ _ => 0, fun _ _ => none, fun _ _ => 0, fun _ => 0, fun _ _ => 0, fun _ _ => none, fun _ _ => 0) 0 0 [(0, .ref b)] [] 0) : W p l e room_1 s m #[Value.ref b] below meth c s.heap [] 0 0 (lw_Z below #[Value.ref b] s) (entryFrame m ([Value.ref b] : List Value).toArray 7) := by
  obtain ⟨hx, hb, hr, hml, hown, hts, hX, hbl, hlk, hgv⟩ := C0
  obtain ⟨D, cy, hK⟩ := lw_va_K hts
  have hb9 := body (p, l, e, room_1, s, m, #[Value.ref b], below, meth, c, D, cy, lwA s, lw_Z below #[Value.ref b] s) meth.name
    ⟨hx, hb, hml, hr, hown, rfl, lw_TT hts, hlk, hK, fun q h => h, lw_env hts hgv, by decide, by decide, Nat.le_refl _, Nat.le_refl _⟩ (lw_kyE hts hgv) (lw_scE hX hbl) ⟨rfl, rfl, rfl, rfl, lw_nt hflags⟩
  have hl := lv_entry ([Value.ref b]) (n := 7) (Nat.le_of_ble_eq_true rfl)
  rw [lg_entry_eq]
  exact hb9 s.heap [] _ (fun k q h => by cases h) ⟨fun i j p q h => by (cases h), fun k q h => by cases h⟩ va_S.rf hl
