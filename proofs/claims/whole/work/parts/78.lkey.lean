/-! the law's helper that asks for a key and catches -/
def kHH : List (Nat × Nat × Nat × Nat) := [(0, 10, 13, 13)]
theorem cw_L_key : Cond.codeWith yL_key cL_key 5 (some .int) kHH ∈ TT := tt_r 1155 (by decide +kernel) rfl
theorem ky_ofWH {l : Launch} {y : MethodName} {ws ws' : List Cond} {rm : Room} {Pc : Array Value → State → Prop} {Qc : Array Value → State → Outcome → State → Prop} {mc ms : Nat} {free : Addr → Prop} {cc : ByteArray} {maxL : Nat} {ret : Option FieldType} {hh : List (Nat × Nat × Nat × Nat)}
    (hy : plainName y.cls = true) (hw : ws = Cond.codeWith y cc maxL ret hh :: ws')
    (body : ∀ p e s m args below meth c s₁, BodyLoose p l y (headSpec ws rm) cc maxL ret e s m args below meth c s₁ → c.maxLocals = maxL → Pc args s →
      W p l e (headSpec ws rm).room s m args below meth c s.heap [] 0 0 (MQ below Qc args s mc ms free) (entryFrame m args maxL)) : Met l y ws rm Pc Qc mc ms free := by
  refine MetFree.of_bodyS (code := cc) (maxLocals := maxL) (ret := ret) hy ?_ ?_
  · intro args s m h hn
    obtain ⟨m9, meth, c, hn9, h1, h2, h3, h4, -, h5, h6, -⟩ := Cond.codeWith_spec (atoms_spec (ws := ws) h _ (by rw [hw]; exact List.mem_cons_self))
    cases hn.symm.trans hn9
    exact ⟨meth, c, h1, h2, h3, h4, h5, h6⟩
  · intro p e s m args below meth c s₁ B hml hP _
    have hh0 : s₁.heap = s.heap := by rw [B.state]; rfl
    obtain ⟨t, a1, o, b1, b2, b3⟩ := body p e s m args below meth c s₁ B hml hP s₁ hh0 (Stand.of_body B)
    exact ⟨t, o, a1, b1, b2, b3⟩
/-- a contract of the helper: a word more in the premise, no traces -/
def kl_M (d mc ms : Nat) (av : List Value) (S : aw_S) (post : Option Value → aw_S → Prop) : Prop := ∀ (l : Launch), l.stackTraces = false → ∀ (D : va_G) (cy : Nat → ClassId) (sz : Nat), Met l yL_key (Cond.codeWith yL_key cL_key 5 (some .int) kHH :: TT) (aw_rm d mc ms) (va_Pc av (aw_PX kyE cy D sz S)) (aw_Qc post cy D (va_A (aw_W cy S) sz)) mc ms (va_A (aw_W cy S) sz)
def kl_T (g : aw_G) : Prop := match g with
  | (_, l, _, _, _, _, _, _, _, c, _, _, _, _) => l.stackTraces = false ∧ c.exceptionTable.toList = tableOf kHH
theorem kl_enter {d mc ms : Nat} {av : List Value} {S : aw_S} {post : Option Value → aw_S → Prop} (hlen : (lg_sl av).length ≤ 5) (body : ∀ g : aw_G, aw_K g yL_key cL_key 5 (some .int) d mc ms → aw_X g kyE → kl_T g → aw_end g mc ms post → aw g 5 S 0 0 (lv_args 0 av) [] 0) : kl_M d mc ms av S post := by
  intro l hls D cy sz
  refine ky_ofWH (cc := cL_key) (maxL := 5) (ret := some .int) (hh := kHH) (by decide +kernel) rfl ?_
  intro p e s m args below meth c s₁ B hml hv
  obtain ⟨rfl, ⟨hsz, hP, hK, hD0, hE⟩, hZ⟩ := hv
  subst hsz
  have hts0 := atoms_spec (ws := Cond.codeWith yL_key cL_key 5 (some .int) kHH :: TT) B.pre
  have htb := vx_table (x := yL_key) B (hts0 _ List.mem_cons_self)
  have hown : s.vm.findClass yL_key.cls = some m.cls := findClass_of_methodNamed B.named
  have hD := hD0.self (sz := s.heap.size)
  have hA : ∀ q : Nat, s.heap.size ≤ q → va_A (aw_W cy S) s.heap.size q := fun q h => Or.inr h
  have hb := body (p, l, e, aw_rm d mc ms, s, m, av.toArray, below, meth, c, D, cy, va_A (aw_W cy S) s.heap.size, MQ below (aw_Qc post cy D (va_A (aw_W cy S) s.heap.size)) av.toArray s mc ms (va_A (aw_W cy S) s.heap.size))
    ⟨B.exec, B.bytes, hml, B.returns, hown, (name_of_methodNamed B.named B.method).1, fun w hw => hts0 w (List.mem_cons_of_mem _ hw), B.notSynchronized, hK, hA, hE, Nat.le_refl _, Nat.le_refl _, Nat.le_refl _, Nat.le_refl _⟩ hZ ⟨hls, htb⟩ rfl
  have hl := lv_entry av (n := 5) hlen
  rw [lg_entry_eq]
  exact hb s.heap [] _ hP hD va_S.rf hl
theorem kl_inv {g : aw_G} {d mc ms : Nat} (K : aw_K g yL_key cL_key 5 (some .int) d mc ms) (Z : aw_X g kyE) (TB : kl_T g) {S : aw_S} {k n : Nat} {lv : List (Nat × Value)} {st stk : List Value} {d2 mc2 ms2 b : Nat} {av : List Value} {post : Option Value → aw_S → Prop} {pX : aw_S → Prop}
    (M : ky_M yX10_key cX10_key 3 (some .int) d2 mc2 ms2 (.ref b :: av) S post pX) (o : aw_is S b 10) (ha : av.length = 2) (hd : d2 + 1 ≤ d) (hk : k + mc2 ≤ mc) (hn : n + ms2 ≤ ms) (hs : stk = av.reverse ++ .ref b :: st) (h8 : (st.map fun v => v.category).sum ≤ 8)
    (q : ∀ (r : Option Value) (S2 : aw_S), post r S2 → aw g 5 S2 (k + mc2) (n + ms2) lv (r.toList ++ st) 8) (qx : ∀ (S2 : aw_S) (q9 : Nat), pX S2 → aw g 5 S2 (k + mc2) (n + ms2) lv [.ref q9] 13) : aw g 5 S k n lv stk 5 := by
  subst hs
  obtain ⟨p, l, e, R, s, m, args, below, meth, c, D, cy, A, Q⟩ := g
  obtain ⟨hx, hb, hml, hrr, hown, hnm, hts, hlk, hK, hA, hE, hfr, hlo, hce, hsl⟩ := K
  obtain ⟨hls, htb⟩ := TB
  intro H locs ls hP hD hS hl T hT X
  obtain ⟨q0, -, he⟩ := aw_at (cy := cy) o (by decide)
  have hF := (aw_pre (p := p) (av := .ref b :: av) hK hE hA hP hD hS).1
  have hp := aw_preX kyE_ok (p := p) (av := .ref b :: av) hK hE Z hA hP hD hS
  have Y := my_X10_key
  obtain ⟨T0, N0, hcl⟩ : ∃ T N, vwCl[10]? = some (yX10_key.cls, T, N) := ⟨_, _, rfl⟩
  have run := vx_runV (locs := locs) (meth := meth) (below := below) (e := e) (As := av) (rest := st) (nL := 5) (Ts := TT) ⟨hx, hb, hml, hown, hts⟩ (M l hls D cy H.size) (cwV 2 hts (fun w hw => by
      have h1 : w ∈ TT := by
        rcases List.mem_append.mp hw with h | h
        · simp only [List.mem_cons, List.mem_nil_iff, or_false] at h
          rcases h with rfl | rfl | rfl | rfl
          · exact ml_L_7
          · exact im_X10_key
          · exact se_X10_key
          · exact Y.2.1
        · exact (aw_goodIn Y w h).1
      exact ⟨h1, tt_good w h1⟩) rfl rfl rfl ⟨rfl, Y.2.2.1⟩ ⟨Nat.le_trans hd hfr, by show 8 + (3 + 11) + 48 * d2 ≤ R.locals; omega⟩) ⟨aw_blindX kyE_ok, va_recv hK hP hcl he, hp⟩ (g := F0 m 5 ls (av.reverse ++ .ref b :: st)) rfl ha hl.1 rfl (lv_room h8) dL_key_5 ⟨Nat.le_trans hk hce, Nat.le_trans hn hsl⟩
  rcases run T hT X with ⟨v, st₀, t, T', L, h0, X', hL, e1, e2, ⟨⟨r, S2, hv, hp2, hP1, hK1, hD1⟩, hz, hk2⟩, stp⟩ | ⟨q9, st₀, t, T', L, E, ce, h0, X', hL, e1, e2, ⟨u, hpx, ⟨rfl, hP1, hK1, hD1⟩, hz, hk2⟩, hce9, hcv, hcl9, stp⟩
  · cases hv
    rw [h0] at hz hk2
    have hS2 : va_S A s.heap T'.heap (locs ++ L) := ⟨Nat.le_trans hS.1 (by rw [e1]; exact hz), fun q h1 h2 => by
      rw [e1, hk2 q (Nat.lt_of_lt_of_le h1 hS.1) (fun z => h2 (hF q z))]
      exact hS.2.1 q h1 h2, fun q hq => by
        rcases List.mem_append.mp hq with h | h
        · exact hS.2.2 q h
        · exact hF _ (hL q h)⟩
    obtain ⟨t2, a1, b1⟩ := q _ S2 hp2 T'.heap (locs ++ L) ls (by rw [e1]; exact hP1) (hD1.weaken (fun k q _ h => hF q.1 h)) hS2 hl T' rfl X'
    exact ⟨t2, stp t2 a1, b1⟩
  · rw [h0] at hz hk2
    have hS2 : va_S A s.heap T'.heap (locs ++ L) := ⟨Nat.le_trans hS.1 (by rw [e1]; exact hz), fun q h1 h2 => by
      rw [e1, hk2 q (Nat.lt_of_lt_of_le h1 hS.1) (fun z => h2 (hF q z))]
      exact hS.2.1 q h1 h2, fun q hq => by
        rcases List.mem_append.mp hq with h | h
        · exact hS.2.2 q h
        · exact hF _ (hL q h)⟩
    have kk := qx u q9 hpx T'.heap (locs ++ L) ls (by rw [e1]; exact hP1) (hD1.weaken (fun k q _ h => hF q.1 h)) hS2 hl
    have vw := vx_catch (own := RL) (name := "java/util/NoSuchElementException") (E := "java/util/NoSuchElementException") (ce := ce) (q := q9) (pc := 5) (rest := st) hown [] ⟨0, 10, 13, 13⟩ [] (by rw [htb]; rfl) (fun z hz => nomatch hz) (by decide) (by decide) (hts _ kl_L_13) (va_Nw.use rfl Z.1.2.2.2) (by rw [e1]; exact hce9) hcv hcl9 kk
    obtain ⟨t2, a1, b1⟩ := vw T' rfl X'
    exact ⟨t2, stp.trans a1, b1⟩
set_option maxHeartbeats 4000000 in
set_option maxRecDepth 100000 in
theorem c_lkey {S : aw_S} {v ad ar : Nat → Nat} {PA : List (Nat × Nat)} {X : List Nat} {mb : Nat} {P : PS} (h : RC S v ad ar PA X mb P) (hP : PI P) {m i : Int32} {ow : Nat} (o18 : aw_is S ow 18) (hoX : ow ∈ X) (hN : 0 < sN S ow) (hN2 : sN S ow < 2 ^ 31) : kl_M 10 1 6 [.ref (v 4), .int m, .int i, .ref ow] S (fun r S2 => (∃ w S1, keyV P m i = some w ∧ r = some (.int 0) ∧ RC S1 v ad ar PA X mb P ∧ keepX X S S1 ∧ S2 = wB S1 ow 0 w.toInt64) ∨ (keyV P m i = none ∧ r = some (.int 1) ∧ RC S2 v ad ar PA X mb P ∧ keepX X S S2)) := by
  have hL := h.L
  refine kl_enter (Nat.le_of_ble_eq_true rfl) (fun g K Z TB E => ?_)
  refine a_aload_n K dL_key_0 rfl ?_
  refine a_iconst K dL_key_1 (v := 0) (by decide) ?_
  refine a_aload_n K dL_key_2 rfl ?_
  refine a_iload_n K dL_key_3 rfl ?_
  refine a_iload_n K dL_key_4 rfl ?_
  refine kl_inv K Z TB (c_key h hP (m := m) (i := i)) (lw_i4 hL) rfl (by omega) (by omega) (by omega) rfl (Nat.le_of_ble_eq_true rfl) ?_ ?_
  · intro r S1 hp
    obtain ⟨w, hw, rfl, h1, k1⟩ := hp
    obtain ⟨c1, c2⟩ := k1 ow hoX
    have o1 : aw_is S1 ow 18 := ⟨c1, (congrArg cK c2).trans o18.2⟩
    have n1 : sN S1 ow = sN S ow := congrArg cN c2
    refine a_i2l K dL_key_8 ?_
    refine a_last K o1 (by rw [n1]; exact nI_in (c := 0) hN hN2) dL_key_9 ?_
    refine a_goto K dL_key_10 (tgt := 17) (by decide) ?_
    refine a_iconst K dL_key_17 (v := 0) (by decide) ?_
    exact a_iret K E rfl (by omega) (by omega) dL_key_18 (Or.inl ⟨w, S1, hw, rfl, h1, k1, rfl⟩)
  · intro S1 q9 hp
    obtain ⟨hw, h1, k1⟩ := hp
    refine a_astore K dL_key_13 (by decide) ?_
    refine a_iconst K dL_key_15 (v := 1) (by decide) ?_
    exact a_iret K E rfl (by omega) (by omega) dL_key_16 (Or.inr ⟨hw, rfl, h1, k1⟩)
