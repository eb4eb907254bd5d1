/-! both sides over each other's calls -/
/-- the model over the class's calls -/
theorem RM_kM {S S2 : aw_S} {m ρ : Nat → Nat} {Z : List Nat × Nat} {mb : Nat} {P : PS} (h : RM S m ρ Z mb P) (k : ∀ i, i < 34 → m i ∈ sL S2 ∧ cell S2 (m i) = cell S (m i)) : RM S2 m ρ Z mb P := by
  have eI : ∀ F, sI S2 F (m 33) = sI S F (m 33) := fun F => congrFun (congrArg cI (k 33 (by decide)).2) F
  have eR : ∀ F, sR S2 F (m 33) = sR S F (m 33) := fun F => congrFun (congrArg cR (k 33 (by decide)).2) F
  have eA : ∀ i, i < 33 → sA S2 (m i) = sA S (m i) := fun i hi => congrArg cA (k i (by omega)).2
  have eN : ∀ i, i < 33 → sN S2 (m i) = sN S (m i) := fun i hi => congrArg cN (k i (by omega)).2
  have eK : ∀ i, i < 34 → sK S2 (m i) = sK S (m i) := fun i hi => congrArg cK (k i hi).2
  obtain ⟨hM, ⟨a1, a2, a3, a4, a5, a6, a7, a8, a9, a10⟩, b1, b2, ⟨c1, c2, c3, c4⟩, d1, ⟨⟨n1, n2, n3, n4, n5⟩, n6, n7, n8, n9⟩, ⟨k1, st, k2, k3, k4⟩⟩ := h
  refine ⟨⟨⟨(k 33 (by decide)).1, (eK 33 (by decide)).trans hM.1.2⟩, fun i hi => ⟨(eR _).trans (hM.2.1 i hi).1, ⟨(k i (by omega)).1, (eK i (by omega)).trans (hM.2.1 i hi).2.1.2⟩, (eN i hi).trans (hM.2.1 i hi).2.2⟩, hM.2.2⟩, ⟨⟨(eI 706).trans a1.1, a1.2.1, fun i x hx => ?_⟩, (eI _).trans a2, (eI _).trans a3, (eI _).trans a4, (eI _).trans a5, (eI _).trans a6, (eI _).trans a7, (eI _).trans a8, (eI _).trans a9, a10⟩, fun i x hx => ?_, fun j b hj hb => ?_, ⟨fun i hi => ?_, fun i hi => ?_, fun i hi => ?_, fun i b hb => ?_⟩, fun i p hp => ?_, ⟨⟨(eI _).trans n1, (eI _).trans n2, n3, n4, fun i r hr => ?_⟩, n6, n7, fun z hz => RepM_eq (S := S) (S2 := S2) (ρ2 := ρ) (eA 4 (by decide)) (eA 5 (by decide)) (eA 6 (by decide)) (eA 9 (by decide)) (eA 10 (by decide)) z.1 z.2 (n8 z hz), (eI _).trans n9⟩, ⟨k1, st, k2, (eI _).trans k3, fun r hr => ?_⟩⟩
  · rw [eA 0 (by decide)]
    exact a1.2.2 i x hx
  · rw [eA 17 (by decide), eA 18 (by decide), eA 19 (by decide)]
    exact b1 i x hx
  · rw [eA 20 (by decide), eA 21 (by decide), eA 22 (by decide)]
    exact b2 j b hj hb
  · rw [eA 23 (by decide)]
    exact c1 i hi
  · rw [eA 24 (by decide)]
    exact c2 i hi
  · rw [eA 25 (by decide)]
    exact c3 i hi
  · rw [eA 31 (by decide)]
    exact c4 i b hb
  · rw [eA 3 (by decide), eA 2 (by decide)]
    exact d1 i p hp
  · rw [eA 8 (by decide)]
    exact n5 i r hr
  · rw [eA 7 (by decide)]
    exact k4 r hr
/-- the class over the model's calls -/
theorem RC.own {S S2 : aw_S} {v ad ar : Nat → Nat} {PA : List (Nat × Nat)} {X : List Nat} {mb : Nat} {P : PS} {Q : Nat → Prop} (h : RC S v ad ar PA X mb P) (f : frS S S2 Q) (hQ : ∀ b, Q b → b ∈ X) : RC S2 v ad ar PA X mb P := by
  obtain ⟨hL, hG, hM, hB, hR, hP, hT, hS, hN, hK, hV⟩ := h
  obtain ⟨f1, f2, f3, f4, f5, f6, f7, f8⟩ := id f
  obtain ⟨v1, v2, v3, v4⟩ := hV
  have nv : ∀ j, j < 37 → ¬ Q (v j) := fun j hj z => (v3 _ (hQ _ z)).2.1 j hj rfl
  have fi : ∀ j, j < 37 → ∀ F, sI S2 F (v j) = sI S F (v j) := fun j hj => (f8 _ (nv j hj)).1
  have fa : ∀ j, j < 37 → sA S2 (v j) = sA S (v j) := fun j hj => (f8 _ (nv j hj)).2.1
  have fq : ∀ j, j < 37 → sQ S2 (v j) = sQ S (v j) := fun j hj => (f8 _ (nv j hj)).2.2
  have np : ∀ q ∈ PA, ¬ Q q.1 ∧ ¬ Q q.2 := fun q hq => ⟨fun z => ((v3 _ (hQ _ z)).2.2 q hq).1 rfl, fun z => ((v3 _ (hQ _ z)).2.2 q hq).2 rfl⟩
  have nn : ∀ i, i < pU P → ¬ Q (ad i) ∧ ¬ Q (ar i) := fun i hi => ⟨fun z => ((v4 i hi).2.2 _ (hQ _ z)).1 rfl, fun z => ((v4 i hi).2.2 _ (hQ _ z)).2 rfl⟩
  obtain ⟨n1, n2, n3⟩ := hN
  have rep : ∀ z : Tz, TrW S ad ar (pU P) z → TrW S2 ad ar (pU P) z := fun z r => ⟨RepW_fr f.fr z.1 r.1 (fun x hx => ⟨(nn x.1 (r.2 x hx)).1, (nn x.1 (r.2 x hx)).2, rfl, rfl⟩), r.2⟩
  refine ⟨LW_eq hL f1 f2 f3 f4 (fq 13 (by decide)), ?_, ?_, ?_, ?_, ?_, ?_, hS.fr f.fr (nv 19 (by decide)) (nv 20 (by decide)), ⟨n1.frn f.fr, fun x hx => rep _ (n2 x hx), fun j b hb => rep _ (n3 j b hb)⟩, ?_, ⟨v1, v2, fun b hb => ⟨by rw [f1]; exact (v3 b hb).1, (v3 b hb).2⟩, v4⟩⟩
  · exact ⟨by rw [fi 5 (by decide)]; exact hG.1, by rw [fi 5 (by decide)]; exact hG.2.1, by rw [fi 5 (by decide)]; exact hG.2.2⟩
  · unfold MaW
    rw [fi 6 (by decide), fi 6 (by decide), fi 6 (by decide), fq 7 (by decide), fa 8 (by decide), fa 9 (by decide), fa 10 (by decide), fa 11 (by decide)]
    exact hM
  · intro j hj
    rw [f3, fi (14 + j) (by omega), fi (14 + j) (by omega)]
    exact hB j hj
  · intro k hk
    rw [fa 18 (by decide)]
    exact hR k hk
  · obtain ⟨p1, p2, p3, p4, ⟨q, p, p5, p6, p7⟩, p8⟩ := hP
    refine ⟨by rw [fi 4 (by decide)]; exact p1, p2, p3, fun i p hp => ?_, ⟨q, p, p5, by rw [f3]; exact p6, p7.fr f.fr (np q (List.mem_of_getElem? p5)).1 (np q (List.mem_of_getElem? p5)).2⟩, by rw [fq 3 (by decide)]; exact p8⟩
    obtain ⟨q, h1, h2, h3⟩ := p4 i p hp
    exact ⟨q, h1, by rw [fq 3 (by decide)]; exact h2, h3.fr f.fr (np q (List.mem_of_getElem? h1)).1 (np q (List.mem_of_getElem? h1)).2⟩
  · unfold TaW
    rw [fi 0 (by decide), fa 1 (by decide)]
    exact hT
  · obtain ⟨k0, mr, k1, k2, k3⟩ := hK
    refine ⟨k0, mr, k1, by rw [fi 4 (by decide)]; exact k2, fun i hi => ?_⟩
    rw [f7 _ 260 (Or.inl rfl)]
    exact k3 i hi
/-- a heap with other long fields, other long rows -/
def uJB (S : aw_S) (J : Nat → Nat → Int64) (B : Nat → Nat → Int64) : aw_S := (sL S, sK S, sI S, sR S, J, sN S, sA S, sQ S, B)
theorem RepW_JB {S : aw_S} {J B : Nat → Nat → Int64} {ad ar : Nat → Nat} : ∀ (h : Nat) {t : Tr h}, RepW S ad ar h t → RepW (uJB S J B) ad ar h t := by
  intro h
  induction h with
  | zero => intro t r; exact r
  | succ h ih => intro t r; exact ⟨r.1, fun c hc => ih (r.2 c hc)⟩
theorem RC_JB {S : aw_S} {v ad ar : Nat → Nat} {PA : List (Nat × Nat)} {X : List Nat} {mb : Nat} {P : PS} (J B : Nat → Nat → Int64) (h : RC S v ad ar PA X mb P) : RC (uJB S J B) v ad ar PA X mb P := by
  obtain ⟨hL, hG, hM, hB, hR, hP, hT, hS, ⟨n1, n2, n3⟩, hK, hV⟩ := h
  exact ⟨hL, hG, hM, hB, hR, hP, hT, hS, ⟨n1, fun x hx => ⟨RepW_JB _ (n2 x hx).1, (n2 x hx).2⟩, fun j b hb => ⟨RepW_JB _ (n3 j b hb).1, (n3 j b hb).2⟩⟩, hK, hV⟩
theorem RC.ownD {S S2 : aw_S} {v ad ar : Nat → Nat} {PA : List (Nat × Nat)} {X : List Nat} {mb : Nat} {P : PS} {Q : Nat → Prop} (h : RC S v ad ar PA X mb P) (f : frD S S2 Q) (hQ : ∀ b, Q b → b ∈ X) : RC S2 v ad ar PA X mb P := RC_JB (S := uJ S2 (sJ S)) (sJ S2) (sB S2) (RC.own (S2 := uJ S2 (sJ S)) h f hQ)
theorem and63 (x : Int32) : ∃ j, j < 64 ∧ x &&& 63 = nI j := by
  refine ⟨(x &&& 63).toBitVec.toNat, ?_, ?_⟩
  · have h : (x &&& 63).toBitVec = x.toBitVec &&& 63#32 := rfl
    rw [h, BitVec.toNat_and]
    exact Nat.lt_of_le_of_lt Nat.and_le_right (by decide)
  · apply Int32.toBitVec_inj.mp
    show (x &&& 63).toBitVec = BitVec.ofNat 32 (x &&& 63).toBitVec.toNat
    rw [BitVec.ofNat_toNat, BitVec.setWidth_eq]
/-! the law's loop -/
/-- what holds all along: the frame, the script, the model's cells and the out row are not the class's -/
def LwS (g : aw_G) (nm : String) (b L : Nat) (xs : Nat → Int32) (m : Nat → Nat) (X : List Nat) (ow : Nat) : Prop := aw_K g (lwY nm) cL_law 7 ret 60 601024 7293034 ∧ aw_X g kyE ∧ aw_X g (scE b L xs) ∧ lw_end g b ∧ L ≤ 3072 ∧ (∀ k, k < 34 → m k ∈ X ∧ m k ≠ ow) ∧ ow ∈ X
/-- before call c: both sides hold one state -/
def LI (v m : Nat → Nat) (X : List Nat) (ow c : Nat) (S : aw_S) (k n : Nat) : Prop := ∃ (ad ar : Nat → Nat) (PA : List (Nat × Nat)) (ρ : Nat → Nat) (Z : List Nat × Nat) (P : PS), RC S v ad ar PA X (1000 * c) P ∧ RM S m ρ Z (1000 * c) P ∧ PJ (20 * c) P ∧ aw_is S ow 18 ∧ sN S ow = 1 ∧ k ≤ 74 + 1160 * c ∧ n ≤ 251777 + 12000 * c
abbrev lvL (b x y ow : Nat) (i : Int32) : List (Nat × Value) := [(0, .ref b), (1, .ref x), (2, .ref y), (3, .ref ow), (4, .int i)]
def NX (g : aw_G) (v m : Nat → Nat) (X : List Nat) (ow b c : Nat) : Prop := ∀ (S : aw_S) (k n : Nat), LI v m X ow (c + 1) S k n → aw g 7 S k n (lvL b (v 4) (m 33) ow (nI (6 * c))) [] 2036
theorem LI.mk {v m : Nat → Nat} {X : List Nat} {ow c : Nat} {S : aw_S} {k n : Nat} {ad ar : Nat → Nat} {PA : List (Nat × Nat)} {ρ : Nat → Nat} {Z : List Nat × Nat} {P : PS} {m1 m2 : Nat} (hc : c < 512) (hC : RC S v ad ar PA X m1 P) (hM : RM S m ρ Z m2 P) (h1 : m1 ≤ 1000 * (c + 1)) (h2 : m2 ≤ 1000 * (c + 1)) (hJ : PJ (20 * c + 20) P) (o1 : aw_is S ow 18) (n1 : sN S ow = 1) (hk : k ≤ 74 + 1160 * (c + 1)) (hn : n ≤ 251777 + 12000 * (c + 1)) : LI v m X ow (c + 1) S k n := ⟨ad, ar, PA, ρ, Z, P, hC.up h1 (by omega), hM.up h2 (by omega), hJ, o1, n1, hk, hn⟩
theorem LwS.kM {g : aw_G} {nm : String} {b L : Nat} {xs : Nat → Int32} {m : Nat → Nat} {X : List Nat} {ow : Nat} (T : LwS g nm b L xs m X ow) {S S2 : aw_S} (k : keepX X S S2) : ∀ i, i < 34 → m i ∈ sL S2 ∧ cell S2 (m i) = cell S (m i) := fun i hi => k _ (T.2.2.2.2.2.1 i hi).1
theorem LwS.mX {g : aw_G} {nm : String} {b L : Nat} {xs : Nat → Int32} {m : Nat → Nat} {X : List Nat} {ow : Nat} (T : LwS g nm b L xs m X ow) : ∀ q, mQ m q → q ∈ X := fun q ⟨k, hk, e⟩ => e ▸ (T.2.2.2.2.2.1 k hk).1
theorem LwS.ow {g : aw_G} {nm : String} {b L : Nat} {xs : Nat → Int32} {m : Nat → Nat} {X : List Nat} {ow : Nat} (T : LwS g nm b L xs m X ow) {S S2 : aw_S} (k : keepX X S S2) (h1 : aw_is S ow 18) (h2 : sN S ow = 1) : aw_is S2 ow 18 ∧ sN S2 ow = 1 := ⟨⟨(k ow T.2.2.2.2.2.2).1, (congrArg cK (k ow T.2.2.2.2.2.2).2).trans h1.2⟩, (congrArg cN (k ow T.2.2.2.2.2.2).2).trans h2⟩
theorem frS.ow {S S2 : aw_S} {Q : Nat → Prop} (f : frS S S2 Q) {ow : Nat} (h : aw_is S ow 18 ∧ sN S ow = 1) : aw_is S2 ow 18 ∧ sN S2 ow = 1 := ⟨f.is h.1, by rw [f.2.2.2.1]; exact h.2⟩
theorem frD.ow {S S2 : aw_S} {Q : Nat → Prop} (f : frD S S2 Q) {ow : Nat} (h : aw_is S ow 18 ∧ sN S ow = 1) : aw_is S2 ow 18 ∧ sN S2 ow = 1 := frS.ow (S2 := uJ S2 (sJ S)) f h
/-- place 6 c + j of the script -/
theorem a_arg {g : aw_G} {nm : String} {b L : Nat} {xs : Nat → Int32} {m : Nat → Nat} {X : List Nat} {ow : Nat} (T : LwS g nm b L xs m X ow) {S : aw_S} {k n : Nat} {lv : List (Nat × Value)} {st : List Value} {pc c j : Nat} {i : Int} (hc : 6 * c + 6 ≤ L) (hj : j < 6) (hi : Int32.ofInt i = nI j) (h0 : lv.lookup 0 = some (.ref b)) (h4 : lv.lookup 4 = some (.int (nI (6 * c)))) (d1 : decode cL_law pc = .ok (.aload_n 0, 1)) (d2 : decode cL_law (pc + 1) = .ok (.iload 4, 2)) (d3 : decode cL_law (pc + 3) = .ok (.iconst i, 1)) (d4 : decode cL_law (pc + 4) = .ok (.iadd, 1)) (d5 : decode cL_law (pc + 5) = .ok (.iaload, 1)) (q : aw g 7 S k n lv (.int (xs (6 * c + j)) :: st) (pc + 6)) : aw g 7 S k n lv st pc := by
  obtain ⟨K, -, Zs, -, hL, -, -⟩ := T
  refine a_aload_n K d1 h0 ?_
  refine a_iload K d2 h4 ?_
  refine a_iconst K d3 hi ?_
  refine a_iadd K d4 ?_
  rw [nI_add]
  exact x_ti K Zs (fun _ _ _ h => h) (nI_in (show 6 * c + j < L by omega) (by omega)) (by rw [nI_clamp (by omega)]) d5 q
