/-! the state that both sides have: width, made, tokens given, numbers of nodes given; maps, held, imaged, an image; builders; refusals; programs; tape; shown -/
abbrev MI : Type := Tz × Int32 × Int32
abbrev BI : Type := Tz × Nat × Int32
abbrev ST : Type := Nat → Int32
abbrev PS : Type := (Nat × Int32 × Nat × Nat) × List MI × (Nat → Bool) × (Nat → Bool) × Bool × (Nat → Option BI) × (Nat → Int32) × List (List ST) × List Int32 × List Nat
def pW (P : PS) : Nat := P.1.1
def pMd (P : PS) : Int32 := P.1.2.1
def pTk (P : PS) : Nat := P.1.2.2.1
def pU (P : PS) : Nat := P.1.2.2.2
def pM (P : PS) : List MI := P.2.1
def pH (P : PS) : Nat → Bool := P.2.2.1
def pI (P : PS) : Nat → Bool := P.2.2.2.1
def pY (P : PS) : Bool := P.2.2.2.2.1
def pB (P : PS) : Nat → Option BI := P.2.2.2.2.2.1
def pR (P : PS) : Nat → Int32 := P.2.2.2.2.2.2.1
def pG (P : PS) : List (List ST) := P.2.2.2.2.2.2.2.1
def pT (P : PS) : List Int32 := P.2.2.2.2.2.2.2.2.1
def pS (P : PS) : List Nat := P.2.2.2.2.2.2.2.2.2
/-- how many are held -/
def hcnt (hd : Nat → Bool) : Nat := (List.range 999).countP hd
/-- a program at q -/
def PgW (S : aw_S) (q : Nat × Nat) (p : List ST) : Prop := aw_is S q.1 5 ∧ sR S 320 q.1 = some q.2 ∧ aw_is S q.2 13 ∧ sN S q.2 = 64 ∧ sI S 321 q.1 = nI p.length ∧ p.length ≤ 16 ∧ ∀ i s, p[i]? = some s → ∀ k, k < 4 → sA S q.2 (4 * i + k) = s k
def GrW (S : aw_S) (v : Nat → Nat) (P : PS) : Prop := sI S 64 (v 5) = nI (pW P) ∧ sI S 65 (v 5) = pMd P ∧ sI S 66 (v 5) = nI (pTk P)
def MaW (S : aw_S) (v ad : Nat → Nat) (P : PS) : Prop := sI S 199 (v 6) = nI (pM P).length ∧ (pM P).length ≤ 999 ∧ sI S 200 (v 6) = nI (hcnt (pH P)) ∧ sI S 198 (v 6) = (if pY P then 1 else 0) ∧ (∀ i x, (pM P)[i]? = some x → sQ S (v 7) i = some (ad x.1.2.1) ∧ sA S (v 8) i = x.2.1 ∧ sA S (v 9) i = x.2.2) ∧ (∀ i, i < 999 → sA S (v 10) i = (if pH P i then 1 else 0) ∧ sA S (v 11) i = (if pI P i then 1 else 0)) ∧ ∀ i, (pM P).length ≤ i → pH P i = false ∧ pI P i = false
def BuW (S : aw_S) (v ad : Nat → Nat) (P : PS) : Prop := ∀ j, j < 4 → (pB P j = none → sR S 0 (v (14 + j)) = none) ∧ ∀ b, pB P j = some b → sR S 0 (v (14 + j)) = some (ad b.1.2.1) ∧ sI S 1 (v (14 + j)) = nI b.2.1 ∧ sI S 2 (v (14 + j)) = b.2.2
def ReW (S : aw_S) (v : Nat → Nat) (P : PS) : Prop := ∀ k, k < 5 → sA S (v 18) k = pR P k
def PrW (S : aw_S) (v : Nat → Nat) (PA : List (Nat × Nat)) (P : PS) : Prop := sI S 644 (v 4) = nI (pG P).length ∧ (pG P).length ≤ 4 ∧ PA.length = (pG P).length + 1 ∧ (∀ i p, (pG P)[i]? = some p → ∃ q, PA[i]? = some q ∧ sQ S (v 3) i = some q.1 ∧ PgW S q p) ∧ (∃ q p, PA[(pG P).length]? = some q ∧ sR S 643 (v 4) = some q.1 ∧ PgW S q p) ∧ ∀ i, (pG P).length ≤ i → i < 4 → sQ S (v 3) i = none
def TaW (S : aw_S) (v : Nat → Nat) (P : PS) : Prop := sI S 577 (v 0) = nI (pT P).length ∧ (pT P).length ≤ 240 ∧ ∀ i x, (pT P)[i]? = some x → sA S (v 1) i = x
/-- a tree on the heap, its numbers below u -/
def TrW (S : aw_S) (ad ar : Nat → Nat) (u : Nat) (z : Tz) : Prop := RepW S ad ar z.1 z.2 ∧ ∀ y ∈ ndl z.1 z.2, y.1 < u
def NoW (S : aw_S) (ad ar : Nat → Nat) (P : PS) : Prop := AD S ad ar (pU P) ∧ (∀ x ∈ pM P, TrW S ad ar (pU P) x.1) ∧ ∀ j b, pB P j = some b → TrW S ad ar (pU P) b.1
def MkW (S : aw_S) (v ad : Nat → Nat) (mb u : Nat) : Prop := mb < 2147483000 ∧ ∃ mr, mr ≤ mb ∧ sI S 656 (v 4) = nI mr ∧ ∀ i, i < u → ∃ m, m ≤ mr ∧ sI S 260 (ad i) = nI m
def RvW (S : aw_S) (v ad ar : Nat → Nat) (PA : List (Nat × Nat)) (X : List Nat) (u : Nat) : Prop := (∀ q ∈ PA, ∀ k, k < 37 → q.1 ≠ v k ∧ q.2 ≠ v k) ∧ (PA.flatMap (fun q => [q.1, q.2])).Nodup ∧ (∀ b ∈ X, b ∈ sL S ∧ (∀ k, k < 37 → b ≠ v k) ∧ ∀ q ∈ PA, b ≠ q.1 ∧ b ≠ q.2) ∧ ∀ i, i < u → (∀ k, k < 37 → ad i ≠ v k ∧ ar i ≠ v k) ∧ (∀ q ∈ PA, (ad i ≠ q.1 ∧ ad i ≠ q.2) ∧ ar i ≠ q.1 ∧ ar i ≠ q.2) ∧ ∀ b ∈ X, ad i ≠ b ∧ ar i ≠ b
/-- the class's heap holds the state -/
def RC (S : aw_S) (v ad ar : Nat → Nat) (PA : List (Nat × Nat)) (X : List Nat) (mb : Nat) (P : PS) : Prop := LW S v ∧ GrW S v P ∧ MaW S v ad P ∧ BuW S v ad P ∧ ReW S v P ∧ PrW S v PA P ∧ TaW S v P ∧ ShW S (v 19) (v 20) (pS P) ∧ NoW S ad ar P ∧ MkW S v ad mb (pU P) ∧ RvW S v ad ar PA X (pU P)
/-- a tree that can be one of a map or a builder -/
def tok (w u tk : Nat) (z : Tz) : Prop := rok w z ∧ (∀ x ∈ ent z.1 z.2, okE x) ∧ (ent z.1 z.2).length ≤ 60 ∧ bdd u (ndl z.1 z.2) ∧ ∀ y ∈ ndl z.1 z.2, y.2 < tk
/-- what holds of the state all along -/
def PI (P : PS) : Prop := (3 ≤ pW P ∧ pW P ≤ 6) ∧ (∀ x ∈ pM P, tok (pW P) (pU P) (pTk P) x.1) ∧ (∀ j b, pB P j = some b → j < 4 ∧ tok (pW P) (pU P) (pTk P) b.1 ∧ b.2.1 < pTk P ∧ (∀ x ∈ pM P, ∀ y ∈ ndl x.1.1 x.1.2, y.2 ≠ b.2.1) ∧ ∀ k c, pB P k = some c → k ≠ j → c.2.1 ≠ b.2.1 ∧ ∀ y ∈ ndl c.1.1 c.1.2, y.2 ≠ b.2.1) ∧ pTk P < 1000000000
/-- other cells than the class's stay -/
def keepX (X : List Nat) (S S2 : aw_S) : Prop := ∀ b ∈ X, b ∈ sL S2 ∧ cell S2 b = cell S b
theorem keepX.rf {X : List Nat} {S : aw_S} (h : ∀ b ∈ X, b ∈ sL S) : keepX X S S := fun b hb => ⟨h b hb, rfl⟩
theorem keepX.tr {X : List Nat} {S S2 S3 : aw_S} (h : keepX X S S2) (k : keepX X S2 S3) : keepX X S S3 := fun b hb => ⟨(k b hb).1, (k b hb).2.trans (h b hb).2⟩
theorem frS_cell {S S2 : aw_S} {Q : Nat → Prop} (f : frS S S2 Q) {b : Nat} (n : ¬ Q b) : cell S2 b = cell S b := by
  obtain ⟨h1, h2, h3, h4, h5, h6, h7, h8⟩ := f
  obtain ⟨e1, e2, e3⟩ := h8 b n
  unfold cell
  rw [h2, h3, h4, h5, h6, e2, e3]
  refine congrArg (Prod.mk _) (congrArg (fun x => (x, _)) (funext e1))
/-- rows, sheets, the listing: written over in each call -/
def scr (v : Nat → Nat) (b : Nat) : Prop := ∃ k, 21 ≤ k ∧ k < 37 ∧ b = v k
theorem scr_v {S : aw_S} {v : Nat → Nat} (hL : LW S v) {j : Nat} (hj : j < 21) : ¬ scr v (v j) := fun ⟨k, h1, h2, e⟩ => by
  have h3 := lw_inj hL j k (by omega) h2 e
  omega
theorem PgW.fr {S S2 : aw_S} {Q : Nat → Prop} {q : Nat × Nat} {p : List ST} (h : PgW S q p) (f : fr S S2 Q) (n1 : ¬ Q q.1) (n2 : ¬ Q q.2) : PgW S2 q p := by
  obtain ⟨h1, h2, h3, h4, h5, h6, h7⟩ := h
  obtain ⟨⟨a1, a2, a3, a4, -⟩, a8⟩ := f _ h1.1
  obtain ⟨⟨b1, b2, b3, b4, -⟩, b8⟩ := f _ h3.1
  exact ⟨f.is h1, (a4 _).trans h2, f.is h3, b3.trans h4, ((a8 n1).1 _).trans h5, h6, fun i s hs k hk => by rw [(b8 n2).2.1]; exact h7 i s hs k hk⟩
theorem RC.scr {S S2 : aw_S} {v ad ar : Nat → Nat} {PA : List (Nat × Nat)} {X : List Nat} {mb : Nat} {P : PS} {Q : Nat → Prop} (h : RC S v ad ar PA X mb P) (f : frS S S2 Q) (hQ : ∀ b, Q b → scr v b) : RC S2 v ad ar PA X mb P ∧ keepX X S S2 := by
  obtain ⟨hL, hG, hM, hB, hR, hP, hT, hS, hN, hK, hV⟩ := h
  have nv : ∀ j, j < 21 → ¬ Q (v j) := fun j hj z => scr_v hL hj (hQ _ z)
  obtain ⟨f1, f2, f3, f4, f5, f6, f7, f8⟩ := id f
  have fi : ∀ j, j < 21 → ∀ F, sI S2 F (v j) = sI S F (v j) := fun j hj => (f8 _ (nv j hj)).1
  have fa : ∀ j, j < 21 → sA S2 (v j) = sA S (v j) := fun j hj => (f8 _ (nv j hj)).2.1
  have fq : ∀ j, j < 21 → sQ S2 (v j) = sQ S (v j) := fun j hj => (f8 _ (nv j hj)).2.2
  obtain ⟨v1, v2, v3, v4⟩ := hV
  have np : ∀ q ∈ PA, ¬ Q q.1 ∧ ¬ Q q.2 := fun q hq => ⟨fun z => by obtain ⟨k, -, hk, e⟩ := hQ _ z; exact (v1 q hq k hk).1 e, fun z => by obtain ⟨k, -, hk, e⟩ := hQ _ z; exact (v1 q hq k hk).2 e⟩
  have nn : ∀ i, i < pU P → ¬ Q (ad i) ∧ ¬ Q (ar i) := fun i hi => ⟨fun z => by obtain ⟨k, -, hk, e⟩ := hQ _ z; exact ((v4 i hi).1 k hk).1 e, fun z => by obtain ⟨k, -, hk, e⟩ := hQ _ z; exact ((v4 i hi).1 k hk).2 e⟩
  obtain ⟨n1, n2, n3⟩ := hN
  have rep : ∀ z : Tz, TrW S ad ar (pU P) z → TrW S2 ad ar (pU P) z := fun z r => ⟨RepW_fr f.fr z.1 r.1 (fun x hx => ⟨(nn x.1 (r.2 x hx)).1, (nn x.1 (r.2 x hx)).2, rfl, rfl⟩), r.2⟩
  refine ⟨⟨LW_eq hL f1 f2 f3 f4 (fq 13 (by decide)), ?_, ?_, ?_, ?_, ?_, ?_, hS.fr f.fr (nv 19 (by decide)) (nv 20 (by decide)), ⟨n1.frn f.fr, fun x hx => rep _ (n2 x hx), fun j b hb => rep _ (n3 j b hb)⟩, ?_, ⟨v1, v2, fun b hb => ⟨by rw [f1]; exact (v3 b hb).1, (v3 b hb).2⟩, v4⟩⟩, fun b hb => ⟨by rw [f1]; exact (v3 b hb).1, frS_cell f (fun z => by obtain ⟨k, -, hk, e⟩ := hQ _ z; exact (v3 b hb).2.1 k hk e)⟩⟩
  · exact ⟨by rw [fi 5 (by decide)]; exact hG.1, by rw [fi 5 (by decide)]; exact hG.2.1, by rw [fi 5 (by decide)]; exact hG.2.2⟩
  · unfold MaW
    rw [fi 6 (by decide), fi 6 (by decide), fi 6 (by decide), fq 7 (by decide), fa 8 (by decide), fa 9 (by decide), fa 10 (by decide), fa 11 (by decide)]
    exact hM
  · intro j hj
    rw [f3, fi (14 + j) (by omega), fi (14 + j) (by omega)]
    exact hB j hj
  · intro k hk
    rw [fa 18 (by decide)]
    exact hR k hk
  · obtain ⟨p1, p2, p3, p4, ⟨q, p, p5, p6, p7⟩, p8⟩ := hP
    refine ⟨by rw [fi 4 (by decide)]; exact p1, p2, p3, fun i p hp => ?_, ⟨q, p, p5, by rw [f3]; exact p6, p7.fr f.fr (np q (List.mem_of_getElem? p5)).1 (np q (List.mem_of_getElem? p5)).2⟩, by rw [fq 3 (by decide)]; exact p8⟩
    obtain ⟨q, h1, h2, h3⟩ := p4 i p hp
    exact ⟨q, h1, by rw [fq 3 (by decide)]; exact h2, h3.fr f.fr (np q (List.mem_of_getElem? h1)).1 (np q (List.mem_of_getElem? h1)).2⟩
  · unfold TaW
    rw [fi 0 (by decide), fa 1 (by decide)]
    exact hT
  · obtain ⟨k0, mr, k1, k2, k3⟩ := hK
    refine ⟨k0, mr, k1, by rw [fi 4 (by decide)]; exact k2, fun i hi => ?_⟩
    rw [f7 _ 260 (Or.inl rfl)]
    exact k3 i hi
/-- one more mark is given -/
theorem RC.m656 {S : aw_S} {v ad ar : Nat → Nat} {PA : List (Nat × Nat)} {X : List Nat} {mb : Nat} {P : PS} (h : RC S v ad ar PA X mb P) (hm : mb + 1 < 2147483000) : ∃ mr, sI S 656 (v 4) = nI mr ∧ mr < 2147483000 ∧ RC (wI S 656 (v 4) (nI (mr + 1))) v ad ar PA X (mb + 1) P ∧ keepX X S (wI S 656 (v 4) (nI (mr + 1))) ∧ ∀ i, i < pU P → ¬ sI (wI S 656 (v 4) (nI (mr + 1))) 260 (ad i) = nI (mr + 1) := by
  obtain ⟨hL, hG, hM, hB, hR, hP, hT, hS, hN, hK, hV⟩ := h
  obtain ⟨k0, mr, k1, k2, k3⟩ := hK
  have e : ∀ F b, F ≠ 656 → sI (wI S 656 (v 4) (nI (mr + 1))) F b = sI S F b := fun F b hF => by rw [sI_wI, if_neg (fun z => hF z.1)]
  have f : frS S (wI S 656 (v 4) (nI (mr + 1))) (fun b => b = v 4) := frS_wI (by decide)
  have e4 : ∀ {b : Nat}, b ≠ v 4 → cell (wI S 656 (v 4) (nI (mr + 1))) b = cell S b := fun hb => frS_cell f hb
  refine ⟨mr, k2, by omega, ⟨LW_wI hL, ⟨(e 64 _ (by decide)).trans hG.1, (e 65 _ (by decide)).trans hG.2.1, (e 66 _ (by decide)).trans hG.2.2⟩, ?_, fun j hj => ⟨(hB j hj).1, fun b hb => ?_⟩, hR, ?_, ⟨(e 577 _ (by decide)).trans hT.1, hT.2⟩, ?_, ⟨hN.1.frn f.fr, fun x hx => ?_, fun j b hb => ?_⟩, ⟨hm, mr + 1, by omega, wI_at, fun i hi => ?_⟩, hV⟩, fun b hb => ⟨(hV.2.2.1 b hb).1, e4 ((hV.2.2.1 b hb).2.1 4 (by decide))⟩, fun i hi => ?_⟩
  · unfold MaW
    rw [e 199 _ (by decide), e 200 _ (by decide), e 198 _ (by decide)]
    exact hM
  · rw [e 1 _ (by decide), e 2 _ (by decide)]
    exact (hB j hj).2 b hb
  · obtain ⟨p1, p2, p3, p4, ⟨q, p, p5, p6, p7⟩, p8⟩ := hP
    have pg : ∀ {q : Nat × Nat} {p : List ST}, PgW S q p → PgW (wI S 656 (v 4) (nI (mr + 1))) q p := fun h => ⟨h.1, h.2.1, h.2.2.1, h.2.2.2.1, (e 321 _ (by decide)).trans h.2.2.2.2.1, h.2.2.2.2.2⟩
    refine ⟨(e 644 _ (by decide)).trans p1, p2, p3, fun i p hp => ?_, ⟨q, p, p5, p6, pg p7⟩, p8⟩
    obtain ⟨q, h1, h2, h3⟩ := p4 i p hp
    exact ⟨q, h1, h2, pg h3⟩
  · exact ⟨hS.1, hS.2.1, hS.2.2.1, hS.2.2.2.1, (e 513 _ (by decide)).trans hS.2.2.2.2.1, hS.2.2.2.2.2⟩
  · exact ⟨RepW_fr f.fr _ (hN.2.1 x hx).1 (fun y hy => ⟨((hV.2.2.2 y.1 ((hN.2.1 x hx).2 y hy)).1 4 (by decide)).1, ((hV.2.2.2 y.1 ((hN.2.1 x hx).2 y hy)).1 4 (by decide)).2, rfl, rfl⟩), (hN.2.1 x hx).2⟩
  · exact ⟨RepW_fr f.fr _ (hN.2.2 j b hb).1 (fun y hy => ⟨((hV.2.2.2 y.1 ((hN.2.2 j b hb).2 y hy)).1 4 (by decide)).1, ((hV.2.2.2 y.1 ((hN.2.2 j b hb).2 y hy)).1 4 (by decide)).2, rfl, rfl⟩), (hN.2.2 j b hb).2⟩
  · obtain ⟨m, h1, h2⟩ := k3 i hi
    exact ⟨m, by omega, (e 260 _ (by decide)).trans h2⟩
  · obtain ⟨m, h1, h2⟩ := k3 i hi
    rw [e 260 _ (by decide), h2]
    exact nI_ne (by omega) (by omega) (by omega)
/-- marks alone have changed -/
theorem RepW_mk {S T : aw_S} {ad ad2 ar : Nat → Nat} {m : Int32} {ids : List Nat} (h : mkR S T ad2 m ids) : ∀ (k : Nat) {t : Tr k}, RepW S ad ar k t → RepW T ad ar k t := by
  obtain ⟨⟨e1, e2, e3, e4, e5, e6, e7, e8⟩, k2, k3⟩ := id h
  have own : ∀ (k : Nat) {t : Tr k}, OwnW S ad ar k t → OwnW T ad ar k t := fun k t w => by
    obtain ⟨⟨w1, w2⟩, ⟨n1, n2, n3, n4, n5, n6, n7⟩, n8⟩ := w
    refine ⟨⟨by rw [k2 256 _ (by decide)]; exact w1, w2⟩, ⟨h.is n1, by rw [e3]; exact n2, by rw [e3]; exact n3, h.is n4, by rw [e4]; exact n5, by rw [k2 259 _ (by decide)]; exact n6, n7⟩, fun i x hx => ?_⟩
    obtain ⟨q1, q2⟩ := n8 i x hx
    refine ⟨?_, ?_⟩
    · rw [← q1]
      unfold sl
      rw [e7, e8]
    · cases x with
      | inl p => exact q2
      | inr q => exact ⟨q2.1, fun b hb => h.is (q2.2 b hb)⟩
  intro k
  induction k with
  | zero => intro t r; exact own 0 r
  | succ k ih => intro t r; exact ⟨own _ r.1, fun c hc => ih (r.2 c hc)⟩
theorem RC.mkr {S T : aw_S} {v ad ar : Nat → Nat} {PA : List (Nat × Nat)} {X : List Nat} {mb mr : Nat} {P : PS} {ids : List Nat} (h : RC S v ad ar PA X mb P) (k : mkR S T ad (nI mr) ids) (h6 : sI S 656 (v 4) = nI mr) (hi : ∀ i ∈ ids, i < pU P) : RC T v ad ar PA X mb P ∧ keepX X S T := by
  obtain ⟨hL, hG, hM, hB, hR, hP, hT, hS, hN, hK, hV⟩ := h
  obtain ⟨⟨e1, e2, e3, e4, e5, e6, e7, e8⟩, k2, k3⟩ := id k
  refine ⟨⟨LW_eq hL e1 e2 e3 e4 (by rw [e8]), ⟨(k2 64 _ (by decide)).trans hG.1, (k2 65 _ (by decide)).trans hG.2.1, (k2 66 _ (by decide)).trans hG.2.2⟩, ?_, fun j hj => ?_, fun j hj => by rw [e7]; exact hR j hj, ?_, ⟨(k2 577 _ (by decide)).trans hT.1, by rw [e7]; exact hT.2⟩, ?_, ⟨?_, fun x hx => ⟨RepW_mk k _ (hN.2.1 x hx).1, (hN.2.1 x hx).2⟩, fun j b hb => ⟨RepW_mk k _ (hN.2.2 j b hb).1, (hN.2.2 j b hb).2⟩⟩, ?_, hV.1, hV.2.1, fun b hb => ⟨by rw [e1]; exact (hV.2.2.1 b hb).1, (hV.2.2.1 b hb).2⟩, hV.2.2.2⟩, fun b hb => ⟨by rw [e1]; exact (hV.2.2.1 b hb).1, ?_⟩⟩
  · unfold MaW
    rw [k2 199 _ (by decide), k2 200 _ (by decide), k2 198 _ (by decide), e7, e8]
    exact hM
  · rw [e3, k2 1 _ (by decide), k2 2 _ (by decide)]
    exact hB j hj
  · obtain ⟨p1, p2, p3, p4, ⟨q, p, p5, p6, p7⟩, p8⟩ := hP
    have pg : ∀ {q : Nat × Nat} {p : List ST}, PgW S q p → PgW T q p := fun h => ⟨k.is h.1, by rw [e3]; exact h.2.1, k.is h.2.2.1, by rw [e4]; exact h.2.2.2.1, (k2 321 _ (by decide)).trans h.2.2.2.2.1, h.2.2.2.2.2.1, by rw [e7]; exact h.2.2.2.2.2.2⟩
    refine ⟨(k2 644 _ (by decide)).trans p1, p2, p3, fun i p hp => ?_, ⟨q, p, p5, by rw [e3]; exact p6, pg p7⟩, by rw [e8]; exact p8⟩
    obtain ⟨q, h1, h2, h3⟩ := p4 i p hp
    exact ⟨q, h1, by rw [e8]; exact h2, pg h3⟩
  · exact ⟨k.is hS.1, by rw [e3]; exact hS.2.1, k.is hS.2.2.1, by rw [e4]; exact hS.2.2.2.1, (k2 513 _ (by decide)).trans hS.2.2.2.2.1, hS.2.2.2.2.2.1, by rw [e7]; exact hS.2.2.2.2.2.2⟩
  · exact fun i hi => ⟨⟨k.is (hN.1 i hi).1.1, by rw [e1]; exact (hN.1 i hi).1.2.1, by rw [e2]; exact (hN.1 i hi).1.2.2⟩, (hN.1 i hi).2⟩
  · obtain ⟨q0, m2, q1, q2, q3⟩ := hK
    refine ⟨q0, m2, q1, (k2 656 _ (by decide)).trans q2, fun i hi => ?_⟩
    rw [k3 (ad i)]
    by_cases hm : ∃ j ∈ ids, ad i = ad j
    · rw [if_pos hm]
      exact ⟨m2, Nat.le_refl _, by rw [← q2, h6]⟩
    · rw [if_neg hm]
      exact q3 i hi
  · have hn : ∀ F, sI T F b = sI S F b := fun F => by
      by_cases hF : F = 260
      · rw [hF, k3 b, if_neg (fun ⟨j, hj, e⟩ => ((hV.2.2.2 j (hi j hj)).2.2 b hb).1 e.symm)]
      · exact k2 F b hF
    unfold cell
    rw [e2, e3, e4, e5, e6, e7, e8]
    exact congrArg (Prod.mk _) (congrArg (fun x => (x, _)) (funext hn))
