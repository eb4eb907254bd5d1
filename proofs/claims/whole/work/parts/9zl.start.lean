/-! the start: both sides hold the empty state -/
theorem kn_o {S : aw_S} {FC : aw_FC} {n a ci : Nat} {FI : List (Nat × Int32)} {FX : List (Nat × Option Nat)} (h : kn S FC) (he : FC[n]? = some (a, pO ci FI FX)) : aw_is S a ci ∧ (∀ F, sI S F a = (FI.lookup F).getD 0) ∧ ∀ F, sR S F a = (FX.lookup F).getD none := by
  obtain ⟨h1, h2, h3, h4⟩ := h.2 _ (List.mem_of_getElem? he)
  exact ⟨⟨h1, h2⟩, h3, h4⟩
theorem kn_a {S : aw_S} {FC : aw_FC} {n a kd N : Nat} (h : kn S FC) (he : FC[n]? = some (a, pA kd N)) : aw_is S a kd ∧ sN S a = N ∧ (∀ i, sA S a i = 0) ∧ ∀ i, sQ S a i = none := by
  obtain ⟨h1, h2, h3, h4, h5⟩ := h.2 _ (List.mem_of_getElem? he)
  exact ⟨⟨h1, h2⟩, h3, fun i => congrFun h4 i, fun i => congrFun h5 i⟩
theorem kn_q {S : aw_S} {FC : aw_FC} {n a kd N : Nat} {QL : List (Nat × Option Nat)} (h : kn S FC) (he : FC[n]? = some (a, pQ kd N QL)) : aw_is S a kd ∧ sN S a = N ∧ ∀ i, sQ S a i = (QL.lookup i).getD none := by
  obtain ⟨h1, h2, h3, h4⟩ := h.2 _ (List.mem_of_getElem? he)
  exact ⟨⟨h1, h2⟩, h3, h4⟩
theorem nd_q {n : Nat} {q : Nat → Nat} (h : ((List.range n).map q).Nodup) {i j : Nat} (hi : i < n) (hj : j < n) (e : q i = q j) : i = j := by
  refine (List.getElem?_inj (by rw [List.length_map, List.length_range]; exact hi) h).mp ?_
  rw [List.getElem?_map, List.getElem?_map, List.getElem?_range hi, List.getElem?_range hj]
  exact congrArg some e
abbrev fcW (q : Nat → Nat) : aw_FC := [((q 0), pO 10 [] [(655, some (q 36)), (654, some (q 33)), (653, some (q 30)), (652, some (q 27)), (651, some (q 25)), (650, some (q 23)), (649, some (q 21)), (648, some (q 20)), (647, some (q 15)), (646, some (q 8)), (645, some (q 7)), (643, some (q 5)), (642, some (q 4)), (641, some (q 3)), (640, some (q 1))]), ((q 1), pO 9 [] [(576, some (q 2))]), ((q 2), pA 13 240), ((q 3), pO 6 [] [(384, some (q 1))]), ((q 4), pA 17 4), ((q 5), pO 5 [] [(320, some (q 6))]), ((q 6), pA 13 64), ((q 7), pO 1 [(64, 4)] []), ((q 8), pO 3 [] [(197, some (q 14)), (196, some (q 13)), (195, some (q 12)), (194, some (q 11)), (193, some (q 10)), (192, some (q 9))]), ((q 9), pA 16 999), ((q 10), pA 13 999), ((q 11), pA 13 999), ((q 12), pA 14 999), ((q 13), pA 14 999), ((q 14), pA 13 999), ((q 15), pQ 15 4 [(3, some (q 19)), (2, some (q 18)), (1, some (q 17)), (0, some (q 16))]), ((q 16), pO 0 [] []), ((q 17), pO 0 [] []), ((q 18), pO 0 [] []), ((q 19), pO 0 [] []), ((q 20), pA 13 5), ((q 21), pO 8 [] [(512, some (q 22))]), ((q 22), pA 13 700), ((q 23), pO 8 [] [(512, some (q 24))]), ((q 24), pA 13 700), ((q 25), pO 8 [] [(512, some (q 26))]), ((q 26), pA 13 700), ((q 27), pO 7 [] [(449, some (q 29)), (448, some (q 28))]), ((q 28), pA 13 60), ((q 29), pA 13 60), ((q 30), pO 7 [] [(449, some (q 32)), (448, some (q 31))]), ((q 31), pA 13 60), ((q 32), pA 13 60), ((q 33), pO 7 [] [(449, some (q 35)), (448, some (q 34))]), ((q 34), pA 13 60), ((q 35), pA 13 60), ((q 36), pO 2 [] [(129, some (q 38)), (128, some (q 37))]), ((q 37), pA 16 64), ((q 38), pA 13 64)]
abbrev fcM (m : Nat → Nat) : aw_FC := [((m 33), pO 11 [(723, 4)] [(759, some (m 32)), (756, some (m 31)), (755, some (m 30)), (752, some (m 29)), (751, some (m 28)), (750, some (m 27)), (749, some (m 26)), (744, some (m 25)), (743, some (m 24)), (742, some (m 23)), (741, some (m 22)), (740, some (m 21)), (739, some (m 20)), (738, some (m 19)), (737, some (m 18)), (736, some (m 17)), (733, some (m 16)), (732, some (m 15)), (731, some (m 14)), (730, some (m 13)), (728, some (m 12)), (727, some (m 11)), (720, some (m 10)), (719, some (m 9)), (718, some (m 8)), (717, some (m 7)), (716, some (m 6)), (715, some (m 5)), (714, some (m 4)), (711, some (m 3)), (710, some (m 2)), (709, some (m 1)), (705, some (m 0))]), ((m 0), pA 12 240), ((m 1), pA 13 480), ((m 2), pA 13 320), ((m 3), pA 13 5), ((m 4), pA 13 12000), ((m 5), pA 13 12000), ((m 6), pA 13 12000), ((m 7), pA 13 12000), ((m 8), pA 13 12000), ((m 9), pA 13 84000), ((m 10), pA 13 84000), ((m 11), pA 13 10), ((m 12), pA 13 10), ((m 13), pA 13 140), ((m 14), pA 13 140), ((m 15), pA 13 240), ((m 16), pA 13 240), ((m 17), pA 13 999), ((m 18), pA 13 999), ((m 19), pA 13 999), ((m 20), pA 13 4), ((m 21), pA 13 4), ((m 22), pA 13 4), ((m 23), pA 13 5), ((m 24), pA 14 999), ((m 25), pA 14 999), ((m 26), pA 13 1000), ((m 27), pA 13 3000), ((m 28), pA 13 60), ((m 29), pA 13 60), ((m 30), pA 12 1400), ((m 31), pA 12 1400), ((m 32), pA 13 999)]
def piW (k : Nat) : Nat := ([1, 2, 3, 4, 0, 7, 8, 9, 10, 11, 12, 13, 14, 15, 16, 17, 18, 19, 20, 21, 22, 23, 24, 25, 26, 27, 28, 29, 30, 31, 32, 33, 34, 35, 36, 37, 38] : List Nat).getD k 0
theorem piW_lt : ∀ k, k < 37 → piW k < 39 := by decide
theorem piW_ne : ∀ i, i < 37 → ∀ j, j < 37 → piW i = piW j → i = j := by decide
theorem piW_d : ∀ k, k < 37 → piW k ≠ 5 ∧ piW k ≠ 6 := by decide
theorem fcW_fst (q : Nat → Nat) : (fcW q).map Prod.fst = (List.range 39).map q := rfl
theorem fcM_fst (m : Nat → Nat) : (fcM m).map Prod.fst = m 33 :: (List.range 33).map m := rfl
/-- the state of the start -/
def P0 : PS := ((4, 0, 0, 0), [], fun _ => false, fun _ => false, false, fun _ => none, fun _ => 0, [], [], [])
theorem st_h0 : hcnt (fun _ => false) = 0 := by
  unfold hcnt
  simp
theorem st_LW {S : aw_S} {q : Nat → Nat} {rest : aw_FC} (h : kn S (fcW q ++ rest)) (hq : ∀ i j, i < 39 → j < 39 → q i = q j → i = j) : LW S (fun k => q (piW k)) := ⟨(kn_o h (n := 0) rfl).1, (kn_o h (n := 0) rfl).2.2 640, (kn_o h (n := 0) rfl).2.2 641, (kn_o h (n := 0) rfl).2.2 642, (kn_o h (n := 0) rfl).2.2 645, (kn_o h (n := 0) rfl).2.2 646, (kn_o h (n := 0) rfl).2.2 647, (kn_o h (n := 0) rfl).2.2 648, (kn_o h (n := 0) rfl).2.2 649, (kn_o h (n := 0) rfl).2.2 650, (kn_o h (n := 0) rfl).2.2 651, (kn_o h (n := 0) rfl).2.2 652, (kn_o h (n := 0) rfl).2.2 653, (kn_o h (n := 0) rfl).2.2 654, (kn_o h (n := 0) rfl).2.2 655, (kn_o h (n := 1) rfl).1, (kn_o h (n := 1) rfl).2.2 576, (kn_o h (n := 3) rfl).1, (kn_o h (n := 3) rfl).2.2 384, (kn_o h (n := 7) rfl).1, (kn_o h (n := 8) rfl).1, (kn_o h (n := 8) rfl).2.2 192, (kn_o h (n := 8) rfl).2.2 193, (kn_o h (n := 8) rfl).2.2 194, (kn_o h (n := 8) rfl).2.2 195, (kn_o h (n := 8) rfl).2.2 196, (kn_o h (n := 8) rfl).2.2 197, (kn_o h (n := 16) rfl).1, (kn_o h (n := 17) rfl).1, (kn_o h (n := 18) rfl).1, (kn_o h (n := 19) rfl).1, (kn_o h (n := 21) rfl).1, (kn_o h (n := 21) rfl).2.2 512, (kn_o h (n := 23) rfl).1, (kn_o h (n := 23) rfl).2.2 512, (kn_o h (n := 25) rfl).1, (kn_o h (n := 25) rfl).2.2 512, (kn_o h (n := 27) rfl).1, (kn_o h (n := 27) rfl).2.2 448, (kn_o h (n := 27) rfl).2.2 449, (kn_o h (n := 30) rfl).1, (kn_o h (n := 30) rfl).2.2 448, (kn_o h (n := 30) rfl).2.2 449, (kn_o h (n := 33) rfl).1, (kn_o h (n := 33) rfl).2.2 448, (kn_o h (n := 33) rfl).2.2 449, (kn_o h (n := 36) rfl).1, (kn_o h (n := 36) rfl).2.2 128, (kn_o h (n := 36) rfl).2.2 129, (kn_a h (n := 2) rfl).1, (kn_a h (n := 2) rfl).2.1, (kn_a h (n := 4) rfl).1, (kn_a h (n := 4) rfl).2.1, (kn_a h (n := 9) rfl).1, (kn_a h (n := 9) rfl).2.1, (kn_a h (n := 10) rfl).1, (kn_a h (n := 10) rfl).2.1, (kn_a h (n := 11) rfl).1, (kn_a h (n := 11) rfl).2.1, (kn_a h (n := 12) rfl).1, (kn_a h (n := 12) rfl).2.1, (kn_a h (n := 13) rfl).1, (kn_a h (n := 13) rfl).2.1, (kn_a h (n := 14) rfl).1, (kn_a h (n := 14) rfl).2.1, (kn_q h (n := 15) rfl).1, (kn_q h (n := 15) rfl).2.1, (kn_a h (n := 20) rfl).1, (kn_a h (n := 20) rfl).2.1, (kn_a h (n := 22) rfl).1, (kn_a h (n := 22) rfl).2.1, (kn_a h (n := 24) rfl).1, (kn_a h (n := 24) rfl).2.1, (kn_a h (n := 26) rfl).1, (kn_a h (n := 26) rfl).2.1, (kn_a h (n := 28) rfl).1, (kn_a h (n := 28) rfl).2.1, (kn_a h (n := 29) rfl).1, (kn_a h (n := 29) rfl).2.1, (kn_a h (n := 31) rfl).1, (kn_a h (n := 31) rfl).2.1, (kn_a h (n := 32) rfl).1, (kn_a h (n := 32) rfl).2.1, (kn_a h (n := 34) rfl).1, (kn_a h (n := 34) rfl).2.1, (kn_a h (n := 35) rfl).1, (kn_a h (n := 35) rfl).2.1, (kn_a h (n := 37) rfl).1, (kn_a h (n := 37) rfl).2.1, (kn_a h (n := 38) rfl).1, (kn_a h (n := 38) rfl).2.1, (kn_q h (n := 15) rfl).2.2 0, (kn_q h (n := 15) rfl).2.2 1, (kn_q h (n := 15) rfl).2.2 2, (kn_q h (n := 15) rfl).2.2 3, fun i j hi hj e => piW_ne i hi j hj (hq _ _ (piW_lt i hi) (piW_lt j hj) e)⟩
theorem st_RC {S : aw_S} {q : Nat → Nat} {rest : aw_FC} (h : kn S (fcW q ++ rest)) : RC S (fun k => q (piW k)) (fun _ => 0) (fun _ => 0) [(q 5, q 6)] (rest.map Prod.fst) 0 P0 := by
  have hnd := h.1
  rw [List.map_append, fcW_fst] at hnd
  obtain ⟨n1, n2, n3⟩ := List.nodup_append.mp hnd
  have hq : ∀ i j, i < 39 → j < 39 → q i = q j → i = j := fun i j hi hj e => nd_q n1 hi hj e
  have hr : ∀ i, i < 39 → ∀ b ∈ rest.map Prod.fst, q i ≠ b := fun i hi b hb => n3 _ (List.mem_map.mpr ⟨i, List.mem_range.mpr hi, rfl⟩) b hb
  refine ⟨st_LW h hq, ⟨(kn_o h (n := 7) rfl).2.1 64, (kn_o h (n := 7) rfl).2.1 65, (kn_o h (n := 7) rfl).2.1 66⟩, ⟨(kn_o h (n := 8) rfl).2.1 199, Nat.zero_le _, ?_, (kn_o h (n := 8) rfl).2.1 198, fun i x hx => (nomatch hx), fun i hi => ⟨(kn_a h (n := 12) rfl).2.2.1 i, (kn_a h (n := 13) rfl).2.2.1 i⟩, fun i _ => ⟨rfl, rfl⟩⟩, ?_, fun k hk => (kn_a h (n := 20) rfl).2.2.1 k, ⟨(kn_o h (n := 0) rfl).2.1 644, by decide, rfl, fun i p hp => (nomatch hp), ⟨(q 5, q 6), [], rfl, (kn_o h (n := 0) rfl).2.2 643, (kn_o h (n := 5) rfl).1, (kn_o h (n := 5) rfl).2.2 320, (kn_a h (n := 6) rfl).1, (kn_a h (n := 6) rfl).2.1, (kn_o h (n := 5) rfl).2.1 321, by decide, fun i s hs => (nomatch hs)⟩, fun i _ _ => (kn_a h (n := 4) rfl).2.2.2 i⟩, ⟨(kn_o h (n := 1) rfl).2.1 577, by decide, fun i x hx => (nomatch hx)⟩, ⟨(kn_o h (n := 21) rfl).1, (kn_o h (n := 21) rfl).2.2 512, (kn_a h (n := 22) rfl).1, (kn_a h (n := 22) rfl).2.1, (kn_o h (n := 21) rfl).2.1 513, by decide, fun i x hx => (nomatch hx)⟩, ⟨fun i hi => absurd hi (Nat.not_lt_zero i), fun x hx => absurd hx List.not_mem_nil, fun j b hb => (nomatch hb)⟩, ⟨by decide, 0, Nat.le_refl _, (kn_o h (n := 0) rfl).2.1 656, fun i hi => absurd hi (Nat.not_lt_zero i)⟩, ?_⟩
  · exact ((kn_o h (n := 8) rfl).2.1 200).trans (congrArg nI st_h0).symm
  · intro j hj
    refine ⟨fun _ => ?_, fun b hb => (nomatch hb)⟩
    rcases (show j = 0 ∨ j = 1 ∨ j = 2 ∨ j = 3 by omega) with rfl | rfl | rfl | rfl
    · exact (kn_o h (n := 16) rfl).2.2 0
    · exact (kn_o h (n := 17) rfl).2.2 0
    · exact (kn_o h (n := 18) rfl).2.2 0
    · exact (kn_o h (n := 19) rfl).2.2 0
  · refine ⟨fun z hz k hk => ?_, ?_, fun b hb => ⟨?_, fun k hk e => hr _ (piW_lt k hk) b hb e.symm, fun z hz => ?_⟩, fun i hi => absurd hi (Nat.not_lt_zero i)⟩
    · rcases List.mem_singleton.mp hz with rfl
      exact ⟨fun e => (piW_d k hk).1 (hq _ _ (piW_lt k hk) (by decide) e.symm), fun e => (piW_d k hk).2 (hq _ _ (piW_lt k hk) (by decide) e.symm)⟩
    · show [q 5, q 6].Nodup
      refine List.nodup_cons.mpr ⟨fun z => ?_, List.nodup_cons.mpr ⟨List.not_mem_nil, List.nodup_nil⟩⟩
      have := hq _ _ (by decide) (by decide) (List.mem_singleton.mp z)
      omega
    · obtain ⟨e, he, rfl⟩ := List.mem_map.mp hb
      exact (h.2 e (List.mem_append_right _ he)).1
    · rcases List.mem_singleton.mp hz with rfl
      exact ⟨fun e => hr _ (by decide) b hb e.symm, fun e => hr _ (by decide) b hb e.symm⟩
theorem st_LM {S : aw_S} {m : Nat → Nat} {rest : aw_FC} (h : kn S (fcM m ++ rest)) : LM S m := by
  have hnd := h.1
  rw [List.map_append, fcM_fst] at hnd
  obtain ⟨n1, -, -⟩ := List.nodup_append.mp hnd
  obtain ⟨n2, n3⟩ := List.nodup_cons.mp n1
  refine ⟨(kn_o h (n := 0) rfl).1, fun i hi => ?_, fun i j hi hj e => ?_⟩
  · match i, hi with
    | 0, _ => exact ⟨(kn_o h (n := 0) rfl).2.2 (mF 0), (kn_a h (n := 1) rfl).1, (kn_a h (n := 1) rfl).2.1⟩
    | 1, _ => exact ⟨(kn_o h (n := 0) rfl).2.2 (mF 1), (kn_a h (n := 2) rfl).1, (kn_a h (n := 2) rfl).2.1⟩
    | 2, _ => exact ⟨(kn_o h (n := 0) rfl).2.2 (mF 2), (kn_a h (n := 3) rfl).1, (kn_a h (n := 3) rfl).2.1⟩
    | 3, _ => exact ⟨(kn_o h (n := 0) rfl).2.2 (mF 3), (kn_a h (n := 4) rfl).1, (kn_a h (n := 4) rfl).2.1⟩
    | 4, _ => exact ⟨(kn_o h (n := 0) rfl).2.2 (mF 4), (kn_a h (n := 5) rfl).1, (kn_a h (n := 5) rfl).2.1⟩
    | 5, _ => exact ⟨(kn_o h (n := 0) rfl).2.2 (mF 5), (kn_a h (n := 6) rfl).1, (kn_a h (n := 6) rfl).2.1⟩
    | 6, _ => exact ⟨(kn_o h (n := 0) rfl).2.2 (mF 6), (kn_a h (n := 7) rfl).1, (kn_a h (n := 7) rfl).2.1⟩
    | 7, _ => exact ⟨(kn_o h (n := 0) rfl).2.2 (mF 7), (kn_a h (n := 8) rfl).1, (kn_a h (n := 8) rfl).2.1⟩
    | 8, _ => exact ⟨(kn_o h (n := 0) rfl).2.2 (mF 8), (kn_a h (n := 9) rfl).1, (kn_a h (n := 9) rfl).2.1⟩
    | 9, _ => exact ⟨(kn_o h (n := 0) rfl).2.2 (mF 9), (kn_a h (n := 10) rfl).1, (kn_a h (n := 10) rfl).2.1⟩
    | 10, _ => exact ⟨(kn_o h (n := 0) rfl).2.2 (mF 10), (kn_a h (n := 11) rfl).1, (kn_a h (n := 11) rfl).2.1⟩
    | 11, _ => exact ⟨(kn_o h (n := 0) rfl).2.2 (mF 11), (kn_a h (n := 12) rfl).1, (kn_a h (n := 12) rfl).2.1⟩
    | 12, _ => exact ⟨(kn_o h (n := 0) rfl).2.2 (mF 12), (kn_a h (n := 13) rfl).1, (kn_a h (n := 13) rfl).2.1⟩
    | 13, _ => exact ⟨(kn_o h (n := 0) rfl).2.2 (mF 13), (kn_a h (n := 14) rfl).1, (kn_a h (n := 14) rfl).2.1⟩
    | 14, _ => exact ⟨(kn_o h (n := 0) rfl).2.2 (mF 14), (kn_a h (n := 15) rfl).1, (kn_a h (n := 15) rfl).2.1⟩
    | 15, _ => exact ⟨(kn_o h (n := 0) rfl).2.2 (mF 15), (kn_a h (n := 16) rfl).1, (kn_a h (n := 16) rfl).2.1⟩
    | 16, _ => exact ⟨(kn_o h (n := 0) rfl).2.2 (mF 16), (kn_a h (n := 17) rfl).1, (kn_a h (n := 17) rfl).2.1⟩
    | 17, _ => exact ⟨(kn_o h (n := 0) rfl).2.2 (mF 17), (kn_a h (n := 18) rfl).1, (kn_a h (n := 18) rfl).2.1⟩
    | 18, _ => exact ⟨(kn_o h (n := 0) rfl).2.2 (mF 18), (kn_a h (n := 19) rfl).1, (kn_a h (n := 19) rfl).2.1⟩
    | 19, _ => exact ⟨(kn_o h (n := 0) rfl).2.2 (mF 19), (kn_a h (n := 20) rfl).1, (kn_a h (n := 20) rfl).2.1⟩
    | 20, _ => exact ⟨(kn_o h (n := 0) rfl).2.2 (mF 20), (kn_a h (n := 21) rfl).1, (kn_a h (n := 21) rfl).2.1⟩
    | 21, _ => exact ⟨(kn_o h (n := 0) rfl).2.2 (mF 21), (kn_a h (n := 22) rfl).1, (kn_a h (n := 22) rfl).2.1⟩
    | 22, _ => exact ⟨(kn_o h (n := 0) rfl).2.2 (mF 22), (kn_a h (n := 23) rfl).1, (kn_a h (n := 23) rfl).2.1⟩
    | 23, _ => exact ⟨(kn_o h (n := 0) rfl).2.2 (mF 23), (kn_a h (n := 24) rfl).1, (kn_a h (n := 24) rfl).2.1⟩
    | 24, _ => exact ⟨(kn_o h (n := 0) rfl).2.2 (mF 24), (kn_a h (n := 25) rfl).1, (kn_a h (n := 25) rfl).2.1⟩
    | 25, _ => exact ⟨(kn_o h (n := 0) rfl).2.2 (mF 25), (kn_a h (n := 26) rfl).1, (kn_a h (n := 26) rfl).2.1⟩
    | 26, _ => exact ⟨(kn_o h (n := 0) rfl).2.2 (mF 26), (kn_a h (n := 27) rfl).1, (kn_a h (n := 27) rfl).2.1⟩
    | 27, _ => exact ⟨(kn_o h (n := 0) rfl).2.2 (mF 27), (kn_a h (n := 28) rfl).1, (kn_a h (n := 28) rfl).2.1⟩
    | 28, _ => exact ⟨(kn_o h (n := 0) rfl).2.2 (mF 28), (kn_a h (n := 29) rfl).1, (kn_a h (n := 29) rfl).2.1⟩
    | 29, _ => exact ⟨(kn_o h (n := 0) rfl).2.2 (mF 29), (kn_a h (n := 30) rfl).1, (kn_a h (n := 30) rfl).2.1⟩
    | 30, _ => exact ⟨(kn_o h (n := 0) rfl).2.2 (mF 30), (kn_a h (n := 31) rfl).1, (kn_a h (n := 31) rfl).2.1⟩
    | 31, _ => exact ⟨(kn_o h (n := 0) rfl).2.2 (mF 31), (kn_a h (n := 32) rfl).1, (kn_a h (n := 32) rfl).2.1⟩
    | 32, _ => exact ⟨(kn_o h (n := 0) rfl).2.2 (mF 32), (kn_a h (n := 33) rfl).1, (kn_a h (n := 33) rfl).2.1⟩
    | i + 33, hi => exact absurd hi (by omega)
  · rcases (show i = 33 ∨ i < 33 by omega) with rfl | h1
    · rcases (show j = 33 ∨ j < 33 by omega) with rfl | h2
      · rfl
      · exact absurd (e ▸ List.mem_map.mpr ⟨j, List.mem_range.mpr h2, rfl⟩) n2
    · rcases (show j = 33 ∨ j < 33 by omega) with rfl | h2
      · exact absurd (e ▸ List.mem_map.mpr ⟨i, List.mem_range.mpr h1, rfl⟩) n2
      · exact nd_q n3 h1 h2 e
theorem st_ob0 : obN P0 4 = 0 := rfl
theorem st_Lv {z : Tz} (h : LvT P0 z) : False := by
  rcases h with ⟨i, x, hx, -⟩ | ⟨j, b, -, hb, -⟩
  · exact (nomatch hx)
  · exact (nomatch hb)
theorem st_RM {S : aw_S} {m : Nat → Nat} {rest : aw_FC} (h : kn S (fcM m ++ rest)) : RM S m (fun _ => 0) ([], 0) 0 P0 := by
  refine ⟨st_LM h, ⟨⟨(kn_o h (n := 0) rfl).2.1 706, by decide, fun i x hx => (nomatch hx)⟩, (kn_o h (n := 0) rfl).2.1 713, (kn_o h (n := 0) rfl).2.1 723, (kn_o h (n := 0) rfl).2.1 725, (kn_o h (n := 0) rfl).2.1 745, ?_, ((kn_o h (n := 0) rfl).2.1 747).trans st_ob0.symm, (kn_o h (n := 0) rfl).2.1 748, (kn_o h (n := 0) rfl).2.1 758, by decide⟩, fun i x hx => (nomatch hx), fun j b _ hb => (nomatch hb), ⟨fun k hk => (kn_a h (n := 24) rfl).2.2.1 k, fun i hi => (kn_a h (n := 25) rfl).2.2.1 i, fun i hi => absurd hi (Nat.not_lt_zero i), fun i b hb => (nomatch hb)⟩, fun i p hp => (nomatch hp), ⟨⟨(kn_o h (n := 0) rfl).2.1 721, (kn_o h (n := 0) rfl).2.1 722, by decide, by decide, fun i r hr => (nomatch hr)⟩, List.nodup_nil, ⟨fun i hi => ?_, fun i j hi _ _ => ?_⟩, fun z hz => absurd hz st_Lv, (kn_o h (n := 0) rfl).2.1 724⟩, ⟨by decide, 0, Nat.le_refl _, (kn_o h (n := 0) rfl).2.1 726, fun r hr => ⟨0, Nat.le_refl _, (kn_a h (n := 8) rfl).2.2.1 r⟩⟩⟩
  · exact ((kn_o h (n := 0) rfl).2.1 746).trans (congrArg nI st_h0).symm
  · obtain ⟨z, hz, -⟩ := hi
    exact absurd hz st_Lv
  · obtain ⟨z, hz, -⟩ := hi
    exact absurd hz st_Lv
theorem st_PJ : PJ 0 P0 := ⟨⟨by decide, fun x hx => absurd hx List.not_mem_nil, fun j b hb => (nomatch hb), by decide⟩, by first | exact fun i x hx => (nomatch hx) | exact fun x hx => absurd hx List.not_mem_nil | decide, fun j b hb => (nomatch hb), ⟨by decide, fun p hp => absurd hp List.not_mem_nil⟩, ⟨by decide, fun x hx => absurd hx List.not_mem_nil⟩, ⟨fun i _ => ⟨rfl, rfl⟩, by rw [show pH P0 = fun _ => false from rfl, st_h0]; decide, by rw [show pI P0 = fun _ => false from rfl, st_h0]; decide, by decide⟩, Nat.le_refl _⟩
