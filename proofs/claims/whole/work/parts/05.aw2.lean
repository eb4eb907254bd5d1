theorem a_iconst {g : aw_G} {y : MethodName} {cc : ByteArray} {mL : Nat} {ret : Option FieldType} {d mc ms : Nat} (K : aw_K g y cc mL ret d mc ms) {S : aw_S} {k n : Nat} {lv : List (Nat × Value)} {st : List Value} {pc : Nat} {i : Int} {v : Int32} (dg : decode cc pc = .ok (.iconst i, 1)) (hv : Int32.ofInt i = v) (q : aw g mL S k n lv (.int v :: st) (pc + 1)) : aw g mL S k n lv (st) pc := by
  obtain ⟨p, l, e, R, s, m, args, below, meth, c, D, cy, A, Q⟩ := g
  obtain ⟨hx, hb, hml, hr, hown, hnm, hts, hlk, hK, hA, hE, hfr, hlo, hce, hsl⟩ := K
  exact fun H locs ls hP hD hS hl => lv_iconst hx hb dg hv (q H locs ls hP hD hS hl)
theorem a_bipush {g : aw_G} {y : MethodName} {cc : ByteArray} {mL : Nat} {ret : Option FieldType} {d mc ms : Nat} (K : aw_K g y cc mL ret d mc ms) {S : aw_S} {k n : Nat} {lv : List (Nat × Value)} {st : List Value} {pc : Nat} {i : Int} {v : Int32} (dg : decode cc pc = .ok (.bipush i, 2)) (hv : (Int8.ofInt i).toInt32 = v) (q : aw g mL S k n lv (.int v :: st) (pc + 2)) : aw g mL S k n lv (st) pc := by
  obtain ⟨p, l, e, R, s, m, args, below, meth, c, D, cy, A, Q⟩ := g
  obtain ⟨hx, hb, hml, hr, hown, hnm, hts, hlk, hK, hA, hE, hfr, hlo, hce, hsl⟩ := K
  exact fun H locs ls hP hD hS hl => lv_bipush hx hb dg hv (q H locs ls hP hD hS hl)
theorem a_sipush {g : aw_G} {y : MethodName} {cc : ByteArray} {mL : Nat} {ret : Option FieldType} {d mc ms : Nat} (K : aw_K g y cc mL ret d mc ms) {S : aw_S} {k n : Nat} {lv : List (Nat × Value)} {st : List Value} {pc : Nat} {i : Int} {v : Int32} (dg : decode cc pc = .ok (.sipush i, 3)) (hv : (Int16.ofInt i).toInt32 = v) (q : aw g mL S k n lv (.int v :: st) (pc + 3)) : aw g mL S k n lv (st) pc := by
  obtain ⟨p, l, e, R, s, m, args, below, meth, c, D, cy, A, Q⟩ := g
  obtain ⟨hx, hb, hml, hr, hown, hnm, hts, hlk, hK, hA, hE, hfr, hlo, hce, hsl⟩ := K
  exact fun H locs ls hP hD hS hl => lv_sipush hx hb dg hv (q H locs ls hP hD hS hl)
theorem a_lconst {g : aw_G} {y : MethodName} {cc : ByteArray} {mL : Nat} {ret : Option FieldType} {d mc ms : Nat} (K : aw_K g y cc mL ret d mc ms) {S : aw_S} {k n : Nat} {lv : List (Nat × Value)} {st : List Value} {pc : Nat} {i : Fin 2} {v : Int64} (dg : decode cc pc = .ok (.lconst i, 1)) (hv : Int64.ofNat (i : Nat) = v) (q : aw g mL S k n lv (.long v :: st) (pc + 1)) : aw g mL S k n lv (st) pc := by
  obtain ⟨p, l, e, R, s, m, args, below, meth, c, D, cy, A, Q⟩ := g
  obtain ⟨hx, hb, hml, hr, hown, hnm, hts, hlk, hK, hA, hE, hfr, hlo, hce, hsl⟩ := K
  exact fun H locs ls hP hD hS hl => lv_lconst hx hb dg hv (q H locs ls hP hD hS hl)
theorem a_null {g : aw_G} {y : MethodName} {cc : ByteArray} {mL : Nat} {ret : Option FieldType} {d mc ms : Nat} (K : aw_K g y cc mL ret d mc ms) {S : aw_S} {k n : Nat} {lv : List (Nat × Value)} {st : List Value} {pc : Nat} (dg : decode cc pc = .ok (.aconst_null, 1)) (q : aw g mL S k n lv (.null :: st) (pc + 1)) : aw g mL S k n lv (st) pc := by
  obtain ⟨p, l, e, R, s, m, args, below, meth, c, D, cy, A, Q⟩ := g
  obtain ⟨hx, hb, hml, hr, hown, hnm, hts, hlk, hK, hA, hE, hfr, hlo, hce, hsl⟩ := K
  exact fun H locs ls hP hD hS hl => lv_null hx hb dg (q H locs ls hP hD hS hl)
theorem a_iadd {g : aw_G} {y : MethodName} {cc : ByteArray} {mL : Nat} {ret : Option FieldType} {d mc ms : Nat} (K : aw_K g y cc mL ret d mc ms) {S : aw_S} {k n : Nat} {lv : List (Nat × Value)} {st : List Value} {pc : Nat} {x z : Int32} (dg : decode cc pc = .ok (.iadd, 1)) (q : aw g mL S k n lv (.int (x + z) :: st) (pc + 1)) : aw g mL S k n lv (.int z :: .int x :: st) pc := by
  obtain ⟨p, l, e, R, s, m, args, below, meth, c, D, cy, A, Q⟩ := g
  obtain ⟨hx, hb, hml, hr, hown, hnm, hts, hlk, hK, hA, hE, hfr, hlo, hce, hsl⟩ := K
  exact fun H locs ls hP hD hS hl => lv_iadd hx hb dg (q H locs ls hP hD hS hl)
theorem a_isub {g : aw_G} {y : MethodName} {cc : ByteArray} {mL : Nat} {ret : Option FieldType} {d mc ms : Nat} (K : aw_K g y cc mL ret d mc ms) {S : aw_S} {k n : Nat} {lv : List (Nat × Value)} {st : List Value} {pc : Nat} {x z : Int32} (dg : decode cc pc = .ok (.isub, 1)) (q : aw g mL S k n lv (.int (x - z) :: st) (pc + 1)) : aw g mL S k n lv (.int z :: .int x :: st) pc := by
  obtain ⟨p, l, e, R, s, m, args, below, meth, c, D, cy, A, Q⟩ := g
  obtain ⟨hx, hb, hml, hr, hown, hnm, hts, hlk, hK, hA, hE, hfr, hlo, hce, hsl⟩ := K
  exact fun H locs ls hP hD hS hl => lv_isub hx hb dg (q H locs ls hP hD hS hl)
theorem a_imul {g : aw_G} {y : MethodName} {cc : ByteArray} {mL : Nat} {ret : Option FieldType} {d mc ms : Nat} (K : aw_K g y cc mL ret d mc ms) {S : aw_S} {k n : Nat} {lv : List (Nat × Value)} {st : List Value} {pc : Nat} {x z : Int32} (dg : decode cc pc = .ok (.imul, 1)) (q : aw g mL S k n lv (.int (x * z) :: st) (pc + 1)) : aw g mL S k n lv (.int z :: .int x :: st) pc := by
  obtain ⟨p, l, e, R, s, m, args, below, meth, c, D, cy, A, Q⟩ := g
  obtain ⟨hx, hb, hml, hr, hown, hnm, hts, hlk, hK, hA, hE, hfr, hlo, hce, hsl⟩ := K
  exact fun H locs ls hP hD hS hl => lv_imul hx hb dg (q H locs ls hP hD hS hl)
theorem a_iand {g : aw_G} {y : MethodName} {cc : ByteArray} {mL : Nat} {ret : Option FieldType} {d mc ms : Nat} (K : aw_K g y cc mL ret d mc ms) {S : aw_S} {k n : Nat} {lv : List (Nat × Value)} {st : List Value} {pc : Nat} {x z : Int32} (dg : decode cc pc = .ok (.iand, 1)) (q : aw g mL S k n lv (.int (x &&& z) :: st) (pc + 1)) : aw g mL S k n lv (.int z :: .int x :: st) pc := by
  obtain ⟨p, l, e, R, s, m, args, below, meth, c, D, cy, A, Q⟩ := g
  obtain ⟨hx, hb, hml, hr, hown, hnm, hts, hlk, hK, hA, hE, hfr, hlo, hce, hsl⟩ := K
  exact fun H locs ls hP hD hS hl => lv_iand hx hb dg (q H locs ls hP hD hS hl)
theorem a_ior {g : aw_G} {y : MethodName} {cc : ByteArray} {mL : Nat} {ret : Option FieldType} {d mc ms : Nat} (K : aw_K g y cc mL ret d mc ms) {S : aw_S} {k n : Nat} {lv : List (Nat × Value)} {st : List Value} {pc : Nat} {x z : Int32} (dg : decode cc pc = .ok (.ior, 1)) (q : aw g mL S k n lv (.int (x ||| z) :: st) (pc + 1)) : aw g mL S k n lv (.int z :: .int x :: st) pc := by
  obtain ⟨p, l, e, R, s, m, args, below, meth, c, D, cy, A, Q⟩ := g
  obtain ⟨hx, hb, hml, hr, hown, hnm, hts, hlk, hK, hA, hE, hfr, hlo, hce, hsl⟩ := K
  exact fun H locs ls hP hD hS hl => lv_ior hx hb dg (q H locs ls hP hD hS hl)
theorem a_ishl {g : aw_G} {y : MethodName} {cc : ByteArray} {mL : Nat} {ret : Option FieldType} {d mc ms : Nat} (K : aw_K g y cc mL ret d mc ms) {S : aw_S} {k n : Nat} {lv : List (Nat × Value)} {st : List Value} {pc : Nat} {x z : Int32} (dg : decode cc pc = .ok (.ishl, 1)) (q : aw g mL S k n lv (.int (x <<< (z &&& 31)) :: st) (pc + 1)) : aw g mL S k n lv (.int z :: .int x :: st) pc := by
  obtain ⟨p, l, e, R, s, m, args, below, meth, c, D, cy, A, Q⟩ := g
  obtain ⟨hx, hb, hml, hr, hown, hnm, hts, hlk, hK, hA, hE, hfr, hlo, hce, hsl⟩ := K
  exact fun H locs ls hP hD hS hl => lv_ishl hx hb dg (q H locs ls hP hD hS hl)
theorem a_ishr {g : aw_G} {y : MethodName} {cc : ByteArray} {mL : Nat} {ret : Option FieldType} {d mc ms : Nat} (K : aw_K g y cc mL ret d mc ms) {S : aw_S} {k n : Nat} {lv : List (Nat × Value)} {st : List Value} {pc : Nat} {x z : Int32} (dg : decode cc pc = .ok (.ishr, 1)) (q : aw g mL S k n lv (.int (x >>> (z &&& 31)) :: st) (pc + 1)) : aw g mL S k n lv (.int z :: .int x :: st) pc := by
  obtain ⟨p, l, e, R, s, m, args, below, meth, c, D, cy, A, Q⟩ := g
  obtain ⟨hx, hb, hml, hr, hown, hnm, hts, hlk, hK, hA, hE, hfr, hlo, hce, hsl⟩ := K
  exact fun H locs ls hP hD hS hl => lv_ishr hx hb dg (q H locs ls hP hD hS hl)
theorem a_ladd {g : aw_G} {y : MethodName} {cc : ByteArray} {mL : Nat} {ret : Option FieldType} {d mc ms : Nat} (K : aw_K g y cc mL ret d mc ms) {S : aw_S} {k n : Nat} {lv : List (Nat × Value)} {st : List Value} {pc : Nat} {x z : Int64} (dg : decode cc pc = .ok (.ladd, 1)) (q : aw g mL S k n lv (.long (x + z) :: st) (pc + 1)) : aw g mL S k n lv (.long z :: .long x :: st) pc := by
  obtain ⟨p, l, e, R, s, m, args, below, meth, c, D, cy, A, Q⟩ := g
  obtain ⟨hx, hb, hml, hr, hown, hnm, hts, hlk, hK, hA, hE, hfr, hlo, hce, hsl⟩ := K
  exact fun H locs ls hP hD hS hl => lv_ladd hx hb dg (q H locs ls hP hD hS hl)
theorem a_lmul {g : aw_G} {y : MethodName} {cc : ByteArray} {mL : Nat} {ret : Option FieldType} {d mc ms : Nat} (K : aw_K g y cc mL ret d mc ms) {S : aw_S} {k n : Nat} {lv : List (Nat × Value)} {st : List Value} {pc : Nat} {x z : Int64} (dg : decode cc pc = .ok (.lmul, 1)) (q : aw g mL S k n lv (.long (x * z) :: st) (pc + 1)) : aw g mL S k n lv (.long z :: .long x :: st) pc := by
  obtain ⟨p, l, e, R, s, m, args, below, meth, c, D, cy, A, Q⟩ := g
  obtain ⟨hx, hb, hml, hr, hown, hnm, hts, hlk, hK, hA, hE, hfr, hlo, hce, hsl⟩ := K
  exact fun H locs ls hP hD hS hl => lv_lmul hx hb dg (q H locs ls hP hD hS hl)
theorem a_land {g : aw_G} {y : MethodName} {cc : ByteArray} {mL : Nat} {ret : Option FieldType} {d mc ms : Nat} (K : aw_K g y cc mL ret d mc ms) {S : aw_S} {k n : Nat} {lv : List (Nat × Value)} {st : List Value} {pc : Nat} {x z : Int64} (dg : decode cc pc = .ok (.land, 1)) (q : aw g mL S k n lv (.long (x &&& z) :: st) (pc + 1)) : aw g mL S k n lv (.long z :: .long x :: st) pc := by
  obtain ⟨p, l, e, R, s, m, args, below, meth, c, D, cy, A, Q⟩ := g
  obtain ⟨hx, hb, hml, hr, hown, hnm, hts, hlk, hK, hA, hE, hfr, hlo, hce, hsl⟩ := K
  exact fun H locs ls hP hD hS hl => lv_land hx hb dg (q H locs ls hP hD hS hl)
theorem a_lor {g : aw_G} {y : MethodName} {cc : ByteArray} {mL : Nat} {ret : Option FieldType} {d mc ms : Nat} (K : aw_K g y cc mL ret d mc ms) {S : aw_S} {k n : Nat} {lv : List (Nat × Value)} {st : List Value} {pc : Nat} {x z : Int64} (dg : decode cc pc = .ok (.lor, 1)) (q : aw g mL S k n lv (.long (x ||| z) :: st) (pc + 1)) : aw g mL S k n lv (.long z :: .long x :: st) pc := by
  obtain ⟨p, l, e, R, s, m, args, below, meth, c, D, cy, A, Q⟩ := g
  obtain ⟨hx, hb, hml, hr, hown, hnm, hts, hlk, hK, hA, hE, hfr, hlo, hce, hsl⟩ := K
  exact fun H locs ls hP hD hS hl => lv_lor hx hb dg (q H locs ls hP hD hS hl)
theorem a_idiv {g : aw_G} {y : MethodName} {cc : ByteArray} {mL : Nat} {ret : Option FieldType} {d mc ms : Nat} (K : aw_K g y cc mL ret d mc ms) {S : aw_S} {k n : Nat} {lv : List (Nat × Value)} {st : List Value} {pc : Nat} {x z : Int32} (dg : decode cc pc = .ok (.idiv, 1)) (hz : ¬ z = 0) (q : aw g mL S k n lv (.int (x / z) :: st) (pc + 1)) : aw g mL S k n lv (.int z :: .int x :: st) pc := by
  obtain ⟨p, l, e, R, s, m, args, below, meth, c, D, cy, A, Q⟩ := g
  obtain ⟨hx, hb, hml, hr, hown, hnm, hts, hlk, hK, hA, hE, hfr, hlo, hce, hsl⟩ := K
  exact fun H locs ls hP hD hS hl => lv_idiv hx hb dg hz (q H locs ls hP hD hS hl)
theorem a_irem {g : aw_G} {y : MethodName} {cc : ByteArray} {mL : Nat} {ret : Option FieldType} {d mc ms : Nat} (K : aw_K g y cc mL ret d mc ms) {S : aw_S} {k n : Nat} {lv : List (Nat × Value)} {st : List Value} {pc : Nat} {x z : Int32} (dg : decode cc pc = .ok (.irem, 1)) (hz : ¬ z = 0) (q : aw g mL S k n lv (.int (x - x / z * z) :: st) (pc + 1)) : aw g mL S k n lv (.int z :: .int x :: st) pc := by
  obtain ⟨p, l, e, R, s, m, args, below, meth, c, D, cy, A, Q⟩ := g
  obtain ⟨hx, hb, hml, hr, hown, hnm, hts, hlk, hK, hA, hE, hfr, hlo, hce, hsl⟩ := K
  exact fun H locs ls hP hD hS hl => lv_irem hx hb dg hz (q H locs ls hP hD hS hl)
theorem a_lrem {g : aw_G} {y : MethodName} {cc : ByteArray} {mL : Nat} {ret : Option FieldType} {d mc ms : Nat} (K : aw_K g y cc mL ret d mc ms) {S : aw_S} {k n : Nat} {lv : List (Nat × Value)} {st : List Value} {pc : Nat} {x z : Int64} (dg : decode cc pc = .ok (.lrem, 1)) (hz : ¬ z = 0) (q : aw g mL S k n lv (.long (x - x / z * z) :: st) (pc + 1)) : aw g mL S k n lv (.long z :: .long x :: st) pc := by
  obtain ⟨p, l, e, R, s, m, args, below, meth, c, D, cy, A, Q⟩ := g
  obtain ⟨hx, hb, hml, hr, hown, hnm, hts, hlk, hK, hA, hE, hfr, hlo, hce, hsl⟩ := K
  exact fun H locs ls hP hD hS hl => lv_lrem hx hb dg hz (q H locs ls hP hD hS hl)
theorem a_ineg {g : aw_G} {y : MethodName} {cc : ByteArray} {mL : Nat} {ret : Option FieldType} {d mc ms : Nat} (K : aw_K g y cc mL ret d mc ms) {S : aw_S} {k n : Nat} {lv : List (Nat × Value)} {st : List Value} {pc : Nat} {x : Int32} (dg : decode cc pc = .ok (.ineg, 1)) (q : aw g mL S k n lv (.int (-x) :: st) (pc + 1)) : aw g mL S k n lv (.int x :: st) pc := by
  obtain ⟨p, l, e, R, s, m, args, below, meth, c, D, cy, A, Q⟩ := g
  obtain ⟨hx, hb, hml, hr, hown, hnm, hts, hlk, hK, hA, hE, hfr, hlo, hce, hsl⟩ := K
  exact fun H locs ls hP hD hS hl => lv_ineg hx hb dg (q H locs ls hP hD hS hl)
theorem a_i2l {g : aw_G} {y : MethodName} {cc : ByteArray} {mL : Nat} {ret : Option FieldType} {d mc ms : Nat} (K : aw_K g y cc mL ret d mc ms) {S : aw_S} {k n : Nat} {lv : List (Nat × Value)} {st : List Value} {pc : Nat} {x : Int32} (dg : decode cc pc = .ok (.i2l, 1)) (q : aw g mL S k n lv (.long x.toInt64 :: st) (pc + 1)) : aw g mL S k n lv (.int x :: st) pc := by
  obtain ⟨p, l, e, R, s, m, args, below, meth, c, D, cy, A, Q⟩ := g
  obtain ⟨hx, hb, hml, hr, hown, hnm, hts, hlk, hK, hA, hE, hfr, hlo, hce, hsl⟩ := K
  exact fun H locs ls hP hD hS hl => lv_i2l hx hb dg rfl (q H locs ls hP hD hS hl)
theorem a_l2i {g : aw_G} {y : MethodName} {cc : ByteArray} {mL : Nat} {ret : Option FieldType} {d mc ms : Nat} (K : aw_K g y cc mL ret d mc ms) {S : aw_S} {k n : Nat} {lv : List (Nat × Value)} {st : List Value} {pc : Nat} {x : Int64} (dg : decode cc pc = .ok (.l2i, 1)) (q : aw g mL S k n lv (.int x.toInt32 :: st) (pc + 1)) : aw g mL S k n lv (.long x :: st) pc := by
  obtain ⟨p, l, e, R, s, m, args, below, meth, c, D, cy, A, Q⟩ := g
  obtain ⟨hx, hb, hml, hr, hown, hnm, hts, hlk, hK, hA, hE, hfr, hlo, hce, hsl⟩ := K
  exact fun H locs ls hP hD hS hl => lv_l2i hx hb dg rfl (q H locs ls hP hD hS hl)
theorem a_i2b {g : aw_G} {y : MethodName} {cc : ByteArray} {mL : Nat} {ret : Option FieldType} {d mc ms : Nat} (K : aw_K g y cc mL ret d mc ms) {S : aw_S} {k n : Nat} {lv : List (Nat × Value)} {st : List Value} {pc : Nat} {x : Int32} (dg : decode cc pc = .ok (.i2b, 1)) (q : aw g mL S k n lv (.int x.toInt8.toInt32 :: st) (pc + 1)) : aw g mL S k n lv (.int x :: st) pc := by
  obtain ⟨p, l, e, R, s, m, args, below, meth, c, D, cy, A, Q⟩ := g
  obtain ⟨hx, hb, hml, hr, hown, hnm, hts, hlk, hK, hA, hE, hfr, hlo, hce, hsl⟩ := K
  exact fun H locs ls hP hD hS hl => lv_i2b hx hb dg rfl (q H locs ls hP hD hS hl)
theorem a_i2c {g : aw_G} {y : MethodName} {cc : ByteArray} {mL : Nat} {ret : Option FieldType} {d mc ms : Nat} (K : aw_K g y cc mL ret d mc ms) {S : aw_S} {k n : Nat} {lv : List (Nat × Value)} {st : List Value} {pc : Nat} {x : Int32} (dg : decode cc pc = .ok (.i2c, 1)) (q : aw g mL S k n lv (.int (x.toUInt32 % 65536).toInt32 :: st) (pc + 1)) : aw g mL S k n lv (.int x :: st) pc := by
  obtain ⟨p, l, e, R, s, m, args, below, meth, c, D, cy, A, Q⟩ := g
  obtain ⟨hx, hb, hml, hr, hown, hnm, hts, hlk, hK, hA, hE, hfr, hlo, hce, hsl⟩ := K
  exact fun H locs ls hP hD hS hl => lv_i2c hx hb dg rfl (q H locs ls hP hD hS hl)
theorem a_iushr {g : aw_G} {y : MethodName} {cc : ByteArray} {mL : Nat} {ret : Option FieldType} {d mc ms : Nat} (K : aw_K g y cc mL ret d mc ms) {S : aw_S} {k n : Nat} {lv : List (Nat × Value)} {st : List Value} {pc : Nat} {x z : Int32} (dg : decode cc pc = .ok (.iushr, 1)) (q : aw g mL S k n lv (.int (x.toUInt32 >>> (z.toUInt32 &&& Int32.toUInt32 31)).toInt32 :: st) (pc + 1)) : aw g mL S k n lv (.int z :: .int x :: st) pc := by
  obtain ⟨p, l, e, R, s, m, args, below, meth, c, D, cy, A, Q⟩ := g
  obtain ⟨hx, hb, hml, hr, hown, hnm, hts, hlk, hK, hA, hE, hfr, hlo, hce, hsl⟩ := K
  exact fun H locs ls hP hD hS hl => lv_iushr hx hb dg rfl (q H locs ls hP hD hS hl)
theorem a_lushr {g : aw_G} {y : MethodName} {cc : ByteArray} {mL : Nat} {ret : Option FieldType} {d mc ms : Nat} (K : aw_K g y cc mL ret d mc ms) {S : aw_S} {k n : Nat} {lv : List (Nat × Value)} {st : List Value} {pc : Nat} {x : Int64} {z : Int32} (dg : decode cc pc = .ok (.lushr, 1)) (q : aw g mL S k n lv (.long (x.toUInt64 >>> (z.toInt64.toUInt64 &&& Int64.toUInt64 63)).toInt64 :: st) (pc + 1)) : aw g mL S k n lv (.int z :: .long x :: st) pc := by
  obtain ⟨p, l, e, R, s, m, args, below, meth, c, D, cy, A, Q⟩ := g
  obtain ⟨hx, hb, hml, hr, hown, hnm, hts, hlk, hK, hA, hE, hfr, hlo, hce, hsl⟩ := K
  exact fun H locs ls hP hD hS hl => lv_lushr hx hb dg rfl (q H locs ls hP hD hS hl)
theorem a_lshl {g : aw_G} {y : MethodName} {cc : ByteArray} {mL : Nat} {ret : Option FieldType} {d mc ms : Nat} (K : aw_K g y cc mL ret d mc ms) {S : aw_S} {k n : Nat} {lv : List (Nat × Value)} {st : List Value} {pc : Nat} {x : Int64} {z : Int32} (dg : decode cc pc = .ok (.lshl, 1)) (q : aw g mL S k n lv (.long (x <<< (z.toInt64 &&& 63)) :: st) (pc + 1)) : aw g mL S k n lv (.int z :: .long x :: st) pc := by
  obtain ⟨p, l, e, R, s, m, args, below, meth, c, D, cy, A, Q⟩ := g
  obtain ⟨hx, hb, hml, hr, hown, hnm, hts, hlk, hK, hA, hE, hfr, hlo, hce, hsl⟩ := K
  exact fun H locs ls hP hD hS hl => lv_lshl hx hb dg rfl (q H locs ls hP hD hS hl)
theorem a_dup {g : aw_G} {y : MethodName} {cc : ByteArray} {mL : Nat} {ret : Option FieldType} {d mc ms : Nat} (K : aw_K g y cc mL ret d mc ms) {S : aw_S} {k n : Nat} {lv : List (Nat × Value)} {st : List Value} {pc : Nat} {v : Value} (dg : decode cc pc = .ok (.dup, 1)) (hv : v.category = 1) (q : aw g mL S k n lv (v :: v :: st) (pc + 1)) : aw g mL S k n lv (v :: st) pc := by
  obtain ⟨p, l, e, R, s, m, args, below, meth, c, D, cy, A, Q⟩ := g
  obtain ⟨hx, hb, hml, hr, hown, hnm, hts, hlk, hK, hA, hE, hfr, hlo, hce, hsl⟩ := K
  exact fun H locs ls hP hD hS hl => lv_dup hx hb dg hv (q H locs ls hP hD hS hl)
theorem a_pop {g : aw_G} {y : MethodName} {cc : ByteArray} {mL : Nat} {ret : Option FieldType} {d mc ms : Nat} (K : aw_K g y cc mL ret d mc ms) {S : aw_S} {k n : Nat} {lv : List (Nat × Value)} {st : List Value} {pc : Nat} {v : Value} (dg : decode cc pc = .ok (.pop, 1)) (hv : v.category = 1) (q : aw g mL S k n lv (st) (pc + 1)) : aw g mL S k n lv (v :: st) pc := by
  obtain ⟨p, l, e, R, s, m, args, below, meth, c, D, cy, A, Q⟩ := g
  obtain ⟨hx, hb, hml, hr, hown, hnm, hts, hlk, hK, hA, hE, hfr, hlo, hce, hsl⟩ := K
  exact fun H locs ls hP hD hS hl => lv_pop hx hb dg hv (q H locs ls hP hD hS hl)
theorem a_dup_x1 {g : aw_G} {y : MethodName} {cc : ByteArray} {mL : Nat} {ret : Option FieldType} {d mc ms : Nat} (K : aw_K g y cc mL ret d mc ms) {S : aw_S} {k n : Nat} {lv : List (Nat × Value)} {st : List Value} {pc : Nat} {v w : Value} (dg : decode cc pc = .ok (.dup_x1, 1)) (hv : v.category = 1) (hw : w.category = 1) (q : aw g mL S k n lv (v :: w :: v :: st) (pc + 1)) : aw g mL S k n lv (v :: w :: st) pc := by
  obtain ⟨p, l, e, R, s, m, args, below, meth, c, D, cy, A, Q⟩ := g
  obtain ⟨hx, hb, hml, hr, hown, hnm, hts, hlk, hK, hA, hE, hfr, hlo, hce, hsl⟩ := K
  exact fun H locs ls hP hD hS hl => lv_dup_x1 hx hb dg hv hw (q H locs ls hP hD hS hl)
theorem a_dup2 {g : aw_G} {y : MethodName} {cc : ByteArray} {mL : Nat} {ret : Option FieldType} {d mc ms : Nat} (K : aw_K g y cc mL ret d mc ms) {S : aw_S} {k n : Nat} {lv : List (Nat × Value)} {st : List Value} {pc : Nat} {v w : Value} (dg : decode cc pc = .ok (.dup2, 1)) (hv : v.category = 1) (hw : w.category = 1) (q : aw g mL S k n lv (v :: w :: v :: w :: st) (pc + 1)) : aw g mL S k n lv (v :: w :: st) pc := by
  obtain ⟨p, l, e, R, s, m, args, below, meth, c, D, cy, A, Q⟩ := g
  obtain ⟨hx, hb, hml, hr, hown, hnm, hts, hlk, hK, hA, hE, hfr, hlo, hce, hsl⟩ := K
  exact fun H locs ls hP hD hS hl => lv_dup2_11 hx hb dg hv hw (q H locs ls hP hD hS hl)
theorem a_lcmp {g : aw_G} {y : MethodName} {cc : ByteArray} {mL : Nat} {ret : Option FieldType} {d mc ms : Nat} (K : aw_K g y cc mL ret d mc ms) {S : aw_S} {k n : Nat} {lv : List (Nat × Value)} {st : List Value} {pc : Nat} {x z : Int64} (dg : decode cc pc = .ok (.lcmp, 1)) (q : aw g mL S k n lv (.int (lg_cmp x z) :: st) (pc + 1)) : aw g mL S k n lv (.long z :: .long x :: st) pc := by
  obtain ⟨p, l, e, R, s, m, args, below, meth, c, D, cy, A, Q⟩ := g
  obtain ⟨hx, hb, hml, hr, hown, hnm, hts, hlk, hK, hA, hE, hfr, hlo, hce, hsl⟩ := K
  exact fun H locs ls hP hD hS hl => W.lcmp hx hb dg (q H locs ls hP hD hS hl)
theorem a_ldc {g : aw_G} {y : MethodName} {cc : ByteArray} {mL : Nat} {ret : Option FieldType} {d mc ms : Nat} (K : aw_K g y cc mL ret d mc ms) {S : aw_S} {k n : Nat} {lv : List (Nat × Value)} {st : List Value} {pc : Nat} {idx : Nat} {v : Int32} (w : Cond.constant y.cls idx v ∈ TT) (dg : decode cc pc = .ok (.ldc idx, 2)) (q : aw g mL S k n lv (.int v :: st) (pc + 2)) : aw g mL S k n lv st pc := by
  obtain ⟨p, l, e, R, s, m, args, below, meth, c, D, cy, A, Q⟩ := g
  obtain ⟨hx, hb, hml, hr, hown, hnm, hts, hlk, hK, hA, hE, hfr, hlo, hce, hsl⟩ := K
  exact fun H locs ls hP hD hS hl => lv_ldc hx hb hown (hts _ w) dg (q H locs ls hP hD hS hl)
theorem a_ldcw {g : aw_G} {y : MethodName} {cc : ByteArray} {mL : Nat} {ret : Option FieldType} {d mc ms : Nat} (K : aw_K g y cc mL ret d mc ms) {S : aw_S} {k n : Nat} {lv : List (Nat × Value)} {st : List Value} {pc : Nat} {idx : Nat} {v : Int32} (w : Cond.constant y.cls idx v ∈ TT) (dg : decode cc pc = .ok (.ldc_w idx, 3)) (q : aw g mL S k n lv (.int v :: st) (pc + 3)) : aw g mL S k n lv st pc := by
  obtain ⟨p, l, e, R, s, m, args, below, meth, c, D, cy, A, Q⟩ := g
  obtain ⟨hx, hb, hml, hr, hown, hnm, hts, hlk, hK, hA, hE, hfr, hlo, hce, hsl⟩ := K
  exact fun H locs ls hP hD hS hl => lv_ldcw hx hb hown (hts _ w) dg (q H locs ls hP hD hS hl)
theorem a_ldc2 {g : aw_G} {y : MethodName} {cc : ByteArray} {mL : Nat} {ret : Option FieldType} {d mc ms : Nat} (K : aw_K g y cc mL ret d mc ms) {S : aw_S} {k n : Nat} {lv : List (Nat × Value)} {st : List Value} {pc : Nat} {idx : Nat} {v : Int64} (w : Cond.constantLong y.cls idx v ∈ TT) (dg : decode cc pc = .ok (.ldc2_w idx, 3)) (q : aw g mL S k n lv (.long v :: st) (pc + 3)) : aw g mL S k n lv st pc := by
  obtain ⟨p, l, e, R, s, m, args, below, meth, c, D, cy, A, Q⟩ := g
  obtain ⟨hx, hb, hml, hr, hown, hnm, hts, hlk, hK, hA, hE, hfr, hlo, hce, hsl⟩ := K
  exact fun H locs ls hP hD hS hl => lv_ldc2 hx hb hown (hts _ w) dg (q H locs ls hP hD hS hl)
theorem aw_lkm {i : Nat} {v : Value} : ∀ {lv : List (Nat × Value)}, lv.lookup i = some v → (i, v) ∈ lv
  | [], h => by simp at h
  | (j, w) :: t, h => by
    rw [List.lookup_cons] at h
    split at h
    · rename_i hj
      cases h
      rw [show i = j by simpa using hj]
      exact List.mem_cons_self
    · exact List.mem_cons_of_mem _ (aw_lkm h)
theorem aw_lk {ls : Array Slot} {nL : Nat} {lv : List (Nat × Value)} (h : lv_has ls nL lv) {i : Nat} {v : Value} (hv : lv.lookup i = some v) : ls[i]? = some (.val v) := h.2.2 (i, v) (aw_lkm hv)
def aw_set (lv : List (Nat × Value)) (i : Nat) (v : Value) : List (Nat × Value) := (i, v) :: lv.filter (fun q => !(q.1 == i) && !(q.1 + 1 == i && q.2.category == 2))
def aw_setL (lv : List (Nat × Value)) (i : Nat) (v : Value) : List (Nat × Value) := (i, v) :: lv.filter (fun q => !(q.1 == i) && (!(q.1 == i + 1) && !(q.1 + 1 == i && q.2.category == 2)))
theorem a_iload_n {g : aw_G} {y : MethodName} {cc : ByteArray} {mL : Nat} {ret : Option FieldType} {d mc ms : Nat} (K : aw_K g y cc mL ret d mc ms) {S : aw_S} {k n : Nat} {lv : List (Nat × Value)} {st : List Value} {pc : Nat} {j : Fin 4} {x : Int32} (dg : decode cc pc = .ok (.iload_n j, 1)) (hv : lv.lookup (j : Nat) = some (.int x)) (q : aw g mL S k n lv (.int x :: st) (pc + 1)) : aw g mL S k n lv st pc := by
  obtain ⟨p, l, e, R, s, m, args, below, meth, c, D, cy, A, Q⟩ := g
  obtain ⟨hx, hb, hml, hr, hown, hnm, hts, hlk, hK, hA, hE, hfr, hlo, hce, hsl⟩ := K
  exact fun H locs ls hP hD hS hl => lv_iload_n hx hb dg rfl (aw_lk hl hv) (q H locs ls hP hD hS hl)
theorem a_iload {g : aw_G} {y : MethodName} {cc : ByteArray} {mL : Nat} {ret : Option FieldType} {d mc ms : Nat} (K : aw_K g y cc mL ret d mc ms) {S : aw_S} {k n : Nat} {lv : List (Nat × Value)} {st : List Value} {pc : Nat} {i : Nat} {x : Int32} (dg : decode cc pc = .ok (.iload i, 2)) (hv : lv.lookup i = some (.int x)) (q : aw g mL S k n lv (.int x :: st) (pc + 2)) : aw g mL S k n lv st pc := by
  obtain ⟨p, l, e, R, s, m, args, below, meth, c, D, cy, A, Q⟩ := g
  obtain ⟨hx, hb, hml, hr, hown, hnm, hts, hlk, hK, hA, hE, hfr, hlo, hce, hsl⟩ := K
  exact fun H locs ls hP hD hS hl => lv_iload hx hb dg (aw_lk hl hv) (q H locs ls hP hD hS hl)
theorem a_lload_n {g : aw_G} {y : MethodName} {cc : ByteArray} {mL : Nat} {ret : Option FieldType} {d mc ms : Nat} (K : aw_K g y cc mL ret d mc ms) {S : aw_S} {k n : Nat} {lv : List (Nat × Value)} {st : List Value} {pc : Nat} {j : Fin 4} {x : Int64} (dg : decode cc pc = .ok (.lload_n j, 1)) (hv : lv.lookup (j : Nat) = some (.long x)) (q : aw g mL S k n lv (.long x :: st) (pc + 1)) : aw g mL S k n lv st pc := by
  obtain ⟨p, l, e, R, s, m, args, below, meth, c, D, cy, A, Q⟩ := g
  obtain ⟨hx, hb, hml, hr, hown, hnm, hts, hlk, hK, hA, hE, hfr, hlo, hce, hsl⟩ := K
  exact fun H locs ls hP hD hS hl => lv_lload_n hx hb dg rfl (aw_lk hl hv) (q H locs ls hP hD hS hl)
theorem a_lload {g : aw_G} {y : MethodName} {cc : ByteArray} {mL : Nat} {ret : Option FieldType} {d mc ms : Nat} (K : aw_K g y cc mL ret d mc ms) {S : aw_S} {k n : Nat} {lv : List (Nat × Value)} {st : List Value} {pc : Nat} {i : Nat} {x : Int64} (dg : decode cc pc = .ok (.lload i, 2)) (hv : lv.lookup i = some (.long x)) (q : aw g mL S k n lv (.long x :: st) (pc + 2)) : aw g mL S k n lv st pc := by
  obtain ⟨p, l, e, R, s, m, args, below, meth, c, D, cy, A, Q⟩ := g
  obtain ⟨hx, hb, hml, hr, hown, hnm, hts, hlk, hK, hA, hE, hfr, hlo, hce, hsl⟩ := K
  exact fun H locs ls hP hD hS hl => lv_lload hx hb dg (aw_lk hl hv) (q H locs ls hP hD hS hl)
theorem a_aload_n {g : aw_G} {y : MethodName} {cc : ByteArray} {mL : Nat} {ret : Option FieldType} {d mc ms : Nat} (K : aw_K g y cc mL ret d mc ms) {S : aw_S} {k n : Nat} {lv : List (Nat × Value)} {st : List Value} {pc : Nat} {j : Fin 4} {x : Nat} (dg : decode cc pc = .ok (.aload_n j, 1)) (hv : lv.lookup (j : Nat) = some (.ref x)) (q : aw g mL S k n lv (.ref x :: st) (pc + 1)) : aw g mL S k n lv st pc := by
  obtain ⟨p, l, e, R, s, m, args, below, meth, c, D, cy, A, Q⟩ := g
  obtain ⟨hx, hb, hml, hr, hown, hnm, hts, hlk, hK, hA, hE, hfr, hlo, hce, hsl⟩ := K
  exact fun H locs ls hP hD hS hl => lv_aload_n hx hb dg rfl (aw_lk hl hv) (q H locs ls hP hD hS hl)
theorem a_aload {g : aw_G} {y : MethodName} {cc : ByteArray} {mL : Nat} {ret : Option FieldType} {d mc ms : Nat} (K : aw_K g y cc mL ret d mc ms) {S : aw_S} {k n : Nat} {lv : List (Nat × Value)} {st : List Value} {pc : Nat} {i : Nat} {x : Nat} (dg : decode cc pc = .ok (.aload i, 2)) (hv : lv.lookup i = some (.ref x)) (q : aw g mL S k n lv (.ref x :: st) (pc + 2)) : aw g mL S k n lv st pc := by
  obtain ⟨p, l, e, R, s, m, args, below, meth, c, D, cy, A, Q⟩ := g
  obtain ⟨hx, hb, hml, hr, hown, hnm, hts, hlk, hK, hA, hE, hfr, hlo, hce, hsl⟩ := K
  exact fun H locs ls hP hD hS hl => lv_aload hx hb dg (aw_lk hl hv) (q H locs ls hP hD hS hl)
theorem a_aload_nN {g : aw_G} {y : MethodName} {cc : ByteArray} {mL : Nat} {ret : Option FieldType} {d mc ms : Nat} (K : aw_K g y cc mL ret d mc ms) {S : aw_S} {k n : Nat} {lv : List (Nat × Value)} {st : List Value} {pc : Nat} {j : Fin 4} (dg : decode cc pc = .ok (.aload_n j, 1)) (hv : lv.lookup (j : Nat) = some .null) (q : aw g mL S k n lv (.null :: st) (pc + 1)) : aw g mL S k n lv st pc := by
  obtain ⟨p, l, e, R, s, m, args, below, meth, c, D, cy, A, Q⟩ := g
  obtain ⟨hx, hb, hml, hr, hown, hnm, hts, hlk, hK, hA, hE, hfr, hlo, hce, hsl⟩ := K
  exact fun H locs ls hP hD hS hl => lv_aload_nN hx hb dg rfl (aw_lk hl hv) (q H locs ls hP hD hS hl)
theorem a_aloadN {g : aw_G} {y : MethodName} {cc : ByteArray} {mL : Nat} {ret : Option FieldType} {d mc ms : Nat} (K : aw_K g y cc mL ret d mc ms) {S : aw_S} {k n : Nat} {lv : List (Nat × Value)} {st : List Value} {pc : Nat} {i : Nat} (dg : decode cc pc = .ok (.aload i, 2)) (hv : lv.lookup i = some .null) (q : aw g mL S k n lv (.null :: st) (pc + 2)) : aw g mL S k n lv st pc := by
  obtain ⟨p, l, e, R, s, m, args, below, meth, c, D, cy, A, Q⟩ := g
  obtain ⟨hx, hb, hml, hr, hown, hnm, hts, hlk, hK, hA, hE, hfr, hlo, hce, hsl⟩ := K
  exact fun H locs ls hP hD hS hl => lv_aloadN hx hb dg (aw_lk hl hv) (q H locs ls hP hD hS hl)
theorem a_istore_n {g : aw_G} {y : MethodName} {cc : ByteArray} {mL : Nat} {ret : Option FieldType} {d mc ms : Nat} (K : aw_K g y cc mL ret d mc ms) {S : aw_S} {k n : Nat} {lv : List (Nat × Value)} {st : List Value} {pc : Nat} {j : Fin 4} {x : Int32} (dg : decode cc pc = .ok (.istore_n j, 1)) (hn : (j : Nat) < mL) (q : aw g mL S k n (aw_set lv (j : Nat) (.int x)) st (pc + 1)) : aw g mL S k n lv (.int x :: st) pc := by
  obtain ⟨p, l, e, R, s, m, args, below, meth, c, D, cy, A, Q⟩ := g
  obtain ⟨hx, hb, hml, hr, hown, hnm, hts, hlk, hK, hA, hE, hfr, hlo, hce, hsl⟩ := K
  exact fun H locs ls hP hD hS hl => lv_istore_n hx hb dg rfl hl hn rfl (fun ls hl => q H locs ls hP hD hS hl)
theorem a_istore {g : aw_G} {y : MethodName} {cc : ByteArray} {mL : Nat} {ret : Option FieldType} {d mc ms : Nat} (K : aw_K g y cc mL ret d mc ms) {S : aw_S} {k n : Nat} {lv : List (Nat × Value)} {st : List Value} {pc : Nat} {i : Nat} {x : Int32} (dg : decode cc pc = .ok (.istore i, 2)) (hn : i < mL) (q : aw g mL S k n (aw_set lv i (.int x)) st (pc + 2)) : aw g mL S k n lv (.int x :: st) pc := by
  obtain ⟨p, l, e, R, s, m, args, below, meth, c, D, cy, A, Q⟩ := g
  obtain ⟨hx, hb, hml, hr, hown, hnm, hts, hlk, hK, hA, hE, hfr, hlo, hce, hsl⟩ := K
  exact fun H locs ls hP hD hS hl => lv_istore hx hb dg hl hn rfl (fun ls hl => q H locs ls hP hD hS hl)
theorem a_astore_n {g : aw_G} {y : MethodName} {cc : ByteArray} {mL : Nat} {ret : Option FieldType} {d mc ms : Nat} (K : aw_K g y cc mL ret d mc ms) {S : aw_S} {k n : Nat} {lv : List (Nat × Value)} {st : List Value} {pc : Nat} {j : Fin 4} {x : Nat} (dg : decode cc pc = .ok (.astore_n j, 1)) (hn : (j : Nat) < mL) (q : aw g mL S k n (aw_set lv (j : Nat) (.ref x)) st (pc + 1)) : aw g mL S k n lv (.ref x :: st) pc := by
  obtain ⟨p, l, e, R, s, m, args, below, meth, c, D, cy, A, Q⟩ := g
  obtain ⟨hx, hb, hml, hr, hown, hnm, hts, hlk, hK, hA, hE, hfr, hlo, hce, hsl⟩ := K
  exact fun H locs ls hP hD hS hl => lv_astore_n hx hb dg rfl hl hn rfl (fun ls hl => q H locs ls hP hD hS hl)
theorem a_astore {g : aw_G} {y : MethodName} {cc : ByteArray} {mL : Nat} {ret : Option FieldType} {d mc ms : Nat} (K : aw_K g y cc mL ret d mc ms) {S : aw_S} {k n : Nat} {lv : List (Nat × Value)} {st : List Value} {pc : Nat} {i : Nat} {x : Nat} (dg : decode cc pc = .ok (.astore i, 2)) (hn : i < mL) (q : aw g mL S k n (aw_set lv i (.ref x)) st (pc + 2)) : aw g mL S k n lv (.ref x :: st) pc := by
  obtain ⟨p, l, e, R, s, m, args, below, meth, c, D, cy, A, Q⟩ := g
  obtain ⟨hx, hb, hml, hr, hown, hnm, hts, hlk, hK, hA, hE, hfr, hlo, hce, hsl⟩ := K
  exact fun H locs ls hP hD hS hl => lv_astore hx hb dg hl hn rfl (fun ls hl => q H locs ls hP hD hS hl)
theorem a_astore_nN {g : aw_G} {y : MethodName} {cc : ByteArray} {mL : Nat} {ret : Option FieldType} {d mc ms : Nat} (K : aw_K g y cc mL ret d mc ms) {S : aw_S} {k n : Nat} {lv : List (Nat × Value)} {st : List Value} {pc : Nat} {j : Fin 4} (dg : decode cc pc = .ok (.astore_n j, 1)) (hn : (j : Nat) < mL) (q : aw g mL S k n (aw_set lv (j : Nat) (.null)) st (pc + 1)) : aw g mL S k n lv (.null :: st) pc := by
  obtain ⟨p, l, e, R, s, m, args, below, meth, c, D, cy, A, Q⟩ := g
  obtain ⟨hx, hb, hml, hr, hown, hnm, hts, hlk, hK, hA, hE, hfr, hlo, hce, hsl⟩ := K
  exact fun H locs ls hP hD hS hl => lv_astore_nN hx hb dg rfl hl hn rfl (fun ls hl => q H locs ls hP hD hS hl)
theorem a_astoreN {g : aw_G} {y : MethodName} {cc : ByteArray} {mL : Nat} {ret : Option FieldType} {d mc ms : Nat} (K : aw_K g y cc mL ret d mc ms) {S : aw_S} {k n : Nat} {lv : List (Nat × Value)} {st : List Value} {pc : Nat} {i : Nat} (dg : decode cc pc = .ok (.astore i, 2)) (hn : i < mL) (q : aw g mL S k n (aw_set lv i (.null)) st (pc + 2)) : aw g mL S k n lv (.null :: st) pc := by
  obtain ⟨p, l, e, R, s, m, args, below, meth, c, D, cy, A, Q⟩ := g
  obtain ⟨hx, hb, hml, hr, hown, hnm, hts, hlk, hK, hA, hE, hfr, hlo, hce, hsl⟩ := K
  exact fun H locs ls hP hD hS hl => lv_astoreN hx hb dg hl hn rfl (fun ls hl => q H locs ls hP hD hS hl)
theorem a_lstore_n {g : aw_G} {y : MethodName} {cc : ByteArray} {mL : Nat} {ret : Option FieldType} {d mc ms : Nat} (K : aw_K g y cc mL ret d mc ms) {S : aw_S} {k n : Nat} {lv : List (Nat × Value)} {st : List Value} {pc : Nat} {j : Fin 4} {x : Int64} (dg : decode cc pc = .ok (.lstore_n j, 1)) (hn : (j : Nat) + 1 < mL) (q : aw g mL S k n (aw_setL lv (j : Nat) (.long x)) st (pc + 1)) : aw g mL S k n lv (.long x :: st) pc := by
  obtain ⟨p, l, e, R, s, m, args, below, meth, c, D, cy, A, Q⟩ := g
  obtain ⟨hx, hb, hml, hr, hown, hnm, hts, hlk, hK, hA, hE, hfr, hlo, hce, hsl⟩ := K
  exact fun H locs ls hP hD hS hl => lv_lstore_n hx hb dg rfl hl hn rfl (fun ls hl => q H locs ls hP hD hS hl)
theorem a_lstore {g : aw_G} {y : MethodName} {cc : ByteArray} {mL : Nat} {ret : Option FieldType} {d mc ms : Nat} (K : aw_K g y cc mL ret d mc ms) {S : aw_S} {k n : Nat} {lv : List (Nat × Value)} {st : List Value} {pc : Nat} {i : Nat} {x : Int64} (dg : decode cc pc = .ok (.lstore i, 2)) (hn : i + 1 < mL) (q : aw g mL S k n (aw_setL lv i (.long x)) st (pc + 2)) : aw g mL S k n lv (.long x :: st) pc := by
  obtain ⟨p, l, e, R, s, m, args, below, meth, c, D, cy, A, Q⟩ := g
  obtain ⟨hx, hb, hml, hr, hown, hnm, hts, hlk, hK, hA, hE, hfr, hlo, hce, hsl⟩ := K
  exact fun H locs ls hP hD hS hl => lv_lstore hx hb dg hl hn rfl (fun ls hl => q H locs ls hP hD hS hl)
theorem a_iinc {g : aw_G} {y : MethodName} {cc : ByteArray} {mL : Nat} {ret : Option FieldType} {d mc ms : Nat} (K : aw_K g y cc mL ret d mc ms) {S : aw_S} {k n : Nat} {lv : List (Nat × Value)} {st : List Value} {pc : Nat} {i : Nat} {z : Int} {x v : Int32} (dg : decode cc pc = .ok (.iinc i z, 3)) (hv : lv.lookup i = some (.int x)) (hz : Int32.ofInt z = v) (hn : i < mL) (q : aw g mL S k n (aw_set lv i (.int (x + v))) st (pc + 3)) : aw g mL S k n lv st pc := by
  obtain ⟨p, l, e, R, s, m, args, below, meth, c, D, cy, A, Q⟩ := g
  obtain ⟨hx, hb, hml, hr, hown, hnm, hts, hlk, hK, hA, hE, hfr, hlo, hce, hsl⟩ := K
  subst hz
  obtain ⟨kk, hkk⟩ := List.getElem?_of_mem (aw_lkm hv)
  exact fun H locs ls hP hD hS hl => lv_iinc hx hb dg hl hkk rfl hn rfl (fun ls hl => q H locs ls hP hD hS hl)
/-- fewer locals -/
theorem aw_locs {g : aw_G} {mL : Nat} {S : aw_S} {k n : Nat} {lv lv2 : List (Nat × Value)} {st : List Value} {pc : Nat} (h : ∀ q ∈ lv2, q ∈ lv) (q : aw g mL S k n lv2 st pc) : aw g mL S k n lv st pc := by
  obtain ⟨p, l, e, R, s, m, args, below, meth, c, D, cy, A, Q⟩ := g
  exact fun H locs ls hP hD hS hl => q H locs ls hP hD hS ⟨hl.1, hl.2.1, fun z hz => hl.2.2 z (h z hz)⟩
theorem aw_wid {g : aw_G} {mL : Nat} {S : aw_S} {k n k2 n2 : Nat} {lv : List (Nat × Value)} {st : List Value} {pc : Nat} (h1 : k ≤ k2) (h2 : n ≤ n2) (q : aw g mL S k2 n2 lv st pc) : aw g mL S k n lv st pc := by
  obtain ⟨p, l, e, R, s, m, args, below, meth, c, D, cy, A, Q⟩ := g
  exact fun H locs ls hP hD hS hl => W.widen h1 h2 (q H locs ls hP hD hS hl)
theorem a_if_eq {g : aw_G} {y : MethodName} {cc : ByteArray} {mL : Nat} {ret : Option FieldType} {d mc ms : Nat} (K : aw_K g y cc mL ret d mc ms) {S : aw_S} {k n : Nat} {lv : List (Nat × Value)} {st : List Value} {pc : Nat} {x : Int32} {off : Int} {tgt : Nat} (dg : decode cc pc = .ok (.ifCond .eq off, 3)) (ht : (pc : Int) + off = (tgt : Int)) (q1 : x = 0 → aw g mL S k n lv st tgt) (q2 : ¬ x = 0 → aw g mL S k n lv st (pc + 3)) : aw g mL S k n lv (.int x :: st) pc := by
  obtain ⟨p, l, e, R, s, m, args, below, meth, c, D, cy, A, Q⟩ := g
  obtain ⟨hx, hb, hml, hr, hown, hnm, hts, hlk, hK, hA, hE, hfr, hlo, hce, hsl⟩ := K
  exact fun H locs ls hP hD hS hl => lv_if_eq hx hb dg ht (fun h => q1 h H locs ls hP hD hS hl) (fun h => q2 h H locs ls hP hD hS hl)
theorem a_if_ne {g : aw_G} {y : MethodName} {cc : ByteArray} {mL : Nat} {ret : Option FieldType} {d mc ms : Nat} (K : aw_K g y cc mL ret d mc ms) {S : aw_S} {k n : Nat} {lv : List (Nat × Value)} {st : List Value} {pc : Nat} {x : Int32} {off : Int} {tgt : Nat} (dg : decode cc pc = .ok (.ifCond .ne off, 3)) (ht : (pc : Int) + off = (tgt : Int)) (q1 : ¬ x = 0 → aw g mL S k n lv st tgt) (q2 : x = 0 → aw g mL S k n lv st (pc + 3)) : aw g mL S k n lv (.int x :: st) pc := by
  obtain ⟨p, l, e, R, s, m, args, below, meth, c, D, cy, A, Q⟩ := g
  obtain ⟨hx, hb, hml, hr, hown, hnm, hts, hlk, hK, hA, hE, hfr, hlo, hce, hsl⟩ := K
  exact fun H locs ls hP hD hS hl => lv_if_ne hx hb dg ht (fun h => q1 h H locs ls hP hD hS hl) (fun h => q2 h H locs ls hP hD hS hl)
theorem a_if_lt {g : aw_G} {y : MethodName} {cc : ByteArray} {mL : Nat} {ret : Option FieldType} {d mc ms : Nat} (K : aw_K g y cc mL ret d mc ms) {S : aw_S} {k n : Nat} {lv : List (Nat × Value)} {st : List Value} {pc : Nat} {x : Int32} {off : Int} {tgt : Nat} (dg : decode cc pc = .ok (.ifCond .lt off, 3)) (ht : (pc : Int) + off = (tgt : Int)) (q1 : x < 0 → aw g mL S k n lv st tgt) (q2 : ¬ x < 0 → aw g mL S k n lv st (pc + 3)) : aw g mL S k n lv (.int x :: st) pc := by
  obtain ⟨p, l, e, R, s, m, args, below, meth, c, D, cy, A, Q⟩ := g
  obtain ⟨hx, hb, hml, hr, hown, hnm, hts, hlk, hK, hA, hE, hfr, hlo, hce, hsl⟩ := K
  exact fun H locs ls hP hD hS hl => lv_if_lt hx hb dg ht (fun h => q1 h H locs ls hP hD hS hl) (fun h => q2 h H locs ls hP hD hS hl)
theorem a_if_ge {g : aw_G} {y : MethodName} {cc : ByteArray} {mL : Nat} {ret : Option FieldType} {d mc ms : Nat} (K : aw_K g y cc mL ret d mc ms) {S : aw_S} {k n : Nat} {lv : List (Nat × Value)} {st : List Value} {pc : Nat} {x : Int32} {off : Int} {tgt : Nat} (dg : decode cc pc = .ok (.ifCond .ge off, 3)) (ht : (pc : Int) + off = (tgt : Int)) (q1 : 0 ≤ x → aw g mL S k n lv st tgt) (q2 : ¬ 0 ≤ x → aw g mL S k n lv st (pc + 3)) : aw g mL S k n lv (.int x :: st) pc := by
  obtain ⟨p, l, e, R, s, m, args, below, meth, c, D, cy, A, Q⟩ := g
  obtain ⟨hx, hb, hml, hr, hown, hnm, hts, hlk, hK, hA, hE, hfr, hlo, hce, hsl⟩ := K
  exact fun H locs ls hP hD hS hl => lv_if_ge hx hb dg ht (fun h => q1 h H locs ls hP hD hS hl) (fun h => q2 h H locs ls hP hD hS hl)
theorem a_if_gt {g : aw_G} {y : MethodName} {cc : ByteArray} {mL : Nat} {ret : Option FieldType} {d mc ms : Nat} (K : aw_K g y cc mL ret d mc ms) {S : aw_S} {k n : Nat} {lv : List (Nat × Value)} {st : List Value} {pc : Nat} {x : Int32} {off : Int} {tgt : Nat} (dg : decode cc pc = .ok (.ifCond .gt off, 3)) (ht : (pc : Int) + off = (tgt : Int)) (q1 : 0 < x → aw g mL S k n lv st tgt) (q2 : ¬ 0 < x → aw g mL S k n lv st (pc + 3)) : aw g mL S k n lv (.int x :: st) pc := by
  obtain ⟨p, l, e, R, s, m, args, below, meth, c, D, cy, A, Q⟩ := g
  obtain ⟨hx, hb, hml, hr, hown, hnm, hts, hlk, hK, hA, hE, hfr, hlo, hce, hsl⟩ := K
  exact fun H locs ls hP hD hS hl => lv_if_gt hx hb dg ht (fun h => q1 h H locs ls hP hD hS hl) (fun h => q2 h H locs ls hP hD hS hl)
theorem a_if_le {g : aw_G} {y : MethodName} {cc : ByteArray} {mL : Nat} {ret : Option FieldType} {d mc ms : Nat} (K : aw_K g y cc mL ret d mc ms) {S : aw_S} {k n : Nat} {lv : List (Nat × Value)} {st : List Value} {pc : Nat} {x : Int32} {off : Int} {tgt : Nat} (dg : decode cc pc = .ok (.ifCond .le off, 3)) (ht : (pc : Int) + off = (tgt : Int)) (q1 : x ≤ 0 → aw g mL S k n lv st tgt) (q2 : ¬ x ≤ 0 → aw g mL S k n lv st (pc + 3)) : aw g mL S k n lv (.int x :: st) pc := by
  obtain ⟨p, l, e, R, s, m, args, below, meth, c, D, cy, A, Q⟩ := g
  obtain ⟨hx, hb, hml, hr, hown, hnm, hts, hlk, hK, hA, hE, hfr, hlo, hce, hsl⟩ := K
  exact fun H locs ls hP hD hS hl => lv_if_le hx hb dg ht (fun h => q1 h H locs ls hP hD hS hl) (fun h => q2 h H locs ls hP hD hS hl)
theorem a_icmp_eq {g : aw_G} {y : MethodName} {cc : ByteArray} {mL : Nat} {ret : Option FieldType} {d mc ms : Nat} (K : aw_K g y cc mL ret d mc ms) {S : aw_S} {k n : Nat} {lv : List (Nat × Value)} {st : List Value} {pc : Nat} {x z : Int32} {off : Int} {tgt : Nat} (dg : decode cc pc = .ok (.if_icmp .eq off, 3)) (ht : (pc : Int) + off = (tgt : Int)) (q1 : x = z → aw g mL S k n lv st tgt) (q2 : ¬ x = z → aw g mL S k n lv st (pc + 3)) : aw g mL S k n lv (.int z :: .int x :: st) pc := by
  obtain ⟨p, l, e, R, s, m, args, below, meth, c, D, cy, A, Q⟩ := g
  obtain ⟨hx, hb, hml, hr, hown, hnm, hts, hlk, hK, hA, hE, hfr, hlo, hce, hsl⟩ := K
  exact fun H locs ls hP hD hS hl => lv_icmp_eq hx hb dg ht (fun h => q1 h H locs ls hP hD hS hl) (fun h => q2 h H locs ls hP hD hS hl)
theorem a_icmp_ne {g : aw_G} {y : MethodName} {cc : ByteArray} {mL : Nat} {ret : Option FieldType} {d mc ms : Nat} (K : aw_K g y cc mL ret d mc ms) {S : aw_S} {k n : Nat} {lv : List (Nat × Value)} {st : List Value} {pc : Nat} {x z : Int32} {off : Int} {tgt : Nat} (dg : decode cc pc = .ok (.if_icmp .ne off, 3)) (ht : (pc : Int) + off = (tgt : Int)) (q1 : ¬ x = z → aw g mL S k n lv st tgt) (q2 : x = z → aw g mL S k n lv st (pc + 3)) : aw g mL S k n lv (.int z :: .int x :: st) pc := by
  obtain ⟨p, l, e, R, s, m, args, below, meth, c, D, cy, A, Q⟩ := g
  obtain ⟨hx, hb, hml, hr, hown, hnm, hts, hlk, hK, hA, hE, hfr, hlo, hce, hsl⟩ := K
  exact fun H locs ls hP hD hS hl => lv_icmp_ne hx hb dg ht (fun h => q1 h H locs ls hP hD hS hl) (fun h => q2 h H locs ls hP hD hS hl)
theorem a_icmp_lt {g : aw_G} {y : MethodName} {cc : ByteArray} {mL : Nat} {ret : Option FieldType} {d mc ms : Nat} (K : aw_K g y cc mL ret d mc ms) {S : aw_S} {k n : Nat} {lv : List (Nat × Value)} {st : List Value} {pc : Nat} {x z : Int32} {off : Int} {tgt : Nat} (dg : decode cc pc = .ok (.if_icmp .lt off, 3)) (ht : (pc : Int) + off = (tgt : Int)) (q1 : x < z → aw g mL S k n lv st tgt) (q2 : ¬ x < z → aw g mL S k n lv st (pc + 3)) : aw g mL S k n lv (.int z :: .int x :: st) pc := by
  obtain ⟨p, l, e, R, s, m, args, below, meth, c, D, cy, A, Q⟩ := g
  obtain ⟨hx, hb, hml, hr, hown, hnm, hts, hlk, hK, hA, hE, hfr, hlo, hce, hsl⟩ := K
  exact fun H locs ls hP hD hS hl => lv_icmp_lt hx hb dg ht (fun h => q1 h H locs ls hP hD hS hl) (fun h => q2 h H locs ls hP hD hS hl)
theorem a_icmp_ge {g : aw_G} {y : MethodName} {cc : ByteArray} {mL : Nat} {ret : Option FieldType} {d mc ms : Nat} (K : aw_K g y cc mL ret d mc ms) {S : aw_S} {k n : Nat} {lv : List (Nat × Value)} {st : List Value} {pc : Nat} {x z : Int32} {off : Int} {tgt : Nat} (dg : decode cc pc = .ok (.if_icmp .ge off, 3)) (ht : (pc : Int) + off = (tgt : Int)) (q1 : z ≤ x → aw g mL S k n lv st tgt) (q2 : ¬ z ≤ x → aw g mL S k n lv st (pc + 3)) : aw g mL S k n lv (.int z :: .int x :: st) pc := by
  obtain ⟨p, l, e, R, s, m, args, below, meth, c, D, cy, A, Q⟩ := g
  obtain ⟨hx, hb, hml, hr, hown, hnm, hts, hlk, hK, hA, hE, hfr, hlo, hce, hsl⟩ := K
  exact fun H locs ls hP hD hS hl => lv_icmp_ge hx hb dg ht (fun h => q1 h H locs ls hP hD hS hl) (fun h => q2 h H locs ls hP hD hS hl)
theorem a_icmp_gt {g : aw_G} {y : MethodName} {cc : ByteArray} {mL : Nat} {ret : Option FieldType} {d mc ms : Nat} (K : aw_K g y cc mL ret d mc ms) {S : aw_S} {k n : Nat} {lv : List (Nat × Value)} {st : List Value} {pc : Nat} {x z : Int32} {off : Int} {tgt : Nat} (dg : decode cc pc = .ok (.if_icmp .gt off, 3)) (ht : (pc : Int) + off = (tgt : Int)) (q1 : z < x → aw g mL S k n lv st tgt) (q2 : ¬ z < x → aw g mL S k n lv st (pc + 3)) : aw g mL S k n lv (.int z :: .int x :: st) pc := by
  obtain ⟨p, l, e, R, s, m, args, below, meth, c, D, cy, A, Q⟩ := g
  obtain ⟨hx, hb, hml, hr, hown, hnm, hts, hlk, hK, hA, hE, hfr, hlo, hce, hsl⟩ := K
  exact fun H locs ls hP hD hS hl => lv_icmp_gt hx hb dg ht (fun h => q1 h H locs ls hP hD hS hl) (fun h => q2 h H locs ls hP hD hS hl)
theorem a_icmp_le {g : aw_G} {y : MethodName} {cc : ByteArray} {mL : Nat} {ret : Option FieldType} {d mc ms : Nat} (K : aw_K g y cc mL ret d mc ms) {S : aw_S} {k n : Nat} {lv : List (Nat × Value)} {st : List Value} {pc : Nat} {x z : Int32} {off : Int} {tgt : Nat} (dg : decode cc pc = .ok (.if_icmp .le off, 3)) (ht : (pc : Int) + off = (tgt : Int)) (q1 : x ≤ z → aw g mL S k n lv st tgt) (q2 : ¬ x ≤ z → aw g mL S k n lv st (pc + 3)) : aw g mL S k n lv (.int z :: .int x :: st) pc := by
  obtain ⟨p, l, e, R, s, m, args, below, meth, c, D, cy, A, Q⟩ := g
  obtain ⟨hx, hb, hml, hr, hown, hnm, hts, hlk, hK, hA, hE, hfr, hlo, hce, hsl⟩ := K
  exact fun H locs ls hP hD hS hl => lv_icmp_le hx hb dg ht (fun h => q1 h H locs ls hP hD hS hl) (fun h => q2 h H locs ls hP hD hS hl)
theorem a_goto {g : aw_G} {y : MethodName} {cc : ByteArray} {mL : Nat} {ret : Option FieldType} {d mc ms : Nat} (K : aw_K g y cc mL ret d mc ms) {S : aw_S} {k n : Nat} {lv : List (Nat × Value)} {st : List Value} {pc : Nat} {off : Int} {tgt : Nat} (dg : decode cc pc = .ok (.goto off, 3)) (ht : (pc : Int) + off = (tgt : Int)) (q : aw g mL S k n lv st tgt) : aw g mL S k n lv st pc := by
  obtain ⟨p, l, e, R, s, m, args, below, meth, c, D, cy, A, Q⟩ := g
  obtain ⟨hx, hb, hml, hr, hown, hnm, hts, hlk, hK, hA, hE, hfr, hlo, hce, hsl⟩ := K
  exact fun H locs ls hP hD hS hl => lv_goto hx hb dg ht (q H locs ls hP hD hS hl)
theorem a_ifnull {g : aw_G} {y : MethodName} {cc : ByteArray} {mL : Nat} {ret : Option FieldType} {d mc ms : Nat} (K : aw_K g y cc mL ret d mc ms) {S : aw_S} {k n : Nat} {lv : List (Nat × Value)} {st : List Value} {pc : Nat} {x : Nat} {off : Int} (dg : decode cc pc = .ok (.ifnull off, 3)) (q : aw g mL S k n lv st (pc + 3)) : aw g mL S k n lv (.ref x :: st) pc := by
  obtain ⟨p, l, e, R, s, m, args, below, meth, c, D, cy, A, Q⟩ := g
  obtain ⟨hx, hb, hml, hr, hown, hnm, hts, hlk, hK, hA, hE, hfr, hlo, hce, hsl⟩ := K
  exact fun H locs ls hP hD hS hl => lv_ifnull hx hb dg (q H locs ls hP hD hS hl)
theorem a_ifnullN {g : aw_G} {y : MethodName} {cc : ByteArray} {mL : Nat} {ret : Option FieldType} {d mc ms : Nat} (K : aw_K g y cc mL ret d mc ms) {S : aw_S} {k n : Nat} {lv : List (Nat × Value)} {st : List Value} {pc : Nat} {off : Int} {tgt : Nat} (dg : decode cc pc = .ok (.ifnull off, 3)) (ht : (pc : Int) + off = (tgt : Int)) (q : aw g mL S k n lv st tgt) : aw g mL S k n lv (.null :: st) pc := by
  obtain ⟨p, l, e, R, s, m, args, below, meth, c, D, cy, A, Q⟩ := g
  obtain ⟨hx, hb, hml, hr, hown, hnm, hts, hlk, hK, hA, hE, hfr, hlo, hce, hsl⟩ := K
  exact fun H locs ls hP hD hS hl => lv_ifnullN hx hb dg ht (q H locs ls hP hD hS hl)
theorem a_ifnonnull {g : aw_G} {y : MethodName} {cc : ByteArray} {mL : Nat} {ret : Option FieldType} {d mc ms : Nat} (K : aw_K g y cc mL ret d mc ms) {S : aw_S} {k n : Nat} {lv : List (Nat × Value)} {st : List Value} {pc : Nat} {x : Nat} {off : Int} {tgt : Nat} (dg : decode cc pc = .ok (.ifnonnull off, 3)) (ht : (pc : Int) + off = (tgt : Int)) (q : aw g mL S k n lv st tgt) : aw g mL S k n lv (.ref x :: st) pc := by
  obtain ⟨p, l, e, R, s, m, args, below, meth, c, D, cy, A, Q⟩ := g
  obtain ⟨hx, hb, hml, hr, hown, hnm, hts, hlk, hK, hA, hE, hfr, hlo, hce, hsl⟩ := K
  exact fun H locs ls hP hD hS hl => lv_ifnonnull hx hb dg ht (q H locs ls hP hD hS hl)
theorem a_ifnonnullN {g : aw_G} {y : MethodName} {cc : ByteArray} {mL : Nat} {ret : Option FieldType} {d mc ms : Nat} (K : aw_K g y cc mL ret d mc ms) {S : aw_S} {k n : Nat} {lv : List (Nat × Value)} {st : List Value} {pc : Nat} {off : Int} (dg : decode cc pc = .ok (.ifnonnull off, 3)) (q : aw g mL S k n lv st (pc + 3)) : aw g mL S k n lv (.null :: st) pc := by
  obtain ⟨p, l, e, R, s, m, args, below, meth, c, D, cy, A, Q⟩ := g
  obtain ⟨hx, hb, hml, hr, hown, hnm, hts, hlk, hK, hA, hE, hfr, hlo, hce, hsl⟩ := K
  exact fun H locs ls hP hD hS hl => lv_ifnonnullN hx hb dg (q H locs ls hP hD hS hl)
theorem a_acmp_eq {g : aw_G} {y : MethodName} {cc : ByteArray} {mL : Nat} {ret : Option FieldType} {d mc ms : Nat} (K : aw_K g y cc mL ret d mc ms) {S : aw_S} {k n : Nat} {lv : List (Nat × Value)} {st : List Value} {pc : Nat} {rx rz : Option Nat} {v1 v2 : Value} {off : Int} {tgt : Nat} (dg : decode cc pc = .ok (.if_acmp .eq off, 3)) (ht : (pc : Int) + off = (tgt : Int)) (h1 : v1 = va_rf rx) (h2 : v2 = va_rf rz) (q1 : rx = rz → aw g mL S k n lv st tgt) (q2 : ¬ rx = rz → aw g mL S k n lv st (pc + 3)) : aw g mL S k n lv (v2 :: v1 :: st) pc := by
  obtain ⟨p, l, e, R, s, m, args, below, meth, c, D, cy, A, Q⟩ := g
  obtain ⟨hx, hb, hml, hr, hown, hnm, hts, hlk, hK, hA, hE, hfr, hlo, hce, hsl⟩ := K
  exact fun H locs ls hP hD hS hl => by subst h1; subst h2; exact lv_acmp_eq hx hb dg ht (fun h => q1 h H locs ls hP hD hS hl) (fun h => q2 h H locs ls hP hD hS hl)
theorem a_acmp_ne {g : aw_G} {y : MethodName} {cc : ByteArray} {mL : Nat} {ret : Option FieldType} {d mc ms : Nat} (K : aw_K g y cc mL ret d mc ms) {S : aw_S} {k n : Nat} {lv : List (Nat × Value)} {st : List Value} {pc : Nat} {rx rz : Option Nat} {v1 v2 : Value} {off : Int} {tgt : Nat} (dg : decode cc pc = .ok (.if_acmp .ne off, 3)) (ht : (pc : Int) + off = (tgt : Int)) (h1 : v1 = va_rf rx) (h2 : v2 = va_rf rz) (q1 : ¬ rx = rz → aw g mL S k n lv st tgt) (q2 : rx = rz → aw g mL S k n lv st (pc + 3)) : aw g mL S k n lv (v2 :: v1 :: st) pc := by
  obtain ⟨p, l, e, R, s, m, args, below, meth, c, D, cy, A, Q⟩ := g
  obtain ⟨hx, hb, hml, hr, hown, hnm, hts, hlk, hK, hA, hE, hfr, hlo, hce, hsl⟩ := K
  exact fun H locs ls hP hD hS hl => by subst h1; subst h2; exact lv_acmp_ne hx hb dg ht (fun h => q1 h H locs ls hP hD hS hl) (fun h => q2 h H locs ls hP hD hS hl)
theorem a_tsOut {g : aw_G} {y : MethodName} {cc : ByteArray} {mL : Nat} {ret : Option FieldType} {d mc ms : Nat} (K : aw_K g y cc mL ret d mc ms) {S : aw_S} {k n : Nat} {lv : List (Nat × Value)} {st : List Value} {pc : Nat} {dflt lo hi : Int} {offs : Array Int} {len : Nat} {x : Int32} {tgt : Nat} (dg : decode cc pc = .ok (.tableswitch dflt lo hi offs, len)) (h : x.toInt < lo ∨ hi < x.toInt) (ht : (pc : Int) + dflt = (tgt : Int)) (q : aw g mL S k n lv st tgt) : aw g mL S k n lv (.int x :: st) pc := by
  obtain ⟨p, l, e, R, s, m, args, below, meth, c, D, cy, A, Q⟩ := g
  obtain ⟨hx, hb, hml, hr, hown, hnm, hts, hlk, hK, hA, hE, hfr, hlo, hce, hsl⟩ := K
  exact fun H locs ls hP hD hS hl => lv_tableOut hx hb dg h ht (q H locs ls hP hD hS hl)
theorem a_tsIn {g : aw_G} {y : MethodName} {cc : ByteArray} {mL : Nat} {ret : Option FieldType} {d mc ms : Nat} (K : aw_K g y cc mL ret d mc ms) {S : aw_S} {k n : Nat} {lv : List (Nat × Value)} {st : List Value} {pc : Nat} {dflt lo hi : Int} {offs : Array Int} {len : Nat} {x : Int32} {off : Int} {tgt : Nat} (dg : decode cc pc = .ok (.tableswitch dflt lo hi offs, len)) (h1 : ¬ x.toInt < lo) (h2 : ¬ hi < x.toInt) (ho : offs[(x.toInt - lo).toNat]? = some off) (ht : (pc : Int) + off = (tgt : Int)) (q : aw g mL S k n lv st tgt) : aw g mL S k n lv (.int x :: st) pc := by
  obtain ⟨p, l, e, R, s, m, args, below, meth, c, D, cy, A, Q⟩ := g
  obtain ⟨hx, hb, hml, hr, hown, hnm, hts, hlk, hK, hA, hE, hfr, hlo, hce, hsl⟩ := K
  exact fun H locs ls hP hD hS hl => lv_tableIn hx hb dg h1 h2 ho ht (q H locs ls hP hD hS hl)
theorem aw_at {cy : Nat → ClassId} {S : aw_S} {a ci : Nat} (h : aw_is S a ci) (hc : ci < 12) : ∃ k : Nat, (aw_W cy S)[k]? = some (a, aw_F cy S a) ∧ (aw_W cy S)[k]? = some (a, .inr (ci, aw_fs S ci a)) := by
  obtain ⟨k, hk⟩ := va_pl_get (X := []) (f := aw_F cy S) h.1
  have hk : (aw_W cy S)[k]? = some (a, aw_F cy S a) := hk
  refine ⟨k, hk, hk.trans ?_⟩
  unfold aw_F
  rw [h.2, if_pos hc]
theorem aw_atR {cy : Nat → ClassId} {S : aw_S} {a kd : Nat} (h : aw_is S a kd) (hc : 12 ≤ kd) : ∃ k : Nat, (aw_W cy S)[k]? = some (a, aw_F cy S a) ∧ (aw_W cy S)[k]? = some (a, .inl (cy kd, aw_ro S kd a)) := by
  obtain ⟨k, hk⟩ := va_pl_get (X := []) (f := aw_F cy S) h.1
  have hk : (aw_W cy S)[k]? = some (a, aw_F cy S a) := hk
  refine ⟨k, hk, hk.trans ?_⟩
  unfold aw_F
  rw [h.2, if_neg (Nat.not_lt.mpr hc)]
theorem aw_fsAt {S : aw_S} {ci j N a F : Nat} {ty : FieldType} (hN : aw_N ci = N) (hj : j < N) (hty : aw_ty ci j = ty) (hF : 64 * ci + j = F) : (aw_fs S ci a)[j]? = some (aw_fv S ty F a) := by
  subst hN; subst hty; subst hF
  simp [aw_fs, hj]
theorem aw_wset {A : Nat → Prop} {cy : Nat → ClassId} {S S2 : aw_S} {a k : Nat} {e : va_E} (hD : va_D A (aw_W cy S)) (h : a ∈ sL S) (hk : (aw_W cy S)[k]? = some (a, aw_F cy S a)) (hL : sL S2 = sL S) (hF : ∀ b, va_up (aw_F cy S) a e b = aw_F cy S2 b) : (aw_W cy S).set k (a, e) = aw_W cy S2 := by
  have h1 := va_pl_set (X := []) (e := e) hD h hk
  have h1 : (aw_W cy S).set k (a, e) = va_pl (sL S) (va_up (aw_F cy S) a e) := h1
  rw [h1, va_pl_congr hF]
  show _ = va_pl (sL S2) _
  rw [hL]
theorem aw_wpush {cy : Nat → ClassId} {S S2 : aw_S} {a : Nat} {e : va_E} (h : a ∉ sL S) (hL : sL S2 = sL S ++ [a]) (hF : ∀ b, va_up (aw_F cy S) a e b = aw_F cy S2 b) : aw_W cy S ++ [(a, e)] = aw_W cy S2 := by
  have h1 := va_pl_push (f := aw_F cy S) (e := e) h
  have h1 : aw_W cy S ++ [(a, e)] = va_pl (sL S ++ [a]) (va_up (aw_F cy S) a e) := h1
  rw [h1, va_pl_congr hF]
  show _ = va_pl (sL S2) _
  rw [hL]
theorem aw_fresh {D : va_G} {cl : List vw_C} {cy : Nat → ClassId} {S : aw_S} {A : Nat → Prop} {q : Nat} {e : va_E} (hD : va_D A (aw_W cy S ++ [(q, e)])) : q ∉ sL S := va_pl_fresh2 (X := []) hD
theorem aw_fv_same {S S2 : aw_S} {ty : FieldType} {F b : Nat} (h1 : sI S2 F b = sI S F b) (h2 : sR S2 F b = sR S F b) (h3 : sJ S2 F b = sJ S F b) : aw_fv S2 ty F b = aw_fv S ty F b := by
  unfold aw_fv
  rw [h1, h2, h3]
theorem aw_fs_same {S S2 : aw_S} {ci b : Nat} (h : ∀ j, sI S2 (64 * ci + j) b = sI S (64 * ci + j) b ∧ sR S2 (64 * ci + j) b = sR S (64 * ci + j) b ∧ sJ S2 (64 * ci + j) b = sJ S (64 * ci + j) b) : aw_fs S2 ci b = aw_fs S ci b := List.map_congr_left (fun j _ => aw_fv_same (h j).1 (h j).2.1 (h j).2.2)
theorem aw_up2 {α : Type} (f : Nat → Nat → α) (F a : Nat) (v : α) (G b : Nat) : va_up f F (va_up (f F) a v) G b = if G = F ∧ b = a then v else f G b := by
  unfold va_up
  by_cases h : G = F
  · subst h
    by_cases h2 : b = a <;> simp [h2]
  · simp [h]
theorem sI_wI (S : aw_S) (F a : Nat) (v : Int32) (G b : Nat) : sI (wI S F a v) G b = if G = F ∧ b = a then v else sI S G b := aw_up2 _ _ _ _ _ _
theorem sR_wR (S : aw_S) (F a : Nat) (v : Option Nat) (G b : Nat) : sR (wR S F a v) G b = if G = F ∧ b = a then v else sR S G b := aw_up2 _ _ _ _ _ _
theorem sJ_wJ (S : aw_S) (F a : Nat) (v : Int64) (G b : Nat) : sJ (wJ S F a v) G b = if G = F ∧ b = a then v else sJ S G b := aw_up2 _ _ _ _ _ _
/-- a list's place k set, as the fields' list has it -/
theorem aw_fsSet {S S2 : aw_S} {ci j N a F : Nat} {ty : FieldType} {v : Value} (hN : aw_N ci = N) (hj : j < N) (hty : aw_ty ci j = ty) (hF : 64 * ci + j = F) (h1 : aw_fv S2 ty F a = v) (h2 : ∀ i, ¬ i = j → aw_fv S2 (aw_ty ci i) (64 * ci + i) a = aw_fv S (aw_ty ci i) (64 * ci + i) a) : (aw_fs S ci a).set j v = aw_fs S2 ci a := by
  subst hN; subst hty; subst hF; subst h1
  apply List.ext_getElem?
  intro i
  by_cases hij : j = i
  · subst hij
    rw [List.getElem?_set_self (by simpa [aw_fs] using hj)]
    simp [aw_fs, hj]
  · rw [List.getElem?_set_ne hij]
    by_cases hi : i < aw_N ci
    · simp [aw_fs, hi, h2 i (fun z => hij z.symm)]
    · simp [aw_fs, hi]
/-- a world behind a field's writing -/
theorem aw_Fput {cy : Nat → ClassId} {S S2 : aw_S} {ci j N a F : Nat} {ty : FieldType} {v : Value} (h : sK S a = ci) (hc : ci < 12) (hK2 : sK S2 = sK S) (hN : aw_N ci = N) (hj : j < N) (hty : aw_ty ci j = ty) (hF : 64 * ci + j = F) (h1 : aw_fv S2 ty F a = v) (hI : ∀ G b, ¬ (G = F ∧ b = a) → sI S2 G b = sI S G b ∧ sR S2 G b = sR S G b ∧ sJ S2 G b = sJ S G b) (hro : ∀ kd b, aw_ro S2 kd b = aw_ro S kd b) (b : Nat) : va_up (aw_F cy S) a (.inr (ci, (aw_fs S ci a).set j v)) b = aw_F cy S2 b := by
  by_cases hb : b = a
  · subst hb
    rw [va_up_self, aw_fsSet (S2 := S2) hN hj hty hF h1 (fun i hi => by
      obtain ⟨e1, e2, e3⟩ := hI (64 * ci + i) b (fun z => hi (by omega))
      exact aw_fv_same e1 e2 e3)]
    unfold aw_F
    rw [hK2, h, if_pos hc]
  · rw [va_up_ne _ _ hb]
    unfold aw_F
    rw [hK2]
    split
    · rw [aw_fs_same (S2 := S2) (S := S) (fun j => hI _ b (fun z => hb z.2))]
    · rw [hro]
/-- a world behind a row's writing -/
theorem aw_Frow {cy : Nat → ClassId} {S S2 : aw_S} {kd a : Nat} (h : sK S a = kd) (hc : 12 ≤ kd) (hK2 : sK S2 = sK S) (hI : sI S2 = sI S) (hR : sR S2 = sR S) (hJ : sJ S2 = sJ S) (hro : ∀ kd b, ¬ b = a → aw_ro S2 kd b = aw_ro S kd b) (b : Nat) : va_up (aw_F cy S) a (.inl (cy kd, aw_ro S2 kd a)) b = aw_F cy S2 b := by
  by_cases hb : b = a
  · subst hb
    rw [va_up_self]
    unfold aw_F
    rw [hK2, h, if_neg (Nat.not_lt.mpr hc)]
  · rw [va_up_ne _ _ hb]
    unfold aw_F
    rw [hK2]
    split
    · rw [aw_fs_same (S2 := S2) (S := S) (fun j => ⟨by rw [hI], by rw [hR], by rw [hJ]⟩)]
    · rw [hro _ _ hb]
theorem aw_ro_same {S S2 : aw_S} {kd b : Nat} (h1 : sN S2 b = sN S b) (h2 : sA S2 b = sA S b) (h3 : sQ S2 b = sQ S b) (h4 : sB S2 b = sB S b) : aw_ro S2 kd b = aw_ro S kd b := by
  unfold aw_ro
  rw [h1, h2, h3, h4]
theorem aw_narR {ty : FieldType} (h : (∃ C, ty = .object C) ∨ ∃ t, ty = .array t) (r : Option Nat) : narrow ty (va_rf r) = va_rf r ∧ fits ty (va_rf r) = true := by
  rcases h with ⟨C, rfl⟩ | ⟨t, rfl⟩ <;> cases r <;> exact ⟨rfl, rfl⟩
theorem a_getI {g : aw_G} {y : MethodName} {cc : ByteArray} {mL : Nat} {ret : Option FieldType} {d mc ms : Nat} (K : aw_K g y cc mL ret d mc ms) {S : aw_S} {k n : Nat} {lv : List (Nat × Value)} {st : List Value} {pc : Nat} {idx ci j F : Nat} {ty : FieldType} {fin : Bool} {a : Nat} (f : aw_FL y.cls idx ci j F ty fin) (o : aw_is S a ci) (ht : ty = .int ∨ ty = .boolean) (dg : decode cc pc = .ok (.getfield idx, 3)) (q : aw g mL S k n lv (.int (sI S F a) :: st) (pc + 3)) : aw g mL S k n lv (.ref a :: st) pc := by
  obtain ⟨p, l, e, R, s, m, args, below, meth, c, D, cy, A, Q⟩ := g
  obtain ⟨hx, hb, hml, hr, hown, hnm, hts, hlk, hK, hA, hE, hfr, hlo, hce, hsl⟩ := K
  obtain ⟨C, T, N, hc, hN, hci, hj, hty, hfin, hC, hw, hF⟩ := f
  intro H locs ls hP hD hS hl
  obtain ⟨q0, -, he⟩ := aw_at (cy := cy) o hci
  have hv : aw_fv S ty F a = .int (sI S F a) := by rcases ht with rfl | rfl <;> rfl
  exact va_get hx hb hts (aw_tab ci _ hc).1 hown hK hP q0 he hc j hj (hts _ hw) (fun _ h9 => h9) ((aw_fsAt hN hj hty hF).trans (congrArg some hv)) dg (q H locs ls hP hD hS hl)
theorem a_getR {g : aw_G} {y : MethodName} {cc : ByteArray} {mL : Nat} {ret : Option FieldType} {d mc ms : Nat} (K : aw_K g y cc mL ret d mc ms) {S : aw_S} {k n : Nat} {lv : List (Nat × Value)} {st : List Value} {pc : Nat} {idx ci j F : Nat} {ty : FieldType} {fin : Bool} {a : Nat} (f : aw_FL y.cls idx ci j F ty fin) (o : aw_is S a ci) (ht : (∃ C, ty = .object C) ∨ ∃ t, ty = .array t) (dg : decode cc pc = .ok (.getfield idx, 3)) (q : aw g mL S k n lv (va_rf (sR S F a) :: st) (pc + 3)) : aw g mL S k n lv (.ref a :: st) pc := by
  obtain ⟨p, l, e, R, s, m, args, below, meth, c, D, cy, A, Q⟩ := g
  obtain ⟨hx, hb, hml, hr, hown, hnm, hts, hlk, hK, hA, hE, hfr, hlo, hce, hsl⟩ := K
  obtain ⟨C, T, N, hc, hN, hci, hj, hty, hfin, hC, hw, hF⟩ := f
  intro H locs ls hP hD hS hl
  obtain ⟨q0, -, he⟩ := aw_at (cy := cy) o hci
  have hv : aw_fv S ty F a = va_rf (sR S F a) := by rcases ht with ⟨_, rfl⟩ | ⟨_, rfl⟩ <;> rfl
  exact va_get hx hb hts (aw_tab ci _ hc).1 hown hK hP q0 he hc j hj (hts _ hw) (fun _ h9 => h9) ((aw_fsAt hN hj hty hF).trans (congrArg some hv)) dg (q H locs ls hP hD hS hl)
theorem a_getRs {g : aw_G} {y : MethodName} {cc : ByteArray} {mL : Nat} {ret : Option FieldType} {d mc ms : Nat} (K : aw_K g y cc mL ret d mc ms) {S : aw_S} {k n : Nat} {lv : List (Nat × Value)} {st : List Value} {pc : Nat} {idx ci j F : Nat} {ty : FieldType} {fin : Bool} {a : Nat} (f : aw_FL y.cls idx ci j F ty fin) (o : aw_is S a ci) {b : Nat} (ht : (∃ C, ty = .object C) ∨ ∃ t, ty = .array t) (hb2 : sR S F a = some b) (dg : decode cc pc = .ok (.getfield idx, 3)) (q : aw g mL S k n lv (.ref b :: st) (pc + 3)) : aw g mL S k n lv (.ref a :: st) pc := by
  obtain ⟨p, l, e, R, s, m, args, below, meth, c, D, cy, A, Q⟩ := g
  obtain ⟨hx, hb, hml, hr, hown, hnm, hts, hlk, hK, hA, hE, hfr, hlo, hce, hsl⟩ := K
  obtain ⟨C, T, N, hc, hN, hci, hj, hty, hfin, hC, hw, hF⟩ := f
  intro H locs ls hP hD hS hl
  obtain ⟨q0, -, he⟩ := aw_at (cy := cy) o hci
  have hv : aw_fv S ty F a = .ref b := by rcases ht with ⟨_, rfl⟩ | ⟨_, rfl⟩ <;> simp [aw_fv, hb2, va_rf]
  exact va_get hx hb hts (aw_tab ci _ hc).1 hown hK hP q0 he hc j hj (hts _ hw) (fun _ h9 => h9) ((aw_fsAt hN hj hty hF).trans (congrArg some hv)) dg (q H locs ls hP hD hS hl)
theorem a_getRn {g : aw_G} {y : MethodName} {cc : ByteArray} {mL : Nat} {ret : Option FieldType} {d mc ms : Nat} (K : aw_K g y cc mL ret d mc ms) {S : aw_S} {k n : Nat} {lv : List (Nat × Value)} {st : List Value} {pc : Nat} {idx ci j F : Nat} {ty : FieldType} {fin : Bool} {a : Nat} (f : aw_FL y.cls idx ci j F ty fin) (o : aw_is S a ci) (ht : (∃ C, ty = .object C) ∨ ∃ t, ty = .array t) (hb2 : sR S F a = none) (dg : decode cc pc = .ok (.getfield idx, 3)) (q : aw g mL S k n lv (.null :: st) (pc + 3)) : aw g mL S k n lv (.ref a :: st) pc := by
  obtain ⟨p, l, e, R, s, m, args, below, meth, c, D, cy, A, Q⟩ := g
  obtain ⟨hx, hb, hml, hr, hown, hnm, hts, hlk, hK, hA, hE, hfr, hlo, hce, hsl⟩ := K
  obtain ⟨C, T, N, hc, hN, hci, hj, hty, hfin, hC, hw, hF⟩ := f
  intro H locs ls hP hD hS hl
  obtain ⟨q0, -, he⟩ := aw_at (cy := cy) o hci
  have hv : aw_fv S ty F a = .null := by rcases ht with ⟨_, rfl⟩ | ⟨_, rfl⟩ <;> simp [aw_fv, hb2, va_rf]
  exact va_get hx hb hts (aw_tab ci _ hc).1 hown hK hP q0 he hc j hj (hts _ hw) (fun _ h9 => h9) ((aw_fsAt hN hj hty hF).trans (congrArg some hv)) dg (q H locs ls hP hD hS hl)
theorem a_getJ {g : aw_G} {y : MethodName} {cc : ByteArray} {mL : Nat} {ret : Option FieldType} {d mc ms : Nat} (K : aw_K g y cc mL ret d mc ms) {S : aw_S} {k n : Nat} {lv : List (Nat × Value)} {st : List Value} {pc : Nat} {idx ci j F : Nat} {ty : FieldType} {fin : Bool} {a : Nat} (f : aw_FL y.cls idx ci j F ty fin) (o : aw_is S a ci) (ht : ty = .long) (dg : decode cc pc = .ok (.getfield idx, 3)) (q : aw g mL S k n lv (.long (sJ S F a) :: st) (pc + 3)) : aw g mL S k n lv (.ref a :: st) pc := by
  obtain ⟨p, l, e, R, s, m, args, below, meth, c, D, cy, A, Q⟩ := g
  obtain ⟨hx, hb, hml, hr, hown, hnm, hts, hlk, hK, hA, hE, hfr, hlo, hce, hsl⟩ := K
  obtain ⟨C, T, N, hc, hN, hci, hj, hty, hfin, hC, hw, hF⟩ := f
  intro H locs ls hP hD hS hl
  obtain ⟨q0, -, he⟩ := aw_at (cy := cy) o hci
  have hv : aw_fv S ty F a = .long (sJ S F a) := by subst ht; rfl
  exact va_get hx hb hts (aw_tab ci _ hc).1 hown hK hP q0 he hc j hj (hts _ hw) (fun _ h9 => h9) ((aw_fsAt hN hj hty hF).trans (congrArg some hv)) dg (q H locs ls hP hD hS hl)
theorem a_putI {g : aw_G} {y : MethodName} {cc : ByteArray} {mL : Nat} {ret : Option FieldType} {d mc ms : Nat} (K : aw_K g y cc mL ret d mc ms) {S : aw_S} {k n : Nat} {lv : List (Nat × Value)} {st : List Value} {pc : Nat} {idx ci j F : Nat} {ty : FieldType} {a : Nat} (f : aw_FL y.cls idx ci j F ty false) (o : aw_is S a ci) {v : Int32} (ht : ty = .int) (dg : decode cc pc = .ok (.putfield idx, 3)) (q : aw g mL (wI S F a v) k n lv st (pc + 3)) : aw g mL S k n lv (.int v :: .ref a :: st) pc := by
  obtain ⟨p, l, e, R, s, m, args, below, meth, c, D, cy, A, Q⟩ := g
  obtain ⟨hx, hb, hml, hr, hown, hnm, hts, hlk, hK, hA, hE, hfr, hlo, hce, hsl⟩ := K
  obtain ⟨C, T, N, hc, hN, hci, hj, hty, hfin, hC, hw, hF⟩ := f
  intro H locs ls hP hD hS hl
  obtain ⟨q0, h0, he⟩ := aw_at (cy := cy) o hci
  have hnf : narrow ty (.int v) = (.int v) ∧ fits ty (.int v) = true := by subst ht; exact ⟨rfl, rfl⟩
  have hfv : aw_fv (wI S F a v) ty F a = (.int v) := by subst ht; simp [aw_fv, sI_wI]
  have hset := aw_wset (S2 := wI S F a v) hD o.1 h0 rfl (aw_Fput (S2 := wI S F a v) o.2 hci rfl hN hj hty hF hfv (fun G b h => ⟨by rw [sI_wI, if_neg h], rfl, rfl⟩) (fun kd b => rfl))
  have hlen : j < (aw_fs S ci a).length := by simp [aw_fs, hN, hj]
  exact va_put hx hb hts (aw_tab ci _ hc).1 (aw_ty ci) (aw_tab ci _ hc).2.1 (aw_tab ci _ hc).2.2 hown hK hP hD hS q0 he hc j hj (hts _ hw) (fun _ h9 => h9) hfin (((aw_tab ci _ hc).2.1 j hj).trans (congrArg some hty)) hnf.1 hnf.2 hlen dg (fun H1 locs1 hP1 hD1 hS1 => q H1 locs1 ls (by rw [← hset]; exact hP1) (by rw [← hset]; exact hD1) hS1 hl)
theorem a_putZ {g : aw_G} {y : MethodName} {cc : ByteArray} {mL : Nat} {ret : Option FieldType} {d mc ms : Nat} (K : aw_K g y cc mL ret d mc ms) {S : aw_S} {k n : Nat} {lv : List (Nat × Value)} {st : List Value} {pc : Nat} {idx ci j F : Nat} {ty : FieldType} {a : Nat} (f : aw_FL y.cls idx ci j F ty false) (o : aw_is S a ci) {v : Int32} (ht : ty = .boolean) (hv : v = 0 ∨ v = 1) (dg : decode cc pc = .ok (.putfield idx, 3)) (q : aw g mL (wI S F a v) k n lv st (pc + 3)) : aw g mL S k n lv (.int v :: .ref a :: st) pc := by
  obtain ⟨p, l, e, R, s, m, args, below, meth, c, D, cy, A, Q⟩ := g
  obtain ⟨hx, hb, hml, hr, hown, hnm, hts, hlk, hK, hA, hE, hfr, hlo, hce, hsl⟩ := K
  obtain ⟨C, T, N, hc, hN, hci, hj, hty, hfin, hC, hw, hF⟩ := f
  intro H locs ls hP hD hS hl
  obtain ⟨q0, h0, he⟩ := aw_at (cy := cy) o hci
  have hnf : narrow ty (.int v) = (.int v) ∧ fits ty (.int v) = true := by subst ht; rcases hv with rfl | rfl <;> exact ⟨rfl, rfl⟩
  have hfv : aw_fv (wI S F a v) ty F a = (.int v) := by subst ht; simp [aw_fv, sI_wI]
  have hset := aw_wset (S2 := wI S F a v) hD o.1 h0 rfl (aw_Fput (S2 := wI S F a v) o.2 hci rfl hN hj hty hF hfv (fun G b h => ⟨by rw [sI_wI, if_neg h], rfl, rfl⟩) (fun kd b => rfl))
  have hlen : j < (aw_fs S ci a).length := by simp [aw_fs, hN, hj]
  exact va_put hx hb hts (aw_tab ci _ hc).1 (aw_ty ci) (aw_tab ci _ hc).2.1 (aw_tab ci _ hc).2.2 hown hK hP hD hS q0 he hc j hj (hts _ hw) (fun _ h9 => h9) hfin (((aw_tab ci _ hc).2.1 j hj).trans (congrArg some hty)) hnf.1 hnf.2 hlen dg (fun H1 locs1 hP1 hD1 hS1 => q H1 locs1 ls (by rw [← hset]; exact hP1) (by rw [← hset]; exact hD1) hS1 hl)
theorem a_putJ {g : aw_G} {y : MethodName} {cc : ByteArray} {mL : Nat} {ret : Option FieldType} {d mc ms : Nat} (K : aw_K g y cc mL ret d mc ms) {S : aw_S} {k n : Nat} {lv : List (Nat × Value)} {st : List Value} {pc : Nat} {idx ci j F : Nat} {ty : FieldType} {a : Nat} (f : aw_FL y.cls idx ci j F ty false) (o : aw_is S a ci) {v : Int64} (ht : ty = .long) (dg : decode cc pc = .ok (.putfield idx, 3)) (q : aw g mL (wJ S F a v) k n lv st (pc + 3)) : aw g mL S k n lv (.long v :: .ref a :: st) pc := by
  obtain ⟨p, l, e, R, s, m, args, below, meth, c, D, cy, A, Q⟩ := g
  obtain ⟨hx, hb, hml, hr, hown, hnm, hts, hlk, hK, hA, hE, hfr, hlo, hce, hsl⟩ := K
  obtain ⟨C, T, N, hc, hN, hci, hj, hty, hfin, hC, hw, hF⟩ := f
  intro H locs ls hP hD hS hl
  obtain ⟨q0, h0, he⟩ := aw_at (cy := cy) o hci
  have hnf : narrow ty (.long v) = (.long v) ∧ fits ty (.long v) = true := by subst ht; exact ⟨rfl, rfl⟩
  have hfv : aw_fv (wJ S F a v) ty F a = (.long v) := by subst ht; simp [aw_fv, sJ_wJ]
  have hset := aw_wset (S2 := wJ S F a v) hD o.1 h0 rfl (aw_Fput (S2 := wJ S F a v) o.2 hci rfl hN hj hty hF hfv (fun G b h => ⟨rfl, rfl, by rw [sJ_wJ, if_neg h]⟩) (fun kd b => rfl))
  have hlen : j < (aw_fs S ci a).length := by simp [aw_fs, hN, hj]
  exact va_put hx hb hts (aw_tab ci _ hc).1 (aw_ty ci) (aw_tab ci _ hc).2.1 (aw_tab ci _ hc).2.2 hown hK hP hD hS q0 he hc j hj (hts _ hw) (fun _ h9 => h9) hfin (((aw_tab ci _ hc).2.1 j hj).trans (congrArg some hty)) hnf.1 hnf.2 hlen dg (fun H1 locs1 hP1 hD1 hS1 => q H1 locs1 ls (by rw [← hset]; exact hP1) (by rw [← hset]; exact hD1) hS1 hl)
theorem a_putR {g : aw_G} {y : MethodName} {cc : ByteArray} {mL : Nat} {ret : Option FieldType} {d mc ms : Nat} (K : aw_K g y cc mL ret d mc ms) {S : aw_S} {k n : Nat} {lv : List (Nat × Value)} {st : List Value} {pc : Nat} {idx ci j F : Nat} {ty : FieldType} {a : Nat} (f : aw_FL y.cls idx ci j F ty false) (o : aw_is S a ci) {v : Option Nat} (ht : (∃ C, ty = .object C) ∨ ∃ t, ty = .array t) (dg : decode cc pc = .ok (.putfield idx, 3)) (q : aw g mL (wR S F a v) k n lv st (pc + 3)) : aw g mL S k n lv (va_rf v :: .ref a :: st) pc := by
  obtain ⟨p, l, e, R, s, m, args, below, meth, c, D, cy, A, Q⟩ := g
  obtain ⟨hx, hb, hml, hr, hown, hnm, hts, hlk, hK, hA, hE, hfr, hlo, hce, hsl⟩ := K
  obtain ⟨C, T, N, hc, hN, hci, hj, hty, hfin, hC, hw, hF⟩ := f
  intro H locs ls hP hD hS hl
  obtain ⟨q0, h0, he⟩ := aw_at (cy := cy) o hci
  have hnf : narrow ty (va_rf v) = (va_rf v) ∧ fits ty (va_rf v) = true := by exact aw_narR ht v
  have hfv : aw_fv (wR S F a v) ty F a = (va_rf v) := by rcases ht with ⟨_, rfl⟩ | ⟨_, rfl⟩ <;> simp [aw_fv, sR_wR]
  have hset := aw_wset (S2 := wR S F a v) hD o.1 h0 rfl (aw_Fput (S2 := wR S F a v) o.2 hci rfl hN hj hty hF hfv (fun G b h => ⟨rfl, by rw [sR_wR, if_neg h], rfl⟩) (fun kd b => rfl))
  have hlen : j < (aw_fs S ci a).length := by simp [aw_fs, hN, hj]
  exact va_put hx hb hts (aw_tab ci _ hc).1 (aw_ty ci) (aw_tab ci _ hc).2.1 (aw_tab ci _ hc).2.2 hown hK hP hD hS q0 he hc j hj (hts _ hw) (fun _ h9 => h9) hfin (((aw_tab ci _ hc).2.1 j hj).trans (congrArg some hty)) hnf.1 hnf.2 hlen dg (fun H1 locs1 hP1 hD1 hS1 => q H1 locs1 ls (by rw [← hset]; exact hP1) (by rw [← hset]; exact hD1) hS1 hl)
theorem a_putRF {g : aw_G} {y : MethodName} {cc : ByteArray} {mL : Nat} {ret : Option FieldType} {d mc ms : Nat} (K : aw_K g y cc mL ret d mc ms) {S : aw_S} {k n : Nat} {lv : List (Nat × Value)} {st : List Value} {pc : Nat} {idx ci j F : Nat} {ty : FieldType} {a : Nat} (f : aw_FL y.cls idx ci j F ty true) (o : aw_is S a ci) {v : Option Nat} (ht : (∃ C, ty = .object C) ∨ ∃ t, ty = .array t) (hin : y.name = "<init>") (hcl : ∀ C T N, vwCl[ci]? = some (C, T, N) → C = y.cls) (dg : decode cc pc = .ok (.putfield idx, 3)) (q : aw g mL (wR S F a v) k n lv st (pc + 3)) : aw g mL S k n lv (va_rf v :: .ref a :: st) pc := by
  obtain ⟨p, l, e, R, s, m, args, below, meth, c, D, cy, A, Q⟩ := g
  obtain ⟨hx, hb, hml, hr, hown, hnm, hts, hlk, hK, hA, hE, hfr, hlo, hce, hsl⟩ := K
  obtain ⟨C, T, N, hc, hN, hci, hj, hty, hfin, hC, hw, hF⟩ := f
  intro H locs ls hP hD hS hl
  obtain ⟨q0, h0, he⟩ := aw_at (cy := cy) o hci
  have hnf : narrow ty (va_rf v) = (va_rf v) ∧ fits ty (va_rf v) = true := by exact aw_narR ht v
  have hfv : aw_fv (wR S F a v) ty F a = (va_rf v) := by rcases ht with ⟨_, rfl⟩ | ⟨_, rfl⟩ <;> simp [aw_fv, sR_wR]
  have hset := aw_wset (S2 := wR S F a v) hD o.1 h0 rfl (aw_Fput (S2 := wR S F a v) o.2 hci rfl hN hj hty hF hfv (fun G b h => ⟨rfl, by rw [sR_wR, if_neg h], rfl⟩) (fun kd b => rfl))
  have hlen : j < (aw_fs S ci a).length := by simp [aw_fs, hN, hj]
  exact va_putF hx hb hts (aw_tab ci _ hc).1 (aw_ty ci) (aw_tab ci _ hc).2.1 (aw_tab ci _ hc).2.2 hown hK hP hD hS q0 he hc j hj (hts _ hw) (fun _ h9 => h9) hfin (hnm.trans hin) (hC.trans (hcl _ _ _ hc)) (((aw_tab ci _ hc).2.1 j hj).trans (congrArg some hty)) hnf.1 hnf.2 hlen dg (fun H1 locs1 hP1 hD1 hS1 => q H1 locs1 ls (by rw [← hset]; exact hP1) (by rw [← hset]; exact hD1) hS1 hl)
theorem a_putIF {g : aw_G} {y : MethodName} {cc : ByteArray} {mL : Nat} {ret : Option FieldType} {d mc ms : Nat} (K : aw_K g y cc mL ret d mc ms) {S : aw_S} {k n : Nat} {lv : List (Nat × Value)} {st : List Value} {pc : Nat} {idx ci j F : Nat} {ty : FieldType} {a : Nat} (f : aw_FL y.cls idx ci j F ty true) (o : aw_is S a ci) {v : Int32} (ht : ty = .int) (hin : y.name = "<init>") (hcl : ∀ C T N, vwCl[ci]? = some (C, T, N) → C = y.cls) (dg : decode cc pc = .ok (.putfield idx, 3)) (q : aw g mL (wI S F a v) k n lv st (pc + 3)) : aw g mL S k n lv (.int v :: .ref a :: st) pc := by
  obtain ⟨p, l, e, R, s, m, args, below, meth, c, D, cy, A, Q⟩ := g
  obtain ⟨hx, hb, hml, hr, hown, hnm, hts, hlk, hK, hA, hE, hfr, hlo, hce, hsl⟩ := K
  obtain ⟨C, T, N, hc, hN, hci, hj, hty, hfin, hC, hw, hF⟩ := f
  intro H locs ls hP hD hS hl
  obtain ⟨q0, h0, he⟩ := aw_at (cy := cy) o hci
  have hnf : narrow ty (.int v) = (.int v) ∧ fits ty (.int v) = true := by subst ht; exact ⟨rfl, rfl⟩
  have hfv : aw_fv (wI S F a v) ty F a = (.int v) := by subst ht; simp [aw_fv, sI_wI]
  have hset := aw_wset (S2 := wI S F a v) hD o.1 h0 rfl (aw_Fput (S2 := wI S F a v) o.2 hci rfl hN hj hty hF hfv (fun G b h => ⟨by rw [sI_wI, if_neg h], rfl, rfl⟩) (fun kd b => rfl))
  have hlen : j < (aw_fs S ci a).length := by simp [aw_fs, hN, hj]
  exact va_putF hx hb hts (aw_tab ci _ hc).1 (aw_ty ci) (aw_tab ci _ hc).2.1 (aw_tab ci _ hc).2.2 hown hK hP hD hS q0 he hc j hj (hts _ hw) (fun _ h9 => h9) hfin (hnm.trans hin) (hC.trans (hcl _ _ _ hc)) (((aw_tab ci _ hc).2.1 j hj).trans (congrArg some hty)) hnf.1 hnf.2 hlen dg (fun H1 locs1 hP1 hD1 hS1 => q H1 locs1 ls (by rw [← hset]; exact hP1) (by rw [← hset]; exact hD1) hS1 hl)
theorem a_iald {g : aw_G} {y : MethodName} {cc : ByteArray} {mL : Nat} {ret : Option FieldType} {d mc ms : Nat} (K : aw_K g y cc mL ret d mc ms) {S : aw_S} {k n : Nat} {lv : List (Nat × Value)} {st : List Value} {pc : Nat} {a : Nat} {i : Int32} (o : aw_is S a 13) (hi : vp_in i (sN S a)) (dg : decode cc pc = .ok (.iaload, 1)) (q : aw g mL S k n lv (.int (sA S a i.toNatClampNeg) :: st) (pc + 1)) : aw g mL S k n lv (.int i :: .ref a :: st) pc := by
  obtain ⟨p, l, e, R, s, m, args, below, meth, c, D, cy, A, Q⟩ := g
  obtain ⟨hx, hb, hml, hr, hown, hnm, hts, hlk, hK, hA, hE, hfr, hlo, hce, hsl⟩ := K
  intro H locs ls hP hD hS hl
  obtain ⟨q0, -, he⟩ := aw_atR (cy := cy) o (by decide)
  exact va_iald hx hb hK hP q0 1 he rfl hi dg (q H locs ls hP hD hS hl)
theorem a_bald {g : aw_G} {y : MethodName} {cc : ByteArray} {mL : Nat} {ret : Option FieldType} {d mc ms : Nat} (K : aw_K g y cc mL ret d mc ms) {S : aw_S} {k n : Nat} {lv : List (Nat × Value)} {st : List Value} {pc : Nat} {a : Nat} {i : Int32} (o : aw_is S a 12) (hi : vp_in i (sN S a)) (dg : decode cc pc = .ok (.baload, 1)) (q : aw g mL S k n lv (.int (sA S a i.toNatClampNeg) :: st) (pc + 1)) : aw g mL S k n lv (.int i :: .ref a :: st) pc := by
  obtain ⟨p, l, e, R, s, m, args, below, meth, c, D, cy, A, Q⟩ := g
  obtain ⟨hx, hb, hml, hr, hown, hnm, hts, hlk, hK, hA, hE, hfr, hlo, hce, hsl⟩ := K
  intro H locs ls hP hD hS hl
  obtain ⟨q0, -, he⟩ := aw_atR (cy := cy) o (by decide)
  exact va_bald hx hb hK hP q0 0 he rfl hi dg (q H locs ls hP hD hS hl)
theorem a_zald {g : aw_G} {y : MethodName} {cc : ByteArray} {mL : Nat} {ret : Option FieldType} {d mc ms : Nat} (K : aw_K g y cc mL ret d mc ms) {S : aw_S} {k n : Nat} {lv : List (Nat × Value)} {st : List Value} {pc : Nat} {a : Nat} {i : Int32} (o : aw_is S a 14) (hi : vp_in i (sN S a)) (dg : decode cc pc = .ok (.baload, 1)) (q : aw g mL S k n lv (.int (sA S a i.toNatClampNeg) :: st) (pc + 1)) : aw g mL S k n lv (.int i :: .ref a :: st) pc := by
  obtain ⟨p, l, e, R, s, m, args, below, meth, c, D, cy, A, Q⟩ := g
  obtain ⟨hx, hb, hml, hr, hown, hnm, hts, hlk, hK, hA, hE, hfr, hlo, hce, hsl⟩ := K
  intro H locs ls hP hD hS hl
  obtain ⟨q0, -, he⟩ := aw_atR (cy := cy) o (by decide)
  exact va_zald hx hb hK hP q0 2 he rfl hi dg (q H locs ls hP hD hS hl)
theorem a_lald {g : aw_G} {y : MethodName} {cc : ByteArray} {mL : Nat} {ret : Option FieldType} {d mc ms : Nat} (K : aw_K g y cc mL ret d mc ms) {S : aw_S} {k n : Nat} {lv : List (Nat × Value)} {st : List Value} {pc : Nat} {a : Nat} {i : Int32} (o : aw_is S a 18) (hi : vp_in i (sN S a)) (dg : decode cc pc = .ok (.laload, 1)) (q : aw g mL S k n lv (.long (sB S a i.toNatClampNeg) :: st) (pc + 1)) : aw g mL S k n lv (.int i :: .ref a :: st) pc := by
  obtain ⟨p, l, e, R, s, m, args, below, meth, c, D, cy, A, Q⟩ := g
  obtain ⟨hx, hb, hml, hr, hown, hnm, hts, hlk, hK, hA, hE, hfr, hlo, hce, hsl⟩ := K
  intro H locs ls hP hD hS hl
  obtain ⟨q0, -, he⟩ := aw_atR (cy := cy) o (by decide)
  exact va_lald hx hb hK hP q0 6 he rfl hi dg (q H locs ls hP hD hS hl)
theorem a_aaldB {g : aw_G} {y : MethodName} {cc : ByteArray} {mL : Nat} {ret : Option FieldType} {d mc ms : Nat} (K : aw_K g y cc mL ret d mc ms) {S : aw_S} {k n : Nat} {lv : List (Nat × Value)} {st : List Value} {pc : Nat} {a : Nat} {i : Int32} (o : aw_is S a 15) (hi : vp_in i (sN S a)) (dg : decode cc pc = .ok (.aaload, 1)) (q : aw g mL S k n lv (va_rf (sQ S a i.toNatClampNeg) :: st) (pc + 1)) : aw g mL S k n lv (.int i :: .ref a :: st) pc := by
  obtain ⟨p, l, e, R, s, m, args, below, meth, c, D, cy, A, Q⟩ := g
  obtain ⟨hx, hb, hml, hr, hown, hnm, hts, hlk, hK, hA, hE, hfr, hlo, hce, hsl⟩ := K
  intro H locs ls hP hD hS hl
  obtain ⟨q0, -, he⟩ := aw_atR (cy := cy) o (by decide)
  exact va_aldq hx hb hK hP q0 3 he rfl hi dg (q H locs ls hP hD hS hl)
theorem a_aaldN {g : aw_G} {y : MethodName} {cc : ByteArray} {mL : Nat} {ret : Option FieldType} {d mc ms : Nat} (K : aw_K g y cc mL ret d mc ms) {S : aw_S} {k n : Nat} {lv : List (Nat × Value)} {st : List Value} {pc : Nat} {a : Nat} {i : Int32} (o : aw_is S a 16) (hi : vp_in i (sN S a)) (dg : decode cc pc = .ok (.aaload, 1)) (q : aw g mL S k n lv (va_rf (sQ S a i.toNatClampNeg) :: st) (pc + 1)) : aw g mL S k n lv (.int i :: .ref a :: st) pc := by
  obtain ⟨p, l, e, R, s, m, args, below, meth, c, D, cy, A, Q⟩ := g
  obtain ⟨hx, hb, hml, hr, hown, hnm, hts, hlk, hK, hA, hE, hfr, hlo, hce, hsl⟩ := K
  intro H locs ls hP hD hS hl
  obtain ⟨q0, -, he⟩ := aw_atR (cy := cy) o (by decide)
  exact va_aldq hx hb hK hP q0 4 he rfl hi dg (q H locs ls hP hD hS hl)
theorem a_aaldP {g : aw_G} {y : MethodName} {cc : ByteArray} {mL : Nat} {ret : Option FieldType} {d mc ms : Nat} (K : aw_K g y cc mL ret d mc ms) {S : aw_S} {k n : Nat} {lv : List (Nat × Value)} {st : List Value} {pc : Nat} {a : Nat} {i : Int32} (o : aw_is S a 17) (hi : vp_in i (sN S a)) (dg : decode cc pc = .ok (.aaload, 1)) (q : aw g mL S k n lv (va_rf (sQ S a i.toNatClampNeg) :: st) (pc + 1)) : aw g mL S k n lv (.int i :: .ref a :: st) pc := by
  obtain ⟨p, l, e, R, s, m, args, below, meth, c, D, cy, A, Q⟩ := g
  obtain ⟨hx, hb, hml, hr, hown, hnm, hts, hlk, hK, hA, hE, hfr, hlo, hce, hsl⟩ := K
  intro H locs ls hP hD hS hl
  obtain ⟨q0, -, he⟩ := aw_atR (cy := cy) o (by decide)
  exact va_aldq hx hb hK hP q0 5 he rfl hi dg (q H locs ls hP hD hS hl)
theorem a_iast {g : aw_G} {y : MethodName} {cc : ByteArray} {mL : Nat} {ret : Option FieldType} {d mc ms : Nat} (K : aw_K g y cc mL ret d mc ms) {S : aw_S} {k n : Nat} {lv : List (Nat × Value)} {st : List Value} {pc : Nat} {a : Nat} {i x : Int32} (o : aw_is S a 13) (hi : vp_in i (sN S a)) (dg : decode cc pc = .ok (.iastore, 1)) (q : aw g mL (wA S a i.toNatClampNeg (x)) k n lv st (pc + 1)) : aw g mL S k n lv (.int x :: .int i :: .ref a :: st) pc := by
  obtain ⟨p, l, e, R, s, m, args, below, meth, c, D, cy, A, Q⟩ := g
  obtain ⟨hx, hb, hml, hr, hown, hnm, hts, hlk, hK, hA, hE, hfr, hlo, hce, hsl⟩ := K
  intro H locs ls hP hD hS hl
  obtain ⟨q0, h0, he⟩ := aw_atR (cy := cy) o (by decide)
  have hset := aw_wset (S2 := wA S a i.toNatClampNeg (x)) hD o.1 h0 rfl (aw_Frow (S2 := wA S a i.toNatClampNeg (x)) o.2 (by decide) rfl rfl rfl rfl (fun kd b hb => aw_ro_same rfl (va_up_ne _ _ hb) rfl rfl))
  have he2 : aw_ro (wA S a i.toNatClampNeg (x)) 13 a = (sN S a, .inl (upd (sA S a) i.toNatClampNeg (x))) := by show (_, _) = _; rw [if_pos (by decide)]; exact congrArg (fun z => (sN S a, Sum.inl z)) (va_up_self _ _ _)
  rw [he2] at hset
  exact va_iast hx hb hK hP hD hS q0 1 he rfl hi dg (fun H1 locs1 hP1 hD1 hS1 => q H1 locs1 ls (by rw [← hset]; exact hP1) (by rw [← hset]; exact hD1) hS1 hl)
theorem a_bast {g : aw_G} {y : MethodName} {cc : ByteArray} {mL : Nat} {ret : Option FieldType} {d mc ms : Nat} (K : aw_K g y cc mL ret d mc ms) {S : aw_S} {k n : Nat} {lv : List (Nat × Value)} {st : List Value} {pc : Nat} {a : Nat} {i x : Int32} (o : aw_is S a 12) (hi : vp_in i (sN S a)) (dg : decode cc pc = .ok (.bastore, 1)) (q : aw g mL (wA S a i.toNatClampNeg (vp_nar .byte x)) k n lv st (pc + 1)) : aw g mL S k n lv (.int x :: .int i :: .ref a :: st) pc := by
  obtain ⟨p, l, e, R, s, m, args, below, meth, c, D, cy, A, Q⟩ := g
  obtain ⟨hx, hb, hml, hr, hown, hnm, hts, hlk, hK, hA, hE, hfr, hlo, hce, hsl⟩ := K
  intro H locs ls hP hD hS hl
  obtain ⟨q0, h0, he⟩ := aw_atR (cy := cy) o (by decide)
  have hset := aw_wset (S2 := wA S a i.toNatClampNeg (vp_nar .byte x)) hD o.1 h0 rfl (aw_Frow (S2 := wA S a i.toNatClampNeg (vp_nar .byte x)) o.2 (by decide) rfl rfl rfl rfl (fun kd b hb => aw_ro_same rfl (va_up_ne _ _ hb) rfl rfl))
  have he2 : aw_ro (wA S a i.toNatClampNeg (vp_nar .byte x)) 12 a = (sN S a, .inl (upd (sA S a) i.toNatClampNeg (vp_nar .byte x))) := by show (_, _) = _; rw [if_pos (by decide)]; exact congrArg (fun z => (sN S a, Sum.inl z)) (va_up_self _ _ _)
  rw [he2] at hset
  exact va_bast hx hb hK hP hD hS q0 0 he rfl hi dg (fun H1 locs1 hP1 hD1 hS1 => q H1 locs1 ls (by rw [← hset]; exact hP1) (by rw [← hset]; exact hD1) hS1 hl)
theorem a_zast {g : aw_G} {y : MethodName} {cc : ByteArray} {mL : Nat} {ret : Option FieldType} {d mc ms : Nat} (K : aw_K g y cc mL ret d mc ms) {S : aw_S} {k n : Nat} {lv : List (Nat × Value)} {st : List Value} {pc : Nat} {a : Nat} {i x : Int32} (o : aw_is S a 14) (hi : vp_in i (sN S a)) (dg : decode cc pc = .ok (.bastore, 1)) (q : aw g mL (wA S a i.toNatClampNeg (vp_nar .boolean x)) k n lv st (pc + 1)) : aw g mL S k n lv (.int x :: .int i :: .ref a :: st) pc := by
  obtain ⟨p, l, e, R, s, m, args, below, meth, c, D, cy, A, Q⟩ := g
  obtain ⟨hx, hb, hml, hr, hown, hnm, hts, hlk, hK, hA, hE, hfr, hlo, hce, hsl⟩ := K
  intro H locs ls hP hD hS hl
  obtain ⟨q0, h0, he⟩ := aw_atR (cy := cy) o (by decide)
  have hset := aw_wset (S2 := wA S a i.toNatClampNeg (vp_nar .boolean x)) hD o.1 h0 rfl (aw_Frow (S2 := wA S a i.toNatClampNeg (vp_nar .boolean x)) o.2 (by decide) rfl rfl rfl rfl (fun kd b hb => aw_ro_same rfl (va_up_ne _ _ hb) rfl rfl))
  have he2 : aw_ro (wA S a i.toNatClampNeg (vp_nar .boolean x)) 14 a = (sN S a, .inl (upd (sA S a) i.toNatClampNeg (vp_nar .boolean x))) := by show (_, _) = _; rw [if_pos (by decide)]; exact congrArg (fun z => (sN S a, Sum.inl z)) (va_up_self _ _ _)
  rw [he2] at hset
  exact va_zast hx hb hK hP hD hS q0 2 he rfl hi dg (fun H1 locs1 hP1 hD1 hS1 => q H1 locs1 ls (by rw [← hset]; exact hP1) (by rw [← hset]; exact hD1) hS1 hl)
theorem a_last {g : aw_G} {y : MethodName} {cc : ByteArray} {mL : Nat} {ret : Option FieldType} {d mc ms : Nat} (K : aw_K g y cc mL ret d mc ms) {S : aw_S} {k n : Nat} {lv : List (Nat × Value)} {st : List Value} {pc : Nat} {a : Nat} {i : Int32} {x : Int64} (o : aw_is S a 18) (hi : vp_in i (sN S a)) (dg : decode cc pc = .ok (.lastore, 1)) (q : aw g mL (wB S a i.toNatClampNeg x) k n lv st (pc + 1)) : aw g mL S k n lv (.long x :: .int i :: .ref a :: st) pc := by
  obtain ⟨p, l, e, R, s, m, args, below, meth, c, D, cy, A, Q⟩ := g
  obtain ⟨hx, hb, hml, hr, hown, hnm, hts, hlk, hK, hA, hE, hfr, hlo, hce, hsl⟩ := K
  intro H locs ls hP hD hS hl
  obtain ⟨q0, h0, he⟩ := aw_atR (cy := cy) o (by decide)
  have hset := aw_wset (S2 := wB S a i.toNatClampNeg x) hD o.1 h0 rfl (aw_Frow (S2 := wB S a i.toNatClampNeg x) o.2 (by decide) rfl rfl rfl rfl (fun kd b hb => aw_ro_same rfl rfl rfl (va_up_ne _ _ hb)))
  have he2 : aw_ro (wB S a i.toNatClampNeg x) 18 a = (sN S a, .inr (.inl (vp_updL (sB S a) i.toNatClampNeg x))) := by show (_, _) = _; rw [if_neg (by decide), if_neg (by decide)]; exact congrArg (fun z => (sN S a, Sum.inr (Sum.inl z))) (va_up_self _ _ _)
  rw [he2] at hset
  exact va_last hx hb hK hP hD hS q0 6 he rfl hi dg (fun H1 locs1 hP1 hD1 hS1 => q H1 locs1 ls (by rw [← hset]; exact hP1) (by rw [← hset]; exact hD1) hS1 hl)
theorem a_aastB {g : aw_G} {y : MethodName} {cc : ByteArray} {mL : Nat} {ret : Option FieldType} {d mc ms : Nat} (K : aw_K g y cc mL ret d mc ms) {S : aw_S} {k n : Nat} {lv : List (Nat × Value)} {st : List Value} {pc : Nat} {a : Nat} {v : Nat} {i : Int32} (o : aw_is S a 15) (ov : aw_is S v 0) (hi : vp_in i (sN S a)) (dg : decode cc pc = .ok (.aastore, 1)) (q : aw g mL (wQ S a i.toNatClampNeg (some v)) k n lv st (pc + 1)) : aw g mL S k n lv (.ref v :: .int i :: .ref a :: st) pc := by
  obtain ⟨p, l, e, R, s, m, args, below, meth, c, D, cy, A, Q⟩ := g
  obtain ⟨hx, hb, hml, hr, hown, hnm, hts, hlk, hK, hA, hE, hfr, hlo, hce, hsl⟩ := K
  intro H locs ls hP hD hS hl
  obtain ⟨q0, h0, he⟩ := aw_atR (cy := cy) o (by decide)
  obtain ⟨q1, -, hv1⟩ := aw_at (cy := cy) ov (by decide)
  have hset := aw_wset (S2 := wQ S a i.toNatClampNeg (some v)) hD o.1 h0 rfl (aw_Frow (S2 := wQ S a i.toNatClampNeg (some v)) o.2 (by decide) rfl rfl rfl rfl (fun kd b hb => aw_ro_same rfl rfl (va_up_ne _ _ hb) rfl))
  have he2 : aw_ro (wQ S a i.toNatClampNeg (some v)) 15 a = (sN S a, .inr (.inr (.inr (.inr (va_up (sQ S a) i.toNatClampNeg (some v)))))) := by show (_, _) = _; rw [if_neg (by decide), if_pos (by decide)]; exact congrArg (fun z => (sN S a, Sum.inr (Sum.inr (Sum.inr (Sum.inr z))))) (va_up_self _ _ _)
  rw [he2] at hset
  exact va_astq hx hb hK hP hD hS q0 3 q1 0 he rfl hv1 rfl hi dg (fun H1 locs1 hP1 hD1 hS1 => q H1 locs1 ls (by rw [← hset]; exact hP1) (by rw [← hset]; exact hD1) hS1 hl)
theorem a_aastBN {g : aw_G} {y : MethodName} {cc : ByteArray} {mL : Nat} {ret : Option FieldType} {d mc ms : Nat} (K : aw_K g y cc mL ret d mc ms) {S : aw_S} {k n : Nat} {lv : List (Nat × Value)} {st : List Value} {pc : Nat} {a : Nat} {i : Int32} (o : aw_is S a 15) (hi : vp_in i (sN S a)) (dg : decode cc pc = .ok (.aastore, 1)) (q : aw g mL (wQ S a i.toNatClampNeg (none)) k n lv st (pc + 1)) : aw g mL S k n lv (.null :: .int i :: .ref a :: st) pc := by
  obtain ⟨p, l, e, R, s, m, args, below, meth, c, D, cy, A, Q⟩ := g
  obtain ⟨hx, hb, hml, hr, hown, hnm, hts, hlk, hK, hA, hE, hfr, hlo, hce, hsl⟩ := K
  intro H locs ls hP hD hS hl
  obtain ⟨q0, h0, he⟩ := aw_atR (cy := cy) o (by decide)
  have hset := aw_wset (S2 := wQ S a i.toNatClampNeg (none)) hD o.1 h0 rfl (aw_Frow (S2 := wQ S a i.toNatClampNeg (none)) o.2 (by decide) rfl rfl rfl rfl (fun kd b hb => aw_ro_same rfl rfl (va_up_ne _ _ hb) rfl))
  have he2 : aw_ro (wQ S a i.toNatClampNeg (none)) 15 a = (sN S a, .inr (.inr (.inr (.inr (va_up (sQ S a) i.toNatClampNeg (none)))))) := by show (_, _) = _; rw [if_neg (by decide), if_pos (by decide)]; exact congrArg (fun z => (sN S a, Sum.inr (Sum.inr (Sum.inr (Sum.inr z))))) (va_up_self _ _ _)
  rw [he2] at hset
  exact va_astqN hx hb hK hP hD hS q0 3 he rfl hi dg (fun H1 locs1 hP1 hD1 hS1 => q H1 locs1 ls (by rw [← hset]; exact hP1) (by rw [← hset]; exact hD1) hS1 hl)
theorem a_aastN {g : aw_G} {y : MethodName} {cc : ByteArray} {mL : Nat} {ret : Option FieldType} {d mc ms : Nat} (K : aw_K g y cc mL ret d mc ms) {S : aw_S} {k n : Nat} {lv : List (Nat × Value)} {st : List Value} {pc : Nat} {a : Nat} {v : Nat} {i : Int32} (o : aw_is S a 16) (ov : aw_is S v 4) (hi : vp_in i (sN S a)) (dg : decode cc pc = .ok (.aastore, 1)) (q : aw g mL (wQ S a i.toNatClampNeg (some v)) k n lv st (pc + 1)) : aw g mL S k n lv (.ref v :: .int i :: .ref a :: st) pc := by
  obtain ⟨p, l, e, R, s, m, args, below, meth, c, D, cy, A, Q⟩ := g
  obtain ⟨hx, hb, hml, hr, hown, hnm, hts, hlk, hK, hA, hE, hfr, hlo, hce, hsl⟩ := K
  intro H locs ls hP hD hS hl
  obtain ⟨q0, h0, he⟩ := aw_atR (cy := cy) o (by decide)
  obtain ⟨q1, -, hv1⟩ := aw_at (cy := cy) ov (by decide)
  have hset := aw_wset (S2 := wQ S a i.toNatClampNeg (some v)) hD o.1 h0 rfl (aw_Frow (S2 := wQ S a i.toNatClampNeg (some v)) o.2 (by decide) rfl rfl rfl rfl (fun kd b hb => aw_ro_same rfl rfl (va_up_ne _ _ hb) rfl))
  have he2 : aw_ro (wQ S a i.toNatClampNeg (some v)) 16 a = (sN S a, .inr (.inr (.inr (.inr (va_up (sQ S a) i.toNatClampNeg (some v)))))) := by show (_, _) = _; rw [if_neg (by decide), if_pos (by decide)]; exact congrArg (fun z => (sN S a, Sum.inr (Sum.inr (Sum.inr (Sum.inr z))))) (va_up_self _ _ _)
  rw [he2] at hset
  exact va_astq hx hb hK hP hD hS q0 4 q1 4 he rfl hv1 rfl hi dg (fun H1 locs1 hP1 hD1 hS1 => q H1 locs1 ls (by rw [← hset]; exact hP1) (by rw [← hset]; exact hD1) hS1 hl)
theorem a_aastNN {g : aw_G} {y : MethodName} {cc : ByteArray} {mL : Nat} {ret : Option FieldType} {d mc ms : Nat} (K : aw_K g y cc mL ret d mc ms) {S : aw_S} {k n : Nat} {lv : List (Nat × Value)} {st : List Value} {pc : Nat} {a : Nat} {i : Int32} (o : aw_is S a 16) (hi : vp_in i (sN S a)) (dg : decode cc pc = .ok (.aastore, 1)) (q : aw g mL (wQ S a i.toNatClampNeg (none)) k n lv st (pc + 1)) : aw g mL S k n lv (.null :: .int i :: .ref a :: st) pc := by
  obtain ⟨p, l, e, R, s, m, args, below, meth, c, D, cy, A, Q⟩ := g
  obtain ⟨hx, hb, hml, hr, hown, hnm, hts, hlk, hK, hA, hE, hfr, hlo, hce, hsl⟩ := K
  intro H locs ls hP hD hS hl
  obtain ⟨q0, h0, he⟩ := aw_atR (cy := cy) o (by decide)
  have hset := aw_wset (S2 := wQ S a i.toNatClampNeg (none)) hD o.1 h0 rfl (aw_Frow (S2 := wQ S a i.toNatClampNeg (none)) o.2 (by decide) rfl rfl rfl rfl (fun kd b hb => aw_ro_same rfl rfl (va_up_ne _ _ hb) rfl))
  have he2 : aw_ro (wQ S a i.toNatClampNeg (none)) 16 a = (sN S a, .inr (.inr (.inr (.inr (va_up (sQ S a) i.toNatClampNeg (none)))))) := by show (_, _) = _; rw [if_neg (by decide), if_pos (by decide)]; exact congrArg (fun z => (sN S a, Sum.inr (Sum.inr (Sum.inr (Sum.inr z))))) (va_up_self _ _ _)
  rw [he2] at hset
  exact va_astqN hx hb hK hP hD hS q0 4 he rfl hi dg (fun H1 locs1 hP1 hD1 hS1 => q H1 locs1 ls (by rw [← hset]; exact hP1) (by rw [← hset]; exact hD1) hS1 hl)
theorem a_aastP {g : aw_G} {y : MethodName} {cc : ByteArray} {mL : Nat} {ret : Option FieldType} {d mc ms : Nat} (K : aw_K g y cc mL ret d mc ms) {S : aw_S} {k n : Nat} {lv : List (Nat × Value)} {st : List Value} {pc : Nat} {a : Nat} {v : Nat} {i : Int32} (o : aw_is S a 17) (ov : aw_is S v 5) (hi : vp_in i (sN S a)) (dg : decode cc pc = .ok (.aastore, 1)) (q : aw g mL (wQ S a i.toNatClampNeg (some v)) k n lv st (pc + 1)) : aw g mL S k n lv (.ref v :: .int i :: .ref a :: st) pc := by
  obtain ⟨p, l, e, R, s, m, args, below, meth, c, D, cy, A, Q⟩ := g
  obtain ⟨hx, hb, hml, hr, hown, hnm, hts, hlk, hK, hA, hE, hfr, hlo, hce, hsl⟩ := K
  intro H locs ls hP hD hS hl
  obtain ⟨q0, h0, he⟩ := aw_atR (cy := cy) o (by decide)
  obtain ⟨q1, -, hv1⟩ := aw_at (cy := cy) ov (by decide)
  have hset := aw_wset (S2 := wQ S a i.toNatClampNeg (some v)) hD o.1 h0 rfl (aw_Frow (S2 := wQ S a i.toNatClampNeg (some v)) o.2 (by decide) rfl rfl rfl rfl (fun kd b hb => aw_ro_same rfl rfl (va_up_ne _ _ hb) rfl))
  have he2 : aw_ro (wQ S a i.toNatClampNeg (some v)) 17 a = (sN S a, .inr (.inr (.inr (.inr (va_up (sQ S a) i.toNatClampNeg (some v)))))) := by show (_, _) = _; rw [if_neg (by decide), if_pos (by decide)]; exact congrArg (fun z => (sN S a, Sum.inr (Sum.inr (Sum.inr (Sum.inr z))))) (va_up_self _ _ _)
  rw [he2] at hset
  exact va_astq hx hb hK hP hD hS q0 5 q1 5 he rfl hv1 rfl hi dg (fun H1 locs1 hP1 hD1 hS1 => q H1 locs1 ls (by rw [← hset]; exact hP1) (by rw [← hset]; exact hD1) hS1 hl)
theorem a_aastPN {g : aw_G} {y : MethodName} {cc : ByteArray} {mL : Nat} {ret : Option FieldType} {d mc ms : Nat} (K : aw_K g y cc mL ret d mc ms) {S : aw_S} {k n : Nat} {lv : List (Nat × Value)} {st : List Value} {pc : Nat} {a : Nat} {i : Int32} (o : aw_is S a 17) (hi : vp_in i (sN S a)) (dg : decode cc pc = .ok (.aastore, 1)) (q : aw g mL (wQ S a i.toNatClampNeg (none)) k n lv st (pc + 1)) : aw g mL S k n lv (.null :: .int i :: .ref a :: st) pc := by
  obtain ⟨p, l, e, R, s, m, args, below, meth, c, D, cy, A, Q⟩ := g
  obtain ⟨hx, hb, hml, hr, hown, hnm, hts, hlk, hK, hA, hE, hfr, hlo, hce, hsl⟩ := K
  intro H locs ls hP hD hS hl
  obtain ⟨q0, h0, he⟩ := aw_atR (cy := cy) o (by decide)
  have hset := aw_wset (S2 := wQ S a i.toNatClampNeg (none)) hD o.1 h0 rfl (aw_Frow (S2 := wQ S a i.toNatClampNeg (none)) o.2 (by decide) rfl rfl rfl rfl (fun kd b hb => aw_ro_same rfl rfl (va_up_ne _ _ hb) rfl))
  have he2 : aw_ro (wQ S a i.toNatClampNeg (none)) 17 a = (sN S a, .inr (.inr (.inr (.inr (va_up (sQ S a) i.toNatClampNeg (none)))))) := by show (_, _) = _; rw [if_neg (by decide), if_pos (by decide)]; exact congrArg (fun z => (sN S a, Sum.inr (Sum.inr (Sum.inr (Sum.inr z))))) (va_up_self _ _ _)
  rw [he2] at hset
  exact va_astqN hx hb hK hP hD hS q0 5 he rfl hi dg (fun H1 locs1 hP1 hD1 hS1 => q H1 locs1 ls (by rw [← hset]; exact hP1) (by rw [← hset]; exact hD1) hS1 hl)
theorem a_alen {g : aw_G} {y : MethodName} {cc : ByteArray} {mL : Nat} {ret : Option FieldType} {d mc ms : Nat} (K : aw_K g y cc mL ret d mc ms) {S : aw_S} {k n : Nat} {lv : List (Nat × Value)} {st : List Value} {pc : Nat} {a kd : Nat} {v : Int32} (o : aw_is S a kd) (h1 : 12 ≤ kd) (h2 : kd < 19) (hv : Int32.ofNat (sN S a) = v) (dg : decode cc pc = .ok (.arraylength, 1)) (q : aw g mL S k n lv (.int v :: st) (pc + 1)) : aw g mL S k n lv (.ref a :: st) pc := by
  obtain ⟨p, l, e, R, s, m, args, below, meth, c, D, cy, A, Q⟩ := g
  obtain ⟨hx, hb, hml, hr, hown, hnm, hts, hlk, hK, hA, hE, hfr, hlo, hce, hsl⟩ := K
  intro H locs ls hP hD hS hl
  obtain ⟨q0, -, he⟩ := aw_atR (cy := cy) o h1
  obtain ⟨ty, hty⟩ : ∃ ty : FieldType, (aw_tys cy)[kd - 12]? = some (cy kd, ty) := by
    have h3 : kd = 12 ∨ kd = 13 ∨ kd = 14 ∨ kd = 15 ∨ kd = 16 ∨ kd = 17 ∨ kd = 18 := by omega
    rcases h3 with rfl | rfl | rfl | rfl | rfl | rfl | rfl <;> exact ⟨_, rfl⟩
  exact va_alen hx hb hK hP q0 (kd - 12) he hty hv dg (q H locs ls hP hD hS hl)
theorem aw_nofd : ∀ ci, ci < 12 → ∀ j, ¬ (aw_ty ci j = .float ∨ aw_ty ci j = .double) := by
  intro ci hci j
  have h3 : ci = 0 ∨ ci = 1 ∨ ci = 2 ∨ ci = 3 ∨ ci = 4 ∨ ci = 5 ∨ ci = 6 ∨ ci = 7 ∨ ci = 8 ∨ ci = 9 ∨ ci = 10 ∨ ci = 11 := by omega
  rcases h3 with rfl | rfl | rfl | rfl | rfl | rfl | rfl | rfl | rfl | rfl | rfl | rfl
  · show ¬ (tyX0 j = .float ∨ tyX0 j = .double)
    unfold tyX0
    split <;> simp
  · show ¬ (tyX1 j = .float ∨ tyX1 j = .double)
    unfold tyX1
    split <;> simp
  · show ¬ (tyX2 j = .float ∨ tyX2 j = .double)
    unfold tyX2
    split <;> simp
  · show ¬ (tyX3 j = .float ∨ tyX3 j = .double)
    unfold tyX3
    split <;> simp
  · show ¬ (tyX4 j = .float ∨ tyX4 j = .double)
    unfold tyX4
    split <;> simp
  · show ¬ (tyX5 j = .float ∨ tyX5 j = .double)
    unfold tyX5
    split <;> simp
  · show ¬ (tyX6 j = .float ∨ tyX6 j = .double)
    unfold tyX6
    split <;> simp
  · show ¬ (tyX7 j = .float ∨ tyX7 j = .double)
    unfold tyX7
    split <;> simp
  · show ¬ (tyX8 j = .float ∨ tyX8 j = .double)
    unfold tyX8
    split <;> simp
  · show ¬ (tyX9 j = .float ∨ tyX9 j = .double)
    unfold tyX9
    split <;> simp
  · show ¬ (tyX10 j = .float ∨ tyX10 j = .double)
    unfold tyX10
    split <;> simp
  · show ¬ (tyX11 j = .float ∨ tyX11 j = .double)
    unfold tyX11
    split <;> simp
theorem a_new {g : aw_G} {y : MethodName} {cc : ByteArray} {mL : Nat} {ret : Option FieldType} {d mc ms : Nat} (K : aw_K g y cc mL ret d mc ms) {S : aw_S} {k n : Nat} {lv : List (Nat × Value)} {st : List Value} {pc : Nat} {idx ci N : Nat} {C : String} {T : u_T} (w1 : Cond.classLink y.cls idx C ∈ TT) (w2 : Cond.instantiable C N ∈ TT) (w3 : Cond.initialized C ∈ TT) (hc : vwCl[ci]? = some (C, T, N)) (hci : ci < 12) (hN : aw_N ci = N) (hk : k + 1 ≤ mc) (hn : n + N ≤ ms) (dg : decode cc pc = .ok (.new idx, 3)) (q : ∀ a : Nat, a ∉ sL S → aw g mL (nO S a ci) (k + 1) (n + N) lv (.ref a :: st) (pc + 3)) : aw g mL S k n lv st pc := by
  obtain ⟨p, l, e, R, s, m, args, below, meth, c, D, cy, A, Q⟩ := g
  obtain ⟨hx, hb, hml, hr, hown, hnm, hts, hlk, hK, hA, hE, hfr, hlo, hce, hsl⟩ := K
  intro H locs ls hP hD hS hl
  refine va_new (fs := (List.range (aw_N ci)).map (fun j => aw_fv (nO S 0 ci) (aw_ty ci j) (64 * ci + j) 0)) hx hb hts (aw_tab ci _ hc).1 (aw_ty ci) (aw_tab ci _ hc).2.1 hown (hts _ w1) (hts _ w2) (hts _ w3) hK hP hD hS hA hc ?_ (Nat.le_trans hk hce) (Nat.le_trans hn hsl) dg ?_
  · intro j hj
    have h1 : vp_V ((List.range (aw_N ci)).map (fun j => aw_fv (nO S 0 ci) (aw_ty ci j) (64 * ci + j) 0)) j = aw_fv (nO S 0 ci) (aw_ty ci j) (64 * ci + j) 0 := by
      unfold vp_V
      rw [List.getD_eq_getElem?_getD]
      simp [hN, hj]
    rw [h1]
    have h2 : ∀ ty : FieldType, (ty = .float ∨ ty = .double) ∨ defaultValue ty = aw_fv (nO S 0 ci) ty (64 * ci + j) 0 := by
      intro ty
      cases ty <;> first | exact Or.inl (Or.inl rfl) | exact Or.inl (Or.inr rfl) | (right; simp [aw_fv, nO, sI, sR, sJ, va_rf, defaultValue])
    rcases h2 (aw_ty ci j) with h | h
    · exact absurd h (aw_nofd ci hci j)
    · exact h
  · intro a H1 hP1 hD1 hS1
    have hf := aw_fresh (D := D) (cl := vwCl) hD1
    have hp := aw_wpush (cy := cy) (S := S) (S2 := nO S a ci) (a := a) (e := .inr (ci, (List.range (aw_N ci)).map (fun j => aw_fv (nO S 0 ci) (aw_ty ci j) (64 * ci + j) 0))) hf rfl (fun b => by
      by_cases hb2 : b = a
      · subst hb2
        rw [va_up_self]
        unfold aw_F
        have hk2 : sK (nO S b ci) b = ci := va_up_self _ _ _
        rw [hk2, if_pos hci]
        show Sum.inr (ci, _) = Sum.inr (ci, (List.range (aw_N ci)).map (fun j => aw_fv (nO S b ci) (aw_ty ci j) (64 * ci + j) b))
        congr 2
        refine List.map_congr_left (fun j _ => ?_)
        generalize aw_ty ci j = ty
        cases ty <;> simp [aw_fv, nO, sI, sR, sJ]
      · rw [va_up_ne _ _ hb2]
        unfold aw_F
        have hk2 : sK (nO S a ci) b = sK S b := va_up_ne _ _ hb2
        rw [hk2]
        split
        · rw [aw_fs_same (S2 := nO S a ci) (S := S) (fun j => ⟨by simp [nO, sI, hb2], by simp [nO, sR, hb2], by simp [nO, sJ, hb2]⟩)]
        · rfl)
    rw [hp] at hP1 hD1
    exact q a hf H1 locs ls hP1 hD1 hS1 hl
/-- the class numbers of rows are one each: what comes new has that of its kind -/
theorem aw_cyA {D : va_G} {cy : Nat → ClassId} {s : State} {cA : ClassId} {t0 kd : Nat} {ty : FieldType} (hK : va_K D vwCl (aw_tys cy) s) (ht : (aw_tys cy)[t0]? = some (cy kd, ty)) (hK2 : va_K D vwCl (aw_tys cy ++ [(cA, ty)]) s) : cA = cy kd := by
  have h1 := (hK.2 t0 _ ht).2
  have h2 := (hK2.2 (aw_tys cy).length (cA, ty) (by simp)).2
  cases ty with
  | object C =>
    obtain ⟨_, _, _, _, _, h3⟩ := h1
    obtain ⟨_, _, _, _, _, h4⟩ := h2
    exact Option.some.inj (h4.symm.trans h3)
  | _ => exact Option.some.inj (Eq.trans (Eq.symm h2) h1)
theorem aw_Fnew {cy : Nat → ClassId} {S S2 : aw_S} {kd a : Nat} {x : vp_A} (hc : 12 ≤ kd) (hK : sK S2 = va_up (sK S) a kd) (hI : sI S2 = sI S) (hR : sR S2 = sR S) (hJ : sJ S2 = sJ S) (hx : aw_ro S2 kd a = x) (hro : ∀ kd b, ¬ b = a → aw_ro S2 kd b = aw_ro S kd b) (b : Nat) : va_up (aw_F cy S) a (.inl (cy kd, x)) b = aw_F cy S2 b := by
  by_cases hb : b = a
  · subst hb
    rw [va_up_self]
    unfold aw_F
    rw [hK, va_up_self, if_neg (Nat.not_lt.mpr hc), hx]
  · rw [va_up_ne _ _ hb]
    unfold aw_F
    rw [hK, va_up_ne _ _ hb]
    split
    · rw [aw_fs_same (S2 := S2) (S := S) (fun j => ⟨by rw [hI], by rw [hR], by rw [hJ]⟩)]
    · rw [hro _ _ hb]
theorem aw_nAo {S : aw_S} {a kd N : Nat} (k2 b : Nat) (hb : ¬ b = a) : aw_ro (nA S a kd N) k2 b = aw_ro S k2 b := aw_ro_same (va_up_ne _ _ hb) (va_up_ne _ _ hb) (va_up_ne _ _ hb) (va_up_ne _ _ hb)
theorem a_newaB {g : aw_G} {y : MethodName} {cc : ByteArray} {mL : Nat} {ret : Option FieldType} {d mc ms : Nat} (K : aw_K g y cc mL ret d mc ms) {S : aw_S} {k n : Nat} {lv : List (Nat × Value)} {st : List Value} {pc : Nat} {x : Int32} {N : Nat} (hx0 : ¬ x < 0) (hN : x.toNatClampNeg = N) (hb8 : N * 8 ≤ 536870912) (hk : k + 1 ≤ mc) (hn : n + N ≤ ms) (dg : decode cc pc = .ok (.newarray .byte, 2)) (q : ∀ a : Nat, a ∉ sL S → aw g mL (nA S a 12 N) (k + 1) (n + N) lv (.ref a :: st) (pc + 2)) : aw g mL S k n lv (.int x :: st) pc := by
  obtain ⟨p, l, e, R, s, m, args, below, meth, c, D, cy, A, Q⟩ := g
  obtain ⟨hx, hb, hml, hr, hown, hnm, hts, hlk, hK, hA, hE, hfr, hlo, hce, hsl⟩ := K
  intro H locs ls hP hD hS hl
  refine va_newa (atype := .byte) (ty := .byte) (a0 := (N, .inl (fun _ => 0))) hx hb (hts _ ac_byte) rfl hK hP hD hS hA (fun cA => rfl) hx0 hN (Nat.le_trans (Nat.mul_le_mul_left N (by decide)) hb8) (Nat.le_trans hk hce) (Nat.le_trans hn hsl) dg ?_
  intro a cA H1 hK1 hP1 hD1 hS1
  have hcA : cA = cy 12 := aw_cyA (t0 := 0) hK rfl hK1
  subst hcA
  have hf := aw_fresh (D := D) (cl := vwCl) hD1
  have hro : aw_ro (nA S a 12 N) 12 a = (N, .inl (fun _ => 0)) := by simp [aw_ro, nA, sN, sA, sB, va_up]
  have hp := aw_wpush (cy := cy) (S := S) (S2 := nA S a 12 N) (a := a) hf rfl (aw_Fnew (by decide) rfl rfl rfl rfl hro aw_nAo)
  rw [hp] at hP1 hD1
  exact q a hf H1 locs ls hP1 hD1 hS1 hl
theorem a_newaI {g : aw_G} {y : MethodName} {cc : ByteArray} {mL : Nat} {ret : Option FieldType} {d mc ms : Nat} (K : aw_K g y cc mL ret d mc ms) {S : aw_S} {k n : Nat} {lv : List (Nat × Value)} {st : List Value} {pc : Nat} {x : Int32} {N : Nat} (hx0 : ¬ x < 0) (hN : x.toNatClampNeg = N) (hb8 : N * 8 ≤ 536870912) (hk : k + 1 ≤ mc) (hn : n + N ≤ ms) (dg : decode cc pc = .ok (.newarray .int, 2)) (q : ∀ a : Nat, a ∉ sL S → aw g mL (nA S a 13 N) (k + 1) (n + N) lv (.ref a :: st) (pc + 2)) : aw g mL S k n lv (.int x :: st) pc := by
  obtain ⟨p, l, e, R, s, m, args, below, meth, c, D, cy, A, Q⟩ := g
  obtain ⟨hx, hb, hml, hr, hown, hnm, hts, hlk, hK, hA, hE, hfr, hlo, hce, hsl⟩ := K
  intro H locs ls hP hD hS hl
  refine va_newa (atype := .int) (ty := .int) (a0 := (N, .inl (fun _ => 0))) hx hb (hts _ ac_int) rfl hK hP hD hS hA (fun cA => rfl) hx0 hN (Nat.le_trans (Nat.mul_le_mul_left N (by decide)) hb8) (Nat.le_trans hk hce) (Nat.le_trans hn hsl) dg ?_
  intro a cA H1 hK1 hP1 hD1 hS1
  have hcA : cA = cy 13 := aw_cyA (t0 := 1) hK rfl hK1
  subst hcA
  have hf := aw_fresh (D := D) (cl := vwCl) hD1
  have hro : aw_ro (nA S a 13 N) 13 a = (N, .inl (fun _ => 0)) := by simp [aw_ro, nA, sN, sA, sB, va_up]
  have hp := aw_wpush (cy := cy) (S := S) (S2 := nA S a 13 N) (a := a) hf rfl (aw_Fnew (by decide) rfl rfl rfl rfl hro aw_nAo)
  rw [hp] at hP1 hD1
  exact q a hf H1 locs ls hP1 hD1 hS1 hl
theorem a_newaZ {g : aw_G} {y : MethodName} {cc : ByteArray} {mL : Nat} {ret : Option FieldType} {d mc ms : Nat} (K : aw_K g y cc mL ret d mc ms) {S : aw_S} {k n : Nat} {lv : List (Nat × Value)} {st : List Value} {pc : Nat} {x : Int32} {N : Nat} (hx0 : ¬ x < 0) (hN : x.toNatClampNeg = N) (hb8 : N * 8 ≤ 536870912) (hk : k + 1 ≤ mc) (hn : n + N ≤ ms) (dg : decode cc pc = .ok (.newarray .boolean, 2)) (q : ∀ a : Nat, a ∉ sL S → aw g mL (nA S a 14 N) (k + 1) (n + N) lv (.ref a :: st) (pc + 2)) : aw g mL S k n lv (.int x :: st) pc := by
  obtain ⟨p, l, e, R, s, m, args, below, meth, c, D, cy, A, Q⟩ := g
  obtain ⟨hx, hb, hml, hr, hown, hnm, hts, hlk, hK, hA, hE, hfr, hlo, hce, hsl⟩ := K
  intro H locs ls hP hD hS hl
  refine va_newa (atype := .boolean) (ty := .boolean) (a0 := (N, .inl (fun _ => 0))) hx hb (hts _ ac_boolean) rfl hK hP hD hS hA (fun cA => rfl) hx0 hN (Nat.le_trans (Nat.mul_le_mul_left N (by decide)) hb8) (Nat.le_trans hk hce) (Nat.le_trans hn hsl) dg ?_
  intro a cA H1 hK1 hP1 hD1 hS1
  have hcA : cA = cy 14 := aw_cyA (t0 := 2) hK rfl hK1
  subst hcA
  have hf := aw_fresh (D := D) (cl := vwCl) hD1
  have hro : aw_ro (nA S a 14 N) 14 a = (N, .inl (fun _ => 0)) := by simp [aw_ro, nA, sN, sA, sB, va_up]
  have hp := aw_wpush (cy := cy) (S := S) (S2 := nA S a 14 N) (a := a) hf rfl (aw_Fnew (by decide) rfl rfl rfl rfl hro aw_nAo)
  rw [hp] at hP1 hD1
  exact q a hf H1 locs ls hP1 hD1 hS1 hl
theorem a_newaJ {g : aw_G} {y : MethodName} {cc : ByteArray} {mL : Nat} {ret : Option FieldType} {d mc ms : Nat} (K : aw_K g y cc mL ret d mc ms) {S : aw_S} {k n : Nat} {lv : List (Nat × Value)} {st : List Value} {pc : Nat} {x : Int32} {N : Nat} (hx0 : ¬ x < 0) (hN : x.toNatClampNeg = N) (hb8 : N * 8 ≤ 536870912) (hk : k + 1 ≤ mc) (hn : n + N ≤ ms) (dg : decode cc pc = .ok (.newarray .long, 2)) (q : ∀ a : Nat, a ∉ sL S → aw g mL (nA S a 18 N) (k + 1) (n + N) lv (.ref a :: st) (pc + 2)) : aw g mL S k n lv (.int x :: st) pc := by
  obtain ⟨p, l, e, R, s, m, args, below, meth, c, D, cy, A, Q⟩ := g
  obtain ⟨hx, hb, hml, hr, hown, hnm, hts, hlk, hK, hA, hE, hfr, hlo, hce, hsl⟩ := K
  intro H locs ls hP hD hS hl
  refine va_newa (atype := .long) (ty := .long) (a0 := (N, .inr (.inl (fun _ => 0)))) hx hb (hts _ ac_long) rfl hK hP hD hS hA (fun cA => rfl) hx0 hN (Nat.le_trans (Nat.mul_le_mul_left N (by decide)) hb8) (Nat.le_trans hk hce) (Nat.le_trans hn hsl) dg ?_
  intro a cA H1 hK1 hP1 hD1 hS1
  have hcA : cA = cy 18 := aw_cyA (t0 := 6) hK rfl hK1
  subst hcA
  have hf := aw_fresh (D := D) (cl := vwCl) hD1
  have hro : aw_ro (nA S a 18 N) 18 a = (N, .inr (.inl (fun _ => 0))) := by simp [aw_ro, nA, sN, sA, sB, va_up]
  have hp := aw_wpush (cy := cy) (S := S) (S2 := nA S a 18 N) (a := a) hf rfl (aw_Fnew (by decide) rfl rfl rfl rfl hro aw_nAo)
  rw [hp] at hP1 hD1
  exact q a hf H1 locs ls hP1 hD1 hS1 hl
theorem a_newqB {g : aw_G} {y : MethodName} {cc : ByteArray} {mL : Nat} {ret : Option FieldType} {d mc ms : Nat} (K : aw_K g y cc mL ret d mc ms) {S : aw_S} {k n : Nat} {lv : List (Nat × Value)} {st : List Value} {pc : Nat} {idx : Nat} {x : Int32} {N : Nat} (w1 : Cond.classLink y.cls idx RX0 ∈ TT) (hx0 : ¬ x < 0) (hN : x.toNatClampNeg = N) (hb8 : N * 8 ≤ 536870912) (hk : k + 1 ≤ mc) (hn : n + N ≤ ms) (dg : decode cc pc = .ok (.anewarray idx, 3)) (q : ∀ a : Nat, a ∉ sL S → aw g mL (nA S a 15 N) (k + 1) (n + N) lv (.ref a :: st) (pc + 3)) : aw g mL S k n lv (.int x :: st) pc := by
  obtain ⟨p, l, e, R, s, m, args, below, meth, c, D, cy, A, Q⟩ := g
  obtain ⟨hx, hb, hml, hr, hown, hnm, hts, hlk, hK, hA, hE, hfr, hlo, hce, hsl⟩ := K
  intro H locs ls hP hD hS hl
  refine va_newq hx hb hown (hts _ w1) hE.1.2.2.2.2.2.1 hK hP hD hS hA hx0 hN (Nat.le_trans (Nat.mul_le_mul_left N (by decide)) hb8) (Nat.le_trans hk hce) (Nat.le_trans hn hsl) dg ?_
  intro a cA H1 hK1 hP1 hD1 hS1
  have hcA : cA = cy 15 := aw_cyA (t0 := 3) hK rfl hK1
  subst hcA
  have hf := aw_fresh (D := D) (cl := vwCl) hD1
  have hro : aw_ro (nA S a 15 N) 15 a = (N, .inr (.inr (.inr (.inr (fun _ => none))))) := by simp [aw_ro, nA, sN, sQ, va_up]
  have hp := aw_wpush (cy := cy) (S := S) (S2 := nA S a 15 N) (a := a) hf rfl (aw_Fnew (by decide) rfl rfl rfl rfl hro aw_nAo)
  rw [hp] at hP1 hD1
  exact q a hf H1 locs ls hP1 hD1 hS1 hl
theorem a_newqN {g : aw_G} {y : MethodName} {cc : ByteArray} {mL : Nat} {ret : Option FieldType} {d mc ms : Nat} (K : aw_K g y cc mL ret d mc ms) {S : aw_S} {k n : Nat} {lv : List (Nat × Value)} {st : List Value} {pc : Nat} {idx : Nat} {x : Int32} {N : Nat} (w1 : Cond.classLink y.cls idx RX4 ∈ TT) (hx0 : ¬ x < 0) (hN : x.toNatClampNeg = N) (hb8 : N * 8 ≤ 536870912) (hk : k + 1 ≤ mc) (hn : n + N ≤ ms) (dg : decode cc pc = .ok (.anewarray idx, 3)) (q : ∀ a : Nat, a ∉ sL S → aw g mL (nA S a 16 N) (k + 1) (n + N) lv (.ref a :: st) (pc + 3)) : aw g mL S k n lv (.int x :: st) pc := by
  obtain ⟨p, l, e, R, s, m, args, below, meth, c, D, cy, A, Q⟩ := g
  obtain ⟨hx, hb, hml, hr, hown, hnm, hts, hlk, hK, hA, hE, hfr, hlo, hce, hsl⟩ := K
  intro H locs ls hP hD hS hl
  refine va_newq hx hb hown (hts _ w1) hE.1.2.2.2.2.2.2.1 hK hP hD hS hA hx0 hN (Nat.le_trans (Nat.mul_le_mul_left N (by decide)) hb8) (Nat.le_trans hk hce) (Nat.le_trans hn hsl) dg ?_
  intro a cA H1 hK1 hP1 hD1 hS1
  have hcA : cA = cy 16 := aw_cyA (t0 := 4) hK rfl hK1
  subst hcA
  have hf := aw_fresh (D := D) (cl := vwCl) hD1
  have hro : aw_ro (nA S a 16 N) 16 a = (N, .inr (.inr (.inr (.inr (fun _ => none))))) := by simp [aw_ro, nA, sN, sQ, va_up]
  have hp := aw_wpush (cy := cy) (S := S) (S2 := nA S a 16 N) (a := a) hf rfl (aw_Fnew (by decide) rfl rfl rfl rfl hro aw_nAo)
  rw [hp] at hP1 hD1
  exact q a hf H1 locs ls hP1 hD1 hS1 hl
theorem a_newqP {g : aw_G} {y : MethodName} {cc : ByteArray} {mL : Nat} {ret : Option FieldType} {d mc ms : Nat} (K : aw_K g y cc mL ret d mc ms) {S : aw_S} {k n : Nat} {lv : List (Nat × Value)} {st : List Value} {pc : Nat} {idx : Nat} {x : Int32} {N : Nat} (w1 : Cond.classLink y.cls idx RX5 ∈ TT) (hx0 : ¬ x < 0) (hN : x.toNatClampNeg = N) (hb8 : N * 8 ≤ 536870912) (hk : k + 1 ≤ mc) (hn : n + N ≤ ms) (dg : decode cc pc = .ok (.anewarray idx, 3)) (q : ∀ a : Nat, a ∉ sL S → aw g mL (nA S a 17 N) (k + 1) (n + N) lv (.ref a :: st) (pc + 3)) : aw g mL S k n lv (.int x :: st) pc := by
  obtain ⟨p, l, e, R, s, m, args, below, meth, c, D, cy, A, Q⟩ := g
  obtain ⟨hx, hb, hml, hr, hown, hnm, hts, hlk, hK, hA, hE, hfr, hlo, hce, hsl⟩ := K
  intro H locs ls hP hD hS hl
  refine va_newq hx hb hown (hts _ w1) hE.1.2.2.2.2.2.2.2.1 hK hP hD hS hA hx0 hN (Nat.le_trans (Nat.mul_le_mul_left N (by decide)) hb8) (Nat.le_trans hk hce) (Nat.le_trans hn hsl) dg ?_
  intro a cA H1 hK1 hP1 hD1 hS1
  have hcA : cA = cy 17 := aw_cyA (t0 := 5) hK rfl hK1
  subst hcA
  have hf := aw_fresh (D := D) (cl := vwCl) hD1
  have hro : aw_ro (nA S a 17 N) 17 a = (N, .inr (.inr (.inr (.inr (fun _ => none))))) := by simp [aw_ro, nA, sN, sQ, va_up]
  have hp := aw_wpush (cy := cy) (S := S) (S2 := nA S a 17 N) (a := a) hf rfl (aw_Fnew (by decide) rfl rfl rfl rfl hro aw_nAo)
  rw [hp] at hP1 hD1
  exact q a hf H1 locs ls hP1 hD1 hS1 hl
theorem a_objInit {g : aw_G} {y : MethodName} {cc : ByteArray} {mL : Nat} {ret : Option FieldType} {d mc ms : Nat} (K : aw_K g y cc mL ret d mc ms) {S : aw_S} {k n : Nat} {lv : List (Nat × Value)} {st : List Value} {pc : Nat} {a idx : Nat} (w1 : Cond.methodLink y.cls idx Lib.objectInit ∈ TT) (hd : 1 ≤ d) (h8 : (st.map fun v => v.category).sum ≤ 8) (dg : decode cc pc = .ok (.invokespecial idx, 3)) (q : aw g mL S k n lv st (pc + 3)) : aw g mL S k n lv (.ref a :: st) pc := by
  obtain ⟨p, l, e, R, s, m, args, below, meth, c, D, cy, A, Q⟩ := g
  obtain ⟨hx, hb, hml, hr, hown, hnm, hts, hlk, hK, hA, hE, hfr, hlo, hce, hsl⟩ := K
  exact fun H locs ls hP hD hS hl => W.objInit hx hb hown (hts _ w1) (hts _ im_obj) (hts _ co_obj) rfl (hl.1.trans hml.symm) rfl dg (Nat.le_trans hd hfr) (by have := lv_room (pc := pc) (ls := ls) (m := m) (rest := .ref a :: st) h8; omega) (W.eq (g2 := F0 m (pc + 3) ls st) rfl (q H locs ls hP hD hS hl))
theorem a_mmax {g : aw_G} {y : MethodName} {cc : ByteArray} {mL : Nat} {ret : Option FieldType} {d mc ms : Nat} (K : aw_K g y cc mL ret d mc ms) {S : aw_S} {k n : Nat} {lv : List (Nat × Value)} {st : List Value} {pc : Nat} {idx : Nat} {x z : Int32} (w1 : Cond.methodLink y.cls idx Lib.Math.max.name ∈ TT) (hd : 1 ≤ d) (h8 : (st.map fun v => v.category).sum ≤ 8) (hk : k ≤ mc) (hn : n ≤ ms) (dg : decode cc pc = .ok (.invokestatic idx, 3)) (q : aw g mL S k n lv (.int (if x < z then z else x) :: st) (pc + 3)) : aw g mL S k n lv (.int z :: .int x :: st) pc := by
  obtain ⟨p, l, e, R, s, m, args, below, meth, c, D, cy, A, Q⟩ := g
  obtain ⟨hx, hb, hml, hr, hown, hnm, hts, hlk, hK, hA, hE, hfr, hlo, hce, hsl⟩ := K
  exact fun H locs ls hP hD hS hl => va_mmax hx hb (hml.trans hl.1.symm) hown (hts _ w1) (hts _ st_math_max) (hts _ ini_math) (hts _ co_math_max) (Nat.le_trans hd hfr) (by omega) (Nat.le_trans hk hce) (Nat.le_trans hn hsl) dg (q H locs ls hP hD hS hl)
theorem a_mmin {g : aw_G} {y : MethodName} {cc : ByteArray} {mL : Nat} {ret : Option FieldType} {d mc ms : Nat} (K : aw_K g y cc mL ret d mc ms) {S : aw_S} {k n : Nat} {lv : List (Nat × Value)} {st : List Value} {pc : Nat} {idx : Nat} {x z : Int32} (w1 : Cond.methodLink y.cls idx Lib.Math.min.name ∈ TT) (hd : 1 ≤ d) (h8 : (st.map fun v => v.category).sum ≤ 8) (hk : k ≤ mc) (hn : n ≤ ms) (dg : decode cc pc = .ok (.invokestatic idx, 3)) (q : aw g mL S k n lv (.int (if z < x then z else x) :: st) (pc + 3)) : aw g mL S k n lv (.int z :: .int x :: st) pc := by
  obtain ⟨p, l, e, R, s, m, args, below, meth, c, D, cy, A, Q⟩ := g
  obtain ⟨hx, hb, hml, hr, hown, hnm, hts, hlk, hK, hA, hE, hfr, hlo, hce, hsl⟩ := K
  exact fun H locs ls hP hD hS hl => va_mmin hx hb (hml.trans hl.1.symm) hown (hts _ w1) (hts _ st_math_min) (hts _ ini_math) (hts _ co_math_min) (Nat.le_trans hd hfr) (by omega) (Nat.le_trans hk hce) (Nat.le_trans hn hsl) dg (q H locs ls hP hD hS hl)
/-- a contract's end: the answer, the heap behind -/
def aw_Qc (post : Option Value → aw_S → Prop) (cy : Nat → ClassId) (D : va_G) (A : Nat → Prop) : Array Value → State → Outcome → State → Prop := fun _ st o t => (∃ (r : Option Value) (S2 : aw_S), o = .returned r ∧ post r S2 ∧ va_P D vwCl (aw_W cy S2) t.heap ∧ va_K D vwCl (aw_tys cy) t ∧ va_D A (aw_W cy S2)) ∧ va_F A st t
def aw_rm (d mc ms : Nat) : Room := { frames := d, cells := mc, slots := ms, locals := 48 * d }
def aw_Pc (cy : Nat → ClassId) (D : va_G) (sz : Nat) (S : aw_S) : State → Prop := fun U => U.heap.size = sz ∧ va_P D vwCl (aw_W cy S) U.heap ∧ va_K D vwCl (aw_tys cy) U ∧ va_D (fun _ => True) (aw_W cy S) ∧ aw_env (va_A (aw_W cy S) sz) U U.heap
/-- A CONTRACT: from the heap S, with the arguments av, method y answers r and leaves S2, with 'post r S2'; depth d, at most mc cells of ms places are new -/
def aw_M (y : MethodName) (cc : ByteArray) (mL : Nat) (ret : Option FieldType) (d mc ms : Nat) (av : List Value) (S : aw_S) (post : Option Value → aw_S → Prop) : Prop := ∀ (l : Launch) (D : va_G) (cy : Nat → ClassId) (sz : Nat), Met l y (Cond.code y cc mL ret :: TT) (aw_rm d mc ms) (va_Pc av (aw_Pc cy D sz S)) (aw_Qc post cy D (va_A (aw_W cy S) sz)) mc ms (va_A (aw_W cy S) sz)
def aw_end (g : aw_G) (mc ms : Nat) (post : Option Value → aw_S → Prop) : Prop := match g with
  | (_, _, _, _, s, _, args, below, _, _, D, cy, A, Q) => Q = MQ below (aw_Qc post cy D A) args s mc ms A
theorem aw_enter {y : MethodName} {cc : ByteArray} {mL : Nat} {ret : Option FieldType} {d mc ms : Nat} {av : List Value} {S : aw_S} {post : Option Value → aw_S → Prop} (hpn : plainName y.cls = true) (hlen : (lg_sl av).length ≤ mL) (body : ∀ g : aw_G, aw_K g y cc mL ret d mc ms → aw_end g mc ms post → aw g mL S 0 0 (lv_args 0 av) [] 0) : aw_M y cc mL ret d mc ms av S post := by
  intro l D cy sz
  refine Met.ofW (cc := cc) (maxL := mL) (ret := ret) hpn rfl ?_
  intro p e s m args below meth c s₁ B hml hv
  obtain ⟨rfl, hsz, hP, hK, hD0, hE⟩ := hv
  subst hsz
  have hts0 := atoms_spec (ws := Cond.code y cc mL ret :: TT) B.pre
  have hown : s.vm.findClass y.cls = some m.cls := findClass_of_methodNamed B.named
  have hD := hD0.self (sz := s.heap.size)
  have hA : ∀ q : Nat, s.heap.size ≤ q → va_A (aw_W cy S) s.heap.size q := fun q h => Or.inr h
  have hb := body (p, l, e, aw_rm d mc ms, s, m, av.toArray, below, meth, c, D, cy, va_A (aw_W cy S) s.heap.size, MQ below (aw_Qc post cy D (va_A (aw_W cy S) s.heap.size)) av.toArray s mc ms (va_A (aw_W cy S) s.heap.size))
    ⟨B.exec, B.bytes, hml, B.returns, hown, (name_of_methodNamed B.named B.method).1, fun w hw => hts0 w (List.mem_cons_of_mem _ hw), B.notSynchronized, hK, hA, hE, Nat.le_refl _, Nat.le_refl _, Nat.le_refl _, Nat.le_refl _⟩ rfl
  have hl := lv_entry av (n := mL) hlen
  rw [lg_entry_eq]
  exact hb s.heap [] _ hP hD va_S.rf hl
theorem a_iret {g : aw_G} {y : MethodName} {cc : ByteArray} {mL : Nat} {d mc ms : Nat} {ty : FieldType} (K : aw_K g y cc mL (some ty) d mc ms) {post : Option Value → aw_S → Prop} (E : aw_end g mc ms post) {S : aw_S} {k n : Nat} {lv : List (Nat × Value)} {pc : Nat} {v : Int32} (hn : narrow ty (.int v) = .int v) (hk : k ≤ mc) (hm : n ≤ ms) (dg : decode cc pc = .ok (.ireturn, 1)) (h : post (some (.int v)) S) : aw g mL S k n lv [.int v] pc := by
  obtain ⟨p, l, e, R, s, m, args, below, meth, c, D, cy, A, Q⟩ := g
  obtain ⟨hx, hb, hml, hr, hown, hnm, hts, hlk, hK, hA, hE, hfr, hlo, hce, hsl⟩ := K
  cases E
  exact fun H locs ls hP hD hS hl => W.widen hk hm (W.zret hx hb hr hn (fun t ht hW => ⟨⟨some (.int v), S, rfl, h, by rw [ht]; exact hP, va_K.moved hW.alike hK, hD⟩, hS.F ht⟩) hS.2.2 dg hlk)
theorem a_lret {g : aw_G} {y : MethodName} {cc : ByteArray} {mL : Nat} {d mc ms : Nat} (K : aw_K g y cc mL (some .long) d mc ms) {post : Option Value → aw_S → Prop} (E : aw_end g mc ms post) {S : aw_S} {k n : Nat} {lv : List (Nat × Value)} {pc : Nat} {v : Int64} (hk : k ≤ mc) (hm : n ≤ ms) (dg : decode cc pc = .ok (.lreturn, 1)) (h : post (some (.long v)) S) : aw g mL S k n lv [.long v] pc := by
  obtain ⟨p, l, e, R, s, m, args, below, meth, c, D, cy, A, Q⟩ := g
  obtain ⟨hx, hb, hml, hr, hown, hnm, hts, hlk, hK, hA, hE, hfr, hlo, hce, hsl⟩ := K
  cases E
  exact fun H locs ls hP hD hS hl => W.widen hk hm (W.lret hx hb hr (fun t ht hW => ⟨⟨some (.long v), S, rfl, h, by rw [ht]; exact hP, va_K.moved hW.alike hK, hD⟩, hS.F ht⟩) hS.2.2 dg hlk)
theorem a_aret {g : aw_G} {y : MethodName} {cc : ByteArray} {mL : Nat} {d mc ms : Nat} {ty : FieldType} (K : aw_K g y cc mL (some ty) d mc ms) {post : Option Value → aw_S → Prop} (E : aw_end g mc ms post) {S : aw_S} {k n : Nat} {lv : List (Nat × Value)} {pc : Nat} {v : Value} (ht : (∃ C, ty = .object C) ∨ ∃ t, ty = .array t) (hv : v = .null ∨ ∃ a, v = .ref a) (hk : k ≤ mc) (hm : n ≤ ms) (dg : decode cc pc = .ok (.areturn, 1)) (h : post (some v) S) : aw g mL S k n lv [v] pc := by
  obtain ⟨p, l, e, R, s, m, args, below, meth, c, D, cy, A, Q⟩ := g
  obtain ⟨hx, hb, hml, hr, hown, hnm, hts, hlk, hK, hA, hE, hfr, hlo, hce, hsl⟩ := K
  cases E
  exact fun H locs ls hP hD hS hl => W.widen hk hm (W.aret hx hb hr ht hv (fun t ht hW => ⟨⟨some v, S, rfl, h, by rw [ht]; exact hP, va_K.moved hW.alike hK, hD⟩, hS.F ht⟩) hS.2.2 dg hlk)
theorem a_vret {g : aw_G} {y : MethodName} {cc : ByteArray} {mL : Nat} {d mc ms : Nat} (K : aw_K g y cc mL none d mc ms) {post : Option Value → aw_S → Prop} (E : aw_end g mc ms post) {S : aw_S} {k n : Nat} {lv : List (Nat × Value)} {pc : Nat} (hk : k ≤ mc) (hm : n ≤ ms) (dg : decode cc pc = .ok (.return_, 1)) (h : post none S) : aw g mL S k n lv [] pc := by
  obtain ⟨p, l, e, R, s, m, args, below, meth, c, D, cy, A, Q⟩ := g
  obtain ⟨hx, hb, hml, hr, hown, hnm, hts, hlk, hK, hA, hE, hfr, hlo, hce, hsl⟩ := K
  cases E
  exact fun H locs ls hP hD hS hl => W.widen hk hm (W.vret hx hb hr (fun t ht hW => ⟨⟨none, S, rfl, h, by rw [ht]; exact hP, va_K.moved hW.alike hK, hD⟩, hS.F ht⟩) hS.2.2 dg hlk)
/-- a method of the tables: its code, arguments -/
def aw_Y (y : MethodName) (cc : ByteArray) (mL : Nat) (ret : Option FieldType) (na : Nat) : Prop := Cond.code y cc mL ret ∈ TT ∧ Cond.initialized y.cls ∈ TT ∧ (y.cls ≠ "java/lang/invoke/MethodHandle" ∧ y.cls ≠ "java/lang/invoke/VarHandle" ∧ (parseMethodDescriptor y.desc).map (fun d => d.parameters.length) = some na) ∧ mL ≤ 29
theorem aw_blind {cy : Nat → ClassId} {D : va_G} {sz : Nat} {S : aw_S} {av : List Value} : FrameBlind (va_Pc av (aw_Pc cy D sz S)) := fun a U g mk h => by
  obtain ⟨q0, q1, qP, qK, qD, qE⟩ := h
  exact ⟨q0, q1, qP, va_K.moved (u := U) (U := U.calling g mk a) (Vm.Alike.refl U.vm) qK, qD, aw_env_same rfl qE⟩
theorem aw_goodIn {y : MethodName} {cc : ByteArray} {mL : Nat} {ret : Option FieldType} {na : Nat} (Y : aw_Y y cc mL ret na) : GoodIn TT (Cond.code y cc mL ret :: TT) := by
  intro w hw
  have h : w ∈ TT := by
    rcases List.mem_cons.mp hw with h | h
    · rw [h]; exact Y.1
    · exact h
  exact ⟨h, tt_good w h⟩
theorem aw_pre {p : Program} {s : State} {cy : Nat → ClassId} {D : va_G} {S : aw_S} {A : Nat → Prop} {H : Heap} {locs : List Loc} {av : List Value} (hK : va_K D vwCl (aw_tys cy) s) (hE : aw_env A s s.heap) (hA : ∀ q : Nat, s.heap.size ≤ q → A q) (hP : va_P D vwCl (aw_W cy S) H) (hD : va_D A (aw_W cy S)) (hS : va_S A s.heap H locs) : (∀ q, va_A (aw_W cy S) H.size q → A q) ∧ ∀ U : State, U.heap = H → s.WarmedH U.vm → va_Pc av (aw_Pc cy D H.size S) av.toArray U := by
  have hF : ∀ q, va_A (aw_W cy S) H.size q → A q := fun q h => by
    rcases h with ⟨k, e, h⟩ | h
    · exact hD.2 k (q, e) h
    · exact hA q (Nat.le_trans hS.1 h)
  exact ⟨hF, fun U hU hW => ⟨rfl, by rw [hU], by rw [hU]; exact hP, va_K.moved hW.alike hK, hD.weaken (fun _ _ _ _ => trivial), by
    rw [hU]
    exact aw_env_moved hW hS.2.1 hF hE⟩⟩
/-- behind a call -/
theorem aw_back {g : aw_G} {y : MethodName} {cc : ByteArray} {mL : Nat} {ret : Option FieldType} {d mc ms : Nat} (K : aw_K g y cc mL ret d mc ms) {S : aw_S} {k n mc2 ms2 : Nat} {lv : List (Nat × Value)} {st st0 : List Value} {pc : Nat} {post : Option Value → aw_S → Prop} {a : Array Value}
    (hr : match g with | (p, l, e, R, s, m, args, below, meth, c, D, cy, A, _) => ∀ (H : Heap) (locs : List Loc) (ls : Array Slot), va_P D vwCl (aw_W cy S) H → va_D A (aw_W cy S) → va_S A s.heap H locs → lv_has ls mL lv → va_Run p l e R s m args below meth c H locs k n mc2 ms2 (F0 m pc ls st0) st (aw_Qc post cy D (va_A (aw_W cy S) H.size) a) (va_A (aw_W cy S) H.size))
    (q : ∀ (r : Option Value) (S2 : aw_S), post r S2 → aw g mL S2 (k + mc2) (n + ms2) lv (r.toList ++ st) (pc + 3)) : aw g mL S k n lv st0 pc := by
  obtain ⟨p, l, e, R, s, m, args, below, meth, c, D, cy, A, Q⟩ := g
  obtain ⟨hx, hb, hml, hrr, hown, hnm, hts, hlk, hK, hA, hE, hfr, hlo, hce, hsl⟩ := K
  intro H locs ls hP hD hS hl T hT X
  have hF := (aw_pre (p := p) (av := []) hK hE hA hP hD hS).1
  obtain ⟨v, st₀, t, T', L, h0, X', hL, e1, e2, ⟨⟨r, S2, hv, hp, hP1, hK1, hD1⟩, hz, hk⟩, stp⟩ := hr H locs ls hP hD hS hl T hT X
  cases hv
  rw [h0] at hz hk
  have hS2 : va_S A s.heap T'.heap (locs ++ L) := ⟨Nat.le_trans hS.1 (by rw [e1]; exact hz), fun q h1 h2 => by
    rw [e1, hk q (Nat.lt_of_lt_of_le h1 hS.1) (fun z => h2 (hF q z))]
    exact hS.2.1 q h1 h2, fun q hq => by
      rcases List.mem_append.mp hq with h | h
      · exact hS.2.2 q h
      · exact hF _ (hL q h)⟩
  obtain ⟨t2, a1, b1⟩ := q _ S2 hp T'.heap (locs ++ L) ls (by rw [e1]; exact hP1) (hD1.weaken (fun k q _ h => hF q.1 h)) hS2 hl T' rfl X'
  exact ⟨t2, stp t2 a1, b1⟩
theorem a_invV {g : aw_G} {y : MethodName} {cc : ByteArray} {mL : Nat} {ret : Option FieldType} {d mc ms : Nat} (K : aw_K g y cc mL ret d mc ms) {S : aw_S} {k n : Nat} {lv : List (Nat × Value)} {st stk : List Value} {pc : Nat} {y2 : MethodName} {cc2 : ByteArray} {mL2 : Nat} {ret2 : Option FieldType} {d2 mc2 ms2 ci idx na b : Nat} {av : List Value} {post : Option Value → aw_S → Prop}
    (M : aw_M y2 cc2 mL2 ret2 d2 mc2 ms2 (.ref b :: av) S post) (Y : aw_Y y2 cc2 mL2 ret2 na) (w1 : Cond.methodLink y.cls idx y2 ∈ TT) (w2 : Cond.instanceMethod y2 ∈ TT) (w3 : Cond.selects y2.cls y2 y2 ∈ TT) (o : aw_is S b ci) (hci : ci < 12) (hc : ∃ T N, vwCl[ci]? = some (y2.cls, T, N)) (ha : av.length = na) (hd : d2 + 1 ≤ d) (hk : k + mc2 ≤ mc) (hn : n + ms2 ≤ ms) (hs : stk = av.reverse ++ .ref b :: st) (h8 : (st.map fun v => v.category).sum ≤ 8) (dg : decode cc pc = .ok (.invokevirtual idx, 3))
    (q : ∀ (r : Option Value) (S2 : aw_S), post r S2 → aw g mL S2 (k + mc2) (n + ms2) lv (r.toList ++ st) (pc + 3)) : aw g mL S k n lv stk pc := by
  subst hs
  refine aw_back K (mc2 := mc2) (ms2 := ms2) (st := st) (post := post) (a := (.ref b :: av : List Value).toArray) ?_ q
  obtain ⟨p, l, e, R, s, m, args, below, meth, c, D, cy, A, Q⟩ := g
  obtain ⟨hx, hb, hml, hrr, hown, hnm, hts, hlk, hK, hA, hE, hfr, hlo, hce, hsl⟩ := K
  intro H locs ls hP hD hS hl
  obtain ⟨T0, N0, hcl⟩ := hc
  obtain ⟨q0, -, he⟩ := aw_at (cy := cy) o hci
  have hp := aw_pre (p := p) (av := .ref b :: av) hK hE hA hP hD hS
  exact va_runV (As := av) (rest := st) (nL := mL) (Ts := TT) ⟨hx, hb, hml, hown, hts⟩ (M l D cy H.size) (cwV na hts (fun w hw => by
      have h1 : w ∈ TT := by
        rcases List.mem_append.mp hw with h | h
        · simp only [List.mem_cons, List.mem_nil_iff, or_false] at h
          rcases h with rfl | rfl | rfl | rfl
          · exact w1
          · exact w2
          · exact w3
          · exact Y.2.1
        · exact (aw_goodIn Y w h).1
      exact ⟨h1, tt_good w h1⟩) rfl rfl rfl ⟨rfl, Y.2.2.1⟩ ⟨Nat.le_trans hd hfr, by show 8 + (mL2 + 11) + 48 * d2 ≤ R.locals; have := Y.2.2.2; omega⟩) ⟨aw_blind, va_recv hK hP hcl he, hp.2⟩ rfl ha hl.1 rfl (lv_room h8) dg ⟨Nat.le_trans hk hce, Nat.le_trans hn hsl⟩
theorem a_invS {g : aw_G} {y : MethodName} {cc : ByteArray} {mL : Nat} {ret : Option FieldType} {d mc ms : Nat} (K : aw_K g y cc mL ret d mc ms) {S : aw_S} {k n : Nat} {lv : List (Nat × Value)} {st stk : List Value} {pc : Nat} {y2 : MethodName} {cc2 : ByteArray} {mL2 : Nat} {ret2 : Option FieldType} {d2 mc2 ms2 idx na : Nat} {av : List Value} {post : Option Value → aw_S → Prop}
    (M : aw_M y2 cc2 mL2 ret2 d2 mc2 ms2 av S post) (Y : aw_Y y2 cc2 mL2 ret2 na) (w1 : Cond.methodLink y.cls idx y2 ∈ TT) (w2 : Cond.static y2 ∈ TT) (ha : av.length = na) (hd : d2 + 1 ≤ d) (hk : k + mc2 ≤ mc) (hn : n + ms2 ≤ ms) (hs : stk = av.reverse ++ st) (h8 : (st.map fun v => v.category).sum ≤ 8) (dg : decode cc pc = .ok (.invokestatic idx, 3))
    (q : ∀ (r : Option Value) (S2 : aw_S), post r S2 → aw g mL S2 (k + mc2) (n + ms2) lv (r.toList ++ st) (pc + 3)) : aw g mL S k n lv stk pc := by
  subst hs
  refine aw_back K (mc2 := mc2) (ms2 := ms2) (st := st) (post := post) (a := av.toArray) ?_ q
  obtain ⟨p, l, e, R, s, m, args, below, meth, c, D, cy, A, Q⟩ := g
  obtain ⟨hx, hb, hml, hrr, hown, hnm, hts, hlk, hK, hA, hE, hfr, hlo, hce, hsl⟩ := K
  intro H locs ls hP hD hS hl
  have hp := aw_pre (p := p) (av := av) hK hE hA hP hD hS
  have hcb := callB_of (R := R) (mc := mc2) (ms := ms2) (rm := aw_rm d2 mc2 ms2) na hts (aw_goodIn Y) rfl rfl rfl (hts _ Y.2.1) (hts _ w1) Y.2.2.1 ⟨Nat.le_trans hd hfr, by show 8 + (mL2 + 11) + 48 * d2 ≤ R.locals; have := Y.2.2.2; omega⟩
  exact va_runS (As := av) (rest := st) (nL := mL) (Ts := TT) ⟨hx, hb, hml, hown, hts⟩ (M l D cy H.size) ⟨hcb, hts _ w2⟩ ⟨aw_blind, hp.2⟩ rfl ha hl.1 rfl (lv_room h8) dg ⟨Nat.le_trans hk hce, Nat.le_trans hn hsl⟩
theorem a_invI {g : aw_G} {y : MethodName} {cc : ByteArray} {mL : Nat} {ret : Option FieldType} {d mc ms : Nat} (K : aw_K g y cc mL ret d mc ms) {S : aw_S} {k n : Nat} {lv : List (Nat × Value)} {st stk : List Value} {pc : Nat} {y2 : MethodName} {cc2 : ByteArray} {mL2 : Nat} {d2 mc2 ms2 idx na b : Nat} {av : List Value} {post : Option Value → aw_S → Prop}
    (M : aw_M y2 cc2 mL2 none d2 mc2 ms2 (.ref b :: av) S post) (Y : aw_Y y2 cc2 mL2 none na) (hy : y2.name = "<init>") (w1 : Cond.methodLink y.cls idx y2 ∈ TT) (w2 : Cond.instanceMethod y2 ∈ TT) (ha : av.length = na) (hd : d2 + 1 ≤ d) (hk : k + mc2 ≤ mc) (hn : n + ms2 ≤ ms) (hs : stk = av.reverse ++ .ref b :: st) (h8 : (st.map fun v => v.category).sum ≤ 8) (dg : decode cc pc = .ok (.invokespecial idx, 3))
    (q : ∀ (r : Option Value) (S2 : aw_S), post r S2 → aw g mL S2 (k + mc2) (n + ms2) lv (r.toList ++ st) (pc + 3)) : aw g mL S k n lv stk pc := by
  subst hs
  refine aw_back K (mc2 := mc2) (ms2 := ms2) (st := st) (post := post) (a := (.ref b :: av : List Value).toArray) ?_ q
  obtain ⟨p, l, e, R, s, m, args, below, meth, c, D, cy, A, Q⟩ := g
  obtain ⟨hx, hb, hml, hrr, hown, hnm, hts, hlk, hK, hA, hE, hfr, hlo, hce, hsl⟩ := K
  intro H locs ls hP hD hS hl
  have hp := aw_pre (p := p) (av := .ref b :: av) hK hE hA hP hD hS
  exact va_runI (As := av) (rest := st) (nL := mL) (Ts := TT) ⟨hx, hb, hml, hown, hts⟩ (M l D cy H.size) (cwI na hts (aw_goodIn Y) rfl rfl rfl (hts _ Y.2.1) (hts _ w1) (hts _ w2) hy Y.2.2.1 ⟨Nat.le_trans hd hfr, by show 8 + (mL2 + 11) + 48 * d2 ≤ R.locals; have := Y.2.2.2; omega⟩) ⟨aw_blind, hp.2⟩ rfl ha hl.1 rfl (lv_room h8) dg ⟨Nat.le_trans hk hce, Nat.le_trans hn hsl⟩
/-- a contract says less -/
theorem aw_M.post {y : MethodName} {cc : ByteArray} {mL : Nat} {ret : Option FieldType} {d mc ms : Nat} {av : List Value} {S : aw_S} {p1 p2 : Option Value → aw_S → Prop} (M : aw_M y cc mL ret d mc ms av S p1) (h : ∀ r S2, p1 r S2 → p2 r S2) : aw_M y cc mL ret d mc ms av S p2 := by
  intro l D cy sz p e ha hc hk s m args below hf happ hP hK
  obtain ⟨n, o, h1, h2, h3, ⟨⟨r, S2, q1, q2, q3⟩, q4⟩, q5⟩ := M l D cy sz p e ha hc hk s m args below hf happ hP hK
  exact ⟨n, o, h1, h2, h3, ⟨⟨r, S2, q1, h r S2 q2, q3⟩, q4⟩, q5⟩
