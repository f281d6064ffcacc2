section ZR
variable {ι : zE} {M : zMR} {X : zX} {n : Nat} {ps : List Nat} {pc npc : Nat} {lv : List (Option zV)} {st : List zV} {mem : zM}
theorem z_iconst {v : Int32} {j : Int} (hX : zG ι M X n ps) (hd : zD M.2.1 pc (.iconst j) 1 npc) (hv : Int32.ofInt j = v) (k : zW ι M X npc lv (zI v :: st) mem) : zW ι M X pc lv (st) mem := by
  obtain ⟨p, l, e, R, s, m, args, below, meth, c, A, cells, slots, Q⟩ := X
  obtain ⟨hd, rfl⟩ := hd
  intro H locs ls hP hS hl
  exact lv_iconst hX.1 hX.2.1 hd hv (k H locs ls hP hS hl)
theorem z_bipush {v : Int32} {j : Int} (hX : zG ι M X n ps) (hd : zD M.2.1 pc (.bipush j) 2 npc) (hv : (Int8.ofInt j).toInt32 = v) (k : zW ι M X npc lv (zI v :: st) mem) : zW ι M X pc lv (st) mem := by
  obtain ⟨p, l, e, R, s, m, args, below, meth, c, A, cells, slots, Q⟩ := X
  obtain ⟨hd, rfl⟩ := hd
  intro H locs ls hP hS hl
  exact lv_bipush hX.1 hX.2.1 hd hv (k H locs ls hP hS hl)
theorem z_sipush {v : Int32} {j : Int} (hX : zG ι M X n ps) (hd : zD M.2.1 pc (.sipush j) 3 npc) (hv : (Int16.ofInt j).toInt32 = v) (k : zW ι M X npc lv (zI v :: st) mem) : zW ι M X pc lv (st) mem := by
  obtain ⟨p, l, e, R, s, m, args, below, meth, c, A, cells, slots, Q⟩ := X
  obtain ⟨hd, rfl⟩ := hd
  intro H locs ls hP hS hl
  exact lv_sipush hX.1 hX.2.1 hd hv (k H locs ls hP hS hl)
theorem z_lconst {v : Int64} {j : Fin 2} (hX : zG ι M X n ps) (hd : zD M.2.1 pc (.lconst j) 1 npc) (hv : Int64.ofNat (j : Nat) = v) (k : zW ι M X npc lv (zJ v :: st) mem) : zW ι M X pc lv (st) mem := by
  obtain ⟨p, l, e, R, s, m, args, below, meth, c, A, cells, slots, Q⟩ := X
  obtain ⟨hd, rfl⟩ := hd
  intro H locs ls hP hS hl
  exact lv_lconst hX.1 hX.2.1 hd hv (k H locs ls hP hS hl)
theorem z_ldc {v : Int32} {j : Nat} (hX : zG ι M X n ps) (hd : zD M.2.1 pc (.ldc j) 2 npc) (hv : Cond.constant M.1.cls j v ∈ zTS) (k : zW ι M X npc lv (zI v :: st) mem) : zW ι M X pc lv (st) mem := by
  obtain ⟨p, l, e, R, s, m, args, below, meth, c, A, cells, slots, Q⟩ := X
  obtain ⟨hd, rfl⟩ := hd
  intro H locs ls hP hS hl
  exact lv_ldc hX.1 hX.2.1 hX.2.2.2.1 (hX.2.2.2.2.1 _ hv) hd (k H locs ls hP hS hl)
theorem z_ldcw {v : Int32} {j : Nat} (hX : zG ι M X n ps) (hd : zD M.2.1 pc (.ldc_w j) 3 npc) (hv : Cond.constant M.1.cls j v ∈ zTS) (k : zW ι M X npc lv (zI v :: st) mem) : zW ι M X pc lv (st) mem := by
  obtain ⟨p, l, e, R, s, m, args, below, meth, c, A, cells, slots, Q⟩ := X
  obtain ⟨hd, rfl⟩ := hd
  intro H locs ls hP hS hl
  exact lv_ldcw hX.1 hX.2.1 hX.2.2.2.1 (hX.2.2.2.2.1 _ hv) hd (k H locs ls hP hS hl)
theorem z_ldc2 {v : Int64} {j : Nat} (hX : zG ι M X n ps) (hd : zD M.2.1 pc (.ldc2_w j) 3 npc) (hv : Cond.constantLong M.1.cls j v ∈ zTS) (k : zW ι M X npc lv (zJ v :: st) mem) : zW ι M X pc lv (st) mem := by
  obtain ⟨p, l, e, R, s, m, args, below, meth, c, A, cells, slots, Q⟩ := X
  obtain ⟨hd, rfl⟩ := hd
  intro H locs ls hP hS hl
  exact lv_ldc2 hX.1 hX.2.1 hX.2.2.2.1 (hX.2.2.2.2.1 _ hv) hd (k H locs ls hP hS hl)
theorem z_iload_n {x : Int32} {j : Fin 4} (hX : zG ι M X n ps) (hd : zD M.2.1 pc (.iload_n j) 1 npc) (hv : lv[(j : Nat)]? = some (some (zI x))) (k : zW ι M X npc lv (zI x :: st) mem) : zW ι M X pc lv (st) mem := by
  obtain ⟨p, l, e, R, s, m, args, below, meth, c, A, cells, slots, Q⟩ := X
  obtain ⟨hd, rfl⟩ := hd
  intro H locs ls hP hS hl
  exact lv_iload_n hX.1 hX.2.1 hd rfl (z_lget hl hv) (k H locs ls hP hS hl)
theorem z_iload {x : Int32} {j : Nat} (hX : zG ι M X n ps) (hd : zD M.2.1 pc (.iload j) 2 npc) (hv : lv[j]? = some (some (zI x))) (k : zW ι M X npc lv (zI x :: st) mem) : zW ι M X pc lv (st) mem := by
  obtain ⟨p, l, e, R, s, m, args, below, meth, c, A, cells, slots, Q⟩ := X
  obtain ⟨hd, rfl⟩ := hd
  intro H locs ls hP hS hl
  exact lv_iload hX.1 hX.2.1 hd (z_lget hl hv) (k H locs ls hP hS hl)
theorem z_lload_n {x : Int64} {j : Fin 4} (hX : zG ι M X n ps) (hd : zD M.2.1 pc (.lload_n j) 1 npc) (hv : lv[(j : Nat)]? = some (some (zJ x))) (k : zW ι M X npc lv (zJ x :: st) mem) : zW ι M X pc lv (st) mem := by
  obtain ⟨p, l, e, R, s, m, args, below, meth, c, A, cells, slots, Q⟩ := X
  obtain ⟨hd, rfl⟩ := hd
  intro H locs ls hP hS hl
  exact lv_lload_n hX.1 hX.2.1 hd rfl (z_lget hl hv) (k H locs ls hP hS hl)
theorem z_lload {x : Int64} {j : Nat} (hX : zG ι M X n ps) (hd : zD M.2.1 pc (.lload j) 2 npc) (hv : lv[j]? = some (some (zJ x))) (k : zW ι M X npc lv (zJ x :: st) mem) : zW ι M X pc lv (st) mem := by
  obtain ⟨p, l, e, R, s, m, args, below, meth, c, A, cells, slots, Q⟩ := X
  obtain ⟨hd, rfl⟩ := hd
  intro H locs ls hP hS hl
  exact lv_lload hX.1 hX.2.1 hd (z_lget hl hv) (k H locs ls hP hS hl)
theorem z_aload_n {q i : Nat} {j : Fin 4} (hX : zG ι M X n ps) (hd : zD M.2.1 pc (.aload_n j) 1 npc) (hv : lv[(j : Nat)]? = some (some (zP q i))) (k : zW ι M X npc lv (zP q i :: st) mem) : zW ι M X pc lv (st) mem := by
  obtain ⟨p, l, e, R, s, m, args, below, meth, c, A, cells, slots, Q⟩ := X
  obtain ⟨hd, rfl⟩ := hd
  intro H locs ls hP hS hl
  exact lv_aload_n hX.1 hX.2.1 hd rfl (z_lget hl hv) (k H locs ls hP hS hl)
theorem z_aload {q i : Nat} {j : Nat} (hX : zG ι M X n ps) (hd : zD M.2.1 pc (.aload j) 2 npc) (hv : lv[j]? = some (some (zP q i))) (k : zW ι M X npc lv (zP q i :: st) mem) : zW ι M X pc lv (st) mem := by
  obtain ⟨p, l, e, R, s, m, args, below, meth, c, A, cells, slots, Q⟩ := X
  obtain ⟨hd, rfl⟩ := hd
  intro H locs ls hP hS hl
  exact lv_aload hX.1 hX.2.1 hd (z_lget hl hv) (k H locs ls hP hS hl)
theorem z_istore_n {x : Int32} {j : Fin 4} (hX : zG ι M X n ps) (hd : zD M.2.1 pc (.istore_n j) 1 npc) (hn : (j : Nat) < M.2.2.1) (hj : z_isJ (lv[(j : Nat) - 1]?) = false) (k : zW ι M X npc (lv.set (j : Nat) (some (zI x))) (st) mem) : zW ι M X pc lv (zI x :: st) mem := by
  obtain ⟨p, l, e, R, s, m, args, below, meth, c, A, cells, slots, Q⟩ := X
  obtain ⟨hd, rfl⟩ := hd
  intro H locs ls hP hS hl
  exact lv_istore_n hX.1 hX.2.1 hd rfl hl hn rfl (fun ls2 hl2 => k H locs ls2 hP hS (z_st1 (u := zI x) hj hl2))
theorem z_istore {x : Int32} {j : Nat} (hX : zG ι M X n ps) (hd : zD M.2.1 pc (.istore j) 2 npc) (hn : j < M.2.2.1) (hj : z_isJ (lv[j - 1]?) = false) (k : zW ι M X npc (lv.set j (some (zI x))) (st) mem) : zW ι M X pc lv (zI x :: st) mem := by
  obtain ⟨p, l, e, R, s, m, args, below, meth, c, A, cells, slots, Q⟩ := X
  obtain ⟨hd, rfl⟩ := hd
  intro H locs ls hP hS hl
  exact lv_istore hX.1 hX.2.1 hd hl hn rfl (fun ls2 hl2 => k H locs ls2 hP hS (z_st1 (u := zI x) hj hl2))
theorem z_astore_n {q i : Nat} {j : Fin 4} (hX : zG ι M X n ps) (hd : zD M.2.1 pc (.astore_n j) 1 npc) (hn : (j : Nat) < M.2.2.1) (hj : z_isJ (lv[(j : Nat) - 1]?) = false) (k : zW ι M X npc (lv.set (j : Nat) (some (zP q i))) (st) mem) : zW ι M X pc lv (zP q i :: st) mem := by
  obtain ⟨p, l, e, R, s, m, args, below, meth, c, A, cells, slots, Q⟩ := X
  obtain ⟨hd, rfl⟩ := hd
  intro H locs ls hP hS hl
  exact lv_astore_n hX.1 hX.2.1 hd rfl hl hn rfl (fun ls2 hl2 => k H locs ls2 hP hS (z_st1 (u := zP q i) hj hl2))
theorem z_astore {q i : Nat} {j : Nat} (hX : zG ι M X n ps) (hd : zD M.2.1 pc (.astore j) 2 npc) (hn : j < M.2.2.1) (hj : z_isJ (lv[j - 1]?) = false) (k : zW ι M X npc (lv.set j (some (zP q i))) (st) mem) : zW ι M X pc lv (zP q i :: st) mem := by
  obtain ⟨p, l, e, R, s, m, args, below, meth, c, A, cells, slots, Q⟩ := X
  obtain ⟨hd, rfl⟩ := hd
  intro H locs ls hP hS hl
  exact lv_astore hX.1 hX.2.1 hd hl hn rfl (fun ls2 hl2 => k H locs ls2 hP hS (z_st1 (u := zP q i) hj hl2))
theorem z_lstore_n {x : Int64} {j : Fin 4} (hX : zG ι M X n ps) (hd : zD M.2.1 pc (.lstore_n j) 1 npc) (hn : (j : Nat) + 1 < M.2.2.1) (hj : z_isJ (lv[(j : Nat) - 1]?) = false) (k : zW ι M X npc ((lv.set ((j : Nat) + 1) none).set (j : Nat) (some (zJ x))) (st) mem) : zW ι M X pc lv (zJ x :: st) mem := by
  obtain ⟨p, l, e, R, s, m, args, below, meth, c, A, cells, slots, Q⟩ := X
  obtain ⟨hd, rfl⟩ := hd
  intro H locs ls hP hS hl
  exact lv_lstore_n hX.1 hX.2.1 hd rfl hl hn rfl (fun ls2 hl2 => k H locs ls2 hP hS (z_st2 (u := zJ x) hj hl2))
theorem z_lstore {x : Int64} {j : Nat} (hX : zG ι M X n ps) (hd : zD M.2.1 pc (.lstore j) 2 npc) (hn : j + 1 < M.2.2.1) (hj : z_isJ (lv[j - 1]?) = false) (k : zW ι M X npc ((lv.set (j + 1) none).set j (some (zJ x))) (st) mem) : zW ι M X pc lv (zJ x :: st) mem := by
  obtain ⟨p, l, e, R, s, m, args, below, meth, c, A, cells, slots, Q⟩ := X
  obtain ⟨hd, rfl⟩ := hd
  intro H locs ls hP hS hl
  exact lv_lstore hX.1 hX.2.1 hd hl hn rfl (fun ls2 hl2 => k H locs ls2 hP hS (z_st2 (u := zJ x) hj hl2))
theorem z_iinc {x v : Int32} {j : Nat} {d : Int} (hX : zG ι M X n ps) (hd : zD M.2.1 pc (.iinc j d) 3 npc) (hx : lv[j]? = some (some (zI x))) (hv : x + Int32.ofInt d = v) (hn : j < M.2.2.1) (hj : z_isJ (lv[j - 1]?) = false) (k : zW ι M X npc (lv.set j (some (zI v))) st mem) : zW ι M X pc lv st mem := by
  obtain ⟨p, l, e, R, s, m, args, below, meth, c, A, cells, slots, Q⟩ := X
  obtain ⟨hd, rfl⟩ := hd
  intro H locs ls hP hS hl
  obtain ⟨i, hi⟩ := List.getElem?_of_mem (z_lv_mem (r := zeR ι) (lv := lv) (i := j) (v := .int x) |>.mpr ⟨zI x, hx, rfl⟩)
  exact lv_iinc hX.1 hX.2.1 hd hl hi hv hn rfl (fun ls2 hl2 => k H locs ls2 hP hS (z_st1 (u := zI v) hj hl2))
theorem z_iadd {x y : Int32} (hX : zG ι M X n ps) (hd : zD M.2.1 pc (.iadd) 1 npc) (k : zW ι M X npc lv (zI (x + y) :: st) mem) : zW ι M X pc lv (zI y :: zI x :: st) mem := by
  obtain ⟨p, l, e, R, s, m, args, below, meth, c, A, cells, slots, Q⟩ := X
  obtain ⟨hd, rfl⟩ := hd
  intro H locs ls hP hS hl
  exact lv_iadd hX.1 hX.2.1 hd (k H locs ls hP hS hl)
theorem z_isub {x y : Int32} (hX : zG ι M X n ps) (hd : zD M.2.1 pc (.isub) 1 npc) (k : zW ι M X npc lv (zI (x - y) :: st) mem) : zW ι M X pc lv (zI y :: zI x :: st) mem := by
  obtain ⟨p, l, e, R, s, m, args, below, meth, c, A, cells, slots, Q⟩ := X
  obtain ⟨hd, rfl⟩ := hd
  intro H locs ls hP hS hl
  exact lv_isub hX.1 hX.2.1 hd (k H locs ls hP hS hl)
theorem z_imul {x y : Int32} (hX : zG ι M X n ps) (hd : zD M.2.1 pc (.imul) 1 npc) (k : zW ι M X npc lv (zI (x * y) :: st) mem) : zW ι M X pc lv (zI y :: zI x :: st) mem := by
  obtain ⟨p, l, e, R, s, m, args, below, meth, c, A, cells, slots, Q⟩ := X
  obtain ⟨hd, rfl⟩ := hd
  intro H locs ls hP hS hl
  exact lv_imul hX.1 hX.2.1 hd (k H locs ls hP hS hl)
theorem z_iand {x y : Int32} (hX : zG ι M X n ps) (hd : zD M.2.1 pc (.iand) 1 npc) (k : zW ι M X npc lv (zI (x &&& y) :: st) mem) : zW ι M X pc lv (zI y :: zI x :: st) mem := by
  obtain ⟨p, l, e, R, s, m, args, below, meth, c, A, cells, slots, Q⟩ := X
  obtain ⟨hd, rfl⟩ := hd
  intro H locs ls hP hS hl
  exact lv_iand hX.1 hX.2.1 hd (k H locs ls hP hS hl)
theorem z_ior {x y : Int32} (hX : zG ι M X n ps) (hd : zD M.2.1 pc (.ior) 1 npc) (k : zW ι M X npc lv (zI (x ||| y) :: st) mem) : zW ι M X pc lv (zI y :: zI x :: st) mem := by
  obtain ⟨p, l, e, R, s, m, args, below, meth, c, A, cells, slots, Q⟩ := X
  obtain ⟨hd, rfl⟩ := hd
  intro H locs ls hP hS hl
  exact lv_ior hX.1 hX.2.1 hd (k H locs ls hP hS hl)
theorem z_ixor {x y : Int32} (hX : zG ι M X n ps) (hd : zD M.2.1 pc (.ixor) 1 npc) (k : zW ι M X npc lv (zI (x ^^^ y) :: st) mem) : zW ι M X pc lv (zI y :: zI x :: st) mem := by
  obtain ⟨p, l, e, R, s, m, args, below, meth, c, A, cells, slots, Q⟩ := X
  obtain ⟨hd, rfl⟩ := hd
  intro H locs ls hP hS hl
  exact lv_ixor hX.1 hX.2.1 hd (k H locs ls hP hS hl)
theorem z_ishl {x y : Int32} (hX : zG ι M X n ps) (hd : zD M.2.1 pc (.ishl) 1 npc) (k : zW ι M X npc lv (zI (x <<< (y &&& 31)) :: st) mem) : zW ι M X pc lv (zI y :: zI x :: st) mem := by
  obtain ⟨p, l, e, R, s, m, args, below, meth, c, A, cells, slots, Q⟩ := X
  obtain ⟨hd, rfl⟩ := hd
  intro H locs ls hP hS hl
  exact lv_ishl hX.1 hX.2.1 hd (k H locs ls hP hS hl)
theorem z_ishr {x y : Int32} (hX : zG ι M X n ps) (hd : zD M.2.1 pc (.ishr) 1 npc) (k : zW ι M X npc lv (zI (x >>> (y &&& 31)) :: st) mem) : zW ι M X pc lv (zI y :: zI x :: st) mem := by
  obtain ⟨p, l, e, R, s, m, args, below, meth, c, A, cells, slots, Q⟩ := X
  obtain ⟨hd, rfl⟩ := hd
  intro H locs ls hP hS hl
  exact lv_ishr hX.1 hX.2.1 hd (k H locs ls hP hS hl)
theorem z_idiv {x y : Int32} (hX : zG ι M X n ps) (hd : zD M.2.1 pc (.idiv) 1 npc) (hy : ¬ y = 0) (k : zW ι M X npc lv (zI (x / y) :: st) mem) : zW ι M X pc lv (zI y :: zI x :: st) mem := by
  obtain ⟨p, l, e, R, s, m, args, below, meth, c, A, cells, slots, Q⟩ := X
  obtain ⟨hd, rfl⟩ := hd
  intro H locs ls hP hS hl
  exact lv_idiv hX.1 hX.2.1 hd hy (k H locs ls hP hS hl)
theorem z_irem {x y : Int32} (hX : zG ι M X n ps) (hd : zD M.2.1 pc (.irem) 1 npc) (hy : ¬ y = 0) (k : zW ι M X npc lv (zI (x - x / y * y) :: st) mem) : zW ι M X pc lv (zI y :: zI x :: st) mem := by
  obtain ⟨p, l, e, R, s, m, args, below, meth, c, A, cells, slots, Q⟩ := X
  obtain ⟨hd, rfl⟩ := hd
  intro H locs ls hP hS hl
  exact lv_irem hX.1 hX.2.1 hd hy (k H locs ls hP hS hl)
theorem z_iushr {x y : Int32} (hX : zG ι M X n ps) (hd : zD M.2.1 pc (.iushr) 1 npc) (k : zW ι M X npc lv (zI ((x.toUInt32 >>> (y.toUInt32 &&& Int32.toUInt32 31)).toInt32) :: st) mem) : zW ι M X pc lv (zI y :: zI x :: st) mem := by
  obtain ⟨p, l, e, R, s, m, args, below, meth, c, A, cells, slots, Q⟩ := X
  obtain ⟨hd, rfl⟩ := hd
  intro H locs ls hP hS hl
  exact lv_iushr hX.1 hX.2.1 hd rfl (k H locs ls hP hS hl)
theorem z_ineg {x : Int32} (hX : zG ι M X n ps) (hd : zD M.2.1 pc (.ineg) 1 npc) (k : zW ι M X npc lv (zI (-x) :: st) mem) : zW ι M X pc lv (zI x :: st) mem := by
  obtain ⟨p, l, e, R, s, m, args, below, meth, c, A, cells, slots, Q⟩ := X
  obtain ⟨hd, rfl⟩ := hd
  intro H locs ls hP hS hl
  exact lv_ineg hX.1 hX.2.1 hd (k H locs ls hP hS hl)
theorem z_ladd {x y : Int64} (hX : zG ι M X n ps) (hd : zD M.2.1 pc (.ladd) 1 npc) (k : zW ι M X npc lv (zJ (x + y) :: st) mem) : zW ι M X pc lv (zJ y :: zJ x :: st) mem := by
  obtain ⟨p, l, e, R, s, m, args, below, meth, c, A, cells, slots, Q⟩ := X
  obtain ⟨hd, rfl⟩ := hd
  intro H locs ls hP hS hl
  exact lv_ladd hX.1 hX.2.1 hd (k H locs ls hP hS hl)
theorem z_lmul {x y : Int64} (hX : zG ι M X n ps) (hd : zD M.2.1 pc (.lmul) 1 npc) (k : zW ι M X npc lv (zJ (x * y) :: st) mem) : zW ι M X pc lv (zJ y :: zJ x :: st) mem := by
  obtain ⟨p, l, e, R, s, m, args, below, meth, c, A, cells, slots, Q⟩ := X
  obtain ⟨hd, rfl⟩ := hd
  intro H locs ls hP hS hl
  exact lv_lmul hX.1 hX.2.1 hd (k H locs ls hP hS hl)
theorem z_land {x y : Int64} (hX : zG ι M X n ps) (hd : zD M.2.1 pc (.land) 1 npc) (k : zW ι M X npc lv (zJ (x &&& y) :: st) mem) : zW ι M X pc lv (zJ y :: zJ x :: st) mem := by
  obtain ⟨p, l, e, R, s, m, args, below, meth, c, A, cells, slots, Q⟩ := X
  obtain ⟨hd, rfl⟩ := hd
  intro H locs ls hP hS hl
  exact lv_land hX.1 hX.2.1 hd (k H locs ls hP hS hl)
theorem z_lor {x y : Int64} (hX : zG ι M X n ps) (hd : zD M.2.1 pc (.lor) 1 npc) (k : zW ι M X npc lv (zJ (x ||| y) :: st) mem) : zW ι M X pc lv (zJ y :: zJ x :: st) mem := by
  obtain ⟨p, l, e, R, s, m, args, below, meth, c, A, cells, slots, Q⟩ := X
  obtain ⟨hd, rfl⟩ := hd
  intro H locs ls hP hS hl
  exact lv_lor hX.1 hX.2.1 hd (k H locs ls hP hS hl)
theorem z_ldiv {x y : Int64} (hX : zG ι M X n ps) (hd : zD M.2.1 pc (.ldiv) 1 npc) (hy : ¬ y = 0) (k : zW ι M X npc lv (zJ (x / y) :: st) mem) : zW ι M X pc lv (zJ y :: zJ x :: st) mem := by
  obtain ⟨p, l, e, R, s, m, args, below, meth, c, A, cells, slots, Q⟩ := X
  obtain ⟨hd, rfl⟩ := hd
  intro H locs ls hP hS hl
  exact lv_ldiv hX.1 hX.2.1 hd hy (k H locs ls hP hS hl)
theorem z_lshl {x : Int64} {y : Int32} (hX : zG ι M X n ps) (hd : zD M.2.1 pc (.lshl) 1 npc) (k : zW ι M X npc lv (zJ (x <<< (y.toInt64 &&& 63)) :: st) mem) : zW ι M X pc lv (zI y :: zJ x :: st) mem := by
  obtain ⟨p, l, e, R, s, m, args, below, meth, c, A, cells, slots, Q⟩ := X
  obtain ⟨hd, rfl⟩ := hd
  intro H locs ls hP hS hl
  exact lv_lshl hX.1 hX.2.1 hd rfl (k H locs ls hP hS hl)
theorem z_lcmp {x y : Int64} (hX : zG ι M X n ps) (hd : zD M.2.1 pc (.lcmp) 1 npc) (k : zW ι M X npc lv (zI (lg_cmp x y) :: st) mem) : zW ι M X pc lv (zJ y :: zJ x :: st) mem := by
  obtain ⟨p, l, e, R, s, m, args, below, meth, c, A, cells, slots, Q⟩ := X
  obtain ⟨hd, rfl⟩ := hd
  intro H locs ls hP hS hl
  exact W.lcmp hX.1 hX.2.1 hd (k H locs ls hP hS hl)
theorem z_i2l {x : Int32} (hX : zG ι M X n ps) (hd : zD M.2.1 pc (.i2l) 1 npc) (k : zW ι M X npc lv (zJ x.toInt64 :: st) mem) : zW ι M X pc lv (zI x :: st) mem := by
  obtain ⟨p, l, e, R, s, m, args, below, meth, c, A, cells, slots, Q⟩ := X
  obtain ⟨hd, rfl⟩ := hd
  intro H locs ls hP hS hl
  exact lv_i2l hX.1 hX.2.1 hd rfl (k H locs ls hP hS hl)
theorem z_l2i {x : Int64} (hX : zG ι M X n ps) (hd : zD M.2.1 pc (.l2i) 1 npc) (k : zW ι M X npc lv (zI x.toInt32 :: st) mem) : zW ι M X pc lv (zJ x :: st) mem := by
  obtain ⟨p, l, e, R, s, m, args, below, meth, c, A, cells, slots, Q⟩ := X
  obtain ⟨hd, rfl⟩ := hd
  intro H locs ls hP hS hl
  exact lv_l2i hX.1 hX.2.1 hd rfl (k H locs ls hP hS hl)
theorem z_i2b {x : Int32} (hX : zG ι M X n ps) (hd : zD M.2.1 pc (.i2b) 1 npc) (k : zW ι M X npc lv (zI x.toInt8.toInt32 :: st) mem) : zW ι M X pc lv (zI x :: st) mem := by
  obtain ⟨p, l, e, R, s, m, args, below, meth, c, A, cells, slots, Q⟩ := X
  obtain ⟨hd, rfl⟩ := hd
  intro H locs ls hP hS hl
  exact lv_i2b hX.1 hX.2.1 hd rfl (k H locs ls hP hS hl)
theorem z_i2s {x : Int32} (hX : zG ι M X n ps) (hd : zD M.2.1 pc (.i2s) 1 npc) (k : zW ι M X npc lv (zI x.toInt16.toInt32 :: st) mem) : zW ι M X pc lv (zI x :: st) mem := by
  obtain ⟨p, l, e, R, s, m, args, below, meth, c, A, cells, slots, Q⟩ := X
  obtain ⟨hd, rfl⟩ := hd
  intro H locs ls hP hS hl
  exact lv_i2s hX.1 hX.2.1 hd rfl (k H locs ls hP hS hl)
theorem z_dupI {x : Int32} (hX : zG ι M X n ps) (hd : zD M.2.1 pc (.dup) 1 npc) (k : zW ι M X npc lv (zI x :: zI x :: st) mem) : zW ι M X pc lv (zI x :: st) mem := by
  obtain ⟨p, l, e, R, s, m, args, below, meth, c, A, cells, slots, Q⟩ := X
  obtain ⟨hd, rfl⟩ := hd
  intro H locs ls hP hS hl
  exact lv_dup hX.1 hX.2.1 hd rfl (k H locs ls hP hS hl)
theorem z_dupP {q i : Nat} (hX : zG ι M X n ps) (hd : zD M.2.1 pc (.dup) 1 npc) (k : zW ι M X npc lv (zP q i :: zP q i :: st) mem) : zW ι M X pc lv (zP q i :: st) mem := by
  obtain ⟨p, l, e, R, s, m, args, below, meth, c, A, cells, slots, Q⟩ := X
  obtain ⟨hd, rfl⟩ := hd
  intro H locs ls hP hS hl
  exact lv_dup hX.1 hX.2.1 hd rfl (k H locs ls hP hS hl)
theorem z_dup2 {x : Int32} {q i : Nat} (hX : zG ι M X n ps) (hd : zD M.2.1 pc (.dup2) 1 npc) (k : zW ι M X npc lv (zI x :: zP q i :: zI x :: zP q i :: st) mem) : zW ι M X pc lv (zI x :: zP q i :: st) mem := by
  obtain ⟨p, l, e, R, s, m, args, below, meth, c, A, cells, slots, Q⟩ := X
  obtain ⟨hd, rfl⟩ := hd
  intro H locs ls hP hS hl
  exact lv_dup2_11 hX.1 hX.2.1 hd rfl rfl (k H locs ls hP hS hl)
theorem z_if_eq {x : Int32} {off : Int} {tgt : Nat} (hX : zG ι M X n ps) (hd : zD M.2.1 pc (.ifCond .eq off) 3 npc) (ht : (pc : Int) + off = (tgt : Int)) (kt : x = 0 → zW ι M X tgt lv st mem) (kf : ¬ x = 0 → zW ι M X npc lv st mem) : zW ι M X pc lv (zI x :: st) mem := by
  obtain ⟨p, l, e, R, s, m, args, below, meth, c, A, cells, slots, Q⟩ := X
  obtain ⟨hd, rfl⟩ := hd
  intro H locs ls hP hS hl
  exact lv_if_eq hX.1 hX.2.1 hd ht (fun h => kt h H locs ls hP hS hl) (fun h => kf h H locs ls hP hS hl)
theorem z_if_ne {x : Int32} {off : Int} {tgt : Nat} (hX : zG ι M X n ps) (hd : zD M.2.1 pc (.ifCond .ne off) 3 npc) (ht : (pc : Int) + off = (tgt : Int)) (kt : ¬ x = 0 → zW ι M X tgt lv st mem) (kf : x = 0 → zW ι M X npc lv st mem) : zW ι M X pc lv (zI x :: st) mem := by
  obtain ⟨p, l, e, R, s, m, args, below, meth, c, A, cells, slots, Q⟩ := X
  obtain ⟨hd, rfl⟩ := hd
  intro H locs ls hP hS hl
  exact lv_if_ne hX.1 hX.2.1 hd ht (fun h => kt h H locs ls hP hS hl) (fun h => kf h H locs ls hP hS hl)
theorem z_if_lt {x : Int32} {off : Int} {tgt : Nat} (hX : zG ι M X n ps) (hd : zD M.2.1 pc (.ifCond .lt off) 3 npc) (ht : (pc : Int) + off = (tgt : Int)) (kt : x < 0 → zW ι M X tgt lv st mem) (kf : ¬ x < 0 → zW ι M X npc lv st mem) : zW ι M X pc lv (zI x :: st) mem := by
  obtain ⟨p, l, e, R, s, m, args, below, meth, c, A, cells, slots, Q⟩ := X
  obtain ⟨hd, rfl⟩ := hd
  intro H locs ls hP hS hl
  exact lv_if_lt hX.1 hX.2.1 hd ht (fun h => kt h H locs ls hP hS hl) (fun h => kf h H locs ls hP hS hl)
theorem z_if_ge {x : Int32} {off : Int} {tgt : Nat} (hX : zG ι M X n ps) (hd : zD M.2.1 pc (.ifCond .ge off) 3 npc) (ht : (pc : Int) + off = (tgt : Int)) (kt : 0 ≤ x → zW ι M X tgt lv st mem) (kf : ¬ 0 ≤ x → zW ι M X npc lv st mem) : zW ι M X pc lv (zI x :: st) mem := by
  obtain ⟨p, l, e, R, s, m, args, below, meth, c, A, cells, slots, Q⟩ := X
  obtain ⟨hd, rfl⟩ := hd
  intro H locs ls hP hS hl
  exact lv_if_ge hX.1 hX.2.1 hd ht (fun h => kt h H locs ls hP hS hl) (fun h => kf h H locs ls hP hS hl)
theorem z_if_gt {x : Int32} {off : Int} {tgt : Nat} (hX : zG ι M X n ps) (hd : zD M.2.1 pc (.ifCond .gt off) 3 npc) (ht : (pc : Int) + off = (tgt : Int)) (kt : 0 < x → zW ι M X tgt lv st mem) (kf : ¬ 0 < x → zW ι M X npc lv st mem) : zW ι M X pc lv (zI x :: st) mem := by
  obtain ⟨p, l, e, R, s, m, args, below, meth, c, A, cells, slots, Q⟩ := X
  obtain ⟨hd, rfl⟩ := hd
  intro H locs ls hP hS hl
  exact lv_if_gt hX.1 hX.2.1 hd ht (fun h => kt h H locs ls hP hS hl) (fun h => kf h H locs ls hP hS hl)
theorem z_if_le {x : Int32} {off : Int} {tgt : Nat} (hX : zG ι M X n ps) (hd : zD M.2.1 pc (.ifCond .le off) 3 npc) (ht : (pc : Int) + off = (tgt : Int)) (kt : x ≤ 0 → zW ι M X tgt lv st mem) (kf : ¬ x ≤ 0 → zW ι M X npc lv st mem) : zW ι M X pc lv (zI x :: st) mem := by
  obtain ⟨p, l, e, R, s, m, args, below, meth, c, A, cells, slots, Q⟩ := X
  obtain ⟨hd, rfl⟩ := hd
  intro H locs ls hP hS hl
  exact lv_if_le hX.1 hX.2.1 hd ht (fun h => kt h H locs ls hP hS hl) (fun h => kf h H locs ls hP hS hl)
theorem z_icmp_eq {x y : Int32} {off : Int} {tgt : Nat} (hX : zG ι M X n ps) (hd : zD M.2.1 pc (.if_icmp .eq off) 3 npc) (ht : (pc : Int) + off = (tgt : Int)) (kt : x = y → zW ι M X tgt lv st mem) (kf : ¬ x = y → zW ι M X npc lv st mem) : zW ι M X pc lv (zI y :: zI x :: st) mem := by
  obtain ⟨p, l, e, R, s, m, args, below, meth, c, A, cells, slots, Q⟩ := X
  obtain ⟨hd, rfl⟩ := hd
  intro H locs ls hP hS hl
  exact lv_icmp_eq hX.1 hX.2.1 hd ht (fun h => kt h H locs ls hP hS hl) (fun h => kf h H locs ls hP hS hl)
theorem z_icmp_ne {x y : Int32} {off : Int} {tgt : Nat} (hX : zG ι M X n ps) (hd : zD M.2.1 pc (.if_icmp .ne off) 3 npc) (ht : (pc : Int) + off = (tgt : Int)) (kt : ¬ x = y → zW ι M X tgt lv st mem) (kf : x = y → zW ι M X npc lv st mem) : zW ι M X pc lv (zI y :: zI x :: st) mem := by
  obtain ⟨p, l, e, R, s, m, args, below, meth, c, A, cells, slots, Q⟩ := X
  obtain ⟨hd, rfl⟩ := hd
  intro H locs ls hP hS hl
  exact lv_icmp_ne hX.1 hX.2.1 hd ht (fun h => kt h H locs ls hP hS hl) (fun h => kf h H locs ls hP hS hl)
theorem z_icmp_lt {x y : Int32} {off : Int} {tgt : Nat} (hX : zG ι M X n ps) (hd : zD M.2.1 pc (.if_icmp .lt off) 3 npc) (ht : (pc : Int) + off = (tgt : Int)) (kt : x < y → zW ι M X tgt lv st mem) (kf : ¬ x < y → zW ι M X npc lv st mem) : zW ι M X pc lv (zI y :: zI x :: st) mem := by
  obtain ⟨p, l, e, R, s, m, args, below, meth, c, A, cells, slots, Q⟩ := X
  obtain ⟨hd, rfl⟩ := hd
  intro H locs ls hP hS hl
  exact lv_icmp_lt hX.1 hX.2.1 hd ht (fun h => kt h H locs ls hP hS hl) (fun h => kf h H locs ls hP hS hl)
theorem z_icmp_ge {x y : Int32} {off : Int} {tgt : Nat} (hX : zG ι M X n ps) (hd : zD M.2.1 pc (.if_icmp .ge off) 3 npc) (ht : (pc : Int) + off = (tgt : Int)) (kt : y ≤ x → zW ι M X tgt lv st mem) (kf : ¬ y ≤ x → zW ι M X npc lv st mem) : zW ι M X pc lv (zI y :: zI x :: st) mem := by
  obtain ⟨p, l, e, R, s, m, args, below, meth, c, A, cells, slots, Q⟩ := X
  obtain ⟨hd, rfl⟩ := hd
  intro H locs ls hP hS hl
  exact lv_icmp_ge hX.1 hX.2.1 hd ht (fun h => kt h H locs ls hP hS hl) (fun h => kf h H locs ls hP hS hl)
theorem z_icmp_gt {x y : Int32} {off : Int} {tgt : Nat} (hX : zG ι M X n ps) (hd : zD M.2.1 pc (.if_icmp .gt off) 3 npc) (ht : (pc : Int) + off = (tgt : Int)) (kt : y < x → zW ι M X tgt lv st mem) (kf : ¬ y < x → zW ι M X npc lv st mem) : zW ι M X pc lv (zI y :: zI x :: st) mem := by
  obtain ⟨p, l, e, R, s, m, args, below, meth, c, A, cells, slots, Q⟩ := X
  obtain ⟨hd, rfl⟩ := hd
  intro H locs ls hP hS hl
  exact lv_icmp_gt hX.1 hX.2.1 hd ht (fun h => kt h H locs ls hP hS hl) (fun h => kf h H locs ls hP hS hl)
theorem z_icmp_le {x y : Int32} {off : Int} {tgt : Nat} (hX : zG ι M X n ps) (hd : zD M.2.1 pc (.if_icmp .le off) 3 npc) (ht : (pc : Int) + off = (tgt : Int)) (kt : x ≤ y → zW ι M X tgt lv st mem) (kf : ¬ x ≤ y → zW ι M X npc lv st mem) : zW ι M X pc lv (zI y :: zI x :: st) mem := by
  obtain ⟨p, l, e, R, s, m, args, below, meth, c, A, cells, slots, Q⟩ := X
  obtain ⟨hd, rfl⟩ := hd
  intro H locs ls hP hS hl
  exact lv_icmp_le hX.1 hX.2.1 hd ht (fun h => kt h H locs ls hP hS hl) (fun h => kf h H locs ls hP hS hl)
theorem z_goto {off : Int} {tgt : Nat} (hX : zG ι M X n ps) (hd : zD M.2.1 pc (.goto off) 3 npc) (ht : (pc : Int) + off = (tgt : Int)) (k : zW ι M X tgt lv st mem) : zW ι M X pc lv st mem := by
  obtain ⟨p, l, e, R, s, m, args, below, meth, c, A, cells, slots, Q⟩ := X
  obtain ⟨hd, rfl⟩ := hd
  intro H locs ls hP hS hl
  exact lv_goto hX.1 hX.2.1 hd ht (k H locs ls hP hS hl)
theorem z_lookup {x : Int32} {dflt off : Int} {qs : Array (Int × Int)} {len tgt : Nat} (hX : zG ι M X n ps) (hd : zD M.2.1 pc (.lookupswitch dflt qs) len npc) (hp : (qs.toList.zip (qs.toList.drop 1)).all (fun (a, next) => a.1 < next.1) = true) (ho : Op.lookupswitch.offset qs.toList dflt x.toInt = off) (ht : (pc : Int) + off = (tgt : Int)) (k : zW ι M X tgt lv st mem) : zW ι M X pc lv (zI x :: st) mem := by
  obtain ⟨p, l, e, R, s, m, args, below, meth, c, A, cells, slots, Q⟩ := X
  obtain ⟨hd, rfl⟩ := hd
  intro H locs ls hP hS hl
  exact lv_lookup hX.1 hX.2.1 hd hp ho ht (k H locs ls hP hS hl)
theorem z_tabOut {x : Int32} {dflt lo hi : Int} {offs : Array Int} {len tgt : Nat} (hX : zG ι M X n ps) (hd : zD M.2.1 pc (.tableswitch dflt lo hi offs) len npc) (h : x.toInt < lo ∨ hi < x.toInt) (ht : (pc : Int) + dflt = (tgt : Int)) (k : zW ι M X tgt lv st mem) : zW ι M X pc lv (zI x :: st) mem := by
  obtain ⟨p, l, e, R, s, m, args, below, meth, c, A, cells, slots, Q⟩ := X
  obtain ⟨hd, rfl⟩ := hd
  intro H locs ls hP hS hl
  exact lv_tableOut hX.1 hX.2.1 hd h ht (k H locs ls hP hS hl)
theorem z_tabIn {x : Int32} {dflt lo hi off : Int} {offs : Array Int} {len tgt : Nat} (hX : zG ι M X n ps) (hd : zD M.2.1 pc (.tableswitch dflt lo hi offs) len npc) (h1 : ¬ x.toInt < lo) (h2 : ¬ hi < x.toInt) (ho : offs[(x.toInt - lo).toNat]? = some off) (ht : (pc : Int) + off = (tgt : Int)) (k : zW ι M X tgt lv st mem) : zW ι M X pc lv (zI x :: st) mem := by
  obtain ⟨p, l, e, R, s, m, args, below, meth, c, A, cells, slots, Q⟩ := X
  obtain ⟨hd, rfl⟩ := hd
  intro H locs ls hP hS hl
  exact lv_tableIn hX.1 hX.2.1 hd h1 h2 ho ht (k H locs ls hP hS hl)
theorem z_iret {x : Int32} {Post : Option zV → zM → Prop} (hX : zG ι M X n ps) (hR : zRt ι X Post) (hd : zD M.2.1 pc (.ireturn) 1 npc) (hr : M.2.2.2 = some .int) (k : Post (some (zI x)) mem) : zW ι M X pc lv [zI x] mem := by
  obtain ⟨p, l, e, R, s, m, args, below, meth, c, A, cells, slots, Q⟩ := X
  obtain ⟨hd, rfl⟩ := hd
  intro H locs ls hP hS hl
  obtain ⟨rfl, rfl, rfl⟩ := hR
  have hlocks : meth.locks = false := hX.2.2.2.2.2.2.1
  exact W.iret hX.1 hX.2.1 (hX.2.2.2.2.2.1.trans hr) (fun t ht hW => ⟨⟨(some (zI x)), mem, rfl, k, by rw [ht]; exact hP⟩, hS.F ht⟩) hS.2.2 hd
theorem z_lret {x : Int64} {Post : Option zV → zM → Prop} (hX : zG ι M X n ps) (hR : zRt ι X Post) (hd : zD M.2.1 pc (.lreturn) 1 npc) (hr : M.2.2.2 = some .long) (k : Post (some (zJ x)) mem) : zW ι M X pc lv [zJ x] mem := by
  obtain ⟨p, l, e, R, s, m, args, below, meth, c, A, cells, slots, Q⟩ := X
  obtain ⟨hd, rfl⟩ := hd
  intro H locs ls hP hS hl
  obtain ⟨rfl, rfl, rfl⟩ := hR
  have hlocks : meth.locks = false := hX.2.2.2.2.2.2.1
  exact W.lret hX.1 hX.2.1 (hX.2.2.2.2.2.1.trans hr) (fun t ht hW => ⟨⟨(some (zJ x)), mem, rfl, k, by rw [ht]; exact hP⟩, hS.F ht⟩) hS.2.2 hd
theorem z_ret {Post : Option zV → zM → Prop} (hX : zG ι M X n ps) (hR : zRt ι X Post) (hd : zD M.2.1 pc (.return_) 1 npc) (hr : M.2.2.2 = none) (k : Post none mem) : zW ι M X pc lv [] mem := by
  obtain ⟨p, l, e, R, s, m, args, below, meth, c, A, cells, slots, Q⟩ := X
  obtain ⟨hd, rfl⟩ := hd
  intro H locs ls hP hS hl
  obtain ⟨rfl, rfl, rfl⟩ := hR
  have hlocks : meth.locks = false := hX.2.2.2.2.2.2.1
  exact W.vret hX.1 hX.2.1 (hX.2.2.2.2.2.1.trans hr) (fun t ht hW => ⟨⟨none, mem, rfl, k, by rw [ht]; exact hP⟩, hS.F ht⟩) hS.2.2 hd
theorem z_zret {x : Int32} {Post : Option zV → zM → Prop} (hX : zG ι M X n ps) (hR : zRt ι X Post) (hd : zD M.2.1 pc (.ireturn) 1 npc) (hr : M.2.2.2 = some .boolean) (hx : x = 0 ∨ x = 1) (k : Post (some (zI x)) mem) : zW ι M X pc lv [zI x] mem := by
  obtain ⟨p, l, e, R, s, m, args, below, meth, c, A, cells, slots, Q⟩ := X
  obtain ⟨hd, rfl⟩ := hd
  intro H locs ls hP hS hl
  obtain ⟨rfl, rfl, rfl⟩ := hR
  have hlocks : meth.locks = false := hX.2.2.2.2.2.2.1
  exact W.zret hX.1 hX.2.1 (hX.2.2.2.2.2.1.trans hr) (by rcases hx with rfl | rfl <;> rfl) (fun t ht hW => ⟨⟨(some (zI x)), mem, rfl, k, by rw [ht]; exact hP⟩, hS.F ht⟩) hS.2.2 hd
end ZR
