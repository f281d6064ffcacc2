/-! MY LAYER: values, memory and cells by logical names (pool, index); one judgement zW over the kit's W; one contract zC over the kit's Met -/
abbrev zR : Type := Nat × Nat
abbrev zV : Type := Int32 ⊕ (Int64 ⊕ zR)
abbrev zI (x : Int32) : zV := Sum.inl x
abbrev zJ (x : Int64) : zV := Sum.inr (Sum.inl x)
abbrev zP (p k : Nat) : zV := Sum.inr (Sum.inr (p, k))
/-- memory: ints, longs, the index part of references that change; by pool, index, place -/
abbrev zM : Type := (Nat → Nat → Nat → Int32) × (Nat → Nat → Nat → Int64) × (Nat → Nat → Nat → Nat)
/-- kinds of places: 0 int, 1 long, 2 a reference that never changes (pool, index by cell and place), 3 one that may (pool) -/
abbrev zK : Type := Nat × Nat × (Nat → Nat → Nat)
/-- a pool: how many cells; objects (class, places) or arrays (type, length, kind) -/
abbrev zS : Type := Nat × ((Nat × List zK) ⊕ (FieldType × Nat × zK))
abbrev zi : zK := (0, 0, fun _ _ => 0)
abbrev zj : zK := (1, 0, fun _ _ => 0)
abbrev zc (p : Nat) : zK := (2, p, fun _ _ => 0)
abbrev zk (p : Nat) : zK := (2, p, fun k _ => k)
abbrev ze (p : Nat) : zK := (2, p, fun _ j => j)
abbrev zv (p : Nat) : zK := (3, p, fun _ _ => 0)
/-- an instance: class numbers, slots, array classes, addresses, the cells that there are -/
abbrev zE : Type := (Nat → ClassId) × (Nat → Nat → Nat) × (FieldType → ClassId) × (Nat → Nat → Nat) × List zR
abbrev zeD (ι : zE) : va_G := (ι.1, ι.2.1)
abbrev zeT (ι : zE) : FieldType → ClassId := ι.2.2.1
abbrev zeR (ι : zE) : Nat → Nat → Nat := ι.2.2.2.1
abbrev zeK (ι : zE) : List zR := ι.2.2.2.2
def z_tv (r : Nat → Nat → Nat) : zV → Value
  | .inl x => .int x
  | .inr (.inl x) => .long x
  | .inr (.inr q) => .ref (r q.1 q.2)
def z_sv (mem : zM) (p k j : Nat) (sk : zK) : zV := match sk.1 with
  | 0 => zI (mem.1 p k j)
  | 1 => zJ (mem.2.1 p k j)
  | 2 => zP sk.2.1 (sk.2.2 k j)
  | _ => zP sk.2.1 (mem.2.2 p k j)
def z_fs (r : Nat → Nat → Nat) (mem : zM) (p k : Nat) (sks : List zK) : List Value := (List.range sks.length).map fun j => z_tv r (z_sv mem p k j (sks.getD j zi))
def z_ar (r : Nat → Nat → Nat) (mem : zM) (p k n : Nat) (sk : zK) : vp_A := (n, match sk.1 with
  | 0 => .inl (mem.1 p k)
  | 1 => .inr (.inl (mem.2.1 p k))
  | 2 => .inr (.inr (.inr (.inr (fun j => some (r sk.2.1 (sk.2.2 k j))))))
  | _ => .inr (.inr (.inr (.inr (fun j => some (r sk.2.1 (mem.2.2 p k j)))))))
-- THE POOLS
def zsh (p : Nat) : zS := match p with
  | 0 => (1, .inl (8, [zc 1, zi, zi, zc 4, zc 9, zc 20, zc 23, zc 27, zc 30]))
  | 1 => (1, .inr (.object "FourCubes$Cube", 8, ze 2))
  | 2 => (8, .inl (1, [zk 3, zi]))
  | 3 => (8, .inr (.int, 6, zi))
  | 4 => (1, .inl (2, [zc 5, zi, zi, zc 6, zi, zc 7, zi, zi, zi, zi, zi, zc 8]))
  | 5 => (1, .inr (.int, 120, zi))
  | 6 => (1, .inr (.int, 121, zi))
  | 7 => (1, .inr (.int, 121, zi))
  | 8 => (1, .inr (.boolean, 1176, zi))
  | 9 => (1, .inl (7, [zc 1, zc 4, zc 10, zc 14, zc 15, zi, zc 16, zc 17, zc 18, zc 19, zi, zi, zi]))
  | 10 => (1, .inl (5, [zi, zc 11, zc 12, zc 13]))
  | 11 => (1, .inr (.int, 4, zi))
  | 12 => (1, .inr (.int, 144, zi))
  | 13 => (1, .inr (.int, 4, zi))
  | 14 => (1, .inr (.object "FourCubes$Cube", 4, zv 2))
  | 15 => (1, .inr (.int, 4, zi))
  | 16 => (1, .inr (.int, 7, zi))
  | 17 => (1, .inr (.int, 7, zi))
  | 18 => (1, .inr (.byte, 3456, zi))
  | 19 => (1, .inr (.int, 5, zi))
  | 20 => (1, .inl (4, [zc 21, zc 22, zi, zi]))
  | 21 => (1, .inr (.int, 81, zi))
  | 22 => (1, .inr (.int, 7, zi))
  | 23 => (1, .inl (3, [zc 24, zc 25, zc 26, zi, zi]))
  | 24 => (1, .inr (.int, 40, zi))
  | 25 => (1, .inr (.int, 40, zi))
  | 26 => (1, .inr (.int, 40, zi))
  | 27 => (1, .inl (0, [zc 28, zi, zc 29, zi, zi]))
  | 28 => (1, .inr (.int, 50, zi))
  | 29 => (1, .inr (.int, 24, zi))
  | 30 => (1, .inr (.object "FourCubes$Shelf", 6, ze 31))
  | 31 => (6, .inl (6, [zi, zi, zi, zi, zk 32]))
  | 32 => (6, .inr (.long, 60, zj))
  | 40 => (1, .inl (9, [zi, zi, zc 41, zc 42, zi, zc 43, zi, zi, zc 44, zc 45, zc 46, zc 47, zc 48, zi, zi, zi, zi, zi, zc 49, zc 50, zc 51, zc 52, zc 53, zc 54, zc 55, zi, zc 56, zc 57, zi, zc 58, zc 59, zi, zi, zi, zi, zc 60, zc 61, zi, zc 62, zi, zc 63, zc 64, zc 65, zc 66, zc 67]))
  | 41 => (1, .inr (.int, 48, zi))
  | 42 => (1, .inr (.int, 8, zi))
  | 43 => (1, .inr (.int, 24, zi))
  | 44 => (1, .inr (.int, 40, zi))
  | 45 => (1, .inr (.int, 40, zi))
  | 46 => (1, .inr (.int, 40, zi))
  | 47 => (1, .inr (.int, 40, zi))
  | 48 => (1, .inr (.byte, 120, zi))
  | 49 => (1, .inr (.byte, 260, zi))
  | 50 => (1, .inr (.int, 260, zi))
  | 51 => (1, .inr (.int, 2, zi))
  | 52 => (1, .inr (.short, 122, zi))
  | 53 => (1, .inr (.short, 122, zi))
  | 54 => (1, .inr (.int, 5, zi))
  | 55 => (1, .inr (.int, 130, zi))
  | 56 => (1, .inr (.boolean, 2304, zi))
  | 57 => (1, .inr (.int, 8, zi))
  | 58 => (1, .inr (.int, 8, zi))
  | 59 => (1, .inr (.int, 8, zi))
  | 60 => (1, .inr (.int, 7, zi))
  | 61 => (1, .inr (.int, 81, zi))
  | 62 => (1, .inr (.int, 50, zi))
  | 63 => (1, .inr (.int, 24, zi))
  | 64 => (1, .inr (.int, 6, zi))
  | 65 => (1, .inr (.int, 6, zi))
  | 66 => (1, .inr (.long, 360, zj))
  | 67 => (1, .inr (.long, 60, zj))
  | _ => (0, .inr (.int, 0, zi))
def z_cell (ι : zE) (mem : zM) (q : zR) : Nat × va_E := (zeR ι q.1 q.2, match (zsh q.1).2 with
  | .inl o => .inr (o.1, z_fs (zeR ι) mem q.1 q.2 o.2)
  | .inr a => .inl (zeT ι a.1, z_ar (zeR ι) mem q.1 q.2 a.2.1 a.2.2))
def z_ws (ι : zE) (mem : zM) : va_W := (zeK ι).map (z_cell ι mem)
def zTys (ι : zE) : List (ClassId × FieldType) := [(zeT ι .int, .int), (zeT ι .byte, .byte), (zeT ι .short, .short), (zeT ι .boolean, .boolean), (zeT ι .long, .long), (zeT ι (.object "FourCubes$Cube"), .object "FourCubes$Cube"), (zeT ι (.object "FourCubes$Shelf"), .object "FourCubes$Shelf")]
-- the tables that nobody writes: pools 90 on
def zstv (p : Nat) : String × String × List Int32 := match p with
  | 90 => (RX8, "OPPOSITE", [2, 3, 0, 1, 5, 4])
  | 91 => (RX8, "STANDING", [5, 1, 4, 3, 0, 2, 1, 4, 3, 5, 0, 2, 4, 3, 5, 1, 0, 2, 3, 5, 1, 4, 0, 2, 0, 5, 2, 4, 1, 3, 5, 2, 4, 0, 1, 3, 2, 4, 0, 5, 1, 3, 4, 0, 5, 2, 1, 3, 4, 1, 5, 3, 2, 0, 1, 5, 3, 4, 2, 0, 5, 3, 4, 1, 2, 0, 3, 4, 1, 5, 2, 0, 0, 4, 2, 5, 3, 1, 4, 2, 5, 0, 3, 1, 2, 5, 0, 4, 3, 1, 5, 0, 4, 2, 3, 1, 0, 1, 2, 3, 4, 5, 1, 2, 3, 0, 4, 5, 2, 3, 0, 1, 4, 5, 3, 0, 1, 2, 4, 5, 2, 1, 0, 3, 5, 4, 1, 0, 3, 2, 5, 4, 0, 3, 2, 1, 5, 4, 3, 2, 1, 0, 5, 4])
  | 92 => (RX8, "LOWER", [0, 0, 1, 0, 1, 2])
  | 93 => (RX8, "HIGHER", [1, 2, 2, 3, 3, 3])
  | 94 => (RX0, "ABOVE", [-1, 0, 0, 2, 1, 4, 0, 6])
  | _ => (RX0, "OWN", [1, 10, 11, 2, 20, 0, 0, 0, 0, 30, 0, 0, 0, 41, 40, 0, 0, 0, 0, 50, 0, 0, 60, 61, 70, 0, 0, 0, 81, 80, 0, 0])
def zstf (p j : Nat) : Int32 := (zstv p).2.2.getD j 0
def zstN (p : Nat) : Nat := (zstv p).2.2.length
def z_stat (ι : zE) (A : Nat → Prop) (U : State) (H : Heap) : Prop := ∀ p : Nat, 90 ≤ p → p ≤ 95 → va_Z (zstv p).1 (zstv p).2.1 "[I" (.ref (zeR ι p 0)) A U H ∧ va_T .int (zeR ι p 0) (zstN p) (fun j => .int (zstf p j)) A U H
-- the words of the tables that pass from a call to its callee
def zNest : Cond → Bool
  | .fieldLinkNest _ _ _ _ _ _ => true
  | .methodLinkNest _ _ _ _ => true
  | _ => false
def zTS : List Cond := lw_tbl.filter (fun w => goodWord w || zNest w)
theorem zTS_warm {s U : State} {args a' : Array Value} (hW : s.WarmedH U.vm) {w : Cond} (hw : w ∈ zTS) (h : w.before args s = true) : w.before a' U = true := by
  have h1 := (List.mem_filter.mp hw).2
  rw [Bool.or_eq_true] at h1
  rcases h1 with h1 | h1
  · exact word_at hW (good_of_word h1) h
  · cases w with
    | fieldLinkNest a i b n d g => exact (va_Nw.warmF hW (va_Nw.of rfl h)).use rfl
    | methodLinkNest a i y g => exact (va_Nw.warmM hW (va_Nw.of rfl h)).use rfl
    | _ => cases h1
theorem zTS_of {w : Cond} (i : Nat) (h : tables_1[i]? = some w) (hg : (goodWord w || zNest w) = true) : w ∈ zTS := List.mem_filter.mpr ⟨List.mem_append_right _ (List.mem_of_getElem? h), hg⟩
theorem zTS_sel {w : Cond} (i : Nat) (h : (k2_sels lw_privs)[i]? = some w) (hg : (goodWord w || zNest w) = true) : w ∈ zTS := List.mem_filter.mpr ⟨List.mem_append_left _ (List.mem_of_getElem? h), hg⟩
-- locals by place
def z_lv (r : Nat → Nat → Nat) (lv : List (Option zV)) : List (Nat × Value) := lv.zipIdx.filterMap (fun q => q.1.map (fun v => (q.2, z_tv r v)))
theorem z_lv_mem {r : Nat → Nat → Nat} {lv : List (Option zV)} {i : Nat} {v : Value} : (i, v) ∈ z_lv r lv ↔ ∃ u : zV, lv[i]? = some (some u) ∧ v = z_tv r u := by
  unfold z_lv
  rw [List.mem_filterMap]
  constructor
  · rintro ⟨⟨o, j⟩, h1, h2⟩
    have h3 := List.mem_zipIdx_iff_getElem?.mp h1
    cases o with
    | none => cases h2
    | some u =>
      simp only [Option.map_some, Option.some.injEq, Prod.mk.injEq] at h2
      obtain ⟨rfl, rfl⟩ := h2
      exact ⟨u, h3, rfl⟩
  · rintro ⟨u, h1, rfl⟩
    exact ⟨(some u, i), List.mem_zipIdx_iff_getElem?.mpr h1, rfl⟩
theorem z_lget {r : Nat → Nat → Nat} {lv : List (Option zV)} {ls : Array Slot} {n i : Nat} {u : zV} (hl : lv_has ls n (z_lv r lv)) (h : lv[i]? = some (some u)) : ls[i]? = some (.val (z_tv r u)) := hl.2.2 (i, z_tv r u) (z_lv_mem.mpr ⟨u, h, rfl⟩)
def z_isJ : Option (Option zV) → Bool
  | some (some (.inr (.inl _))) => true
  | _ => false
theorem z_tv_cat {r : Nat → Nat → Nat} {u : zV} (h : (z_tv r u).category = 2) : ∃ x, u = zJ x := by
  rcases u with x | x | x
  · cases h
  · exact ⟨x, rfl⟩
  · cases h
theorem z_st1 {r : Nat → Nat → Nat} {lv : List (Option zV)} {ls' : Array Slot} {n i : Nat} {u : zV} (hj : z_isJ (lv[i - 1]?) = false) (h : lv_has ls' n ((i, z_tv r u) :: (z_lv r lv).filter (fun q => !(q.1 == i) && !(q.1 + 1 == i && q.2.category == 2)))) : lv_has ls' n (z_lv r (lv.set i (some u))) := by
  refine ⟨h.1, h.2.1, fun q hq => h.2.2 q ?_⟩
  obtain ⟨j, v⟩ := q
  obtain ⟨w, h1, rfl⟩ := z_lv_mem.mp hq
  by_cases e : i = j
  · subst e
    rw [List.getElem?_set_self' , Option.map_eq_map] at h1
    cases h2 : lv[i]? with
    | none => rw [h2] at h1; cases h1
    | some o =>
      rw [h2] at h1
      simp only [Option.map_some, Function.const, Option.some.injEq] at h1
      rw [h1]
      exact List.mem_cons_self
  · rw [List.getElem?_set_ne e] at h1
    refine List.mem_cons_of_mem _ (List.mem_filter.mpr ⟨z_lv_mem.mpr ⟨w, h1, rfl⟩, ?_⟩)
    have e1 : (j == i) = false := by simpa using fun z => e z.symm
    by_cases e2 : j + 1 = i
    · have e3 : (z_tv r w).category ≠ 2 := by
        intro z
        obtain ⟨x, rfl⟩ := z_tv_cat z
        have e4 : i - 1 = j := by omega
        rw [e4, h1] at hj
        cases hj
      have e5 : ((z_tv r w).category == 2) = false := by simpa using e3
      simp [e1, e5]
    · have e5 : (j + 1 == i) = false := by simpa using e2
      simp [e1, e5]
theorem z_st2 {r : Nat → Nat → Nat} {lv : List (Option zV)} {ls' : Array Slot} {n i : Nat} {u : zV} (hj : z_isJ (lv[i - 1]?) = false) (h : lv_has ls' n ((i, z_tv r u) :: (z_lv r lv).filter (fun q => !(q.1 == i) && (!(q.1 == i + 1) && !(q.1 + 1 == i && q.2.category == 2))))) : lv_has ls' n (z_lv r ((lv.set (i + 1) none).set i (some u))) := by
  refine ⟨h.1, h.2.1, fun q hq => h.2.2 q ?_⟩
  obtain ⟨j, v⟩ := q
  obtain ⟨w, h1, rfl⟩ := z_lv_mem.mp hq
  by_cases e : i = j
  · subst e
    rw [List.getElem?_set_self' , Option.map_eq_map] at h1
    cases h2 : (lv.set (i + 1) none)[i]? with
    | none => rw [h2] at h1; cases h1
    | some o =>
      rw [h2] at h1
      simp only [Option.map_some, Function.const, Option.some.injEq] at h1
      rw [h1]
      exact List.mem_cons_self
  · rw [List.getElem?_set_ne e] at h1
    by_cases e0 : i + 1 = j
    · subst e0
      rw [List.getElem?_set_self' , Option.map_eq_map] at h1
      cases h2 : lv[i + 1]? with
      | none => rw [h2] at h1; cases h1
      | some o =>
        rw [h2] at h1
        simp only [Option.map_some, Function.const, Option.some.injEq] at h1
        cases h1
    · rw [List.getElem?_set_ne e0] at h1
      refine List.mem_cons_of_mem _ (List.mem_filter.mpr ⟨z_lv_mem.mpr ⟨w, h1, rfl⟩, ?_⟩)
      have e1 : (j == i) = false := by simpa using fun z => e z.symm
      have e6 : (j == i + 1) = false := by simpa using fun z => e0 z.symm
      by_cases e2 : j + 1 = i
      · have e3 : (z_tv r w).category ≠ 2 := by
          intro z
          obtain ⟨x, rfl⟩ := z_tv_cat z
          have e4 : i - 1 = j := by omega
          rw [e4, h1] at hj
          cases hj
        have e5 : ((z_tv r w).category == 2) = false := by simpa using e3
        simp [e1, e5, e6]
      · have e5 : (j + 1 == i) = false := by simpa using e2
        simp [e1, e5, e6]
