/-! the start: classes, array classes, tables -/
theorem s_prim {s : State} {args : Array Value} {ty : FieldType} (hp : ∀ C, ty ≠ .object C) (h : (Cond.arrayClass ty).before args s = true) : ∃ cA : ClassId, ArrOfT s cA ty ∧ va_RA s cA ty := by
  obtain ⟨cA, kA, comp, h1, h2, h3⟩ := Cond.arrayClass_spec h
  refine ⟨cA, fun n z => ⟨fun k h => (by cases h), kA, h2, comp, h3⟩, ?_⟩
  cases ty <;> first | exact h1 | exact absurd rfl (hp _)
theorem s_obj {s : State} {C : String} (h : va_AO C s) : ∃ cA : ClassId, ArrOfT s cA (.object C) ∧ va_RA s cA (.object C) := by
  obtain ⟨comp, c, k, h1, h2, h3, h4, h5⟩ := Cond.arrayOver_spec h
  exact ⟨c, fun n z => ⟨fun k h => (by cases h), k, h3, comp, h4⟩, k, comp, h3, h4, h1, h5⟩
def sTy : List FieldType := [.int, .byte, .short, .boolean, .long, .object "FourCubes$Cube", .object "FourCubes$Shelf"]
theorem s_K {s : State} {args : Array Value} (hts : ∀ w ∈ zTS, w.before args s = true) (hAO : yAO s) : ∃ (dC : Nat → ClassId) (dI : Nat → Nat → Nat) (T : FieldType → ClassId), ∀ (r : Nat → Nat → Nat) (K : List zR), va_K (zeD (dC, dI, T, r, K)) zCl (zTys (dC, dI, T, r, K)) s := by
  have h1 : ∀ c : Nat, ∃ (cC : ClassId) (iS : Nat → Nat), ∀ q : vw_C, zCl[c]? = some q → u_Kn s q.1 q.2.1 q.2.2 cC iS := by
    intro c
    cases h : zCl[c]? with
    | none => exact ⟨0, fun _ => 0, fun q hq => by cases hq⟩
    | some q =>
      have hm : q ∈ zCl := List.mem_of_getElem? h
      simp only [List.mem_cons, List.not_mem_nil, or_false] at hm
      have h3 : ∃ (cC : ClassId) (iS : Nat → Nat), u_Kn s q.1 q.2.1 q.2.2 cC iS := by
        rcases hm with rfl | rfl | rfl | rfl | rfl | rfl | rfl | rfl | rfl | rfl
        · exact u_known hts inX0 (hts _ it_Bodies)
        · exact u_known hts inX1 (hts _ it_Cube)
        · exact u_known hts inX2 (hts _ it_Law)
        · exact u_known hts inX3 (hts _ it_Past)
        · exact u_known hts inX4 (hts _ it_Rings)
        · exact u_known hts inX5 (hts _ it_Search)
        · exact u_known hts inX6 (hts _ it_Shelf)
        · exact u_known hts inX7 (hts _ it_Tower)
        · exact u_known hts inX8 (hts _ it_Four)
        · exact u_known hts inX9 (hts _ it_Model)
      obtain ⟨cC, iS, hk⟩ := h3
      exact ⟨cC, iS, fun q' hq' => by cases hq'; exact hk⟩
  have h2 : ∀ ty : FieldType, ∃ cA : ClassId, ty ∈ sTy → ArrOfT s cA ty ∧ va_RA s cA ty := by
    intro ty
    by_cases h : ty ∈ sTy
    · have h3 : ∃ cA : ClassId, ArrOfT s cA ty ∧ va_RA s cA ty := by
        simp only [sTy, List.mem_cons, List.not_mem_nil, or_false] at h
        rcases h with rfl | rfl | rfl | rfl | rfl | rfl | rfl
        · exact s_prim (fun C h => by cases h) (hts _ ac_int)
        · exact s_prim (fun C h => by cases h) (hts _ ac_byte)
        · exact s_prim (fun C h => by cases h) (hts _ ac_short)
        · exact s_prim (fun C h => by cases h) (hts _ ac_boolean)
        · exact s_prim (fun C h => by cases h) (hts _ ac_long)
        · exact s_obj hAO.1
        · exact s_obj hAO.2
      obtain ⟨cA, h4⟩ := h3
      exact ⟨cA, fun _ => h4⟩
    · exact ⟨0, fun h' => absurd h' h⟩
  refine ⟨fun c => Classical.choose (h1 c), fun c => Classical.choose (Classical.choose_spec (h1 c)), fun ty => Classical.choose (h2 ty), fun r K => ⟨fun c q hq => Classical.choose_spec (Classical.choose_spec (h1 c)) q hq, fun k q hk => ?_⟩⟩
  have hm := List.mem_of_getElem? hk
  simp only [zTys, List.mem_cons, List.not_mem_nil, or_false] at hm
  rcases hm with rfl | rfl | rfl | rfl | rfl | rfl | rfl <;> exact Classical.choose_spec (h2 _) (by simp [sTy])
def sbase (p : Nat) : Nat := match p with
  | 90 => 23
  | 91 => 32
  | 92 => 5
  | 93 => 14
  | 94 => 214
  | _ => 179
def slay (p : Nat) : Nat := match p with
  | 90 => 389
  | 91 => 484
  | 92 => 53
  | 93 => 55
  | 94 => 760
  | _ => 754
def sini (p : Nat) : Nat := match p with
  | 90 => 1
  | 91 => 1
  | 92 => 1
  | 93 => 1
  | 94 => 8
  | _ => 8
theorem s_lays : ∀ p, p < 96 → 90 ≤ p → tables_1[slay p]? = some (.laysStatic (zstv p).1 (zstv p).2.1 "[I") ∧ tables_1[sini p]? = some (.initialized (zstv p).1) := by decide +kernel
theorem s_words : ∀ p, p < 96 → 90 ≤ p → (flatC (Jvm.Cond.and given_1 narrow_1))[sbase p]? = some (.arrayOf (.static (zstv p).1 (zstv p).2.1 "[I") .int) ∧ (flatC (Jvm.Cond.and given_1 narrow_1))[sbase p + 1]? = some (.eq (.length (.static (zstv p).1 (zstv p).2.1 "[I")) (.int (Int32.ofNat (zstN p)))) ∧ zstN p < 2 ^ 31 ∧ ∀ j, j < zstN p → (flatC (Jvm.Cond.and given_1 narrow_1))[sbase p + 2 + j]? = some (.eq (.elem (.static (zstv p).1 (zstv p).2.1 "[I") (.int (Int32.ofNat j))) (.int (zstf p j))) := by decide +kernel
theorem s_stat {s : State} {args : Array Value} (hts : ∀ w ∈ tables_1, w.before args s = true) (hgv : (Jvm.Cond.and given_1 narrow_1).before args s = true) : ∃ t : Nat → Nat, ∀ p : Nat, 90 ≤ p → p ≤ 95 → va_Z (zstv p).1 (zstv p).2.1 "[I" (.ref (t p)) (fun q => s.heap.size ≤ q) s s.heap ∧ va_T .int (t p) (zstN p) (fun j => .int (zstf p j)) (fun q => s.heap.size ≤ q) s s.heap := by
  have hs := flat_of_before _ hgv
  have hA : ∀ a : Nat, a < s.heap.size → ¬ (fun q => s.heap.size ≤ q) a := fun a h1 h2 => absurd h1 (Nat.not_lt.mpr h2)
  have h1 : ∀ p : Nat, ∃ t : Nat, 90 ≤ p → p ≤ 95 → va_Z (zstv p).1 (zstv p).2.1 "[I" (.ref t) (fun q => s.heap.size ≤ q) s s.heap ∧ va_T .int t (zstN p) (fun j => .int (zstf p j)) (fun q => s.heap.size ≤ q) s s.heap := by
    intro p
    by_cases h : 90 ≤ p ∧ p ≤ 95
    · obtain ⟨w1, w2, w3, w4⟩ := s_words p (by omega) h.1
      obtain ⟨l1, l2⟩ := s_lays p (by omega) h.1
      obtain ⟨t, a1, a2⟩ := va_Tof (tm := .static (zstv p).1 (zstv p).2.1 "[I") (ty := .int) (N := zstN p) (f := fun j => .int (zstf p j)) w3 (hs _ (List.mem_of_getElem? w1)) (va_eqt (hs _ (List.mem_of_getElem? w2))) (fun j hj => va_eqt (hs _ (List.mem_of_getElem? (w4 j hj)))) hA
      exact ⟨t, fun _ _ => ⟨va_Zref (hts _ (List.mem_of_getElem? l1)) (hts _ (List.mem_of_getElem? l2)) a1 hA, a2⟩⟩
    · exact ⟨0, fun a b => absurd ⟨a, b⟩ h⟩
  exact ⟨fun p => Classical.choose (h1 p), fun p a b => Classical.choose_spec (h1 p) a b⟩
theorem yAd_of {dC : Nat → ClassId} {dI : Nat → Nat → Nat} {T : FieldType → ClassId} {r : Nat → Nat → Nat} {K : List zR} {mem : zM} {A : Nat → Prop} (hKn : K.Nodup) (hD : va_D A (z_ws (dC, dI, T, r, K) mem)) : zAd (dC, dI, T, r, K) A := by
  refine ⟨hKn, fun a b ha hb e => ?_, fun a ha => ?_⟩
  · obtain ⟨i, hi⟩ := List.getElem?_of_mem ha
    obtain ⟨j, hj⟩ := List.getElem?_of_mem hb
    have h3 := hD.1 i j _ _ (z_ws_at hi) (z_ws_at hj) e
    subst h3
    exact Option.some.inj (hi.symm.trans hj)
  · obtain ⟨i, hi⟩ := List.getElem?_of_mem ha
    exact hD.2 i _ (z_ws_at hi)
