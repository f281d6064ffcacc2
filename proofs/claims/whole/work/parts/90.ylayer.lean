/-! the constructors' layer: the world as a list of cells, growing -/
abbrev yX : Type := Program × Launch × Env × Room × State × MethodId × Array Value × List Frame × Method × Code × (Nat → Prop) × (State → Prop)
def yr0 : Nat → Nat → Nat := fun p _ => p
def yW (ι : zE) (M : zMR) (X : yX) (pc : Nat) (lv : List (Option zV)) (st : List zV) (ws : va_W) (cells slots : Nat) : Prop :=
  match X with
  | (p, l, e, R, s, m, args, below, meth, c, A, Q) => ∀ (H : Heap) (locs : List Loc) (ls : Array Slot), va_P (zeD ι) zCl ws H → va_D A ws → va_S A s.heap H locs → lv_has ls M.2.2.1 (z_lv yr0 lv) → W p l e R s m args below meth c H locs cells slots Q (F0 m pc ls (st.map (z_tv yr0)))
def yAO (U : State) : Prop := va_AO "FourCubes$Cube" U ∧ va_AO "FourCubes$Shelf" U
theorem yAO.moved {u U : State} (hvm : u.vm.Alike U.vm) (h : yAO u) : yAO U := ⟨h.1.moved hvm, h.2.moved hvm⟩
def yG (ι : zE) (M : zMR) (X : yX) (n mc ms : Nat) : Prop :=
  match X with
  | (p, l, e, R, s, m, args, below, meth, c, A, Q) => p.tables.exec = Jvm.exec ∧ c.code = M.2.1 ∧ c.maxLocals = M.2.2.1 ∧ s.vm.findClass M.1.cls = some m.cls ∧ (∀ w ∈ zTS, w.before args s = true) ∧ meth.sig.returnType = M.2.2.2 ∧ meth.locks = false ∧ va_K (zeD ι) zCl (zTys ι) s ∧ (∀ q, s.heap.size ≤ q → A q) ∧ z_stat ι A s s.heap ∧ n ≤ R.frames ∧ 40 * n ≤ R.locals ∧ mc ≤ R.cells ∧ ms ≤ R.slots ∧ yAO s ∧ (M.1.name = "<init>" → meth.name = "<init>")
def yQ (ι : zE) (Post : va_W → Prop) (A : Nat → Prop) : Array Value → State → Outcome → State → Prop := fun _ st oc t => (∃ ws' : va_W, oc = .returned none ∧ Post ws' ∧ va_P (zeD ι) zCl ws' t.heap ∧ va_D A ws') ∧ va_F A st t
def ypre (ι : zE) (ws : va_W) (sz : Nat) (U : State) : Prop := U.heap.size = sz ∧ va_P (zeD ι) zCl ws U.heap ∧ va_K (zeD ι) zCl (zTys ι) U ∧ va_D (fun _ => True) ws ∧ z_stat ι (va_A ws sz) U U.heap ∧ yAO U
def yrm (n mc ms : Nat) : Room := { frames := n, cells := mc, slots := ms, locals := 40 * n }
def yC (l : Launch) (ι : zE) (M : zMR) (n mc ms : Nat) (av : List zV) (ws : va_W) (Post : va_W → Prop) : Prop :=
  ∀ sz : Nat, Met l M.1 (.code M.1 M.2.1 M.2.2.1 M.2.2.2 :: zTS) (yrm n mc ms) (va_Pc (av.map (z_tv yr0)) (ypre ι ws sz)) (yQ ι Post (va_A ws sz)) mc ms (va_A ws sz)
def yRt (ι : zE) (X : yX) (mc ms : Nat) (Post : va_W → Prop) : Prop :=
  match X with
  | (p, l, e, R, s, m, args, below, meth, c, A, Q) => Q = MQ below (yQ ι Post A) args s mc ms A
theorem y_enter {l : Launch} {ι : zE} {M : zMR} {n mc ms : Nat} {av : List zV} {ws : va_W} {Post : va_W → Prop} (hpl : plainName M.1.cls = true) (hle : (z_ent av).length ≤ M.2.2.1)
    (body : ∀ X : yX, X.2.1 = l → yG ι M X n mc ms → yRt ι X mc ms Post → yW ι M X 0 (z_ent0 M.2.2.1 av) [] ws 0 0) : yC l ι M n mc ms av ws Post := by
  intro sz
  refine Met.ofW (cc := M.2.1) (maxL := M.2.2.1) (ret := M.2.2.2) hpl rfl ?_
  intro p e s m args below meth c s₁ B hml hv
  obtain ⟨rfl, hsz, hP, hK, hAd, hSt, hAO⟩ := hv
  have hts := atoms_spec (ws := .code M.1 M.2.1 M.2.2.1 M.2.2.2 :: zTS) B.pre
  subst hsz
  have hb := body (p, l, e, yrm n mc ms, s, m, ((av.map (z_tv yr0)).toArray), below, meth, c, va_A ws s.heap.size, MQ below (yQ ι Post (va_A ws s.heap.size)) ((av.map (z_tv yr0)).toArray) s mc ms (va_A ws s.heap.size)) rfl
    ⟨B.exec, B.bytes, hml, findClass_of_methodNamed B.named, fun w hw => hts w (List.mem_cons_of_mem _ hw), B.returns, B.notSynchronized, hK, fun q h => Or.inr h, hSt, Nat.le_refl _, Nat.le_refl _, Nat.le_refl _, Nat.le_refl _, hAO, fun h => (name_of_methodNamed B.named B.method).1.trans h⟩ rfl
  rw [lg_entry_eq]
  exact hb s.heap [] _ hP hAd.self va_S.rf (z_ent_has hle)
theorem ypre_blind {ι : zE} {ws : va_W} {sz : Nat} {av : List Value} : FrameBlind (va_Pc av (ypre ι ws sz)) := fun a U g mk q => ⟨q.1, q.2.1, q.2.2.1, va_K.moved (u := U) (U := U.calling g mk a) (Vm.Alike.refl U.vm) q.2.2.2.1, q.2.2.2.2.1, z_stat.step (U := U.calling g mk a) q.2.2.2.2.2.1 (fun _ _ _ => rfl) (fun _ h => h) (Vm.Alike.refl U.vm), yAO.moved (u := U) (U := U.calling g mk a) (Vm.Alike.refl U.vm) q.2.2.2.2.2.2⟩
theorem yA_of {A : Nat → Prop} {ws : va_W} {sz : Nat} (hD : va_D A ws) (hz : ∀ q, sz ≤ q → A q) : ∀ q, va_A ws sz q → A q := by
  intro q h
  rcases h with ⟨k, e, h⟩ | h
  · exact hD.2 k _ h
  · exact hz q h
-- lists
theorem yat {w0 L : va_W} {k : Nat} {x : Nat × va_E} (h : L[k]? = some x) : (w0 ++ L)[w0.length + k]? = some x := by
  rw [List.getElem?_append_right (Nat.le_add_right _ _), Nat.add_sub_cancel_left]; exact h
theorem yleft {w0 L : va_W} {k : Nat} {x : Nat × va_E} (h : w0[k]? = some x) : (w0 ++ L)[k]? = some x := by
  rw [List.getElem?_append_left (List.getElem?_eq_some_iff.mp h).1]; exact h
theorem yset {w0 L L' : va_W} {k : Nat} {x : Nat × va_E} (h : L.set k x = L') : (w0 ++ L).set (w0.length + k) x = w0 ++ L' := by
  rw [List.set_append_right _ _ (Nat.le_add_right _ _), Nat.add_sub_cancel_left, h]
theorem yasc {w0 L1 L2 L' : va_W} (h : L1 ++ L2 = L') : (w0 ++ L1) ++ L2 = w0 ++ L' := by rw [List.append_assoc, h]
theorem yasc2 {w0 L1 L2 L' : va_W} (h : L1 ++ L2 = L') : w0 ++ L' = (w0 ++ L1) ++ L2 := (yasc h).symm
section YR
variable {ι : zE} {M : zMR} {X : yX} {n mc ms : Nat} {pc npc : Nat} {lv : List (Option zV)} {st : List zV} {ws ws' : va_W} {cells slots : Nat}
theorem y_re (h : ws = ws') (k : yW ι M X pc lv st ws' cells slots) : yW ι M X pc lv st ws cells slots := by rw [h]; exact k
theorem y_iconst {v : Int32} {j : Int} (hX : yG ι M X n mc ms) (hd : zD M.2.1 pc (.iconst j) 1 npc) (hv : Int32.ofInt j = v) (k : yW ι M X npc lv (zI v :: st) ws cells slots) : yW ι M X pc lv (st) ws cells slots := by
  obtain ⟨p, l, e, R, s, m, args, below, meth, c, A, Q⟩ := X
  obtain ⟨hd, rfl⟩ := hd
  intro H locs ls hP hD hS hl
  exact lv_iconst hX.1 hX.2.1 hd hv (k H locs ls hP hD hS hl)
theorem y_bipush {v : Int32} {j : Int} (hX : yG ι M X n mc ms) (hd : zD M.2.1 pc (.bipush j) 2 npc) (hv : (Int8.ofInt j).toInt32 = v) (k : yW ι M X npc lv (zI v :: st) ws cells slots) : yW ι M X pc lv (st) ws cells slots := by
  obtain ⟨p, l, e, R, s, m, args, below, meth, c, A, Q⟩ := X
  obtain ⟨hd, rfl⟩ := hd
  intro H locs ls hP hD hS hl
  exact lv_bipush hX.1 hX.2.1 hd hv (k H locs ls hP hD hS hl)
theorem y_sipush {v : Int32} {j : Int} (hX : yG ι M X n mc ms) (hd : zD M.2.1 pc (.sipush j) 3 npc) (hv : (Int16.ofInt j).toInt32 = v) (k : yW ι M X npc lv (zI v :: st) ws cells slots) : yW ι M X pc lv (st) ws cells slots := by
  obtain ⟨p, l, e, R, s, m, args, below, meth, c, A, Q⟩ := X
  obtain ⟨hd, rfl⟩ := hd
  intro H locs ls hP hD hS hl
  exact lv_sipush hX.1 hX.2.1 hd hv (k H locs ls hP hD hS hl)
theorem y_iload_n {x : Int32} {j : Fin 4} (hX : yG ι M X n mc ms) (hd : zD M.2.1 pc (.iload_n j) 1 npc) (hv : lv[(j : Nat)]? = some (some (zI x))) (k : yW ι M X npc lv (zI x :: st) ws cells slots) : yW ι M X pc lv (st) ws cells slots := by
  obtain ⟨p, l, e, R, s, m, args, below, meth, c, A, Q⟩ := X
  obtain ⟨hd, rfl⟩ := hd
  intro H locs ls hP hD hS hl
  exact lv_iload_n hX.1 hX.2.1 hd rfl (z_lget hl hv) (k H locs ls hP hD hS hl)
theorem y_iload {x : Int32} {j : Nat} (hX : yG ι M X n mc ms) (hd : zD M.2.1 pc (.iload j) 2 npc) (hv : lv[j]? = some (some (zI x))) (k : yW ι M X npc lv (zI x :: st) ws cells slots) : yW ι M X pc lv (st) ws cells slots := by
  obtain ⟨p, l, e, R, s, m, args, below, meth, c, A, Q⟩ := X
  obtain ⟨hd, rfl⟩ := hd
  intro H locs ls hP hD hS hl
  exact lv_iload hX.1 hX.2.1 hd (z_lget hl hv) (k H locs ls hP hD hS hl)
theorem y_aload_n {q i : Nat} {j : Fin 4} (hX : yG ι M X n mc ms) (hd : zD M.2.1 pc (.aload_n j) 1 npc) (hv : lv[(j : Nat)]? = some (some (zP q i))) (k : yW ι M X npc lv (zP q i :: st) ws cells slots) : yW ι M X pc lv (st) ws cells slots := by
  obtain ⟨p, l, e, R, s, m, args, below, meth, c, A, Q⟩ := X
  obtain ⟨hd, rfl⟩ := hd
  intro H locs ls hP hD hS hl
  exact lv_aload_n hX.1 hX.2.1 hd rfl (z_lget hl hv) (k H locs ls hP hD hS hl)
theorem y_astore_n {q i : Nat} {j : Fin 4} (hX : yG ι M X n mc ms) (hd : zD M.2.1 pc (.astore_n j) 1 npc) (hn : (j : Nat) < M.2.2.1) (hj : z_isJ (lv[(j : Nat) - 1]?) = false) (k : yW ι M X npc (lv.set (j : Nat) (some (zP q i))) (st) ws cells slots) : yW ι M X pc lv (zP q i :: st) ws cells slots := by
  obtain ⟨p, l, e, R, s, m, args, below, meth, c, A, Q⟩ := X
  obtain ⟨hd, rfl⟩ := hd
  intro H locs ls hP hD hS hl
  exact lv_astore_n hX.1 hX.2.1 hd rfl hl hn rfl (fun ls2 hl2 => k H locs ls2 hP hD hS (z_st1 (u := zP q i) hj hl2))
theorem y_istore_n {x : Int32} {j : Fin 4} (hX : yG ι M X n mc ms) (hd : zD M.2.1 pc (.istore_n j) 1 npc) (hn : (j : Nat) < M.2.2.1) (hj : z_isJ (lv[(j : Nat) - 1]?) = false) (k : yW ι M X npc (lv.set (j : Nat) (some (zI x))) (st) ws cells slots) : yW ι M X pc lv (zI x :: st) ws cells slots := by
  obtain ⟨p, l, e, R, s, m, args, below, meth, c, A, Q⟩ := X
  obtain ⟨hd, rfl⟩ := hd
  intro H locs ls hP hD hS hl
  exact lv_istore_n hX.1 hX.2.1 hd rfl hl hn rfl (fun ls2 hl2 => k H locs ls2 hP hD hS (z_st1 (u := zI x) hj hl2))
theorem y_istore {x : Int32} {j : Nat} (hX : yG ι M X n mc ms) (hd : zD M.2.1 pc (.istore j) 2 npc) (hn : j < M.2.2.1) (hj : z_isJ (lv[j - 1]?) = false) (k : yW ι M X npc (lv.set j (some (zI x))) (st) ws cells slots) : yW ι M X pc lv (zI x :: st) ws cells slots := by
  obtain ⟨p, l, e, R, s, m, args, below, meth, c, A, Q⟩ := X
  obtain ⟨hd, rfl⟩ := hd
  intro H locs ls hP hD hS hl
  exact lv_istore hX.1 hX.2.1 hd hl hn rfl (fun ls2 hl2 => k H locs ls2 hP hD hS (z_st1 (u := zI x) hj hl2))
theorem y_iinc {x v : Int32} {j : Nat} {d : Int} (hX : yG ι M X n mc ms) (hd : zD M.2.1 pc (.iinc j d) 3 npc) (hx : lv[j]? = some (some (zI x))) (hv : x + Int32.ofInt d = v) (hn : j < M.2.2.1) (hj : z_isJ (lv[j - 1]?) = false) (k : yW ι M X npc (lv.set j (some (zI v))) st ws cells slots) : yW ι M X pc lv st ws cells slots := by
  obtain ⟨p, l, e, R, s, m, args, below, meth, c, A, Q⟩ := X
  obtain ⟨hd, rfl⟩ := hd
  intro H locs ls hP hD hS hl
  obtain ⟨i, hi⟩ := List.getElem?_of_mem (z_lv_mem (r := yr0) (lv := lv) (i := j) (v := .int x) |>.mpr ⟨zI x, hx, rfl⟩)
  exact lv_iinc hX.1 hX.2.1 hd hl hi hv hn rfl (fun ls2 hl2 => k H locs ls2 hP hD hS (z_st1 (u := zI v) hj hl2))
theorem y_dupP {q i : Nat} (hX : yG ι M X n mc ms) (hd : zD M.2.1 pc (.dup) 1 npc) (k : yW ι M X npc lv (zP q i :: zP q i :: st) ws cells slots) : yW ι M X pc lv (zP q i :: st) ws cells slots := by
  obtain ⟨p, l, e, R, s, m, args, below, meth, c, A, Q⟩ := X
  obtain ⟨hd, rfl⟩ := hd
  intro H locs ls hP hD hS hl
  exact lv_dup hX.1 hX.2.1 hd rfl (k H locs ls hP hD hS hl)
theorem y_icmp_ge {x y : Int32} {off : Int} {tgt : Nat} (hX : yG ι M X n mc ms) (hd : zD M.2.1 pc (.if_icmp .ge off) 3 npc) (ht : (pc : Int) + off = (tgt : Int)) (kt : y ≤ x → yW ι M X tgt lv st ws cells slots) (kf : ¬ y ≤ x → yW ι M X npc lv st ws cells slots) : yW ι M X pc lv (zI y :: zI x :: st) ws cells slots := by
  obtain ⟨p, l, e, R, s, m, args, below, meth, c, A, Q⟩ := X
  obtain ⟨hd, rfl⟩ := hd
  intro H locs ls hP hD hS hl
  exact lv_icmp_ge hX.1 hX.2.1 hd ht (fun h => kt h H locs ls hP hD hS hl) (fun h => kf h H locs ls hP hD hS hl)
theorem y_goto {off : Int} {tgt : Nat} (hX : yG ι M X n mc ms) (hd : zD M.2.1 pc (.goto off) 3 npc) (ht : (pc : Int) + off = (tgt : Int)) (k : yW ι M X tgt lv st ws cells slots) : yW ι M X pc lv st ws cells slots := by
  obtain ⟨p, l, e, R, s, m, args, below, meth, c, A, Q⟩ := X
  obtain ⟨hd, rfl⟩ := hd
  intro H locs ls hP hD hS hl
  exact lv_goto hX.1 hX.2.1 hd ht (k H locs ls hP hD hS hl)
theorem y_ret {Post : va_W → Prop} (hX : yG ι M X n mc ms) (hR : yRt ι X mc ms Post) (hd : zD M.2.1 pc (.return_) 1 npc) (hr : M.2.2.2 = none) (hc : cells ≤ mc) (hs : slots ≤ ms) (k : Post ws) : yW ι M X pc lv [] ws cells slots := by
  obtain ⟨p, l, e, R, s, m, args, below, meth, c, A, Q⟩ := X
  obtain ⟨hd, rfl⟩ := hd
  intro H locs ls hP hD hS hl
  have hR : Q = MQ below (yQ ι Post A) args s mc ms A := hR
  subst hR
  have hlocks : meth.locks = false := hX.2.2.2.2.2.2.1
  refine W.widen hc hs ?_
  exact W.vret hX.1 hX.2.1 (hX.2.2.2.2.2.1.trans hr) (fun t ht hW => ⟨⟨ws, rfl, k, by rw [ht]; exact hP, hD⟩, hS.F ht⟩) hS.2.2 hd
theorem y_obj {idx q i : Nat} (hX : yG ι M X n mc ms) (hd : zD M.2.1 pc (.invokespecial idx) 3 npc) (h1 : Cond.methodLink M.1.cls idx Lib.objectInit ∈ zTS) (h2 : Cond.instanceMethod Lib.objectInit ∈ zTS) (h3 : Cond.code Lib.objectInit ⟨#[0xb1]⟩ 1 none ∈ zTS) (hn : 1 ≤ n) (k : yW ι M X npc lv [] ws cells slots) : yW ι M X pc lv [zP q i] ws cells slots := by
  obtain ⟨p, l, e, R, s, m, args, below, meth, c, A, Q⟩ := X
  obtain ⟨hd, rfl⟩ := hd
  intro H locs ls hP hD hS hl
  obtain ⟨hx, hb, hml, hown, hts, hret, hlocks, hK, hA, hSt, hfr, hlo, hce0, hsl0, hAO, hin0⟩ := hX
  exact W.objInit hx hb hown (hts _ h1) (hts _ h2) (hts _ h3) rfl (by rw [hml]; exact hl.1) rfl hd (by omega) (by show 2 * 0 + 0 + 12 ≤ R.locals; omega) (k H locs ls hP hD hS hl)
theorem y_new {idx ci N : Nat} {C : String} {T : u_T} {ty : Nat → FieldType} {fs : List Value} {ws2 : Nat → va_W} {c2 s2 : Nat} (hX : yG ι M X n mc ms) (hd : zD M.2.1 pc (.new idx) 3 npc) (hcl : Cond.classLink M.1.cls idx C ∈ zTS) (hinst : Cond.instantiable C N ∈ zTS) (hini : Cond.initialized C ∈ zTS) (hin : ∀ w ∈ u_ws C T N, w ∈ zTS) (hty : ∀ k, k < N → parseFieldDescriptor (T k).2.2.1 = some (ty k)) (hc : zCl[ci]? = some (C, T, N)) (hfs : ∀ j, j < N → defaultValue (ty j) = vp_V fs j) (hc2 : cells + 1 = c2) (hs2 : slots + N = s2) (hce : c2 ≤ mc) (hsl : s2 ≤ ms) (hw : ∀ q, ws ++ [(q, .inr (ci, fs))] = ws2 q) (kk : ∀ q, yW ι M X npc lv (zP q 0 :: st) (ws2 q) c2 s2) : yW ι M X pc lv st ws cells slots := by
  subst hc2
  subst hs2
  obtain ⟨p, l, e, R, s, m, args, below, meth, c, A, Q⟩ := X
  obtain ⟨hd, rfl⟩ := hd
  intro H locs ls hP hD hS hl
  obtain ⟨hx, hb, hml, hown, hts, hret, hlocks, hK, hA, hSt, hfr, hlo, hce0, hsl0, hAO, hin0⟩ := hX
  refine va_new hx hb hts hin ty hty hown (hts _ hcl) (hts _ hinst) (hts _ hini) hK hP hD hS hA hc hfs (Nat.le_trans hce hce0) (Nat.le_trans hsl hsl0) hd (fun q H1 hP1 hD1 hS1 => ?_)
  rw [hw] at hP1 hD1
  exact kk q H1 locs ls hP1 hD1 hS1 hl
theorem y_newa {at_ : ArrayType} {ty : FieldType} {t0 N' : Nat} {nN : Int32} {a0 : vp_A} {ws2 : Nat → va_W} {c2 s2 : Nat} (hX : yG ι M X n mc ms) (hd : zD M.2.1 pc (.newarray at_) 2 npc) (hw0 : Cond.arrayClass ty ∈ zTS) (hty : newarray.typeOf at_ = ty) (ht : (zTys ι)[t0]? = some (zeT ι ty, ty)) (huq : ∀ (s : State) (a b : ClassId), va_RA s a ty → va_RA s b ty → a = b) (ha : ∀ cA : ClassId, vp_cell cA a0 = arrV cA N' (fun _ => defaultValue ty)) (hn : ¬ nN < 0) (hN : nN.toNatClampNeg = N') (hbt : N' * componentBytes ty ≤ 536870912) (hc2 : cells + 1 = c2) (hs2 : slots + N' = s2) (hce : c2 ≤ mc) (hsl : s2 ≤ ms) (hw : ∀ q, ws ++ [(q, .inl (zeT ι ty, a0))] = ws2 q) (kk : ∀ q, yW ι M X npc lv (zP q 0 :: st) (ws2 q) c2 s2) : yW ι M X pc lv (zI nN :: st) ws cells slots := by
  subst hc2
  subst hs2
  obtain ⟨p, l, e, R, s, m, args, below, meth, c, A, Q⟩ := X
  obtain ⟨hd, rfl⟩ := hd
  intro H locs ls hP hD hS hl
  obtain ⟨hx, hb, hml, hown, hts, hret, hlocks, hK, hA, hSt, hfr, hlo, hce0, hsl0, hAO, hin0⟩ := hX
  refine va_newa (ty := ty) (a0 := a0) hx hb (by rw [hty]; exact hts _ hw0) hty hK hP hD hS hA ha hn hN hbt (Nat.le_trans hce hce0) (Nat.le_trans hsl hsl0) hd (fun q cA H1 hK1 hP1 hD1 hS1 => ?_)
  have e1 : cA = zeT ι ty := huq s _ _ (hK1.2 (zTys ι).length (cA, ty) (by rw [List.getElem?_append_right (Nat.le_refl _), Nat.sub_self]; rfl)).2 (hK.2 t0 _ ht).2
  rw [e1, hw] at hP1 hD1
  exact kk q H1 locs ls hP1 hD1 hS1 hl
theorem y_newq {C : String} {idx t0 N' : Nat} {nN : Int32} {ws2 : Nat → va_W} {c2 s2 : Nat} (hX : yG ι M X n mc ms) (hd : zD M.2.1 pc (.anewarray idx) 3 npc) (hcl : Cond.classLink M.1.cls idx C ∈ zTS) (hov : ∀ U, yAO U → va_AO C U) (ht : (zTys ι)[t0]? = some (zeT ι (.object C), .object C)) (huq : ∀ (s : State) (a b : ClassId), va_RA s a (.object C) → va_RA s b (.object C) → a = b) (hn : ¬ nN < 0) (hN : nN.toNatClampNeg = N') (hbt : N' * 4 ≤ 536870912) (hc2 : cells + 1 = c2) (hs2 : slots + N' = s2) (hce : c2 ≤ mc) (hsl : s2 ≤ ms) (hw : ∀ q, ws ++ [(q, .inl (zeT ι (.object C), N', .inr (.inr (.inr (.inr (fun _ => none))))))] = ws2 q) (kk : ∀ q, yW ι M X npc lv (zP q 0 :: st) (ws2 q) c2 s2) : yW ι M X pc lv (zI nN :: st) ws cells slots := by
  subst hc2
  subst hs2
  obtain ⟨p, l, e, R, s, m, args, below, meth, c, A, Q⟩ := X
  obtain ⟨hd, rfl⟩ := hd
  intro H locs ls hP hD hS hl
  obtain ⟨hx, hb, hml, hown, hts, hret, hlocks, hK, hA, hSt, hfr, hlo, hce0, hsl0, hAO, hin0⟩ := hX
  refine va_newq (C := C) hx hb hown (hts _ hcl) (hov _ hAO) hK hP hD hS hA hn hN hbt (Nat.le_trans hce hce0) (Nat.le_trans hsl hsl0) hd (fun q cA H1 hK1 hP1 hD1 hS1 => ?_)
  have e1 : cA = zeT ι (.object C) := huq s _ _ (hK1.2 (zTys ι).length (cA, .object C) (by rw [List.getElem?_append_right (Nat.le_refl _), Nat.sub_self]; rfl)).2 (hK.2 t0 _ ht).2
  rw [e1, hw] at hP1 hD1
  exact kk q H1 locs ls hP1 hD1 hS1 hl
theorem y_putF {idx ci j N i a : Nat} {C : String} {T : u_T} {ty0 : Nat → FieldType} {ty : FieldType} {v : zV} {fs : List Value} (hX : yG ι M X n mc ms) (hd : zD M.2.1 pc (.putfield idx) 3 npc) (hl0 : Cond.fieldLink M.1.cls idx C (T j).2.1 (T j).2.2.1 ∈ zTS) (hin : ∀ w ∈ u_ws C T N, w ∈ zTS) (hty : ∀ k, k < N → parseFieldDescriptor (T k).2.2.1 = some (ty0 k)) (hnm : ∀ a, a < N → ∀ b, b < N → a ≠ b → (T a).2.1 ≠ (T b).2.1) (hc : zCl[ci]? = some (C, T, N)) (hj : j < N) (hfin : (T j).2.2.2 = true) (hini : M.1.name = "<init>") (hTC : (T j).1 = C) (hdecl : C = M.1.cls) (hdt : parseFieldDescriptor (T j).2.2.1 = some ty) (hnr : narrow ty (z_tv yr0 v) = z_tv yr0 v) (hfit : fits ty (z_tv yr0 v) = true) (hln : j < fs.length) (he : ws[i]? = some (a, .inr (ci, fs))) (hw : ws.set i (a, .inr (ci, fs.set j (z_tv yr0 v))) = ws') (kk : yW ι M X npc lv st ws' cells slots) : yW ι M X pc lv (v :: zP a 0 :: st) ws cells slots := by
  obtain ⟨p, l, e, R, s, m, args, below, meth, c, A, Q⟩ := X
  obtain ⟨hd, rfl⟩ := hd
  intro H locs ls hP hD hS hl
  obtain ⟨hx, hb, hml, hown, hts, hret, hlocks, hK, hA, hSt, hfr, hlo, hce0, hsl0, hAO, hin0⟩ := hX
  refine va_putF hx hb hts hin ty0 hty hnm hown hK hP hD hS i he hc j hj (hts _ hl0) (fun x hx => by rw [hTC] at hx; exact hx) hfin (hin0 hini) (hTC.trans hdecl) hdt hnr hfit hln hd (fun H1 locs1 hP1 hD1 hS1 => ?_)
  rw [hw] at hP1 hD1
  exact kk H1 locs1 ls hP1 hD1 hS1 hl
theorem y_put {idx ci j i a : Nat} {ty : FieldType} {v : zV} {fs : List Value} (hX : yG ι M X n mc ms) (hd : zD M.2.1 pc (.putfield idx) 3 npc) (hf : zFp M.1.cls idx ci j ty) (hnr : narrow ty (z_tv yr0 v) = z_tv yr0 v) (hfit : fits ty (z_tv yr0 v) = true) (hln : j < fs.length) (he : ws[i]? = some (a, .inr (ci, fs))) (hw : ws.set i (a, .inr (ci, fs.set j (z_tv yr0 v))) = ws') (kk : yW ι M X npc lv st ws' cells slots) : yW ι M X pc lv (v :: zP a 0 :: st) ws cells slots := by
  obtain ⟨p, l, e, R, s, m, args, below, meth, c, A, Q⟩ := X
  obtain ⟨hd, rfl⟩ := hd
  intro H locs ls hP hD hS hl
  obtain ⟨hx, hb, hml, hown, hts, hret, hlocks, hK, hA, hSt, hfr, hlo, hce0, hsl0, hAO, hin0⟩ := hX
  obtain ⟨C, T, N, ty0, h1, h2, h3, h4, h5, h6, h7, h8, h9⟩ := hf
  refine va_put hx hb hts h4 ty0 h6 h7 hown hK hP hD hS i he h1 j h2 (hts _ h3) (fun x hx => by rw [h5] at hx; exact hx) h8 h9 hnr hfit hln hd (fun H1 locs1 hP1 hD1 hS1 => ?_)
  rw [hw] at hP1 hD1
  exact kk H1 locs1 ls hP1 hD1 hS1 hl
theorem y_get {idx ci j i a : Nat} {v : zV} {fs : List Value} (hX : yG ι M X n mc ms) (hd : zD M.2.1 pc (.getfield idx) 3 npc) (hf : zF M.1.cls idx ci j) (he : ws[i]? = some (a, .inr (ci, fs))) (hv : fs[j]? = some (z_tv yr0 v)) (kk : yW ι M X npc lv (v :: st) ws cells slots) : yW ι M X pc lv (zP a 0 :: st) ws cells slots := by
  obtain ⟨p, l, e, R, s, m, args, below, meth, c, A, Q⟩ := X
  obtain ⟨hd, rfl⟩ := hd
  intro H locs ls hP hD hS hl
  obtain ⟨hx, hb, hml, hown, hts, hret, hlocks, hK, hA, hSt, hfr, hlo, hce0, hsl0, hAO, hin0⟩ := hX
  obtain ⟨C, T, N, h1, h2, h3, h4, h5⟩ := hf
  exact va_get hx hb hts h4 hown hK hP i he h1 j h2 (hts _ h3) (fun x hx => by rw [h5] at hx; exact hx) hv hd (kk H locs ls hP hD hS hl)
theorem y_iast {N i j a : Nat} {x v : Int32} {f : Nat → Int32} (hX : yG ι M X n mc ms) (hd : zD M.2.1 pc (.iastore) 1 npc) (he : ws[i]? = some (a, .inl (zeT ι .int, N, .inl f))) (hx : x = nI j) (hj : j < N) (hN : N < 2 ^ 31) (hw : ws.set i (a, .inl (zeT ι .int, N, .inl (upd f j v))) = ws') (kk : yW ι M X npc lv st ws' cells slots) : yW ι M X pc lv (zI v :: zI x :: zP a 0 :: st) ws cells slots := by
  subst hx
  obtain ⟨p, l, e, R, s, m, args, below, meth, c, A, Q⟩ := X
  obtain ⟨hd, rfl⟩ := hd
  intro H locs ls hP hD hS hl
  obtain ⟨hx, hb, hml, hown, hts, hret, hlocks, hK, hA, hSt, hfr, hlo, hce0, hsl0, hAO, hin0⟩ := hX
  refine va_iast hx hb hK hP hD hS i 0 he rfl (vp_in_nI hj hN) hd (fun H1 locs1 hP1 hD1 hS1 => ?_)
  rw [nI_clamp (Nat.lt_trans hj hN), hw] at hP1 hD1
  exact kk H1 locs1 ls hP1 hD1 hS1 hl
theorem y_ald {N i j a q t0 : Nat} {C : String} {x : Int32} {f : Nat → Option Nat} (hX : yG ι M X n mc ms) (hd : zD M.2.1 pc (.aaload) 1 npc) (ht : (zTys ι)[t0]? = some (zeT ι (.object C), .object C)) (he : ws[i]? = some (a, .inl (zeT ι (.object C), N, .inr (.inr (.inr (.inr f)))))) (hx : x = nI j) (hj : j < N) (hN : N < 2 ^ 31) (hq : f j = some q) (kk : yW ι M X npc lv (zP q 0 :: st) ws cells slots) : yW ι M X pc lv (zI x :: zP a 0 :: st) ws cells slots := by
  subst hx
  obtain ⟨p, l, e, R, s, m, args, below, meth, c, A, Q⟩ := X
  obtain ⟨hd, rfl⟩ := hd
  intro H locs ls hP hD hS hl
  obtain ⟨hx, hb, hml, hown, hts, hret, hlocks, hK, hA, hSt, hfr, hlo, hce0, hsl0, hAO, hin0⟩ := hX
  refine va_aldq hx hb hK hP i t0 he ht (vp_in_nI hj hN) hd ?_
  rw [nI_clamp (Nat.lt_trans hj hN), hq]
  exact kk H locs ls hP hD hS hl
theorem y_ast {N i j a q t0 i1 ci : Nat} {r : vw_C} {x : Int32} {f : Nat → Option Nat} {vs : List Value} (hX : yG ι M X n mc ms) (hd : zD M.2.1 pc (.aastore) 1 npc) (ht : (zTys ι)[t0]? = some (zeT ι (.object r.1), .object r.1)) (he : ws[i]? = some (a, .inl (zeT ι (.object r.1), N, .inr (.inr (.inr (.inr f)))))) (he1 : ws[i1]? = some (q, .inr (ci, vs))) (hc : zCl[ci]? = some r) (hx : x = nI j) (hj : j < N) (hN : N < 2 ^ 31) (hw : ws.set i (a, .inl (zeT ι (.object r.1), N, .inr (.inr (.inr (.inr (va_up f j (some q))))))) = ws') (kk : yW ι M X npc lv st ws' cells slots) : yW ι M X pc lv (zP q 0 :: zI x :: zP a 0 :: st) ws cells slots := by
  subst hx
  obtain ⟨p, l, e, R, s, m, args, below, meth, c, A, Q⟩ := X
  obtain ⟨hd, rfl⟩ := hd
  intro H locs ls hP hD hS hl
  obtain ⟨hx, hb, hml, hown, hts, hret, hlocks, hK, hA, hSt, hfr, hlo, hce0, hsl0, hAO, hin0⟩ := hX
  refine va_astq hx hb hK hP hD hS i t0 i1 ci he ht he1 hc (vp_in_nI hj hN) hd (fun H1 locs1 hP1 hD1 hS1 => ?_)
  rw [nI_clamp (Nat.lt_trans hj hN), hw] at hP1 hD1
  exact kk H1 locs1 ls hP1 hD1 hS1 hl
theorem yD_cong {A : Nat → Prop} {w1 w2 : va_W} (h : w2.map Prod.fst = w1.map Prod.fst) (hD : va_D A w1) : va_D A w2 := by
  have key : ∀ (k : Nat) (q : Nat × va_E), w2[k]? = some q → ∃ q', w1[k]? = some q' ∧ q'.1 = q.1 := by
    intro k q hk
    have h1 : (w2.map Prod.fst)[k]? = some q.1 := by rw [List.getElem?_map, hk]; rfl
    rw [h, List.getElem?_map] at h1
    cases hq : w1[k]? with
    | none => rw [hq] at h1; cases h1
    | some q' => rw [hq] at h1; exact ⟨q', rfl, Option.some.inj h1⟩
  refine ⟨fun i j p q hi hj e => ?_, fun k q hk => ?_⟩
  · obtain ⟨p', a1, a2⟩ := key i p hi
    obtain ⟨q', b1, b2⟩ := key j q hj
    exact hD.1 i j p' q' a1 b1 (by rw [a2, b2]; exact e)
  · obtain ⟨q', a1, a2⟩ := key k q hk
    rw [← a2]; exact hD.2 k q' a1
theorem y_arq {N i a : Nat} {cA : ClassId} {f g : Nat → Option Nat} (he : ws[i]? = some (a, .inl (cA, N, .inr (.inr (.inr (.inr f)))))) (hfg : ∀ j, j < N → f j = g j) (hw : ws.set i (a, .inl (cA, N, .inr (.inr (.inr (.inr g))))) = ws') (kk : yW ι M X pc lv st ws' cells slots) : yW ι M X pc lv st ws cells slots := by
  obtain ⟨p, l, e, R, s, m, args, below, meth, c, A, Q⟩ := X
  intro H locs ls hP hD hS hl
  have e0 : arrV cA N (fun j => va_rf (f j)) = arrV cA N (fun j => va_rf (g j)) := by
    unfold arrV
    congr 2
    funext j
    show va_rf (f j.val) = va_rf (g j.val)
    rw [hfg j.val j.isLt]
  have h1 : va_at (zeD ι) zCl (a, .inl (cA, N, .inr (.inr (.inr (.inr g))))) H := by
    have := hP i _ he
    show H[a]? = some (vp_cell _ _)
    rw [vp_cell_q, ← e0]; exact this
  have hP1 : va_P (zeD ι) zCl ws' H := by rw [← hw]; exact hP.set hD he h1 (fun _ _ => rfl)
  have hD1 : va_D A ws' := by rw [← hw]; exact hD.set he
  exact kk H locs ls hP1 hD1 hS hl
theorem y_mv {w0 a b : va_W} {x : Nat × va_E} (kk : yW ι M X pc lv st ((w0 ++ (a ++ b)) ++ [x]) cells slots) : yW ι M X pc lv st (w0 ++ (a ++ x :: b)) cells slots := by
  obtain ⟨p, l, e, R, s, m, args, below, meth, c, A, Q⟩ := X
  intro H locs ls hP hD hS hl
  have hp : ((w0 ++ (a ++ b)) ++ [x]).Perm (w0 ++ (a ++ x :: b)) := by
    rw [List.append_assoc]
    refine List.Perm.append_left w0 ?_
    rw [List.append_assoc]
    exact List.Perm.append_left a (List.perm_append_singleton x b)
  have key : ∀ (k : Nat) (q : Nat × va_E), ((w0 ++ (a ++ b)) ++ [x])[k]? = some q → ∃ i, (w0 ++ (a ++ x :: b))[i]? = some q := fun k q hk => List.getElem?_of_mem (hp.mem_iff.mp (List.mem_of_getElem? hk))
  have hnd : ((w0 ++ (a ++ x :: b)).map Prod.fst).Nodup := by
    refine List.pairwise_iff_getElem.mpr (fun i j hi hj hij e => ?_)
    rw [List.getElem_map, List.getElem_map] at e
    rw [List.length_map] at hi hj
    exact absurd (hD.1 i j _ _ (List.getElem?_eq_getElem hi) (List.getElem?_eq_getElem hj) e) (Nat.ne_of_lt hij)
  have hnd2 : (((w0 ++ (a ++ b)) ++ [x]).map Prod.fst).Nodup := (hp.map Prod.fst).nodup_iff.mpr hnd
  refine kk H locs ls (fun k q hk => ?_) ⟨fun i j p q hi hj e => ?_, fun k q hk => ?_⟩ hS hl
  · obtain ⟨i, hi⟩ := key k q hk
    exact hP i q hi
  · have h1 : (((w0 ++ (a ++ b)) ++ [x]).map Prod.fst)[i]? = some p.1 := by rw [List.getElem?_map, hi]; rfl
    have h2 : (((w0 ++ (a ++ b)) ++ [x]).map Prod.fst)[j]? = some p.1 := by rw [List.getElem?_map, hj, e]; rfl
    exact (List.getElem?_inj (List.getElem?_eq_some_iff.mp h1).1 hnd2).mp (h1.trans h2.symm)
  · obtain ⟨i, hi⟩ := key k q hk
    exact hD.2 i q hi
end YR
theorem y_uqI (s : State) (a b : ClassId) (h1 : va_RA s a .int) (h2 : va_RA s b .int) : a = b := Option.some.inj ((va_nm_int h1).symm.trans (va_nm_int h2))
theorem y_uqJ (s : State) (a b : ClassId) (h1 : va_RA s a .long) (h2 : va_RA s b .long) : a = b := Option.some.inj ((va_nm_long h1).symm.trans (va_nm_long h2))
theorem y_uqB (s : State) (a b : ClassId) (h1 : va_RA s a .byte) (h2 : va_RA s b .byte) : a = b := Option.some.inj ((va_nm_byte h1).symm.trans (va_nm_byte h2))
theorem y_uqZ (s : State) (a b : ClassId) (h1 : va_RA s a .boolean) (h2 : va_RA s b .boolean) : a = b := Option.some.inj ((va_nm_boolean h1).symm.trans (va_nm_boolean h2))
theorem y_uqS (s : State) (a b : ClassId) (h1 : va_RA s a .short) (h2 : va_RA s b .short) : a = b := Option.some.inj ((va_nm_short h1).symm.trans (va_nm_short h2))
theorem y_uqO (C : String) (s : State) (a b : ClassId) (h1 : va_RA s a (.object C)) (h2 : va_RA s b (.object C)) : a = b := Option.some.inj ((va_nmO h1 rfl).symm.trans (va_nmO h2 rfl))
section YC
variable {ι : zE} {M M' : zMR} {X : yX} {n n' mc ms mc' ms' : Nat} {pc npc : Nat} {lv : List (Option zV)} {st stk as : List zV} {ws ws' : va_W} {cells slots c2 s2 : Nat}
theorem y_pay {s : State} {args : Array Value} {na : Nat} (hts : ∀ w ∈ zTS, w.before args s = true) (hM : zMc M' na) : ∀ w ∈ (Cond.code M'.1 M'.2.1 M'.2.2.1 M'.2.2.2 :: zTS), ∀ (a' : Array Value) (U : State), s.WarmedH U.vm → w.before a' U = true := by
  intro w hw a' U hW
  rcases List.mem_cons.mp hw with rfl | hw
  · exact zTS_warm hW hM.1 (hts _ hM.1)
  · exact zTS_warm hW hw (hts _ hw)
theorem y_back {P : Program} {l : Launch} {e : Env} {R : Room} {s : State} {m : MethodId} {args : Array Value} {below : List Frame} {meth : Method} {c : Code} {A : Nat → Prop} {Q : State → Prop} {H : Heap} {locs : List Loc} {ls : Array Slot} {a : Array Value} (hD : va_D A ws) (hA : ∀ q, s.heap.size ≤ q → A q) (hS : va_S A s.heap H locs) (hl : lv_has ls M.2.2.1 (z_lv yr0 lv))
    (hr : va_Run P l e R s m args below meth c H locs cells slots mc' ms' (F0 m pc ls (stk.map (z_tv yr0))) (st.map (z_tv yr0)) (yQ ι (fun ws' => yW ι M (P, l, e, R, s, m, args, below, meth, c, A, Q) (pc + 3) lv st ws' (cells + mc') (slots + ms')) (va_A ws H.size) a) (va_A ws H.size)) : W P l e R s m args below meth c H locs cells slots Q (F0 m pc ls (stk.map (z_tv yr0))) := by
  intro T hT X
  obtain ⟨v, st₀, t, T', L, h0, X', hL, e1, e2, ⟨⟨ws', hv, hp, hb, hd1⟩, hz, hk⟩, stp⟩ := hr T hT X
  have hsub : ∀ q, va_A ws H.size q → A q := yA_of hD (fun q h => hA q (Nat.le_trans hS.1 h))
  have hv2 : v = none := by cases hv; rfl
  subst hv2
  rw [h0] at hz hk
  obtain ⟨t2, a1, b1⟩ := hp T'.heap (locs ++ L) ls (by rw [e1]; exact hb) (hd1.weaken (fun _ q _ h => hsub _ h)) ⟨Nat.le_trans hS.1 (by rw [e1]; exact hz), fun q h1 h2 => by rw [e1, hk q (Nat.lt_of_lt_of_le h1 hS.1) (fun z => h2 (hsub q z))]; exact hS.2.1 q h1 h2, fun q hq => by
      rcases List.mem_append.mp hq with h | h
      · exact hS.2.2 q h
      · exact hsub _ (hL q h)⟩ hl T' rfl X'
  exact ⟨t2, stp t2 a1, b1⟩
theorem y_callI {idx na q : Nat} (hX : yG ι M X n mc ms) (hd : zD M.2.1 pc (.invokespecial idx) 3 npc) (hM : zMc M' na) (hin : Cond.instanceMethod M'.1 ∈ zTS) (hl : Cond.methodLink M.1.cls idx M'.1 ∈ zTS) (hnm : M'.1.name = "<init>") (hr : M'.2.2.2 = none) (hn : n' < n) (has : as.length = na) (hst : as.reverse ++ zP q 0 :: st = stk) (hsz : ((st.map (z_tv yr0)).map fun v => v.category).sum ≤ 8) (hc2 : cells + mc' = c2) (hs2 : slots + ms' = s2) (hce : c2 ≤ mc) (hsl : s2 ≤ ms) (hC : yC X.2.1 ι M' n' mc' ms' (zP q 0 :: as) ws (fun ws' => yW ι M X npc lv st ws' c2 s2)) : yW ι M X pc lv stk ws cells slots := by
  subst hc2
  subst hs2
  obtain ⟨y', b', nL', ret'⟩ := M'
  have hr : ret' = none := hr
  subst hr
  obtain ⟨P, l, e, R, s, m, args, below, meth, c, A, Q⟩ := X
  obtain ⟨hd, rfl⟩ := hd
  intro H locs ls hP hD hS hl2
  obtain ⟨hx, hb, hml, hown, hts, hret, hlocks, hK, hA, hSt, hfr, hlo, hce0, hsl0, hAO, hin0⟩ := hX
  have hsub : ∀ q, va_A ws H.size q → A q := yA_of hD (fun q h => hA q (Nat.le_trans hS.1 h))
  have hpay := y_pay hts hM
  obtain ⟨m1, m2, m3, m4, m5⟩ := hM
  refine y_back (a := (z_tv yr0 (zP q 0) :: as.map (z_tv yr0)).toArray) hD hA hS hl2 (va_runI (As := as.map (z_tv yr0)) (rest := st.map (z_tv yr0)) ⟨hx, hb, hml, hown, hts⟩ (hC H.size) ⟨⟨rfl, rfl, by show n' + 1 ≤ R.frames; omega, ?_, hpay, List.mem_cons_self, hts _ m1, hts _ m2, m3, fun sig h => ?_, hts _ hl⟩, hnm, hts _ hin⟩ ⟨ypre_blind, fun U hU hW => ⟨rfl, by rw [hU], by rw [hU]; exact hP, va_K.moved hW.alike hK, hD.weaken (fun _ _ _ _ => trivial), hSt.step (by rw [hU]; exact hS.2.1) hsub hW.alike, hAO.moved hW.alike⟩⟩ rfl (by simpa using has) hl2.1 (by rw [← hst]; simp [z_tv]) ?_ hd ⟨Nat.le_trans hce hce0, Nat.le_trans hsl hsl0⟩)
  · have m5 : nL' ≤ 21 := m5
    show 8 + (nL' + 11) + 40 * n' ≤ R.locals
    omega
  · rw [h] at m4
    exact (Option.some.inj m4).symm
  · show 2 * 0 + _ ≤ 8
    omega
theorem y_callIN {idx na q : Nat} {host : String} (hX : yG ι M X n mc ms) (hd : zD M.2.1 pc (.invokespecial idx) 3 npc) (hM : zMc M' na) (hin : Cond.instanceMethod M'.1 ∈ zTS) (hl : Cond.methodLinkNest M.1.cls idx M'.1 host ∈ zTS) (hnm : M'.1.name = "<init>") (hr : M'.2.2.2 = none) (hn : n' < n) (has : as.length = na) (hst : as.reverse ++ zP q 0 :: st = stk) (hsz : ((st.map (z_tv yr0)).map fun v => v.category).sum ≤ 8) (hc2 : cells + mc' = c2) (hs2 : slots + ms' = s2) (hce : c2 ≤ mc) (hsl : s2 ≤ ms) (hC : yC X.2.1 ι M' n' mc' ms' (zP q 0 :: as) ws (fun ws' => yW ι M X npc lv st ws' c2 s2)) : yW ι M X pc lv stk ws cells slots := by
  subst hc2
  subst hs2
  obtain ⟨y', b', nL', ret'⟩ := M'
  have hr : ret' = none := hr
  subst hr
  obtain ⟨P, l, e, R, s, m, args, below, meth, c, A, Q⟩ := X
  obtain ⟨hd, rfl⟩ := hd
  intro H locs ls hP hD hS hl2
  obtain ⟨hx, hb, hml, hown, hts, hret, hlocks, hK, hA, hSt, hfr, hlo, hce0, hsl0, hAO, hin0⟩ := hX
  have hsub : ∀ q, va_A ws H.size q → A q := yA_of hD (fun q h => hA q (Nat.le_trans hS.1 h))
  have hpay := y_pay hts hM
  obtain ⟨m1, m2, m3, m4, m5⟩ := hM
  refine y_back (a := (z_tv yr0 (zP q 0) :: as.map (z_tv yr0)).toArray) hD hA hS hl2 (va_runIN (As := as.map (z_tv yr0)) (rest := st.map (z_tv yr0)) (host := host) ⟨hx, hb, hml, hown, hts⟩ (hC H.size) ⟨⟨⟨rfl, rfl, by show n' + 1 ≤ R.frames; omega, ?_, hpay, List.mem_cons_self⟩, hts _ m1, hts _ m2, m3, fun sig h => ?_, hts _ hl⟩, hnm, hts _ hin⟩ ⟨ypre_blind, fun U hU hW => ⟨rfl, by rw [hU], by rw [hU]; exact hP, va_K.moved hW.alike hK, hD.weaken (fun _ _ _ _ => trivial), hSt.step (by rw [hU]; exact hS.2.1) hsub hW.alike, hAO.moved hW.alike⟩⟩ rfl (by simpa using has) hl2.1 (by rw [← hst]; simp [z_tv]) ?_ hd ⟨Nat.le_trans hce hce0, Nat.le_trans hsl hsl0⟩)
  · have m5 : nL' ≤ 21 := m5
    show 8 + (nL' + 11) + 40 * n' ≤ R.locals
    omega
  · rw [h] at m4
    exact (Option.some.inj m4).symm
  · show 2 * 0 + _ ≤ 8
    omega
/-- a call that knows a part of the world by its pools; the other cells stay -/
theorem y_callZ {r : Nat → Nat → Nat} {K : List zR} {w0 : va_W} {mem : zM} {idx ci p k cnt N : Nat} {T : u_T} {sks : List zK} {ps : List Nat} (hr9 : ∀ p, 90 ≤ p → r p 0 = zeR ι p 0) (hKn : K.Nodup) (hHas : zHas (ι.1, ι.2.1, ι.2.2.1, r, K) ps) (hX : yG ι M X n mc ms) (hd : zD M.2.1 pc (.invokevirtual idx) 3 npc) (hM : zMI M' 0) (hl : Cond.methodLink M.1.cls idx M'.1 ∈ zTS) (hsh : zsh p = (cnt, .inl (ci, sks))) (hcl : zCl[ci]? = some (M'.1.cls, T, N)) (hp : p ∈ ps) (hk : k < cnt) (hn : n' < n) (hsz : ((st.map (z_tv yr0)).map fun v => v.category).sum ≤ 8) (hcm : cells ≤ mc) (hsm : slots ≤ ms) (hC : zC X.2.1 (ι.1, ι.2.1, ι.2.2.1, r, K) M' n' [zP p k] mem (fun rr mem' => rr = none ∧ yW ι M X npc lv st (w0 ++ z_ws (ι.1, ι.2.1, ι.2.2.1, r, K) mem') cells slots)) : yW ι M X pc lv (zP (r p k) 0 :: st) (w0 ++ z_ws (ι.1, ι.2.1, ι.2.2.1, r, K) mem) cells slots := by
  obtain ⟨P, l, e, R, s, m, args, below, meth, c, A, Q⟩ := X
  obtain ⟨hd, rfl⟩ := hd
  intro H locs ls hP hD hS hl2
  obtain ⟨hx, hb, hml, hown, hts, hret, hlocks, hK, hA, hSt, hfr, hlo, hce0, hsl0, hAO, hin0⟩ := hX
  have hPz : va_P (zeD ι) zCl (z_ws (ι.1, ι.2.1, ι.2.2.1, r, K) mem) H := fun k q hk => hP (w0.length + k) q (yat hk)
  have hDz : va_D A (z_ws (ι.1, ι.2.1, ι.2.2.1, r, K) mem) := ⟨fun i j a b ha hb e => Nat.add_left_cancel (hD.1 (w0.length + i) (w0.length + j) a b (yat ha) (yat hb) e), fun k q hk => hD.2 (w0.length + k) q (yat hk)⟩
  have hAd : zAd (ι.1, ι.2.1, ι.2.2.1, r, K) (fun _ => True) := by
    refine ⟨hKn, fun a b ha hb e => ?_, fun _ _ => trivial⟩
    obtain ⟨i, hi⟩ := List.getElem?_of_mem ha
    obtain ⟨j, hj⟩ := List.getElem?_of_mem hb
    have h3 := hDz.1 i j _ _ (z_ws_at hi) (z_ws_at hj) e
    subst h3
    exact Option.some.inj (hi.symm.trans hj)
  have hsub : ∀ q, va_A (z_ws (ι.1, ι.2.1, ι.2.2.1, r, K) mem) H.size q → A q := yA_of hDz (fun q h => hA q (Nat.le_trans hS.1 h))
  have hSt2 : z_stat (ι.1, ι.2.1, ι.2.2.1, r, K) A s s.heap := fun p h1 h2 => by
    have h3 := hSt p h1 h2
    have h4 : zeR (ι.1, ι.2.1, ι.2.2.1, r, K) p 0 = zeR ι p 0 := hr9 p h1
    rw [h4]; exact h3
  obtain ⟨i, hi⟩ := List.getElem?_of_mem (hHas p k hp (by rw [hsh]; exact hk))
  have he := z_ws_at (mem := mem) hi
  rw [z_cellO hsh] at he
  have hrun := va_runV (e := e) (As := []) (rest := st.map (z_tv yr0)) (C := M'.1.cls) (g := F0 m pc ls ((zP (r p k) 0 :: st).map (z_tv yr0))) (cells := cells) (slots := slots) (locs := locs) (below := below) (meth := meth) ⟨hx, hb, hml, hown, hts⟩ (hC H.size) ⟨z_callB hts hfr hlo hn hM.1 hl, hts _ hM.2.1, hts _ hM.2.2⟩ ⟨zpre_blind, va_recv hK hPz hcl he, fun U hU hW => ⟨rfl, by rw [hU], by rw [hU]; exact hPz, va_K.moved hW.alike hK, hAd, hSt2.step (by rw [hU]; exact hS.2.1) hsub hW.alike⟩⟩ rfl rfl hl2.1 rfl (by show 2 * 0 + _ ≤ 8; omega) hd ⟨Nat.le_trans hcm hce0, Nat.le_trans hsm hsl0⟩
  intro Ts hT Xs
  obtain ⟨v, st₀, t, T', L, h0, X', hL, e1, e2, ⟨⟨rr, mem', hv, ⟨hrr, hpp⟩, hbb⟩, hz, hkk⟩, stp⟩ := hrun Ts hT Xs
  subst hrr
  have hv2 : v = none := by cases hv; rfl
  subst hv2
  rw [h0] at hz hkk
  have hw0 : ∀ (k : Nat) (q : Nat × va_E), w0[k]? = some q → T'.heap[q.1]? = H[q.1]? := by
    intro k q hk
    have h1 := hP k q (yleft hk)
    rw [e1]
    refine hkk q.1 h1.lt (fun h => ?_)
    rcases h with ⟨j, ee, h⟩ | h
    · have h3 := hD.1 k (w0.length + j) _ _ (yleft hk) (yat h) rfl
      have := (List.getElem?_eq_some_iff.mp hk).1
      omega
    · exact absurd h1.lt (Nat.not_lt.mpr h)
  have hPw : va_P (zeD ι) zCl w0 H := fun k q hk => hP k q (yleft hk)
  obtain ⟨t2, a1, b1⟩ := hpp T'.heap (locs ++ L) ls ((hPw.kept hw0).app (by rw [e1]; exact hbb)) (yD_cong (by rw [List.map_append, List.map_append]; unfold z_ws; rw [List.map_map, List.map_map]; rfl) hD) ⟨Nat.le_trans hS.1 (by rw [e1]; exact hz), fun q h1 h2 => by rw [e1, hkk q (Nat.lt_of_lt_of_le h1 hS.1) (fun z => h2 (hsub q z))]; exact hS.2.1 q h1 h2, fun q hq => by
      rcases List.mem_append.mp hq with h | h
      · exact hS.2.2 q h
      · exact hsub _ (hL q h)⟩ hl2 T' rfl X'
  exact ⟨t2, stp t2 a1, b1⟩
end YC
