/-! the activation, the judgement, the contract -/
abbrev zX : Type := Program × Launch × Env × Room × State × MethodId × Array Value × List Frame × Method × Code × (Nat → Prop) × Nat × Nat × (State → Prop)
def zW (ι : zE) (M : zMR) (X : zX) (pc : Nat) (lv : List (Option zV)) (st : List zV) (mem : zM) : Prop :=
  match X with
  | (p, l, e, R, s, m, args, below, meth, c, A, cells, slots, Q) => ∀ (H : Heap) (locs : List Loc) (ls : Array Slot), va_P (zeD ι) zCl (z_ws ι mem) H → va_S A s.heap H locs → lv_has ls M.2.2.1 (z_lv (zeR ι) lv) → W p l e R s m args below meth c H locs cells slots Q (F0 m pc ls (st.map (z_tv (zeR ι))))
/-- these pools are there whole -/
def zHas (ι : zE) (ps : List Nat) : Prop := ∀ p k : Nat, p ∈ ps → k < (zsh p).1 → (p, k) ∈ zeK ι
/-- the cells' addresses are apart and of a kind -/
def zAd (ι : zE) (A : Nat → Prop) : Prop := (zeK ι).Nodup ∧ (∀ a b : zR, a ∈ zeK ι → b ∈ zeK ι → zeR ι a.1 a.2 = zeR ι b.1 b.2 → a = b) ∧ ∀ a : zR, a ∈ zeK ι → A (zeR ι a.1 a.2)
def zG (ι : zE) (M : zMR) (X : zX) (n : Nat) (ps : List Nat) : Prop :=
  match X with
  | (p, l, e, R, s, m, args, below, meth, c, A, cells, slots, Q) => p.tables.exec = Jvm.exec ∧ c.code = M.2.1 ∧ c.maxLocals = M.2.2.1 ∧ s.vm.findClass M.1.cls = some m.cls ∧ (∀ w ∈ zTS, w.before args s = true) ∧ meth.sig.returnType = M.2.2.2 ∧ meth.locks = false ∧ va_K (zeD ι) zCl (zTys ι) s ∧ zAd ι A ∧ (∀ q, s.heap.size ≤ q → A q) ∧ z_stat ι A s s.heap ∧ n ≤ R.frames ∧ 40 * n ≤ R.locals ∧ cells ≤ R.cells ∧ slots ≤ R.slots ∧ zHas ι ps
def zQ (ι : zE) (Post : Option zV → zM → Prop) (A : Nat → Prop) : Array Value → State → Outcome → State → Prop := fun _ st oc t => (∃ (r : Option zV) (mem' : zM), oc = .returned (r.map (z_tv (zeR ι))) ∧ Post r mem' ∧ va_P (zeD ι) zCl (z_ws ι mem') t.heap) ∧ va_F A st t
def zpre (ι : zE) (mem : zM) (sz : Nat) (U : State) : Prop := U.heap.size = sz ∧ va_P (zeD ι) zCl (z_ws ι mem) U.heap ∧ va_K (zeD ι) zCl (zTys ι) U ∧ zAd ι (fun _ => True) ∧ z_stat ι (va_A (z_ws ι mem) sz) U U.heap
def zrm (n : Nat) : Room := { frames := n, cells := 0, slots := 0, locals := 40 * n }
def zC (l : Launch) (ι : zE) (M : zMR) (n : Nat) (av : List zV) (mem : zM) (Post : Option zV → zM → Prop) : Prop :=
  ∀ sz : Nat, Met l M.1 (.code M.1 M.2.1 M.2.2.1 M.2.2.2 :: zTS) (zrm n) (va_Pc (av.map (z_tv (zeR ι))) (zpre ι mem sz)) (zQ ι Post (va_A (z_ws ι mem) sz)) 0 0 (va_A (z_ws ι mem) sz)
/-- what a return wants -/
def zRt (ι : zE) (X : zX) (Post : Option zV → zM → Prop) : Prop :=
  match X with
  | (p, l, e, R, s, m, args, below, meth, c, A, cells, slots, Q) => cells = 0 ∧ slots = 0 ∧ Q = MQ below (zQ ι Post A) args s 0 0 A
-- decoding
def zD (b : ByteArray) (pc : Nat) (ins : Instr) (n npc : Nat) : Prop := decode b pc = .ok (ins, n) ∧ pc + n = npc
theorem zDall {b : ByteArray} {L : List (Nat × Instr × Nat × Nat)} (h : ∀ q ∈ L, decode b q.1 = .ok (q.2.1, q.2.2.1) ∧ q.1 + q.2.2.1 = q.2.2.2) {i pc n npc : Nat} {ins : Instr} (hi : L[i]? = some (pc, ins, n, npc)) : zD b pc ins n npc := h (pc, ins, n, npc) (List.mem_of_getElem? hi)
-- addresses
theorem z_ws_len (ι : zE) (mem : zM) : (z_ws ι mem).length = (zeK ι).length := by simp [z_ws]
theorem z_ws_at {ι : zE} {mem : zM} {i : Nat} {q : zR} (h : (zeK ι)[i]? = some q) : (z_ws ι mem)[i]? = some (z_cell ι mem q) := by simp [z_ws, h]
theorem z_ws_of {ι : zE} {mem : zM} {i : Nat} {x : Nat × va_E} (h : (z_ws ι mem)[i]? = some x) : ∃ q, (zeK ι)[i]? = some q ∧ x = z_cell ι mem q := by
  unfold z_ws at h
  rw [List.getElem?_map] at h
  cases hq : (zeK ι)[i]? with
  | none => rw [hq] at h; cases h
  | some q => rw [hq] at h; exact ⟨q, rfl, (Option.some.inj h).symm⟩
theorem zAd.D {ι : zE} {A : Nat → Prop} (h : zAd ι A) (mem : zM) : va_D A (z_ws ι mem) := by
  refine ⟨fun i j x y hx hy e => ?_, fun i x hx => ?_⟩
  · obtain ⟨a, ha, rfl⟩ := z_ws_of hx
    obtain ⟨b, hb, rfl⟩ := z_ws_of hy
    have e2 : a = b := h.2.1 a b (List.mem_of_getElem? ha) (List.mem_of_getElem? hb) e
    subst e2
    exact (List.getElem?_inj (List.getElem?_eq_some_iff.mp ha).1 h.1).mp (ha.trans hb.symm)
  · obtain ⟨a, ha, rfl⟩ := z_ws_of hx
    exact h.2.2 a (List.mem_of_getElem? ha)
theorem zAd.weak {ι : zE} {A B : Nat → Prop} (h : zAd ι A) (hAB : ∀ a : zR, a ∈ zeK ι → B (zeR ι a.1 a.2)) : zAd ι B := ⟨h.1, h.2.1, hAB⟩
theorem zA_of {ι : zE} {mem : zM} {sz q : Nat} {A : Nat → Prop} (hA : zAd ι A) (hz : ∀ q, sz ≤ q → A q) (h : va_A (z_ws ι mem) sz q) : A q := by
  rcases h with ⟨k, e, h⟩ | h
  · obtain ⟨a, ha, hx⟩ := z_ws_of h
    have h2 := hA.2.2 a (List.mem_of_getElem? ha)
    have h3 : q = zeR ι a.1 a.2 := congrArg Prod.fst hx
    rw [h3]; exact h2
  · exact hz q h
theorem zA_in {ι : zE} {mem : zM} {sz : Nat} {a : zR} (ha : a ∈ zeK ι) : va_A (z_ws ι mem) sz (zeR ι a.1 a.2) := by
  obtain ⟨i, hi⟩ := List.getElem?_of_mem ha
  exact Or.inl ⟨i, _, z_ws_at hi⟩
theorem z_stat.step {ι : zE} {A B : Nat → Prop} {u U : State} {H H1 : Heap} (h : z_stat ι A u H) (hq : ∀ a : Nat, a < H.size → ¬ A a → H1[a]? = H[a]?) (hAB : ∀ q, B q → A q) (hvm : u.vm.Alike U.vm) : z_stat ι B U H1 := fun p h1 h2 => ⟨(((h p h1 h2).1.kept hq).narrow hAB).moved hvm, (((h p h1 h2).2.kept hq).narrow hAB).moved hvm⟩
/-- the locals with which a method begins -/
def z_ent : List zV → List (Option zV)
  | [] => []
  | .inr (.inl x) :: r => some (zJ x) :: none :: z_ent r
  | v :: r => some v :: z_ent r
def z_ent0 (n : Nat) (av : List zV) : List (Option zV) := z_ent av ++ List.replicate (n - (z_ent av).length) none
theorem z_ent_len (r : Nat → Nat → Nat) : ∀ av : List zV, (lg_sl (av.map (z_tv r))).length = (z_ent av).length
  | [] => rfl
  | .inl x :: t => by
    have h := z_ent_len r t
    simp only [lg_sl, List.map_cons, List.flatMap_cons, List.length_append, z_ent, List.length_cons] at h ⊢
    rw [← h]
    show 1 + _ = _
    omega
  | .inr (.inl x) :: t => by
    have h := z_ent_len r t
    simp only [lg_sl, List.map_cons, List.flatMap_cons, List.length_append, z_ent, List.length_cons] at h ⊢
    rw [← h]
    show 2 + _ = _
    omega
  | .inr (.inr x) :: t => by
    have h := z_ent_len r t
    simp only [lg_sl, List.map_cons, List.flatMap_cons, List.length_append, z_ent, List.length_cons] at h ⊢
    rw [← h]
    show 1 + _ = _
    omega
theorem z_ent_in (r : Nat → Nat → Nat) : ∀ (av : List zV) (b i : Nat) (u : zV), (z_ent av)[i]? = some (some u) → (b + i, z_tv r u) ∈ lv_args b (av.map (z_tv r))
  | [], b, i, u, h => by simp [z_ent] at h
  | .inl x :: t, b, 0, u, h => by
    cases h
    exact List.mem_cons_self
  | .inl x :: t, b, i + 1, u, h => by
    have h2 := z_ent_in r t (b + 1) i u h
    rw [show b + (i + 1) = b + 1 + i by omega]
    exact List.mem_cons_of_mem _ h2
  | .inr (.inr x) :: t, b, 0, u, h => by
    cases h
    exact List.mem_cons_self
  | .inr (.inr x) :: t, b, i + 1, u, h => by
    have h2 := z_ent_in r t (b + 1) i u h
    rw [show b + (i + 1) = b + 1 + i by omega]
    exact List.mem_cons_of_mem _ h2
  | .inr (.inl x) :: t, b, 0, u, h => by
    cases h
    exact List.mem_cons_self
  | .inr (.inl x) :: t, b, 1, u, h => by cases h
  | .inr (.inl x) :: t, b, i + 2, u, h => by
    have h2 := z_ent_in r t (b + 2) i u h
    rw [show b + (i + 2) = b + 2 + i by omega]
    exact List.mem_cons_of_mem _ h2
theorem z_ent_has {r : Nat → Nat → Nat} {av : List zV} {n : Nat} (h : (z_ent av).length ≤ n) : lv_has ((lg_sl (av.map (z_tv r)) ++ List.replicate (n - (lg_sl (av.map (z_tv r))).length) Slot.unset).toArray) n (z_lv r (z_ent0 n av)) := by
  have h0 := lv_entry (av.map (z_tv r)) (n := n) (by rw [z_ent_len]; exact h)
  refine ⟨h0.1, h0.2.1, fun q hq => h0.2.2 q ?_⟩
  obtain ⟨i, v⟩ := q
  obtain ⟨u, h1, rfl⟩ := z_lv_mem.mp hq
  have h2 : (z_ent av)[i]? = some (some u) := by
    unfold z_ent0 at h1
    by_cases hi : i < (z_ent av).length
    · rw [List.getElem?_append_left hi] at h1; exact h1
    · rw [List.getElem?_append_right (by omega), List.getElem?_replicate] at h1
      split at h1 <;> cases h1
  have h3 := z_ent_in r av 0 i u h2
  rwa [Nat.zero_add] at h3
/-- a contract out of its body -/
theorem z_enter {l : Launch} {ι : zE} {M : zMR} {n : Nat} {av : List zV} {mem : zM} {Post : Option zV → zM → Prop} {ps : List Nat} (hH : zHas ι ps) (hpl : plainName M.1.cls = true) (hle : (z_ent av).length ≤ M.2.2.1)
    (body : ∀ X : zX, X.2.1 = l → zG ι M X n ps → zRt ι X Post → zW ι M X 0 (z_ent0 M.2.2.1 av) [] mem) : zC l ι M n av mem Post := by
  intro sz
  refine Met.ofW (cc := M.2.1) (maxL := M.2.2.1) (ret := M.2.2.2) hpl rfl ?_
  intro p e s m args below meth c s₁ B hml hv
  obtain ⟨rfl, hsz, hP, hK, hAd, hSt⟩ := hv
  have hts := atoms_spec (ws := .code M.1 M.2.1 M.2.2.1 M.2.2.2 :: zTS) B.pre
  subst hsz
  have hb := body (p, l, e, zrm n, s, m, ((av.map (z_tv (zeR ι))).toArray), below, meth, c, va_A (z_ws ι mem) s.heap.size, 0, 0, MQ below (zQ ι Post (va_A (z_ws ι mem) s.heap.size)) ((av.map (z_tv (zeR ι))).toArray) s 0 0 (va_A (z_ws ι mem) s.heap.size)) rfl
    ⟨B.exec, B.bytes, hml, findClass_of_methodNamed B.named, fun w hw => hts w (List.mem_cons_of_mem _ hw), B.returns, B.notSynchronized, hK, hAd.weak (fun a ha => zA_in ha), fun q h => Or.inr h, hSt, Nat.le_refl _, Nat.le_refl _, Nat.le_refl _, Nat.le_refl _, hH⟩ ⟨rfl, rfl, rfl⟩
  rw [lg_entry_eq]
  exact hb s.heap [] _ hP va_S.rf (z_ent_has hle)
/-- fewer locals known -/
theorem z_fewer {ι : zE} {M : zMR} {X : zX} {pc : Nat} {lv lv' : List (Option zV)} {st : List zV} {mem : zM} (h : ∀ (i : Nat) (u : zV), lv'[i]? = some (some u) → lv[i]? = some (some u)) (k : zW ι M X pc lv' st mem) : zW ι M X pc lv st mem := by
  obtain ⟨p, l, e, R, s, m, args, below, meth, c, A, cells, slots, Q⟩ := X
  intro H locs ls hP hS hl
  refine k H locs ls hP hS ⟨hl.1, hl.2.1, fun q hq => hl.2.2 q ?_⟩
  obtain ⟨i, v⟩ := q
  obtain ⟨u, h1, rfl⟩ := z_lv_mem.mp hq
  exact z_lv_mem.mpr ⟨u, h i u h1, rfl⟩
