/-! memory: stores, and the rows that read and write cells -/
def upI (mem : zM) (p k j : Nat) (v : Int32) : zM := (fun a b c => if a = p ∧ b = k ∧ c = j then v else mem.1 a b c, mem.2)
def upJ (mem : zM) (p k j : Nat) (v : Int64) : zM := (mem.1, fun a b c => if a = p ∧ b = k ∧ c = j then v else mem.2.1 a b c, mem.2.2)
def upR (mem : zM) (p k j : Nat) (v : Nat) : zM := (mem.1, mem.2.1, fun a b c => if a = p ∧ b = k ∧ c = j then v else mem.2.2 a b c)
theorem z_cell_congr {ι : zE} {mem mem' : zM} {q : zR} (h1 : mem'.1 q.1 q.2 = mem.1 q.1 q.2) (h2 : mem'.2.1 q.1 q.2 = mem.2.1 q.1 q.2) (h3 : mem'.2.2 q.1 q.2 = mem.2.2 q.1 q.2) : z_cell ι mem' q = z_cell ι mem q := by
  unfold z_cell
  cases (zsh q.1).2 with
  | inl o => simp only [z_fs, z_sv, h1, h2, h3]
  | inr a => simp only [z_ar, h1, h2, h3]
theorem upI_ne {mem : zM} {p k j : Nat} {v : Int32} {q : zR} (h : q ≠ (p, k)) : (upI mem p k j v).1 q.1 q.2 = mem.1 q.1 q.2 := by
  funext c
  show (if q.1 = p ∧ q.2 = k ∧ c = j then v else mem.1 q.1 q.2 c) = mem.1 q.1 q.2 c
  rw [if_neg]
  rintro ⟨h1, h2, -⟩
  exact h (Prod.ext h1 h2)
theorem upJ_ne {mem : zM} {p k j : Nat} {v : Int64} {q : zR} (h : q ≠ (p, k)) : (upJ mem p k j v).2.1 q.1 q.2 = mem.2.1 q.1 q.2 := by
  funext c
  show (if q.1 = p ∧ q.2 = k ∧ c = j then v else mem.2.1 q.1 q.2 c) = mem.2.1 q.1 q.2 c
  rw [if_neg]
  rintro ⟨h1, h2, -⟩
  exact h (Prod.ext h1 h2)
theorem upR_ne {mem : zM} {p k j : Nat} {v : Nat} {q : zR} (h : q ≠ (p, k)) : (upR mem p k j v).2.2 q.1 q.2 = mem.2.2 q.1 q.2 := by
  funext c
  show (if q.1 = p ∧ q.2 = k ∧ c = j then v else mem.2.2 q.1 q.2 c) = mem.2.2 q.1 q.2 c
  rw [if_neg]
  rintro ⟨h1, h2, -⟩
  exact h (Prod.ext h1 h2)
theorem upI_row {mem : zM} {p k j : Nat} {v : Int32} : (upI mem p k j v).1 p k = upd (mem.1 p k) j v := by
  funext c
  show (if p = p ∧ k = k ∧ c = j then v else mem.1 p k c) = if c = j then v else mem.1 p k c
  by_cases h : c = j <;> simp [h]
theorem upJ_row {mem : zM} {p k j : Nat} {v : Int64} : (upJ mem p k j v).2.1 p k = vp_updL (mem.2.1 p k) j v := by
  funext c
  show (if p = p ∧ k = k ∧ c = j then v else mem.2.1 p k c) = if c = j then v else mem.2.1 p k c
  by_cases h : c = j <;> simp [h]
theorem z_ws_set {ι : zE} {mem mem' : zM} {i : Nat} {q : zR} (h : (zeK ι)[i]? = some q) (hn : (zeK ι).Nodup) (he : ∀ q', q' ≠ q → z_cell ι mem' q' = z_cell ι mem q') : (z_ws ι mem).set i (z_cell ι mem' q) = z_ws ι mem' := by
  apply List.ext_getElem?
  intro j
  have hl : i < (zeK ι).length := (List.getElem?_eq_some_iff.mp h).1
  by_cases e : i = j
  · subst e
    rw [List.getElem?_set_self (by rw [z_ws_len]; exact hl), z_ws_at h]
  · rw [List.getElem?_set_ne e]
    cases hj : (zeK ι)[j]? with
    | none => simp [z_ws, hj]
    | some q' =>
      rw [z_ws_at hj, z_ws_at hj, he q']
      intro e2
      subst e2
      exact e ((List.getElem?_inj hl hn).mp (h.trans hj.symm))
theorem z_fs_len (r : Nat → Nat → Nat) (mem : zM) (p k : Nat) (sks : List zK) : (z_fs r mem p k sks).length = sks.length := by simp [z_fs]
theorem z_fs_at {r : Nat → Nat → Nat} {mem : zM} {p k j : Nat} {sks : List zK} {sk : zK} (h : sks[j]? = some sk) : (z_fs r mem p k sks)[j]? = some (z_tv r (z_sv mem p k j sk)) := by
  have hj := (List.getElem?_eq_some_iff.mp h).1
  have hg := (List.getElem?_eq_some_iff.mp h).2
  simp [z_fs, hj, hg]
theorem z_fs_set {r : Nat → Nat → Nat} {mem mem' : zM} {p k j : Nat} {sks : List zK} {sk : zK} {v : Value} (h : sks[j]? = some sk) (hv : v = z_tv r (z_sv mem' p k j sk)) (ho : ∀ i sk', i ≠ j → z_sv mem' p k i sk' = z_sv mem p k i sk') : (z_fs r mem p k sks).set j v = z_fs r mem' p k sks := by
  apply List.ext_getElem?
  intro i
  have hj := (List.getElem?_eq_some_iff.mp h).1
  by_cases e : j = i
  · subst e
    rw [List.getElem?_set_self (by rw [z_fs_len]; exact hj), z_fs_at h, hv]
  · rw [List.getElem?_set_ne e]
    cases hi : sks[i]? with
    | none =>
      have : sks.length ≤ i := by simpa using hi
      rw [List.getElem?_eq_none (by rw [z_fs_len]; exact this), List.getElem?_eq_none (by rw [z_fs_len]; exact this)]
    | some sk' => rw [z_fs_at hi, z_fs_at hi, ho i sk' (Ne.symm e)]
theorem upI_sv {mem : zM} {p k j i : Nat} {v : Int32} {sk : zK} (h : i ≠ j) : z_sv (upI mem p k j v) p k i sk = z_sv mem p k i sk := by
  have h1 : (upI mem p k j v).1 p k i = mem.1 p k i := by
    show (if p = p ∧ k = k ∧ i = j then v else mem.1 p k i) = mem.1 p k i
    rw [if_neg]; rintro ⟨-, -, h2⟩; exact h h2
  unfold z_sv
  rw [h1]; rfl
theorem upR_sv {mem : zM} {p k j i : Nat} {v : Nat} {sk : zK} (h : i ≠ j) : z_sv (upR mem p k j v) p k i sk = z_sv mem p k i sk := by
  have h1 : (upR mem p k j v).2.2 p k i = mem.2.2 p k i := by
    show (if p = p ∧ k = k ∧ i = j then v else mem.2.2 p k i) = mem.2.2 p k i
    rw [if_neg]; rintro ⟨-, -, h2⟩; exact h h2
  unfold z_sv
  rw [h1]; rfl
theorem upI_at {mem : zM} {p k j : Nat} {v : Int32} : (upI mem p k j v).1 p k j = v := by
  show (if p = p ∧ k = k ∧ j = j then v else mem.1 p k j) = v
  rw [if_pos ⟨rfl, rfl, rfl⟩]
theorem upR_at {mem : zM} {p k j v : Nat} : (upR mem p k j v).2.2 p k j = v := by
  show (if p = p ∧ k = k ∧ j = j then v else mem.2.2 p k j) = v
  rw [if_pos ⟨rfl, rfl, rfl⟩]
theorem z_cellO {ι : zE} {mem : zM} {p k cnt ci : Nat} {sks : List zK} (h : zsh p = (cnt, .inl (ci, sks))) : z_cell ι mem (p, k) = (zeR ι p k, .inr (ci, z_fs (zeR ι) mem p k sks)) := by
  unfold z_cell; rw [h]
theorem z_cellA {ι : zE} {mem : zM} {p k cnt N : Nat} {ty : FieldType} {sk : zK} (h : zsh p = (cnt, .inr (ty, N, sk))) : z_cell ι mem (p, k) = (zeR ι p k, .inl (zeT ι ty, z_ar (zeR ι) mem p k N sk)) := by
  unfold z_cell; rw [h]
/-- a field by its link -/
def zF (own : String) (idx ci j : Nat) : Prop := ∃ (C : String) (T : u_T) (N : Nat), zCl[ci]? = some (C, T, N) ∧ j < N ∧ Cond.fieldLink own idx C (T j).2.1 (T j).2.2.1 ∈ zTS ∧ (∀ w ∈ u_ws C T N, w ∈ zTS) ∧ (T j).1 = C
def zFp (own : String) (idx ci j : Nat) (ty : FieldType) : Prop := ∃ (C : String) (T : u_T) (N : Nat) (ty0 : Nat → FieldType), zCl[ci]? = some (C, T, N) ∧ j < N ∧ Cond.fieldLink own idx C (T j).2.1 (T j).2.2.1 ∈ zTS ∧ (∀ w ∈ u_ws C T N, w ∈ zTS) ∧ (T j).1 = C ∧ (∀ k, k < N → parseFieldDescriptor (T k).2.2.1 = some (ty0 k)) ∧ (∀ a, a < N → ∀ b, b < N → a ≠ b → (T a).2.1 ≠ (T b).2.1) ∧ (T j).2.2.2 = false ∧ parseFieldDescriptor (T j).2.2.1 = some ty
section ZM
variable {ι : zE} {M : zMR} {X : zX} {n : Nat} {ps : List Nat} {pc npc : Nat} {lv : List (Option zV)} {st : List zV} {mem : zM} {p k cnt : Nat}
theorem z_get {idx ci j : Nat} {sks : List zK} {sk : zK} {v : zV} (hX : zG ι M X n ps) (hd : zD M.2.1 pc (.getfield idx) 3 npc) (hf : zF M.1.cls idx ci j) (hsh : zsh p = (cnt, .inl (ci, sks))) (hp : p ∈ ps) (hk : k < cnt) (hsk : sks[j]? = some sk) (hv : z_sv mem p k j sk = v) (kk : zW ι M X npc lv (v :: st) mem) : zW ι M X pc lv (zP p k :: st) mem := by
  obtain ⟨P, l, e, R, s, m, args, below, meth, c, A, cells, slots, Q⟩ := X
  obtain ⟨hd, rfl⟩ := hd
  intro H locs ls hP hS hl
  obtain ⟨hx, hb, hml, hown, hts, hret, hlocks, hK, hAd, hA, hSt, hfr, hlo, hce, hsl, hHas⟩ := hX
  obtain ⟨i, hi⟩ := List.getElem?_of_mem (hHas p k hp (by rw [hsh]; exact hk))
  have he := z_ws_at (mem := mem) hi
  rw [z_cellO hsh] at he
  obtain ⟨C, T, N, h1, h2, h3, h4, h5⟩ := hf
  subst hv
  exact va_get hx hb hts h4 hown hK hP i he h1 j h2 (hts _ h3) (fun x hx => by rw [h5] at hx; exact hx) (z_fs_at hsk) hd (kk H locs ls hP hS hl)
theorem z_geti {idx ci j : Nat} {sks : List zK} {q0 : Nat} {f0 : Nat → Nat → Nat} (hX : zG ι M X n ps) (hd : zD M.2.1 pc (.getfield idx) 3 npc) (hf : zF M.1.cls idx ci j) (hsh : zsh p = (cnt, .inl (ci, sks))) (hp : p ∈ ps) (hk : k < cnt) (hsk : sks[j]? = some (0, q0, f0)) (kk : zW ι M X npc lv (zI (mem.1 p k j) :: st) mem) : zW ι M X pc lv (zP p k :: st) mem := z_get hX hd hf hsh hp hk hsk rfl kk
theorem z_getc {idx ci j : Nat} {sks : List zK} {q0 : Nat} {f0 : Nat → Nat → Nat} (hX : zG ι M X n ps) (hd : zD M.2.1 pc (.getfield idx) 3 npc) (hf : zF M.1.cls idx ci j) (hsh : zsh p = (cnt, .inl (ci, sks))) (hp : p ∈ ps) (hk : k < cnt) (hsk : sks[j]? = some (2, q0, f0)) (kk : zW ι M X npc lv (zP q0 (f0 k j) :: st) mem) : zW ι M X pc lv (zP p k :: st) mem := z_get hX hd hf hsh hp hk hsk rfl kk
theorem z_getv {idx ci j : Nat} {sks : List zK} {q0 : Nat} {f0 : Nat → Nat → Nat} (hX : zG ι M X n ps) (hd : zD M.2.1 pc (.getfield idx) 3 npc) (hf : zF M.1.cls idx ci j) (hsh : zsh p = (cnt, .inl (ci, sks))) (hp : p ∈ ps) (hk : k < cnt) (hsk : sks[j]? = some (3, q0, f0)) (kk : zW ι M X npc lv (zP q0 (mem.2.2 p k j) :: st) mem) : zW ι M X pc lv (zP p k :: st) mem := z_get hX hd hf hsh hp hk hsk rfl kk
theorem z_put {idx ci j : Nat} {sks : List zK} {sk : zK} {v : zV} {mem' : zM} {ty : FieldType} (hX : zG ι M X n ps) (hd : zD M.2.1 pc (.putfield idx) 3 npc) (hf : zFp M.1.cls idx ci j ty) (hsh : zsh p = (cnt, .inl (ci, sks))) (hp : p ∈ ps) (hk : k < cnt) (hsk : sks[j]? = some sk) (hn : narrow ty (z_tv (zeR ι) v) = z_tv (zeR ι) v) (hfit : fits ty (z_tv (zeR ι) v) = true) (hv : z_sv mem' p k j sk = v) (ho : ∀ i sk', i ≠ j → z_sv mem' p k i sk' = z_sv mem p k i sk') (hq : ∀ q, q ≠ (p, k) → z_cell ι mem' q = z_cell ι mem q) (kk : zW ι M X npc lv st mem') : zW ι M X pc lv (v :: zP p k :: st) mem := by
  obtain ⟨P, l, e, R, s, m, args, below, meth, c, A, cells, slots, Q⟩ := X
  obtain ⟨hd, rfl⟩ := hd
  intro H locs ls hP hS hl
  obtain ⟨hx, hb, hml, hown, hts, hret, hlocks, hK, hAd, hA, hSt, hfr, hlo, hce, hsl, hHas⟩ := hX
  obtain ⟨i, hi⟩ := List.getElem?_of_mem (hHas p k hp (by rw [hsh]; exact hk))
  have he := z_ws_at (mem := mem) hi
  rw [z_cellO hsh] at he
  obtain ⟨C, T, N, ty0, h1, h2, h3, h4, h5, h6, h7, h8, h9⟩ := hf
  refine va_put hx hb hts h4 ty0 h6 h7 hown hK hP (hAd.D mem) hS i he h1 j h2 (hts _ h3) (fun x hx => by rw [h5] at hx; exact hx) h8 h9 hn hfit (by rw [z_fs_len]; exact (List.getElem?_eq_some_iff.mp hsk).1) hd (fun H1 locs1 hP1 _ hS1 => ?_)
  rw [z_fs_set (mem' := mem') hsk (by rw [hv]) ho] at hP1
  have hc := z_cellO (ι := ι) (mem := mem') (k := k) hsh
  rw [← hc, z_ws_set hi hAd.1 hq] at hP1
  exact kk H1 locs1 ls hP1 hS1 hl
theorem z_puti {idx ci j : Nat} {sks : List zK} {q0 : Nat} {f0 : Nat → Nat → Nat} {v : Int32} (hX : zG ι M X n ps) (hd : zD M.2.1 pc (.putfield idx) 3 npc) (hf : zFp M.1.cls idx ci j .int) (hsh : zsh p = (cnt, .inl (ci, sks))) (hp : p ∈ ps) (hk : k < cnt) (hsk : sks[j]? = some (0, q0, f0)) (kk : zW ι M X npc lv st (upI mem p k j v)) : zW ι M X pc lv (zI v :: zP p k :: st) mem :=
  z_put hX hd hf hsh hp hk hsk rfl rfl (congrArg zI upI_at) (fun _ _ h => upI_sv h) (fun _ h => z_cell_congr (upI_ne h) rfl rfl) kk
theorem z_putz {idx ci j : Nat} {sks : List zK} {q0 : Nat} {f0 : Nat → Nat → Nat} {v : Int32} (hX : zG ι M X n ps) (hd : zD M.2.1 pc (.putfield idx) 3 npc) (hf : zFp M.1.cls idx ci j .boolean) (hsh : zsh p = (cnt, .inl (ci, sks))) (hp : p ∈ ps) (hk : k < cnt) (hsk : sks[j]? = some (0, q0, f0)) (hv : v = 0 ∨ v = 1) (kk : zW ι M X npc lv st (upI mem p k j v)) : zW ι M X pc lv (zI v :: zP p k :: st) mem :=
  z_put hX hd hf hsh hp hk hsk (by rcases hv with rfl | rfl <;> rfl) (by rcases hv with rfl | rfl <;> rfl) (congrArg zI upI_at) (fun _ _ h => upI_sv h) (fun _ h => z_cell_congr (upI_ne h) rfl rfl) kk
theorem z_putv {idx ci j : Nat} {sks : List zK} {q0 i0 : Nat} {f0 : Nat → Nat → Nat} {t : FieldType} (hX : zG ι M X n ps) (hd : zD M.2.1 pc (.putfield idx) 3 npc) (hf : zFp M.1.cls idx ci j (.array t)) (hsh : zsh p = (cnt, .inl (ci, sks))) (hp : p ∈ ps) (hk : k < cnt) (hsk : sks[j]? = some (3, q0, f0)) (kk : zW ι M X npc lv st (upR mem p k j i0)) : zW ι M X pc lv (zP q0 i0 :: zP p k :: st) mem :=
  z_put hX hd hf hsh hp hk hsk rfl rfl (congrArg (zP q0) upR_at) (fun _ _ h => upR_sv h) (fun _ h => z_cell_congr rfl rfl (upR_ne h)) kk
end ZM
