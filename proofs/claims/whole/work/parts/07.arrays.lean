/-! arrays, tables, calls -/
section ZA
variable {ι : zE} {M : zMR} {X : zX} {n : Nat} {ps : List Nat} {pc npc : Nat} {lv : List (Option zV)} {st : List zV} {mem : zM} {p k cnt : Nat}
theorem z_iald {N j q0 : Nat} {f0 : Nat → Nat → Nat} {x : Int32} (hX : zG ι M X n ps) (hd : zD M.2.1 pc (.iaload) 1 npc) (hsh : zsh p = (cnt, .inr (.int, N, (0, q0, f0)))) (hp : p ∈ ps) (hk : k < cnt) (hN : N < 2 ^ 31) (hx : x = nI j) (hj : j < N) (kk : zW ι M X npc lv (zI (mem.1 p k j) :: st) mem) : zW ι M X pc lv (zI x :: zP p k :: st) mem := by
  subst hx
  obtain ⟨P, l, e, R, s, m, args, below, meth, c, A, cells, slots, Q⟩ := X
  obtain ⟨hd, rfl⟩ := hd
  intro H locs ls hP hS hl
  obtain ⟨hx, hb, hml, hown, hts, hret, hlocks, hK, hAd, hA, hSt, hfr, hlo, hce, hsl, hHas⟩ := hX
  obtain ⟨i, hi⟩ := List.getElem?_of_mem (hHas p k hp (by rw [hsh]; exact hk))
  have he := z_ws_at (mem := mem) hi
  rw [z_cellA hsh] at he
  refine va_iald hx hb hK hP i 0 he rfl (vp_in_nI hj hN) hd ?_
  rw [nI_clamp (Nat.lt_trans hj hN)]
  exact kk H locs ls hP hS hl
theorem z_bald {N j q0 : Nat} {f0 : Nat → Nat → Nat} {x : Int32} (hX : zG ι M X n ps) (hd : zD M.2.1 pc (.baload) 1 npc) (hsh : zsh p = (cnt, .inr (.byte, N, (0, q0, f0)))) (hp : p ∈ ps) (hk : k < cnt) (hN : N < 2 ^ 31) (hx : x = nI j) (hj : j < N) (kk : zW ι M X npc lv (zI (mem.1 p k j) :: st) mem) : zW ι M X pc lv (zI x :: zP p k :: st) mem := by
  subst hx
  obtain ⟨P, l, e, R, s, m, args, below, meth, c, A, cells, slots, Q⟩ := X
  obtain ⟨hd, rfl⟩ := hd
  intro H locs ls hP hS hl
  obtain ⟨hx, hb, hml, hown, hts, hret, hlocks, hK, hAd, hA, hSt, hfr, hlo, hce, hsl, hHas⟩ := hX
  obtain ⟨i, hi⟩ := List.getElem?_of_mem (hHas p k hp (by rw [hsh]; exact hk))
  have he := z_ws_at (mem := mem) hi
  rw [z_cellA hsh] at he
  refine va_bald hx hb hK hP i 1 he rfl (vp_in_nI hj hN) hd ?_
  rw [nI_clamp (Nat.lt_trans hj hN)]
  exact kk H locs ls hP hS hl
theorem z_zald {N j q0 : Nat} {f0 : Nat → Nat → Nat} {x : Int32} (hX : zG ι M X n ps) (hd : zD M.2.1 pc (.baload) 1 npc) (hsh : zsh p = (cnt, .inr (.boolean, N, (0, q0, f0)))) (hp : p ∈ ps) (hk : k < cnt) (hN : N < 2 ^ 31) (hx : x = nI j) (hj : j < N) (kk : zW ι M X npc lv (zI (mem.1 p k j) :: st) mem) : zW ι M X pc lv (zI x :: zP p k :: st) mem := by
  subst hx
  obtain ⟨P, l, e, R, s, m, args, below, meth, c, A, cells, slots, Q⟩ := X
  obtain ⟨hd, rfl⟩ := hd
  intro H locs ls hP hS hl
  obtain ⟨hx, hb, hml, hown, hts, hret, hlocks, hK, hAd, hA, hSt, hfr, hlo, hce, hsl, hHas⟩ := hX
  obtain ⟨i, hi⟩ := List.getElem?_of_mem (hHas p k hp (by rw [hsh]; exact hk))
  have he := z_ws_at (mem := mem) hi
  rw [z_cellA hsh] at he
  refine va_zald hx hb hK hP i 3 he rfl (vp_in_nI hj hN) hd ?_
  rw [nI_clamp (Nat.lt_trans hj hN)]
  exact kk H locs ls hP hS hl
theorem z_sald {N j q0 : Nat} {f0 : Nat → Nat → Nat} {x : Int32} (hX : zG ι M X n ps) (hd : zD M.2.1 pc (.saload) 1 npc) (hsh : zsh p = (cnt, .inr (.short, N, (0, q0, f0)))) (hp : p ∈ ps) (hk : k < cnt) (hN : N < 2 ^ 31) (hx : x = nI j) (hj : j < N) (kk : zW ι M X npc lv (zI (mem.1 p k j) :: st) mem) : zW ι M X pc lv (zI x :: zP p k :: st) mem := by
  subst hx
  obtain ⟨P, l, e, R, s, m, args, below, meth, c, A, cells, slots, Q⟩ := X
  obtain ⟨hd, rfl⟩ := hd
  intro H locs ls hP hS hl
  obtain ⟨hx, hb, hml, hown, hts, hret, hlocks, hK, hAd, hA, hSt, hfr, hlo, hce, hsl, hHas⟩ := hX
  obtain ⟨i, hi⟩ := List.getElem?_of_mem (hHas p k hp (by rw [hsh]; exact hk))
  have he := z_ws_at (mem := mem) hi
  rw [z_cellA hsh] at he
  refine va_sald hx hb hK hP i 2 he rfl (vp_in_nI hj hN) hd ?_
  rw [nI_clamp (Nat.lt_trans hj hN)]
  exact kk H locs ls hP hS hl
theorem z_lald {N j q0 : Nat} {f0 : Nat → Nat → Nat} {x : Int32} (hX : zG ι M X n ps) (hd : zD M.2.1 pc (.laload) 1 npc) (hsh : zsh p = (cnt, .inr (.long, N, (1, q0, f0)))) (hp : p ∈ ps) (hk : k < cnt) (hN : N < 2 ^ 31) (hx : x = nI j) (hj : j < N) (kk : zW ι M X npc lv (zJ (mem.2.1 p k j) :: st) mem) : zW ι M X pc lv (zI x :: zP p k :: st) mem := by
  subst hx
  obtain ⟨P, l, e, R, s, m, args, below, meth, c, A, cells, slots, Q⟩ := X
  obtain ⟨hd, rfl⟩ := hd
  intro H locs ls hP hS hl
  obtain ⟨hx, hb, hml, hown, hts, hret, hlocks, hK, hAd, hA, hSt, hfr, hlo, hce, hsl, hHas⟩ := hX
  obtain ⟨i, hi⟩ := List.getElem?_of_mem (hHas p k hp (by rw [hsh]; exact hk))
  have he := z_ws_at (mem := mem) hi
  rw [z_cellA hsh] at he
  refine va_lald hx hb hK hP i 4 he rfl (vp_in_nI hj hN) hd ?_
  rw [nI_clamp (Nat.lt_trans hj hN)]
  exact kk H locs ls hP hS hl
theorem z_aldCubec {N j q0 : Nat} {f0 : Nat → Nat → Nat} {x : Int32} (hX : zG ι M X n ps) (hd : zD M.2.1 pc (.aaload) 1 npc) (hsh : zsh p = (cnt, .inr (.object "FourCubes$Cube", N, (2, q0, f0)))) (hp : p ∈ ps) (hk : k < cnt) (hN : N < 2 ^ 31) (hx : x = nI j) (hj : j < N) (kk : zW ι M X npc lv (zP q0 (f0 k j) :: st) mem) : zW ι M X pc lv (zI x :: zP p k :: st) mem := by
  subst hx
  obtain ⟨P, l, e, R, s, m, args, below, meth, c, A, cells, slots, Q⟩ := X
  obtain ⟨hd, rfl⟩ := hd
  intro H locs ls hP hS hl
  obtain ⟨hx, hb, hml, hown, hts, hret, hlocks, hK, hAd, hA, hSt, hfr, hlo, hce, hsl, hHas⟩ := hX
  obtain ⟨i, hi⟩ := List.getElem?_of_mem (hHas p k hp (by rw [hsh]; exact hk))
  have he := z_ws_at (mem := mem) hi
  rw [z_cellA hsh] at he
  refine va_aldq hx hb hK hP i 5 he rfl (vp_in_nI hj hN) hd ?_
  rw [nI_clamp (Nat.lt_trans hj hN)]
  exact kk H locs ls hP hS hl
theorem z_aldShelfc {N j q0 : Nat} {f0 : Nat → Nat → Nat} {x : Int32} (hX : zG ι M X n ps) (hd : zD M.2.1 pc (.aaload) 1 npc) (hsh : zsh p = (cnt, .inr (.object "FourCubes$Shelf", N, (2, q0, f0)))) (hp : p ∈ ps) (hk : k < cnt) (hN : N < 2 ^ 31) (hx : x = nI j) (hj : j < N) (kk : zW ι M X npc lv (zP q0 (f0 k j) :: st) mem) : zW ι M X pc lv (zI x :: zP p k :: st) mem := by
  subst hx
  obtain ⟨P, l, e, R, s, m, args, below, meth, c, A, cells, slots, Q⟩ := X
  obtain ⟨hd, rfl⟩ := hd
  intro H locs ls hP hS hl
  obtain ⟨hx, hb, hml, hown, hts, hret, hlocks, hK, hAd, hA, hSt, hfr, hlo, hce, hsl, hHas⟩ := hX
  obtain ⟨i, hi⟩ := List.getElem?_of_mem (hHas p k hp (by rw [hsh]; exact hk))
  have he := z_ws_at (mem := mem) hi
  rw [z_cellA hsh] at he
  refine va_aldq hx hb hK hP i 6 he rfl (vp_in_nI hj hN) hd ?_
  rw [nI_clamp (Nat.lt_trans hj hN)]
  exact kk H locs ls hP hS hl
theorem z_aldCubev {N j q0 : Nat} {f0 : Nat → Nat → Nat} {x : Int32} (hX : zG ι M X n ps) (hd : zD M.2.1 pc (.aaload) 1 npc) (hsh : zsh p = (cnt, .inr (.object "FourCubes$Cube", N, (3, q0, f0)))) (hp : p ∈ ps) (hk : k < cnt) (hN : N < 2 ^ 31) (hx : x = nI j) (hj : j < N) (kk : zW ι M X npc lv (zP q0 (mem.2.2 p k j) :: st) mem) : zW ι M X pc lv (zI x :: zP p k :: st) mem := by
  subst hx
  obtain ⟨P, l, e, R, s, m, args, below, meth, c, A, cells, slots, Q⟩ := X
  obtain ⟨hd, rfl⟩ := hd
  intro H locs ls hP hS hl
  obtain ⟨hx, hb, hml, hown, hts, hret, hlocks, hK, hAd, hA, hSt, hfr, hlo, hce, hsl, hHas⟩ := hX
  obtain ⟨i, hi⟩ := List.getElem?_of_mem (hHas p k hp (by rw [hsh]; exact hk))
  have he := z_ws_at (mem := mem) hi
  rw [z_cellA hsh] at he
  refine va_aldq hx hb hK hP i 5 he rfl (vp_in_nI hj hN) hd ?_
  rw [nI_clamp (Nat.lt_trans hj hN)]
  exact kk H locs ls hP hS hl
theorem z_iast {N j q0 : Nat} {f0 : Nat → Nat → Nat} {x v : Int32} (hX : zG ι M X n ps) (hd : zD M.2.1 pc (.iastore) 1 npc) (hsh : zsh p = (cnt, .inr (.int, N, (0, q0, f0)))) (hp : p ∈ ps) (hk : k < cnt) (hN : N < 2 ^ 31) (hx : x = nI j) (hj : j < N) (kk : zW ι M X npc lv st (upI mem p k j (v))) : zW ι M X pc lv (zI v :: zI x :: zP p k :: st) mem := by
  subst hx
  obtain ⟨P, l, e, R, s, m, args, below, meth, c, A, cells, slots, Q⟩ := X
  obtain ⟨hd, rfl⟩ := hd
  intro H locs ls hP hS hl
  obtain ⟨hx, hb, hml, hown, hts, hret, hlocks, hK, hAd, hA, hSt, hfr, hlo, hce, hsl, hHas⟩ := hX
  obtain ⟨i, hi⟩ := List.getElem?_of_mem (hHas p k hp (by rw [hsh]; exact hk))
  have he := z_ws_at (mem := mem) hi
  rw [z_cellA hsh] at he
  refine va_iast hx hb hK hP (hAd.D mem) hS i 0 he rfl (vp_in_nI hj hN) hd (fun H1 locs1 hP1 _ hS1 => ?_)
  rw [nI_clamp (Nat.lt_trans hj hN)] at hP1
  have hc : z_cell ι (upI mem p k j (v)) (p, k) = (zeR ι p k, .inl (zeT ι .int, N, .inl (upd (mem.1 p k) j (v)))) := by
    rw [z_cellA hsh, ← upI_row]; rfl
  rw [← hc, z_ws_set hi hAd.1 (fun _ h => z_cell_congr (upI_ne h) rfl rfl)] at hP1
  exact kk H1 locs1 ls hP1 hS1 hl
theorem z_bast {N j q0 : Nat} {f0 : Nat → Nat → Nat} {x v : Int32} (hX : zG ι M X n ps) (hd : zD M.2.1 pc (.bastore) 1 npc) (hsh : zsh p = (cnt, .inr (.byte, N, (0, q0, f0)))) (hp : p ∈ ps) (hk : k < cnt) (hN : N < 2 ^ 31) (hx : x = nI j) (hj : j < N) (kk : zW ι M X npc lv st (upI mem p k j (v.toInt8.toInt32))) : zW ι M X pc lv (zI v :: zI x :: zP p k :: st) mem := by
  subst hx
  obtain ⟨P, l, e, R, s, m, args, below, meth, c, A, cells, slots, Q⟩ := X
  obtain ⟨hd, rfl⟩ := hd
  intro H locs ls hP hS hl
  obtain ⟨hx, hb, hml, hown, hts, hret, hlocks, hK, hAd, hA, hSt, hfr, hlo, hce, hsl, hHas⟩ := hX
  obtain ⟨i, hi⟩ := List.getElem?_of_mem (hHas p k hp (by rw [hsh]; exact hk))
  have he := z_ws_at (mem := mem) hi
  rw [z_cellA hsh] at he
  refine va_bast hx hb hK hP (hAd.D mem) hS i 1 he rfl (vp_in_nI hj hN) hd (fun H1 locs1 hP1 _ hS1 => ?_)
  rw [nI_clamp (Nat.lt_trans hj hN)] at hP1
  rw [vp_nar_byte] at hP1
  have hc : z_cell ι (upI mem p k j (v.toInt8.toInt32)) (p, k) = (zeR ι p k, .inl (zeT ι .byte, N, .inl (upd (mem.1 p k) j (v.toInt8.toInt32)))) := by
    rw [z_cellA hsh, ← upI_row]; rfl
  rw [← hc, z_ws_set hi hAd.1 (fun _ h => z_cell_congr (upI_ne h) rfl rfl)] at hP1
  exact kk H1 locs1 ls hP1 hS1 hl
theorem z_zast {N j q0 : Nat} {f0 : Nat → Nat → Nat} {x v : Int32} (hX : zG ι M X n ps) (hd : zD M.2.1 pc (.bastore) 1 npc) (hsh : zsh p = (cnt, .inr (.boolean, N, (0, q0, f0)))) (hp : p ∈ ps) (hk : k < cnt) (hN : N < 2 ^ 31) (hx : x = nI j) (hj : j < N) (kk : zW ι M X npc lv st (upI mem p k j (vp_nar .boolean v))) : zW ι M X pc lv (zI v :: zI x :: zP p k :: st) mem := by
  subst hx
  obtain ⟨P, l, e, R, s, m, args, below, meth, c, A, cells, slots, Q⟩ := X
  obtain ⟨hd, rfl⟩ := hd
  intro H locs ls hP hS hl
  obtain ⟨hx, hb, hml, hown, hts, hret, hlocks, hK, hAd, hA, hSt, hfr, hlo, hce, hsl, hHas⟩ := hX
  obtain ⟨i, hi⟩ := List.getElem?_of_mem (hHas p k hp (by rw [hsh]; exact hk))
  have he := z_ws_at (mem := mem) hi
  rw [z_cellA hsh] at he
  refine va_zast hx hb hK hP (hAd.D mem) hS i 3 he rfl (vp_in_nI hj hN) hd (fun H1 locs1 hP1 _ hS1 => ?_)
  rw [nI_clamp (Nat.lt_trans hj hN)] at hP1
  have hc : z_cell ι (upI mem p k j (vp_nar .boolean v)) (p, k) = (zeR ι p k, .inl (zeT ι .boolean, N, .inl (upd (mem.1 p k) j (vp_nar .boolean v)))) := by
    rw [z_cellA hsh, ← upI_row]; rfl
  rw [← hc, z_ws_set hi hAd.1 (fun _ h => z_cell_congr (upI_ne h) rfl rfl)] at hP1
  exact kk H1 locs1 ls hP1 hS1 hl
theorem z_sast {N j q0 : Nat} {f0 : Nat → Nat → Nat} {x v : Int32} (hX : zG ι M X n ps) (hd : zD M.2.1 pc (.sastore) 1 npc) (hsh : zsh p = (cnt, .inr (.short, N, (0, q0, f0)))) (hp : p ∈ ps) (hk : k < cnt) (hN : N < 2 ^ 31) (hx : x = nI j) (hj : j < N) (kk : zW ι M X npc lv st (upI mem p k j (v.toInt16.toInt32))) : zW ι M X pc lv (zI v :: zI x :: zP p k :: st) mem := by
  subst hx
  obtain ⟨P, l, e, R, s, m, args, below, meth, c, A, cells, slots, Q⟩ := X
  obtain ⟨hd, rfl⟩ := hd
  intro H locs ls hP hS hl
  obtain ⟨hx, hb, hml, hown, hts, hret, hlocks, hK, hAd, hA, hSt, hfr, hlo, hce, hsl, hHas⟩ := hX
  obtain ⟨i, hi⟩ := List.getElem?_of_mem (hHas p k hp (by rw [hsh]; exact hk))
  have he := z_ws_at (mem := mem) hi
  rw [z_cellA hsh] at he
  refine va_sast hx hb hK hP (hAd.D mem) hS i 2 he rfl (vp_in_nI hj hN) hd (fun H1 locs1 hP1 _ hS1 => ?_)
  rw [nI_clamp (Nat.lt_trans hj hN)] at hP1
  rw [vp_nar_short] at hP1
  have hc : z_cell ι (upI mem p k j (v.toInt16.toInt32)) (p, k) = (zeR ι p k, .inl (zeT ι .short, N, .inl (upd (mem.1 p k) j (v.toInt16.toInt32)))) := by
    rw [z_cellA hsh, ← upI_row]; rfl
  rw [← hc, z_ws_set hi hAd.1 (fun _ h => z_cell_congr (upI_ne h) rfl rfl)] at hP1
  exact kk H1 locs1 ls hP1 hS1 hl
theorem z_last {N j q0 : Nat} {f0 : Nat → Nat → Nat} {x : Int32} {v : Int64} (hX : zG ι M X n ps) (hd : zD M.2.1 pc (.lastore) 1 npc) (hsh : zsh p = (cnt, .inr (.long, N, (1, q0, f0)))) (hp : p ∈ ps) (hk : k < cnt) (hN : N < 2 ^ 31) (hx : x = nI j) (hj : j < N) (kk : zW ι M X npc lv st (upJ mem p k j v)) : zW ι M X pc lv (zJ v :: zI x :: zP p k :: st) mem := by
  subst hx
  obtain ⟨P, l, e, R, s, m, args, below, meth, c, A, cells, slots, Q⟩ := X
  obtain ⟨hd, rfl⟩ := hd
  intro H locs ls hP hS hl
  obtain ⟨hx, hb, hml, hown, hts, hret, hlocks, hK, hAd, hA, hSt, hfr, hlo, hce, hsl, hHas⟩ := hX
  obtain ⟨i, hi⟩ := List.getElem?_of_mem (hHas p k hp (by rw [hsh]; exact hk))
  have he := z_ws_at (mem := mem) hi
  rw [z_cellA hsh] at he
  refine va_last hx hb hK hP (hAd.D mem) hS i 4 he rfl (vp_in_nI hj hN) hd (fun H1 locs1 hP1 _ hS1 => ?_)
  rw [nI_clamp (Nat.lt_trans hj hN)] at hP1
  have hc : z_cell ι (upJ mem p k j v) (p, k) = (zeR ι p k, .inl (zeT ι .long, N, .inr (.inl (vp_updL (mem.2.1 p k) j v)))) := by
    rw [z_cellA hsh, ← upJ_row]; rfl
  rw [← hc, z_ws_set (mem := mem) (mem' := upJ mem p k j v) hi hAd.1 (fun _ h => z_cell_congr rfl (upJ_ne h) rfl)] at hP1
  exact kk H1 locs1 ls hP1 hS1 hl
theorem z_astv {N j q0 i0 c0 : Nat} {f0 : Nat → Nat → Nat} {sks : List zK} {x : Int32} (hX : zG ι M X n ps) (hd : zD M.2.1 pc (.aastore) 1 npc) (hsh : zsh p = (cnt, .inr (.object "FourCubes$Cube", N, (3, q0, f0)))) (hp : p ∈ ps) (hk : k < cnt) (hN : N < 2 ^ 31) (hx : x = nI j) (hj : j < N) (hs0 : zsh q0 = (c0, .inl (1, sks))) (hp0 : q0 ∈ ps) (hk0 : i0 < c0) (kk : zW ι M X npc lv st (upR mem p k j i0)) : zW ι M X pc lv (zP q0 i0 :: zI x :: zP p k :: st) mem := by
  subst hx
  obtain ⟨P, l, e, R, s, m, args, below, meth, c, A, cells, slots, Q⟩ := X
  obtain ⟨hd, rfl⟩ := hd
  intro H locs ls hP hS hl
  obtain ⟨hx, hb, hml, hown, hts, hret, hlocks, hK, hAd, hA, hSt, hfr, hlo, hce, hsl, hHas⟩ := hX
  obtain ⟨i, hi⟩ := List.getElem?_of_mem (hHas p k hp (by rw [hsh]; exact hk))
  have he := z_ws_at (mem := mem) hi
  rw [z_cellA hsh] at he
  obtain ⟨i1, hi1⟩ := List.getElem?_of_mem (hHas q0 i0 hp0 (by rw [hs0]; exact hk0))
  have he1 := z_ws_at (mem := mem) hi1
  rw [z_cellO hs0] at he1
  refine va_astq hx hb hK hP (hAd.D mem) hS i 5 i1 1 he (r := (RX1, TX1, 2)) rfl he1 rfl (vp_in_nI hj hN) hd (fun H1 locs1 hP1 _ hS1 => ?_)
  rw [nI_clamp (Nat.lt_trans hj hN)] at hP1
  have hc : z_cell ι (upR mem p k j i0) (p, k) = (zeR ι p k, .inl (zeT ι (.object "FourCubes$Cube"), N, .inr (.inr (.inr (.inr (va_up (fun a => some (zeR ι q0 (mem.2.2 p k a))) j (some (zeR ι q0 i0)))))))) := by
    rw [z_cellA hsh]
    have hf : (fun a => some (zeR ι q0 ((upR mem p k j i0).2.2 p k a))) = va_up (fun a => some (zeR ι q0 (mem.2.2 p k a))) j (some (zeR ι q0 i0)) := by
      funext a
      show some (zeR ι q0 (if p = p ∧ k = k ∧ a = j then i0 else mem.2.2 p k a)) = if a = j then some (zeR ι q0 i0) else some (zeR ι q0 (mem.2.2 p k a))
      by_cases h : a = j <;> simp [h]
    rw [← hf]; rfl
  rw [← hc, z_ws_set (mem := mem) (mem' := upR mem p k j i0) hi hAd.1 (fun _ h => z_cell_congr rfl rfl (upR_ne h))] at hP1
  exact kk H1 locs1 ls hP1 hS1 hl
theorem z_alen {N t0 : Nat} {sk : zK} {ty : FieldType} {v : Int32} (hX : zG ι M X n ps) (hd : zD M.2.1 pc (.arraylength) 1 npc) (hsh : zsh p = (cnt, .inr (ty, N, sk))) (hp : p ∈ ps) (hk : k < cnt) (ht : (zTys ι)[t0]? = some (zeT ι ty, ty)) (hv : nI N = v) (kk : zW ι M X npc lv (zI v :: st) mem) : zW ι M X pc lv (zP p k :: st) mem := by
  obtain ⟨P, l, e, R, s, m, args, below, meth, c, A, cells, slots, Q⟩ := X
  obtain ⟨hd, rfl⟩ := hd
  intro H locs ls hP hS hl
  obtain ⟨hx, hb, hml, hown, hts, hret, hlocks, hK, hAd, hA, hSt, hfr, hlo, hce, hsl, hHas⟩ := hX
  obtain ⟨i, hi⟩ := List.getElem?_of_mem (hHas p k hp (by rw [hsh]; exact hk))
  have he := z_ws_at (mem := mem) hi
  rw [z_cellA hsh] at he
  exact va_alen hx hb hK hP i t0 he ht hv hd (kk H locs ls hP hS hl)
theorem z_gets {idx : Nat} (hX : zG ι M X n ps) (hd : zD M.2.1 pc (.getstatic idx) 3 npc) (h1 : 90 ≤ p) (h2 : p ≤ 95) (hw : Cond.fieldLink M.1.cls idx (zstv p).1 (zstv p).2.1 "[I" ∈ zTS) (kk : zW ι M X npc lv (zP p 0 :: st) mem) : zW ι M X pc lv st mem := by
  obtain ⟨P, l, e, R, s, m, args, below, meth, c, A, cells, slots, Q⟩ := X
  obtain ⟨hd, rfl⟩ := hd
  intro H locs ls hP hS hl
  obtain ⟨hx, hb, hml, hown, hts, hret, hlocks, hK, hAd, hA, hSt, hfr, hlo, hce, hsl, hHas⟩ := hX
  exact va_gets hx hb (hSt p h1 h2).1 hS hown (hts _ hw) (fun _ h => h) hd (kk H locs ls hP hS hl)
theorem z_getsN {idx : Nat} {host : String} (hX : zG ι M X n ps) (hd : zD M.2.1 pc (.getstatic idx) 3 npc) (h1 : 90 ≤ p) (h2 : p ≤ 95) (hw : Cond.fieldLinkNest M.1.cls idx (zstv p).1 (zstv p).2.1 "[I" host ∈ zTS) (kk : zW ι M X npc lv (zP p 0 :: st) mem) : zW ι M X pc lv st mem := by
  obtain ⟨P, l, e, R, s, m, args, below, meth, c, A, cells, slots, Q⟩ := X
  obtain ⟨hd, rfl⟩ := hd
  intro H locs ls hP hS hl
  obtain ⟨hx, hb, hml, hown, hts, hret, hlocks, hK, hAd, hA, hSt, hfr, hlo, hce, hsl, hHas⟩ := hX
  exact va_getsN hx hb (hSt p h1 h2).1 hS hown (hts _ hw) (fun _ h => h) hd (kk H locs ls hP hS hl)
theorem z_tald {j : Nat} {x : Int32} (hX : zG ι M X n ps) (hd : zD M.2.1 pc (.iaload) 1 npc) (h1 : 90 ≤ p) (h2 : p ≤ 95) (hN : zstN p < 2 ^ 31) (hx : x = nI j) (hj : j < zstN p) (kk : zW ι M X npc lv (zI (zstf p j) :: st) mem) : zW ι M X pc lv (zI x :: zP p 0 :: st) mem := by
  subst hx
  obtain ⟨P, l, e, R, s, m, args, below, meth, c, A, cells, slots, Q⟩ := X
  obtain ⟨hd, rfl⟩ := hd
  intro H locs ls hP hS hl
  obtain ⟨hx, hb, hml, hown, hts, hret, hlocks, hK, hAd, hA, hSt, hfr, hlo, hce, hsl, hHas⟩ := hX
  exact va_ti (v := .int (zstf p j)) hx hb (hSt p h1 h2).2 hS (vp_in_nI hj hN) (by rw [nI_clamp (Nat.lt_trans hj hN)]) hd (kk H locs ls hP hS hl)
end ZA
/-- what the tables say of an instance method, of a static one -/
def zMc (M : zMR) (na : Nat) : Prop := Cond.code M.1 M.2.1 M.2.2.1 M.2.2.2 ∈ zTS ∧ Cond.initialized M.1.cls ∈ zTS ∧ (M.1.cls ≠ "java/lang/invoke/MethodHandle" ∧ M.1.cls ≠ "java/lang/invoke/VarHandle") ∧ (parseMethodDescriptor M.1.desc).map (fun d => d.parameters.length) = some na ∧ M.2.2.1 ≤ 21
def zMI (M : zMR) (na : Nat) : Prop := zMc M na ∧ Cond.instanceMethod M.1 ∈ zTS ∧ Cond.selects M.1.cls M.1 M.1 ∈ zTS
def zMS (M : zMR) (na : Nat) : Prop := zMc M na ∧ Cond.static M.1 ∈ zTS
theorem zpre_blind {ι : zE} {mem : zM} {sz : Nat} {av : List Value} : FrameBlind (va_Pc av (zpre ι mem sz)) := fun a U g mk q => ⟨q.1, q.2.1, q.2.2.1, va_K.moved (u := U) (U := U.calling g mk a) (Vm.Alike.refl U.vm) q.2.2.2.1, q.2.2.2.2.1, z_stat.step (U := U.calling g mk a) q.2.2.2.2.2 (fun _ _ _ => rfl) (fun _ h => h) (Vm.Alike.refl U.vm)⟩
section ZC
variable {ι : zE} {M M' : zMR} {X : zX} {n n' : Nat} {ps : List Nat} {pc npc : Nat} {lv : List (Option zV)} {st stk as : List zV} {mem : zM} {p k cnt : Nat}
theorem z_callB {R : Room} {s : State} {args : Array Value} {own : String} {idx na : Nat} (hts : ∀ w ∈ zTS, w.before args s = true) (hfr : n ≤ R.frames) (hlo : 40 * n ≤ R.locals) (hn : n' < n) (hM : zMc M' na) (hl : Cond.methodLink own idx M'.1 ∈ zTS) : CallB R s args own idx M'.1 M'.2.1 M'.2.2.1 M'.2.2.2 (.code M'.1 M'.2.1 M'.2.2.1 M'.2.2.2 :: zTS) (zrm n') 0 0 na := by
  obtain ⟨h1, h2, h3, h4, h5⟩ := hM
  refine ⟨rfl, rfl, ?_, ?_, fun w hw a' U hW => ?_, List.mem_cons_self, hts _ h1, hts _ h2, h3, fun sig h => ?_, hts _ hl⟩
  · show n' + 1 ≤ R.frames
    omega
  · show 8 + (M'.2.2.1 + 11) + 40 * n' ≤ R.locals
    omega
  · rcases List.mem_cons.mp hw with rfl | hw
    · exact zTS_warm hW h1 (hts _ h1)
    · exact zTS_warm hW hw (hts _ hw)
  · rw [h] at h4
    exact (Option.some.inj h4).symm
theorem z_back {P : Program} {l : Launch} {e : Env} {R : Room} {s : State} {m : MethodId} {args : Array Value} {below : List Frame} {meth : Method} {c : Code} {A : Nat → Prop} {cells slots : Nat} {Q : State → Prop} {H : Heap} {locs : List Loc} {ls : Array Slot} {a : Array Value} (hAd : zAd ι A) (hA : ∀ q, s.heap.size ≤ q → A q) (hS : va_S A s.heap H locs) (hl : lv_has ls M.2.2.1 (z_lv (zeR ι) lv))
    (hr : va_Run P l e R s m args below meth c H locs cells slots 0 0 (F0 m pc ls (stk.map (z_tv (zeR ι)))) (st.map (z_tv (zeR ι))) (zQ ι (fun r mem' => zW ι M (P, l, e, R, s, m, args, below, meth, c, A, cells, slots, Q) (pc + 3) lv (r.toList ++ st) mem') (va_A (z_ws ι mem) H.size) a) (va_A (z_ws ι mem) H.size)) : W P l e R s m args below meth c H locs cells slots Q (F0 m pc ls (stk.map (z_tv (zeR ι)))) := by
  intro T hT X
  obtain ⟨v, st₀, t, T', L, h0, X', hL, e1, e2, ⟨⟨r, mem', hv, hp, hb⟩, hz, hk⟩, stp⟩ := hr T hT X
  have hsub : ∀ q, va_A (z_ws ι mem) H.size q → A q := fun q h => zA_of hAd (fun q h => hA q (Nat.le_trans hS.1 h)) h
  have hv2 : v = r.map (z_tv (zeR ι)) := by cases hv; rfl
  subst hv2
  rw [h0] at hz hk
  have hst : (r.map (z_tv (zeR ι))).toList ++ st.map (z_tv (zeR ι)) = (r.toList ++ st).map (z_tv (zeR ι)) := by cases r <;> rfl
  obtain ⟨t2, a1, b1⟩ := hp T'.heap (locs ++ L) ls (by rw [e1]; exact hb) ⟨Nat.le_trans hS.1 (by rw [e1]; exact hz), fun q h1 h2 => by rw [e1, hk q (Nat.lt_of_lt_of_le h1 hS.1) (fun z => h2 (hsub q z))]; exact hS.2.1 q h1 h2, fun q hq => by
      rcases List.mem_append.mp hq with h | h
      · exact hS.2.2 q h
      · exact hsub _ (hL q h)⟩ hl T' rfl X'
  refine ⟨t2, stp t2 ?_, b1⟩
  rw [← hst] at a1
  exact a1
theorem z_callV {idx ci na N : Nat} {T : u_T} {sks : List zK} (hX : zG ι M X n ps) (hd : zD M.2.1 pc (.invokevirtual idx) 3 npc) (hM : zMI M' na) (hl : Cond.methodLink M.1.cls idx M'.1 ∈ zTS) (hsh : zsh p = (cnt, .inl (ci, sks))) (hcl : zCl[ci]? = some (M'.1.cls, T, N)) (hp : p ∈ ps) (hk : k < cnt) (hn : n' < n) (has : as.length = na) (hst : as.reverse ++ zP p k :: st = stk) (hsz : ((st.map (z_tv (zeR ι))).map fun v => v.category).sum ≤ 8) (hC : zC X.2.1 ι M' n' (zP p k :: as) mem (fun r mem' => zW ι M X npc lv (r.toList ++ st) mem')) : zW ι M X pc lv stk mem := by
  obtain ⟨P, l, e, R, s, m, args, below, meth, c, A, cells, slots, Q⟩ := X
  obtain ⟨hd, rfl⟩ := hd
  intro H locs ls hP hS hl2
  obtain ⟨hx, hb, hml, hown, hts, hret, hlocks, hK, hAd, hA, hSt, hfr, hlo, hce, hsl, hHas⟩ := hX
  obtain ⟨i, hi⟩ := List.getElem?_of_mem (hHas p k hp (by rw [hsh]; exact hk))
  have he := z_ws_at (mem := mem) hi
  rw [z_cellO hsh] at he
  have hsub : ∀ q, va_A (z_ws ι mem) H.size q → A q := fun q h => zA_of hAd (fun q h => hA q (Nat.le_trans hS.1 h)) h
  refine z_back (mem := mem) (a := (z_tv (zeR ι) (zP p k) :: as.map (z_tv (zeR ι))).toArray) hAd hA hS hl2 (va_runV (As := as.map (z_tv (zeR ι))) (rest := st.map (z_tv (zeR ι))) (C := M'.1.cls) ⟨hx, hb, hml, hown, hts⟩ (hC H.size) ⟨z_callB hts hfr hlo hn hM.1 hl, hts _ hM.2.1, hts _ hM.2.2⟩ ⟨zpre_blind, va_recv hK hP hcl he, fun U hU hW => ⟨rfl, by rw [hU], by rw [hU]; exact hP, va_K.moved hW.alike hK, hAd.weak (fun _ _ => trivial), hSt.step (by rw [hU]; exact hS.2.1) hsub hW.alike⟩⟩ rfl (by simpa using has) hl2.1 (by rw [← hst]; simp [z_tv]) ?_ hd ⟨hce, hsl⟩)
  show 2 * 0 + _ ≤ 8
  omega
theorem z_callS {idx na : Nat} (hX : zG ι M X n ps) (hd : zD M.2.1 pc (.invokestatic idx) 3 npc) (hM : zMS M' na) (hl : Cond.methodLink M.1.cls idx M'.1 ∈ zTS) (hn : n' < n) (has : as.length = na) (hst : as.reverse ++ st = stk) (hsz : ((st.map (z_tv (zeR ι))).map fun v => v.category).sum ≤ 8) (hC : zC X.2.1 ι M' n' as mem (fun r mem' => zW ι M X npc lv (r.toList ++ st) mem')) : zW ι M X pc lv stk mem := by
  obtain ⟨P, l, e, R, s, m, args, below, meth, c, A, cells, slots, Q⟩ := X
  obtain ⟨hd, rfl⟩ := hd
  intro H locs ls hP hS hl2
  obtain ⟨hx, hb, hml, hown, hts, hret, hlocks, hK, hAd, hA, hSt, hfr, hlo, hce, hsl, hHas⟩ := hX
  have hsub : ∀ q, va_A (z_ws ι mem) H.size q → A q := fun q h => zA_of hAd (fun q h => hA q (Nat.le_trans hS.1 h)) h
  refine z_back (mem := mem) (a := (as.map (z_tv (zeR ι))).toArray) hAd hA hS hl2 (va_runS (As := as.map (z_tv (zeR ι))) (rest := st.map (z_tv (zeR ι))) ⟨hx, hb, hml, hown, hts⟩ (hC H.size) ⟨z_callB hts hfr hlo hn hM.1 hl, hts _ hM.2⟩ ⟨zpre_blind, fun U hU hW => ⟨rfl, by rw [hU], by rw [hU]; exact hP, va_K.moved hW.alike hK, hAd.weak (fun _ _ => trivial), hSt.step (by rw [hU]; exact hS.2.1) hsub hW.alike⟩⟩ rfl (by simpa using has) hl2.1 (by rw [← hst]; simp) ?_ hd ⟨hce, hsl⟩)
  show 2 * 0 + _ ≤ 8
  omega
end ZC
