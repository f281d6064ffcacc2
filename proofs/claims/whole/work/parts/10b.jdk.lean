/-! the JDK's own: Math.min, Math.max, System.arraycopy of longs, Arrays.fill -/
theorem w_min_code : Cond.code Lib.Math.min.name Lib.Math.min.code 2 (some .int) ∈ zTS := zTS_of 392 (by decide +kernel) (by decide +kernel)
theorem w_max_code : Cond.code Lib.Math.max.name Lib.Math.max.code 2 (some .int) ∈ zTS := zTS_of 395 (by decide +kernel) (by decide +kernel)
theorem w_min_st : Cond.static Lib.Math.min.name ∈ zTS := zTS_of 391 (by decide +kernel) (by decide +kernel)
theorem w_max_st : Cond.static Lib.Math.max.name ∈ zTS := zTS_of 394 (by decide +kernel) (by decide +kernel)
theorem w_Math_ini : Cond.initialized "java/lang/Math" ∈ zTS := zTS_of 11 (by decide +kernel) (by decide +kernel)
theorem w_Sys_ini : Cond.initialized "java/lang/System" ∈ zTS := zTS_of 14 (by decide +kernel) (by decide +kernel)
theorem w_copy_st : Cond.static arraycopyName ∈ zTS := zTS_of 816 (by decide +kernel) (by decide +kernel)
theorem w_copy_nat : Cond.native arraycopyName ∈ zTS := zTS_of 817 (by decide +kernel) (by decide +kernel)
theorem w_copy_link : Cond.methodLink RX8 286 arraycopyName ∈ zTS := zTS_of 815 (by decide +kernel) (by decide +kernel)
section ZJ
variable {ι : zE} {M : zMR} {X : zX} {n : Nat} {ps : List Nat} {pc npc : Nat} {lv : List (Option zV)} {st : List zV} {mem : zM} {p k cnt idx : Nat}
theorem z_min {x y : Int32} (hX : zG ι M X n ps) (hd : zD M.2.1 pc (.invokestatic idx) 3 npc) (hlk : Cond.methodLink M.1.cls idx Lib.Math.min.name ∈ zTS) (hn : 0 < n) (hsz : ((st.map (z_tv (zeR ι))).map fun v => v.category).sum ≤ 8) (k : zW ι M X npc lv (zI (if y < x then y else x) :: st) mem) : zW ι M X pc lv (zI y :: zI x :: st) mem := by
  obtain ⟨P, l, e, R, s, m, args, below, meth, c, A, cells, slots, Q⟩ := X
  obtain ⟨hd, rfl⟩ := hd
  intro H locs ls hP hS hl
  obtain ⟨hx, hb, hml, hown, hts, hret, hlocks, hK, hAd, hA, hSt, hfr, hlo, hce, hsl, hHas⟩ := hX
  exact va_mmin hx hb (hml.trans hl.1.symm) hown (hts _ hlk) (hts _ w_min_st) (hts _ w_Math_ini) (hts _ w_min_code) (by omega) (by omega) hce hsl hd (k H locs ls hP hS hl)
theorem z_max {x y : Int32} (hX : zG ι M X n ps) (hd : zD M.2.1 pc (.invokestatic idx) 3 npc) (hlk : Cond.methodLink M.1.cls idx Lib.Math.max.name ∈ zTS) (hn : 0 < n) (hsz : ((st.map (z_tv (zeR ι))).map fun v => v.category).sum ≤ 8) (k : zW ι M X npc lv (zI (if x < y then y else x) :: st) mem) : zW ι M X pc lv (zI y :: zI x :: st) mem := by
  obtain ⟨P, l, e, R, s, m, args, below, meth, c, A, cells, slots, Q⟩ := X
  obtain ⟨hd, rfl⟩ := hd
  intro H locs ls hP hS hl
  obtain ⟨hx, hb, hml, hown, hts, hret, hlocks, hK, hAd, hA, hSt, hfr, hlo, hce, hsl, hHas⟩ := hX
  exact va_mmax hx hb (hml.trans hl.1.symm) hown (hts _ hlk) (hts _ w_max_st) (hts _ w_Math_ini) (hts _ w_max_code) (by omega) (by omega) hce hsl hd (k H locs ls hP hS hl)
def cpJ (mem : zM) (p k k2 sp dp c : Nat) : zM := (mem.1, fun a b j => if a = p ∧ b = k2 then va_cpy (mem.2.1 p k) (mem.2.1 p k2) sp dp c j else mem.2.1 a b j, mem.2.2)
theorem z_copyl {N q0 k2 sp dp c : Nat} {f0 : Nat → Nat → Nat} (hX : zG ι M X n ps) (hd : zD M.2.1 pc (.invokestatic idx) 3 npc) (hlk : Cond.methodLink M.1.cls idx arraycopyName ∈ zTS) (hn : 0 < n) (hsz : ((st.map (z_tv (zeR ι))).map fun v => v.category).sum ≤ 8) (hsh : zsh p = (cnt, .inr (.long, N, (1, q0, f0)))) (hp : p ∈ ps) (hk : k < cnt) (hk2 : k2 < cnt) (hN : N < 2 ^ 31) (h1 : sp + c ≤ N) (h2 : dp + c ≤ N) (kk : zW ι M X npc lv st (cpJ mem p k k2 sp dp c)) : zW ι M X pc lv (zI (nI c) :: zI (nI dp) :: zP p k2 :: zI (nI sp) :: zP p k :: st) mem := by
  obtain ⟨P, l, e, R, s, m, args, below, meth, cc, A, cells, slots, Q⟩ := X
  obtain ⟨hd, rfl⟩ := hd
  intro H locs ls hP hS hl
  obtain ⟨hx, hb, hml, hown, hts, hret, hlocks, hK, hAd, hA, hSt, hfr, hlo, hce, hsl, hHas⟩ := hX
  obtain ⟨i, hi⟩ := List.getElem?_of_mem (hHas p k hp (by rw [hsh]; exact hk))
  obtain ⟨i2, hi2⟩ := List.getElem?_of_mem (hHas p k2 hp (by rw [hsh]; exact hk2))
  have he := z_ws_at (mem := mem) hi
  have he2 := z_ws_at (mem := mem) hi2
  rw [z_cellA hsh] at he he2
  have c1 := nI_clamp (n := sp) (by omega)
  have c2 := nI_clamp (n := dp) (by omega)
  have c3 := nI_clamp (n := c) (by omega)
  have hnw : nativeFrameWords "java/lang/System" "arraycopy" 5 + 11 ≤ 32 := by decide
  refine va_copyl hx hb (hml.trans hl.1.symm) hown (hts _ hlk) (hts _ w_copy_nat) (hts _ w_copy_st) (hts _ w_Sys_ini) hK hP (hAd.D mem) hS i i2 4 4 he he2 rfl rfl rfl (nI_pos (by omega)) (nI_pos (by omega)) (nI_pos (by omega)) (by rw [c1, c3]; exact h1) (by rw [c2, c3]; exact h2) (fun _ _ => rfl) (by omega) (by omega) hd (fun H1 locs1 hP1 _ hS1 => ?_)
  rw [c1, c2, c3] at hP1
  have hc : z_cell ι (cpJ mem p k k2 sp dp c) (p, k2) = (zeR ι p k2, .inl (zeT ι .long, N, .inr (.inl (va_cpy (mem.2.1 p k) (mem.2.1 p k2) sp dp c)))) := by
    rw [z_cellA hsh]
    have hf : (cpJ mem p k k2 sp dp c).2.1 p k2 = va_cpy (mem.2.1 p k) (mem.2.1 p k2) sp dp c := by
      funext j
      show (if p = p ∧ k2 = k2 then _ else _) = _
      rw [if_pos ⟨rfl, rfl⟩]
    rw [← hf]; rfl
  rw [← hc, z_ws_set (mem := mem) (mem' := cpJ mem p k k2 sp dp c) hi2 hAd.1 (fun q h => z_cell_congr rfl (by
    funext j
    show (if q.1 = p ∧ q.2 = k2 then _ else _) = _
    rw [if_neg (fun z => h (Prod.ext z.1 z.2))]) rfl)] at hP1
  exact kk H1 locs1 ls hP1 hS1 hl
end ZJ
/-- a whole row filled -/
def flI (mem : zM) (p k N : Nat) (v : Int32) : zM := (fun a b c => if a = p ∧ b = k ∧ c < N then v else mem.1 a b c, mem.2)
theorem flI_0 (mem : zM) (p k : Nat) (v : Int32) : flI mem p k 0 v = mem := by
  refine Prod.ext ?_ rfl
  funext a b c
  show (if a = p ∧ b = k ∧ c < 0 then v else mem.1 a b c) = mem.1 a b c
  rw [if_neg (by omega)]
theorem flI_s (mem : zM) (p k i : Nat) (v : Int32) : upI (flI mem p k i v) p k i v = flI mem p k (i + 1) v := by
  refine Prod.ext ?_ rfl
  funext a b c
  show (if a = p ∧ b = k ∧ c = i then v else (if a = p ∧ b = k ∧ c < i then v else mem.1 a b c)) = if a = p ∧ b = k ∧ c < i + 1 then v else mem.1 a b c
  by_cases h : a = p ∧ b = k ∧ c < i + 1
  · rw [if_pos h]
    by_cases h2 : c = i
    · rw [if_pos ⟨h.1, h.2.1, h2⟩]
    · rw [if_neg (fun z => h2 z.2.2), if_pos ⟨h.1, h.2.1, by omega⟩]
  · rw [if_neg h, if_neg (fun z => h ⟨z.1, z.2.1, by omega⟩), if_neg (fun z => h ⟨z.1, z.2.1, by omega⟩)]
theorem c_fillI {l : Launch} {ι : zE} {mem : zM} {Post : Option zV → zM → Prop} {ps : List Nat} (hH : zHas ι ps) {p k cnt N q0 : Nat} {f0 : Nat → Nat → Nat} {v : Int32} (hsh : zsh p = (cnt, .inr (.int, N, (0, q0, f0)))) (hp : p ∈ ps) (hk : k < cnt) (hN : N < 2 ^ 31) (h : Post none (flI mem p k N v)) : zC l ι M_Arrays_fill_53178 0 [zP p k, zI v] mem Post := by
  refine z_enter hH (by decide) (by simp [z_ent, M_Arrays_fill_53178]) (fun X hXl hX hR => ?_)
  refine z_iconst (v := 0) hX (D_Arrays_fill_53178 (i := 0) rfl) (by decide) ?_
  refine z_istore_n hX (D_Arrays_fill_53178 (i := 1) rfl) (by decide) rfl ?_
  refine z_aload_n hX (D_Arrays_fill_53178 (i := 2) rfl) rfl ?_
  refine z_alen (t0 := 0) (v := nI N) hX (D_Arrays_fill_53178 (i := 3) rfl) hsh hp hk rfl rfl ?_
  refine z_istore_n hX (D_Arrays_fill_53178 (i := 4) rfl) (by decide) rfl ?_
  suffices H : ∀ (d i : Nat), i + d = N → zW ι M_Arrays_fill_53178 X 5 [some (zP p k), some (zI v), some (zI (nI i)), some (zI (nI N))] [] (flI mem p k i v) by
    have := H N 0 (by omega)
    rw [flI_0] at this
    exact this
  intro d
  induction d with
  | zero =>
    intro i hi
    obtain rfl : i = N := by omega
    refine z_iload_n hX (D_Arrays_fill_53178 (i := 5) rfl) rfl ?_
    refine z_iload_n hX (D_Arrays_fill_53178 (i := 6) rfl) rfl ?_
    refine z_icmp_ge (tgt := 20) hX (D_Arrays_fill_53178 (i := 7) rfl) (by decide) (fun _ => ?_) (fun hc => absurd (nI_le (Nat.le_refl i) hN) hc)
    exact z_ret hX hR (D_Arrays_fill_53178 (i := 14) rfl) rfl h
  | succ d ih =>
    intro i hi
    refine z_iload_n hX (D_Arrays_fill_53178 (i := 5) rfl) rfl ?_
    refine z_iload_n hX (D_Arrays_fill_53178 (i := 6) rfl) rfl ?_
    refine z_icmp_ge (tgt := 20) hX (D_Arrays_fill_53178 (i := 7) rfl) (by decide) (fun hc => absurd hc (nI_ge (by omega) hN)) (fun _ => ?_)
    refine z_aload_n hX (D_Arrays_fill_53178 (i := 8) rfl) rfl ?_
    refine z_iload_n hX (D_Arrays_fill_53178 (i := 9) rfl) rfl ?_
    refine z_iload_n hX (D_Arrays_fill_53178 (i := 10) rfl) rfl ?_
    refine z_iast hX (D_Arrays_fill_53178 (i := 11) rfl) hsh hp hk hN rfl (by omega) ?_
    rw [flI_s]
    refine z_inc1 hX (D_Arrays_fill_53178 (i := 12) rfl) rfl (by decide) rfl ?_
    refine z_goto (tgt := 5) hX (D_Arrays_fill_53178 (i := 13) rfl) (by decide) ?_
    exact ih (i + 1) (by omega)
