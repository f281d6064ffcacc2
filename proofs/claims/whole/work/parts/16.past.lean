/-! changes kept -/
def fgM (mem : zM) (i : Nat) : zM := (fun a b c => if (a = 24 ∨ a = 25 ∨ a = 26) ∧ b = 0 ∧ c + 1 < i then mem.1 a b (c + 1) else mem.1 a b c, mem.2)
theorem fgM_1 (mem : zM) : fgM mem 1 = mem := by
  refine Prod.ext ?_ rfl
  funext a b c
  show (if (a = 24 ∨ a = 25 ∨ a = 26) ∧ b = 0 ∧ c + 1 < 1 then mem.1 a b (c + 1) else mem.1 a b c) = mem.1 a b c
  rw [if_neg (by omega)]
theorem fgM_s (mem : zM) (i : Nat) : upI (upI (upI (fgM mem (i + 1)) 24 0 i (mem.1 24 0 (i + 1))) 25 0 i (mem.1 25 0 (i + 1))) 26 0 i (mem.1 26 0 (i + 1)) = fgM mem (i + 2) := by
  refine Prod.ext ?_ rfl
  funext a b c
  simp only [upI_get, fgM]
  by_cases hb : b = 0
  · subst hb
    by_cases hc : c = i
    · subst hc
      by_cases h1 : a = 26
      · subst h1; simp
      · by_cases h2 : a = 25
        · subst h2; simp
        · by_cases h3 : a = 24
          · subst h3; simp
          · simp [h1, h2, h3]
    · have e : (c + 1 < i + 2) = (c + 1 < i + 1) := by apply propext; omega
      simp only [hc, and_false, if_false, e]
  · simp [hb]
theorem fgM_get (mem : zM) (i p c : Nat) (hc : ¬ c + 1 < i) : (fgM mem i).1 p 0 c = mem.1 p 0 c := by
  show (if (p = 24 ∨ p = 25 ∨ p = 26) ∧ 0 = 0 ∧ c + 1 < i then mem.1 p 0 (c + 1) else mem.1 p 0 c) = mem.1 p 0 c
  rw [if_neg (fun z => hc z.2.2)]
section F4
variable {l : Launch} {ι : zE} {mem : zM} {Post : Option zV → zM → Prop} {x y z : Int32}
theorem c_Past_forgetOldest (hH : zHas ι pX) (h : Post none (upI (fgM mem 40) 23 0 3 (nI 39))) : zC l ι M_Past_forgetOldest 0 [zP 23 0] mem Post := by
  refine z_enter hH (by decide) (by simp [z_ent, M_Past_forgetOldest]) (fun X hXl hX hR => ?_)
  refine z_iconst (v := 1) hX (D_Past_forgetOldest (i := 0) rfl) (by decide) ?_
  refine z_istore_n hX (D_Past_forgetOldest (i := 1) rfl) (by decide) rfl ?_
  suffices H : ∀ (d i : Nat), i + 1 + d = 40 → zW ι M_Past_forgetOldest X 2 [some (zP 23 0), some (zI (nI (i + 1)))] [] (fgM mem (i + 1)) by
    have := H 39 0 rfl
    rw [fgM_1] at this
    exact this
  intro d
  induction d with
  | zero =>
    intro i hi
    obtain rfl : i = 39 := by omega
    refine z_iload_n hX (D_Past_forgetOldest (i := 2) rfl) rfl ?_
    refine z_bipush (v := 40) hX (D_Past_forgetOldest (i := 3) rfl) (by decide) ?_
    refine z_icmp_ge (tgt := 56) hX (D_Past_forgetOldest (i := 4) rfl) (by decide) (fun _ => ?_) (fun hcc => absurd (by decide) hcc)
    refine z_aload_n hX (D_Past_forgetOldest (i := 37) rfl) rfl ?_
    refine z_bipush (v := 39) hX (D_Past_forgetOldest (i := 38) rfl) (by decide) ?_
    refine z_puti hX (D_Past_forgetOldest (i := 39) rfl) g_Past_19 rfl (by decide) (by first | exact Nat.one_pos | assumption | omega) rfl ?_
    exact z_ret hX hR (D_Past_forgetOldest (i := 40) rfl) rfl (by assumption)
  | succ d ih =>
    intro i hi
    have e1 : nI (i + 1) - 1 = nI i := nI_pred i
    refine z_iload_n hX (D_Past_forgetOldest (i := 2) rfl) rfl ?_
    refine z_bipush (v := 40) hX (D_Past_forgetOldest (i := 3) rfl) (by decide) ?_
    refine z_icmp_ge (tgt := 56) hX (D_Past_forgetOldest (i := 4) rfl) (by decide) (fun hcc => absurd hcc (nI_ge (b := 40) (by omega) (by decide))) (fun _ => ?_)
    refine z_aload_n hX (D_Past_forgetOldest (i := 5) rfl) rfl ?_
    refine z_getc hX (D_Past_forgetOldest (i := 6) rfl) f_Past_9 rfl (by decide) (by first | exact Nat.one_pos | assumption | omega) rfl ?_
    refine z_iload_n hX (D_Past_forgetOldest (i := 7) rfl) rfl ?_
    refine z_iconst (v := 1) hX (D_Past_forgetOldest (i := 8) rfl) (by decide) ?_
    refine z_isub hX (D_Past_forgetOldest (i := 9) rfl) ?_
    refine z_aload_n hX (D_Past_forgetOldest (i := 10) rfl) rfl ?_
    refine z_getc hX (D_Past_forgetOldest (i := 11) rfl) f_Past_9 rfl (by decide) (by first | exact Nat.one_pos | assumption | omega) rfl ?_
    refine z_iload_n hX (D_Past_forgetOldest (i := 12) rfl) rfl ?_
    rw [e1]
    refine z_iald (j := i + 1) hX (D_Past_forgetOldest (i := 13) rfl) rfl (by decide) (by first | exact Nat.one_pos | assumption | omega) (by decide) rfl (by omega) ?_
    rw [fgM_get mem (i + 1) 24 (i + 1) (by omega)]
    refine z_iast (j := i) hX (D_Past_forgetOldest (i := 14) rfl) rfl (by decide) (by first | exact Nat.one_pos | assumption | omega) (by decide) rfl (by omega) ?_
    refine z_aload_n hX (D_Past_forgetOldest (i := 15) rfl) rfl ?_
    refine z_getc hX (D_Past_forgetOldest (i := 16) rfl) f_Past_13 rfl (by decide) (by first | exact Nat.one_pos | assumption | omega) rfl ?_
    refine z_iload_n hX (D_Past_forgetOldest (i := 17) rfl) rfl ?_
    refine z_iconst (v := 1) hX (D_Past_forgetOldest (i := 18) rfl) (by decide) ?_
    refine z_isub hX (D_Past_forgetOldest (i := 19) rfl) ?_
    refine z_aload_n hX (D_Past_forgetOldest (i := 20) rfl) rfl ?_
    refine z_getc hX (D_Past_forgetOldest (i := 21) rfl) f_Past_13 rfl (by decide) (by first | exact Nat.one_pos | assumption | omega) rfl ?_
    refine z_iload_n hX (D_Past_forgetOldest (i := 22) rfl) rfl ?_
    rw [e1]
    refine z_iald (j := i + 1) hX (D_Past_forgetOldest (i := 23) rfl) rfl (by decide) (by first | exact Nat.one_pos | assumption | omega) (by decide) rfl (by omega) ?_
    rw [show (upI (fgM mem (i + 1)) 24 0 i (mem.1 24 0 (i + 1))).1 25 0 (i + 1) = mem.1 25 0 (i + 1) by rw [upI_get, if_neg (by omega)]; exact fgM_get mem (i + 1) 25 (i + 1) (by omega)]
    refine z_iast (j := i) hX (D_Past_forgetOldest (i := 24) rfl) rfl (by decide) (by first | exact Nat.one_pos | assumption | omega) (by decide) rfl (by omega) ?_
    refine z_aload_n hX (D_Past_forgetOldest (i := 25) rfl) rfl ?_
    refine z_getc hX (D_Past_forgetOldest (i := 26) rfl) f_Past_16 rfl (by decide) (by first | exact Nat.one_pos | assumption | omega) rfl ?_
    refine z_iload_n hX (D_Past_forgetOldest (i := 27) rfl) rfl ?_
    refine z_iconst (v := 1) hX (D_Past_forgetOldest (i := 28) rfl) (by decide) ?_
    refine z_isub hX (D_Past_forgetOldest (i := 29) rfl) ?_
    refine z_aload_n hX (D_Past_forgetOldest (i := 30) rfl) rfl ?_
    refine z_getc hX (D_Past_forgetOldest (i := 31) rfl) f_Past_16 rfl (by decide) (by first | exact Nat.one_pos | assumption | omega) rfl ?_
    refine z_iload_n hX (D_Past_forgetOldest (i := 32) rfl) rfl ?_
    rw [e1]
    refine z_iald (j := i + 1) hX (D_Past_forgetOldest (i := 33) rfl) rfl (by decide) (by first | exact Nat.one_pos | assumption | omega) (by decide) rfl (by omega) ?_
    rw [show (upI (upI (fgM mem (i + 1)) 24 0 i (mem.1 24 0 (i + 1))) 25 0 i (mem.1 25 0 (i + 1))).1 26 0 (i + 1) = mem.1 26 0 (i + 1) by rw [upI_get, if_neg (by omega), upI_get, if_neg (by omega)]; exact fgM_get mem (i + 1) 26 (i + 1) (by omega)]
    refine z_iast (j := i) hX (D_Past_forgetOldest (i := 34) rfl) rfl (by decide) (by first | exact Nat.one_pos | assumption | omega) (by decide) rfl (by omega) ?_
    rw [fgM_s]
    first | refine z_inc1 hX (D_Past_forgetOldest (i := 35) rfl) rfl (by decide) rfl ?_ | refine z_iinc hX (D_Past_forgetOldest (i := 35) rfl) rfl rfl (by decide) rfl ?_
    refine z_goto (tgt := 2) hX (D_Past_forgetOldest (i := 36) rfl) (by decide) ?_
    exact ih (i + 1) (by omega)
def adM (m1 : zM) (d : Nat) (f w i : Int32) : zM := upI (upI (upI (upI (upI m1 24 0 d f) 25 0 d w) 26 0 d i) 23 0 3 (nI (d + 1))) 23 0 4 (nI (d + 1))
theorem c_Past_add_at (hH : zHas ι pX) {X : zX} (hX : zG ι M_Past_add X 1 pX) (hR : zRt ι X Post) {m1 : zM} {d : Nat} (hd : d < 40) (h1 : m1.1 23 0 3 = nI d) (h : Post none (adM m1 d x y z)) : zW ι M_Past_add X 13 [some (zP 23 0), some (zI x), some (zI y), some (zI z)] [] m1 := by
  refine z_aload_n hX (D_Past_add (i := 6) rfl) rfl ?_
  refine z_getc hX (D_Past_add (i := 7) rfl) f_Past_9 rfl (by decide) (by first | exact Nat.one_pos | assumption | omega) rfl ?_
  refine z_aload_n hX (D_Past_add (i := 8) rfl) rfl ?_
  refine z_geti hX (D_Past_add (i := 9) rfl) f_Past_19 rfl (by decide) (by first | exact Nat.one_pos | assumption | omega) rfl ?_
  rw [h1]
  refine z_iload_n hX (D_Past_add (i := 10) rfl) rfl ?_
  refine z_iast (j := d) hX (D_Past_add (i := 11) rfl) rfl (by decide) (by first | exact Nat.one_pos | assumption | omega) (by decide) rfl hd ?_
  refine z_aload_n hX (D_Past_add (i := 12) rfl) rfl ?_
  refine z_getc hX (D_Past_add (i := 13) rfl) f_Past_13 rfl (by decide) (by first | exact Nat.one_pos | assumption | omega) rfl ?_
  refine z_aload_n hX (D_Past_add (i := 14) rfl) rfl ?_
  refine z_geti hX (D_Past_add (i := 15) rfl) f_Past_19 rfl (by decide) (by first | exact Nat.one_pos | assumption | omega) rfl ?_
  rw [show (upI m1 24 0 d x).1 23 0 3 = nI d by simp [upI_get, h1]]
  refine z_iload_n hX (D_Past_add (i := 16) rfl) rfl ?_
  refine z_iast (j := d) hX (D_Past_add (i := 17) rfl) rfl (by decide) (by first | exact Nat.one_pos | assumption | omega) (by decide) rfl hd ?_
  refine z_aload_n hX (D_Past_add (i := 18) rfl) rfl ?_
  refine z_getc hX (D_Past_add (i := 19) rfl) f_Past_16 rfl (by decide) (by first | exact Nat.one_pos | assumption | omega) rfl ?_
  refine z_aload_n hX (D_Past_add (i := 20) rfl) rfl ?_
  refine z_geti hX (D_Past_add (i := 21) rfl) f_Past_19 rfl (by decide) (by first | exact Nat.one_pos | assumption | omega) rfl ?_
  rw [show (upI (upI m1 24 0 d x) 25 0 d y).1 23 0 3 = nI d by simp [upI_get, h1]]
  refine z_iload_n hX (D_Past_add (i := 22) rfl) rfl ?_
  refine z_iast (j := d) hX (D_Past_add (i := 23) rfl) rfl (by decide) (by first | exact Nat.one_pos | assumption | omega) (by decide) rfl hd ?_
  refine z_aload_n hX (D_Past_add (i := 24) rfl) rfl ?_
  refine z_dupP hX (D_Past_add (i := 25) rfl) ?_
  refine z_geti hX (D_Past_add (i := 26) rfl) f_Past_19 rfl (by decide) (by first | exact Nat.one_pos | assumption | omega) rfl ?_
  rw [show (upI (upI (upI m1 24 0 d x) 25 0 d y) 26 0 d z).1 23 0 3 = nI d by simp [upI_get, h1]]
  refine z_iconst (v := 1) hX (D_Past_add (i := 27) rfl) (by decide) ?_
  refine z_iadd hX (D_Past_add (i := 28) rfl) ?_
  rw [nI_1]
  refine z_puti hX (D_Past_add (i := 29) rfl) g_Past_19 rfl (by decide) (by first | exact Nat.one_pos | assumption | omega) rfl ?_
  refine z_aload_n hX (D_Past_add (i := 30) rfl) rfl ?_
  refine z_aload_n hX (D_Past_add (i := 31) rfl) rfl ?_
  refine z_geti hX (D_Past_add (i := 32) rfl) f_Past_19 rfl (by decide) (by first | exact Nat.one_pos | assumption | omega) rfl ?_
  rw [show (upI (upI (upI (upI m1 24 0 d x) 25 0 d y) 26 0 d z) 23 0 3 (nI (d + 1))).1 23 0 3 = nI (d + 1) by simp [upI_get]]
  refine z_puti hX (D_Past_add (i := 33) rfl) g_Past_26 rfl (by decide) (by first | exact Nat.one_pos | assumption | omega) rfl ?_
  exact z_ret hX hR (D_Past_add (i := 34) rfl) rfl h
theorem c_Past_add (hH : zHas ι pX) {d : Nat} (hd : d < 40) (h1 : mem.1 23 0 3 = nI d) (h : Post none (adM mem d x y z)) : zC l ι M_Past_add 1 [zP 23 0, zI x, zI y, zI z] mem Post := by
  refine z_enter hH (by decide) (by simp [z_ent, M_Past_add]) (fun X hXl hX hR => ?_)
  refine z_aload_n hX (D_Past_add (i := 0) rfl) rfl ?_
  refine z_geti hX (D_Past_add (i := 1) rfl) f_Past_19 rfl (by decide) (by first | exact Nat.one_pos | assumption | omega) rfl ?_
  refine z_bipush (v := 40) hX (D_Past_add (i := 2) rfl) (by decide) ?_
  rw [h1]
  refine z_icmp_lt (tgt := 13) hX (D_Past_add (i := 3) rfl) (by decide) (fun _ => ?_) (fun hcc => absurd (nI_lt (b := 40) hd (by decide)) hcc)
  exact c_Past_add_at hH hX hR hd h1 h
theorem c_Past_add_full (hH : zHas ι pX) (h1 : mem.1 23 0 3 = nI 40) (h : Post none (adM (upI (fgM mem 40) 23 0 3 (nI 39)) 39 x y z)) : zC l ι M_Past_add 1 [zP 23 0, zI x, zI y, zI z] mem Post := by
  refine z_enter hH (by decide) (by simp [z_ent, M_Past_add]) (fun X hXl hX hR => ?_)
  refine z_aload_n hX (D_Past_add (i := 0) rfl) rfl ?_
  refine z_geti hX (D_Past_add (i := 1) rfl) f_Past_19 rfl (by decide) (by first | exact Nat.one_pos | assumption | omega) rfl ?_
  refine z_bipush (v := 40) hX (D_Past_add (i := 2) rfl) (by decide) ?_
  rw [h1]
  refine z_icmp_lt (tgt := 13) hX (D_Past_add (i := 3) rfl) (by decide) (fun hcc => absurd hcc (by decide)) (fun _ => ?_)
  refine z_aload_n hX (D_Past_add (i := 4) rfl) rfl ?_
  refine z_cV0 hX (D_Past_add (i := 5) rfl) mi_Past_forgetOldest l_Past_23 rfl rfl (by decide) (by first | exact Nat.one_pos | assumption | omega) (by first | decide | omega) (Nat.le_of_ble_eq_true rfl) (c_Past_forgetOldest hH ?_)
  exact c_Past_add_at hH hX hR (by decide) (by simp [upI_get]) h
end F4
