/-! the class takes the tape -/
def tkO (mem mem' : zM) : Prop := mem'.2.1 = mem.2.1 ∧ (∀ a b c, a ≠ 4 → a ≠ 6 → a ≠ 7 → a ≠ 8 → mem'.1 a b c = mem.1 a b c) ∧ mem'.1 4 0 1 = 0
theorem pmC_start {mem : zM} : upI (upI mem 4 0 2 0) 4 0 4 0 = pmC mem 0 [] := by
  refine Prod.ext ?_ rfl
  funext a b c
  show (if a = 4 ∧ b = 0 ∧ c = 4 then (0 : Int32) else if a = 4 ∧ b = 0 ∧ c = 2 then 0 else mem.1 a b c) = (if a = 4 ∧ b = 0 ∧ c = 2 then nI 0 else if a = 4 ∧ b = 0 ∧ c = 4 then nI 0 else if a = 6 ∧ b = 0 ∧ c < 0 then _ else mem.1 a b c)
  by_cases h1 : a = 4 ∧ b = 0 ∧ c = 4
  · rw [if_pos h1, if_neg (by omega), if_pos h1]; rfl
  · rw [if_neg h1, if_neg h1, if_neg (show ¬ (a = 6 ∧ b = 0 ∧ c < 0) by omega)]; rfl
section C7
variable {l : Launch} {ι : zE} {mem : zM} {Post : Option zV → zM → Prop} {x y z : Int32} {n p : Nat} {K : Nat → Nat}
theorem c_Law_takeTape (hH : zHas ι pL) (hT : LT mem n K) (hs : ∀ q Λ mem', txR K n 121 0 [] = (q, some Λ) → tkO mem mem' → (∀ k, k < 1176 → mem'.1 8 0 k = bI (mayK (some Λ) k)) → Post (some (zI 1)) mem') (hn : ∀ q mem', txR K n 121 0 [] = (q, none) → tkO mem mem' → (∀ k, mem'.1 8 0 k = mem.1 8 0 k) → Post (some (zI (-100 - nI q))) mem') : zC l ι M_Law_takeTape 59 [zP 4 0] mem Post := by
  refine z_enter hH (by decide) (by simp [z_ent, M_Law_takeTape]) (fun X hXl hX hR => ?_)
  refine z_aload_n hX (D_Law_takeTape (i := 0) rfl) rfl ?_
  refine z_iconst (v := 0) hX (D_Law_takeTape (i := 1) rfl) (by decide) ?_
  refine z_puti hX (D_Law_takeTape (i := 2) rfl) g_Law_32 rfl (by decide) (by first | exact Nat.one_pos | assumption | omega) rfl ?_
  refine z_aload_n hX (D_Law_takeTape (i := 3) rfl) rfl ?_
  refine z_iconst (v := 0) hX (D_Law_takeTape (i := 4) rfl) (by decide) ?_
  refine z_puti hX (D_Law_takeTape (i := 5) rfl) g_Law_35 rfl (by decide) (by first | exact Nat.one_pos | assumption | omega) rfl ?_
  rw [pmC_start]
  refine z_aload_n hX (D_Law_takeTape (i := 6) rfl) rfl ?_
  refine z_cV0 hX (D_Law_takeTape (i := 7) rfl) mi_Law_readText l_Law_38 rfl rfl (by decide) (by first | exact Nat.one_pos | assumption | omega) (by first | decide | omega) (Nat.le_of_ble_eq_true rfl) (c_Law_readText hH hT ?_ ?_)
  · intro q Λ he
    have hok := txR_ok hT.2.2.1 hT.2.1 121 0 [] (Nat.zero_le _) (Nat.le_refl _) (fun _ h => absurd h List.not_mem_nil)
    rw [he] at hok
    obtain ⟨hq, hl, hg, hne⟩ := hok
    refine z_istore_n hX (D_Law_takeTape (i := 8) rfl) (by decide) rfl ?_
    refine z_aload_n hX (D_Law_takeTape (i := 9) rfl) rfl ?_
    refine z_iconst (v := 0) hX (D_Law_takeTape (i := 10) rfl) (by decide) ?_
    refine z_puti hX (D_Law_takeTape (i := 11) rfl) g_Law_28 rfl (by decide) (by first | exact Nat.one_pos | assumption | omega) rfl ?_
    refine z_iload_n hX (D_Law_takeTape (i := 12) rfl) rfl ?_
    refine z_if_ne (tgt := 32) hX (D_Law_takeTape (i := 13) rfl) (by decide) (fun _ => ?_) (fun hcc => absurd hcc (by decide))
    refine z_aload_n hX (D_Law_takeTape (i := 19) rfl) rfl ?_
    have hL : LC (upI (pmC mem q (txC Λ)) 4 0 1 0) (some Λ) := by
      refine ⟨hne, hg, cAt_of (fun i hi => ?_), rfl, hl⟩
      rw [Nat.zero_add]
      show (if 6 = 4 ∧ 0 = 0 ∧ i = 2 then nI q else if 6 = 4 ∧ 0 = 0 ∧ i = 4 then nI (txC Λ).length else if 6 = 6 ∧ 0 = 0 ∧ i < (txC Λ).length then (txC Λ).getD i 0 else mem.1 6 0 i) = _
      rw [if_neg (by omega), if_neg (by omega), if_pos ⟨rfl, rfl, hi⟩]
    refine z_cV0 hX (D_Law_takeTape (i := 20) rfl) mi_Law_workOutAll l_Law_25 rfl rfl (by decide) (by first | exact Nat.one_pos | assumption | omega) (by first | decide | omega) (Nat.le_of_ble_eq_true rfl) (c_Law_workOutAll hH hL ?_)
    intro f w g hg2
    have ht : tkO mem (woM (upI (pmC mem q (txC Λ)) 4 0 1 0) f w g) := by
      refine ⟨rfl, fun a b c h4 h6 h7 h8 => ?_, rfl⟩
      simp only [woM, upI_get, pmC, h4, h6, h7, h8, false_and, if_false]
    refine z_iconst (v := 1) hX (D_Law_takeTape (i := 21) rfl) (by decide) ?_
    exact z_iret hX hR (D_Law_takeTape (i := 22) rfl) rfl (hs q Λ _ he ht (fun k hk => hg2 k hk))
  · intro q out' he
    refine z_istore_n hX (D_Law_takeTape (i := 8) rfl) (by decide) rfl ?_
    refine z_aload_n hX (D_Law_takeTape (i := 9) rfl) rfl ?_
    refine z_iconst (v := 0) hX (D_Law_takeTape (i := 10) rfl) (by decide) ?_
    refine z_puti hX (D_Law_takeTape (i := 11) rfl) g_Law_28 rfl (by decide) (by first | exact Nat.one_pos | assumption | omega) rfl ?_
    refine z_iload_n hX (D_Law_takeTape (i := 12) rfl) rfl ?_
    refine z_if_ne (tgt := 32) hX (D_Law_takeTape (i := 13) rfl) (by decide) (fun hcc => absurd (rfl) hcc) (fun _ => ?_)
    refine z_bipush (v := -100) hX (D_Law_takeTape (i := 14) rfl) (by decide) ?_
    refine z_aload_n hX (D_Law_takeTape (i := 15) rfl) rfl ?_
    refine z_geti hX (D_Law_takeTape (i := 16) rfl) f_Law_32 rfl (by decide) (by first | exact Nat.one_pos | assumption | omega) rfl ?_
    refine z_isub hX (D_Law_takeTape (i := 17) rfl) ?_
    have ht : tkO mem (upI (pmC mem q out') 4 0 1 0) := by
      refine ⟨rfl, fun a b c h4 h6 h7 h8 => ?_, rfl⟩
      simp only [upI_get, pmC, h4, h6, false_and, if_false]
    exact z_iret hX hR (D_Law_takeTape (i := 18) rfl) rfl (hn q _ he ht (fun k => rfl))
theorem c_Four_law (hH : zHas ι pX) (hT : LT mem n K) (hs : ∀ q Λ mem', txR K n 121 0 [] = (q, some Λ) → tkO mem mem' → (∀ k, k < 1176 → mem'.1 8 0 k = bI (mayK (some Λ) k)) → Post (some (zI 1)) mem') (hn : ∀ q mem', txR K n 121 0 [] = (q, none) → tkO mem mem' → (∀ k, mem'.1 8 0 k = mem.1 8 0 k) → Post (some (zI (-100 - nI q))) mem') : zC l ι M_Four_law 60 [zP 0 0] mem Post := by
  refine z_enter hH (by decide) (by simp [z_ent, M_Four_law]) (fun X hXl hX hR => ?_)
  refine z_aload_n hX (D_Four_law (i := 0) rfl) rfl ?_
  refine z_getc hX (D_Four_law (i := 1) rfl) f_Four_19 rfl (by decide) (by first | exact Nat.one_pos | assumption | omega) rfl ?_
  refine z_cV0 hX (D_Four_law (i := 2) rfl) mi_Law_takeTape l_Four_133 rfl rfl (by decide) (by first | exact Nat.one_pos | assumption | omega) (by first | decide | omega) (Nat.le_of_ble_eq_true rfl) (c_Law_takeTape hH.L hT ?_ ?_)
  · intro q Λ mem' h1 h2 h3
    exact z_iret hX hR (D_Four_law (i := 3) rfl) rfl (hs q Λ mem' h1 h2 h3)
  · intro q mem' h1 h2 h3
    exact z_iret hX hR (D_Four_law (i := 3) rfl) rfl (hn q mem' h1 h2 h3)
end C7
