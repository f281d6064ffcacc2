/-! the reference: cube, cubes, shift -/
def cbN (mem : zM) (k j i : Nat) : zM := (fun a b c => if a = 41 ∧ b = 0 ∧ 6 * k + (6 - i) ≤ c ∧ c < 6 * k + 6 then nI (j / 10 ^ (5 - (c - 6 * k)) % 10 - 1) else mem.1 a b c, mem.2)
theorem cbN_0 (mem : zM) (k j : Nat) : cbN mem k j 0 = mem := by
  refine Prod.ext ?_ rfl
  funext a b c
  show (if a = 41 ∧ b = 0 ∧ 6 * k + (6 - 0) ≤ c ∧ c < 6 * k + 6 then _ else mem.1 a b c) = mem.1 a b c
  rw [if_neg (by omega)]
theorem cbN_s (mem : zM) (k j i : Nat) (hi : i < 6) : upI (cbN mem k j i) 41 0 (6 * k + (5 - i)) (nI (j / 10 ^ i % 10 - 1)) = cbN mem k j (i + 1) := by
  refine Prod.ext ?_ rfl
  funext a b c
  rw [upI_get]
  show (if a = 41 ∧ b = 0 ∧ c = 6 * k + (5 - i) then nI (j / 10 ^ i % 10 - 1) else (if a = 41 ∧ b = 0 ∧ 6 * k + (6 - i) ≤ c ∧ c < 6 * k + 6 then nI (j / 10 ^ (5 - (c - 6 * k)) % 10 - 1) else mem.1 a b c)) = (if a = 41 ∧ b = 0 ∧ 6 * k + (6 - (i + 1)) ≤ c ∧ c < 6 * k + 6 then nI (j / 10 ^ (5 - (c - 6 * k)) % 10 - 1) else mem.1 a b c)
  by_cases h : a = 41 ∧ b = 0 ∧ 6 * k + (6 - (i + 1)) ≤ c ∧ c < 6 * k + 6
  · rw [if_pos h]
    by_cases h2 : c = 6 * k + (5 - i)
    · rw [if_pos ⟨h.1, h.2.1, h2⟩, show 5 - (c - 6 * k) = i by omega]
    · rw [if_neg (fun w => h2 w.2.2), if_pos ⟨h.1, h.2.1, by omega, h.2.2.2⟩]
  · rw [if_neg h, if_neg (fun w => h ⟨w.1, w.2.1, by omega, by omega⟩), if_neg (fun w => h ⟨w.1, w.2.1, by omega, w.2.2.2⟩)]
section G7
variable {l : Launch} {ι : zE} {mem : zM} {Post : Option zV → zM → Prop} {x y z : Int32} {sz nb : Nat}
theorem d_cube (hH : zHas ι pM) (hs : mem.1 40 0 1 = nI sz) (h8 : sz ≤ 8) (hno : sixB x = false → Post (some (zI (-1))) mem) (hfull : sixB x = true → sz = 8 → Post (some (zI (-3))) mem) (hok : ∀ j, x = nI j → sixB x = true → j ≤ 777777 → sz < 8 → Post (some (zI (nI sz))) (upI (upI (cbN mem sz j 6) 42 0 sz 16) 40 0 1 (nI (sz + 1)))) : zC l ι M_Model_cube 1 [zP 40 0, zI x] mem Post := by
  have k1 : (111111 : Int32).toInt = 111111 := rfl
  have k2 : (777777 : Int32).toInt = 777777 := rfl
  refine z_enter hH (by decide) (by simp [z_ent, M_Model_cube]) (fun X hXl hX hR => ?_)
  refine z_iload_n hX (D_Model_cube (i := 0) rfl) rfl ?_
  refine z_ldc (v := 111111) hX (D_Model_cube (i := 1) rfl) k_Model_110 ?_
  refine z_ldc (v := 777777) hX (D_Model_cube (i := 2) rfl) k_Model_111 ?_
  refine z_cS3 hX (D_Model_cube (i := 3) rfl) ms_Model_in l_Model_102 (by first | decide | omega) (Nat.le_of_ble_eq_true rfl) (d_in ?_)
  refine z_if_ne (tgt := 13) hX (D_Model_cube (i := 4) rfl) (by decide) (fun h1 => ?_) (fun h1 => ?_)
  · skip
    have a1 := of_decide_eq_true (bI_n.mp h1)
    have a2 := Int32.le_iff_toInt_le.mp a1.1
    have a3 := Int32.le_iff_toInt_le.mp a1.2
    obtain ⟨j, hj, hj2, rfl⟩ : ∃ j : Nat, j ≤ 777777 ∧ 111111 ≤ j ∧ x = nI j := ⟨x.toInt.toNat, by omega, by omega, Int32.toInt_inj.mp (by rw [nI_toInt (by omega)]; omega)⟩
    have e0 : sixB (nI j) = alI (digB j) 6 := by
      unfold sixB
      rw [decide_eq_true ⟨by omega, by omega⟩, nI_toInt (by omega)]; rfl
    refine z_iload_n hX (D_Model_cube (i := 7) rfl) rfl ?_
    refine z_istore_n hX (D_Model_cube (i := 8) rfl) (by decide) rfl ?_
    suffices H : ∀ (d i : Nat), i + d = 6 → (∀ w, w < i → digB j w = true) → zW ι M_Model_cube X 15 [some (zP 40 0), some (zI (nI j)), some (zI (nI (j / 10 ^ i))), none] [] mem by
      have := H 6 0 rfl (fun _ h => absurd h (Nat.not_lt_zero _))
      rw [Nat.pow_zero, Nat.div_one] at this
      exact this
    intro d
    induction d with
    | zero =>
      intro i hi hd
      obtain rfl : i = 6 := by omega
      have hb : sixB (nI j) = true := by rw [e0]; exact alI_true.mpr hd
      refine z_iload_n hX (D_Model_cube (i := 9) rfl) rfl ?_
      rw [show j / 10 ^ 6 = 0 from Nat.div_eq_of_lt (by omega)]
      refine z_if_le (tgt := 42) hX (D_Model_cube (i := 10) rfl) (by decide) (fun _ => ?_) (fun hcc => absurd (by decide) hcc)
      refine z_aload_n hX (D_Model_cube (i := 25) rfl) rfl ?_
      refine z_geti hX (D_Model_cube (i := 26) rfl) f_Model_99 rfl (by decide) (by first | exact Nat.one_pos | assumption | omega) rfl ?_
      refine z_bipush (v := 8) hX (D_Model_cube (i := 27) rfl) (by decide) ?_
      rw [hs]
      by_cases h2 : sz < 8
      · have hh := hok j rfl hb hj h2
        refine z_icmp_ne (tgt := 54) hX (D_Model_cube (i := 28) rfl) (by decide) (fun _ => ?_) (fun hcc => absurd hcc (fun w => absurd ((nI_eq (b := 8) (by omega) (by decide)).mp w) (by omega)))
        refine z_iload_n hX (D_Model_cube (i := 31) rfl) rfl ?_
        refine z_istore_n hX (D_Model_cube (i := 32) rfl) (by decide) rfl ?_
        refine z_iconst (v := 5) hX (D_Model_cube (i := 33) rfl) (by decide) ?_
        refine z_istore_n hX (D_Model_cube (i := 34) rfl) (by decide) rfl ?_
        suffices H2 : ∀ (d i : Nat), i + d = 6 → zW ι M_Model_cube X 58 [some (zP 40 0), some (zI (nI j)), some (zI (nI (j / 10 ^ i))), some (zI (fcI i))] [] (cbN mem sz j i) by
          have := H2 6 0 rfl
          rw [Nat.pow_zero, Nat.div_one, cbN_0] at this
          exact this
        intro d
        induction d with
        | zero =>
          intro i hi
          obtain rfl : i = 6 := by omega
          refine z_iload_n hX (D_Model_cube (i := 35) rfl) rfl ?_
          refine z_if_lt (tgt := 93) hX (D_Model_cube (i := 36) rfl) (by decide) (fun _ => ?_) (fun hcc => absurd (by decide) hcc)
          refine z_aload_n hX (D_Model_cube (i := 57) rfl) rfl ?_
          refine z_getc hX (D_Model_cube (i := 58) rfl) f_Model_13 rfl (by decide) (by first | exact Nat.one_pos | assumption | omega) rfl ?_
          refine z_aload_n hX (D_Model_cube (i := 59) rfl) rfl ?_
          refine z_geti hX (D_Model_cube (i := 60) rfl) f_Model_99 rfl (by decide) (by first | exact Nat.one_pos | assumption | omega) rfl ?_
          rw [show (cbN mem sz j 6).1 40 0 1 = nI sz by rw [← hs]; simp [cbN]]
          refine z_bipush (v := 16) hX (D_Model_cube (i := 61) rfl) (by decide) ?_
          refine z_iast (j := sz) hX (D_Model_cube (i := 62) rfl) rfl (by decide) (by first | exact Nat.one_pos | assumption | omega) (by decide) rfl h2 ?_
          refine z_aload_n hX (D_Model_cube (i := 63) rfl) rfl ?_
          refine z_dupP hX (D_Model_cube (i := 64) rfl) ?_
          refine z_geti hX (D_Model_cube (i := 65) rfl) f_Model_99 rfl (by decide) (by first | exact Nat.one_pos | assumption | omega) rfl ?_
          rw [show (upI (cbN mem sz j 6) 42 0 sz 16).1 40 0 1 = nI sz by rw [← hs]; simp [cbN, upI_get]]
          refine z_iconst (v := 1) hX (D_Model_cube (i := 66) rfl) (by decide) ?_
          refine z_iadd hX (D_Model_cube (i := 67) rfl) ?_
          rw [nI_1]
          refine z_puti hX (D_Model_cube (i := 68) rfl) g_Model_99 rfl (by decide) (by first | exact Nat.one_pos | assumption | omega) rfl ?_
          refine z_aload_n hX (D_Model_cube (i := 69) rfl) rfl ?_
          refine z_geti hX (D_Model_cube (i := 70) rfl) f_Model_99 rfl (by decide) (by first | exact Nat.one_pos | assumption | omega) rfl ?_
          refine z_iconst (v := 1) hX (D_Model_cube (i := 71) rfl) (by decide) ?_
          refine z_isub hX (D_Model_cube (i := 72) rfl) ?_
          rw [show (upI (upI (cbN mem sz j 6) 42 0 sz 16) 40 0 1 (nI (sz + 1))).1 40 0 1 = nI (sz + 1) by simp [upI_get]]
          rw [show nI (sz + 1) - (1 : Int32) = nI sz from nI_pred sz]
          exact z_iret hX hR (D_Model_cube (i := 73) rfl) rfl hh
        | succ d ih =>
          intro i hi
          have hi6 : i < 6 := by omega
          have hq := div_le10 j i
          have dg := of_decide_eq_true (hd i hi6)
          have e1 := fcI_eq hi6
          refine z_iload_n hX (D_Model_cube (i := 35) rfl) rfl ?_
          refine z_if_lt (tgt := 93) hX (D_Model_cube (i := 36) rfl) (by decide) (fun hcc => absurd hcc (by rw [e1]; exact nI_pos (by omega))) (fun _ => ?_)
          refine z_aload_n hX (D_Model_cube (i := 37) rfl) rfl ?_
          refine z_getc hX (D_Model_cube (i := 38) rfl) f_Model_7 rfl (by decide) (by first | exact Nat.one_pos | assumption | omega) rfl ?_
          refine z_bipush (v := 6) hX (D_Model_cube (i := 39) rfl) (by decide) ?_
          refine z_aload_n hX (D_Model_cube (i := 40) rfl) rfl ?_
          refine z_geti hX (D_Model_cube (i := 41) rfl) f_Model_99 rfl (by decide) (by first | exact Nat.one_pos | assumption | omega) rfl ?_
          rw [show (cbN mem sz j i).1 40 0 1 = nI sz by rw [← hs]; simp [cbN]]
          refine z_imul hX (D_Model_cube (i := 42) rfl) ?_
          refine z_iload_n hX (D_Model_cube (i := 43) rfl) rfl ?_
          refine z_iadd hX (D_Model_cube (i := 44) rfl) ?_
          rw [show (6 : Int32) * nI sz + fcI i = nI (6 * sz + (5 - i)) by rw [e1, nlit, pk_mul, nI_add]]
          refine z_iload_n hX (D_Model_cube (i := 45) rfl) rfl ?_
          refine z_bipush (v := 10) hX (D_Model_cube (i := 46) rfl) (by decide) ?_
          refine z_irem hX (D_Model_cube (i := 47) rfl) (by decide) ?_
          rw [show nI (j / 10 ^ i) - nI (j / 10 ^ i) / 10 * 10 = nI (j / 10 ^ i % 10) by rw [nlit, pk_rem (by omega) (by decide) (by decide)]]
          refine z_iconst (v := 1) hX (D_Model_cube (i := 48) rfl) (by decide) ?_
          refine z_isub hX (D_Model_cube (i := 49) rfl) ?_
          rw [show nI (j / 10 ^ i % 10) - 1 = nI (j / 10 ^ i % 10 - 1) from pk_sub (b := 1) (by omega)]
          refine z_iast (j := 6 * sz + (5 - i)) hX (D_Model_cube (i := 50) rfl) rfl (by decide) (by first | exact Nat.one_pos | assumption | omega) (by decide) rfl (by omega) ?_
          rw [cbN_s mem sz j i hi6]
          refine z_iload_n hX (D_Model_cube (i := 51) rfl) rfl ?_
          refine z_bipush (v := 10) hX (D_Model_cube (i := 52) rfl) (by decide) ?_
          refine z_idiv hX (D_Model_cube (i := 53) rfl) (by decide) ?_
          rw [show nI (j / 10 ^ i) / 10 = nI (j / 10 ^ (i + 1)) by rw [nlit, pk_div (by omega) (by decide) (by decide), div10]]
          refine z_istore_n hX (D_Model_cube (i := 54) rfl) (by decide) rfl ?_
          refine z_iinc (v := fcI (i + 1)) hX (D_Model_cube (i := 55) rfl) rfl (fcI_s hi6) (by decide) rfl ?_
          refine z_goto (tgt := 58) hX (D_Model_cube (i := 56) rfl) (by decide) ?_
          exact ih (i + 1) (by omega)
      · obtain rfl : sz = 8 := by omega
        refine z_icmp_ne (tgt := 54) hX (D_Model_cube (i := 28) rfl) (by decide) (fun hcc => absurd (rfl) hcc) (fun _ => ?_)
        refine z_bipush (v := -3) hX (D_Model_cube (i := 29) rfl) (by decide) ?_
        exact z_iret hX hR (D_Model_cube (i := 30) rfl) rfl (hfull hb rfl)
    | succ d ih =>
      intro i hi hinv
      have hq := div_le10 j i
      have hpos : 0 < j / 10 ^ i := Nat.div_pos (Nat.le_trans (Nat.pow_le_pow_right (by decide) (show i ≤ 5 by omega)) (by omega)) (Nat.pow_pos (by decide))
      refine z_iload_n hX (D_Model_cube (i := 9) rfl) rfl ?_
      refine z_if_le (tgt := 42) hX (D_Model_cube (i := 10) rfl) (by decide) (fun hcc => absurd hcc (nI_nle hpos (by omega))) (fun _ => ?_)
      refine z_iload_n hX (D_Model_cube (i := 11) rfl) rfl ?_
      refine z_bipush (v := 10) hX (D_Model_cube (i := 12) rfl) (by decide) ?_
      refine z_irem hX (D_Model_cube (i := 13) rfl) (by decide) ?_
      rw [show nI (j / 10 ^ i) - nI (j / 10 ^ i) / 10 * 10 = nI (j / 10 ^ i % 10) by rw [nlit, pk_rem (by omega) (by decide) (by decide)]]
      refine z_iconst (v := 1) hX (D_Model_cube (i := 14) rfl) (by decide) ?_
      refine z_bipush (v := 7) hX (D_Model_cube (i := 15) rfl) (by decide) ?_
      refine z_cS3 hX (D_Model_cube (i := 16) rfl) ms_Model_in l_Model_102 (by first | decide | omega) (Nat.le_of_ble_eq_true rfl) (d_in ?_)
      rw [show decide ((1 : Int32) ≤ nI (j / 10 ^ i % 10) ∧ nI (j / 10 ^ i % 10) ≤ 7) = digB j i from decide_eq_decide.mpr (by rw [show (1 : Int32) ≤ nI (j / 10 ^ i % 10) ↔ 1 ≤ j / 10 ^ i % 10 from nI_leI (a := 1) (by decide) (by omega), show nI (j / 10 ^ i % 10) ≤ 7 ↔ j / 10 ^ i % 10 ≤ 7 from nI_leI (b := 7) (by omega) (by decide)])]
      refine z_if_ne (tgt := 34) hX (D_Model_cube (i := 17) rfl) (by decide) (fun h3 => ?_) (fun h3 => ?_)
      · refine z_iload_n hX (D_Model_cube (i := 20) rfl) rfl ?_
        refine z_bipush (v := 10) hX (D_Model_cube (i := 21) rfl) (by decide) ?_
        refine z_idiv hX (D_Model_cube (i := 22) rfl) (by decide) ?_
        rw [show nI (j / 10 ^ i) / 10 = nI (j / 10 ^ (i + 1)) by rw [nlit, pk_div (by omega) (by decide) (by decide), div10]]
        refine z_istore_n hX (D_Model_cube (i := 23) rfl) (by decide) rfl ?_
        refine z_goto (tgt := 15) hX (D_Model_cube (i := 24) rfl) (by decide) ?_
        exact ih (i + 1) (by omega) (fun w hw => if e : w = i then by subst e; exact bI_n.mp h3 else hinv w (by omega))
      · refine z_iconst (v := -1) hX (D_Model_cube (i := 18) rfl) (by decide) ?_
        exact z_iret hX hR (D_Model_cube (i := 19) rfl) rfl (hno (by rw [e0]; exact alI_false (k := i) (by omega) (bI_0.mp h3)))
  · refine z_iconst (v := -1) hX (D_Model_cube (i := 5) rfl) (by decide) ?_
    have a1 := of_decide_eq_false (bI_0.mp h1)
    refine z_iret hX hR (D_Model_cube (i := 6) rfl) rfl (hno ?_)
    unfold sixB
    rw [decide_eq_false (fun w => a1 ⟨Int32.le_iff_toInt_le.mpr (by omega), Int32.le_iff_toInt_le.mpr (by omega)⟩)]; rfl
end G7
