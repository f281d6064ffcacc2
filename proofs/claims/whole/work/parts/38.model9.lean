/-! the reference: shift -/
def s1M (mem : zM) (s i c : Nat) : zM := (mem.1, fun a b e => if a = 67 ∧ b = 0 ∧ e < c then mem.2.1 66 0 (60 * s + i + e) else mem.2.1 a b e, mem.2.2)
def s2M (mem : zM) (s i o j n c : Nat) : zM := (mem.1, fun a b e => if a = 66 ∧ b = 0 ∧ 60 * o + j ≤ e ∧ e < 60 * o + j + c then mem.2.1 66 0 (60 * s + i + (e - (60 * o + j))) else (s1M mem s i n).2.1 a b e, mem.2.2)
theorem s1M_0 (mem : zM) (s i : Nat) : s1M mem s i 0 = mem := by
  refine Prod.ext rfl (Prod.ext ?_ rfl)
  funext a b e
  show (if a = 67 ∧ b = 0 ∧ e < 0 then _ else mem.2.1 a b e) = mem.2.1 a b e
  rw [if_neg (by omega)]
theorem s1M_s (mem : zM) (s i c : Nat) : upJ (s1M mem s i c) 67 0 c (mem.2.1 66 0 (60 * s + i + c)) = s1M mem s i (c + 1) := by
  refine Prod.ext rfl (Prod.ext ?_ rfl)
  funext a b e
  show (if a = 67 ∧ b = 0 ∧ e = c then mem.2.1 66 0 (60 * s + i + c) else (if a = 67 ∧ b = 0 ∧ e < c then mem.2.1 66 0 (60 * s + i + e) else mem.2.1 a b e)) = (if a = 67 ∧ b = 0 ∧ e < c + 1 then mem.2.1 66 0 (60 * s + i + e) else mem.2.1 a b e)
  by_cases h : a = 67 ∧ b = 0 ∧ e < c + 1
  · rw [if_pos h]
    by_cases h2 : e = c
    · rw [if_pos ⟨h.1, h.2.1, h2⟩, h2]
    · rw [if_neg (fun w => h2 w.2.2), if_pos ⟨h.1, h.2.1, by omega⟩]
  · rw [if_neg h, if_neg (fun w => h ⟨w.1, w.2.1, by omega⟩), if_neg (fun w => h ⟨w.1, w.2.1, by omega⟩)]
theorem s2M_0 (mem : zM) (s i o j n : Nat) : s2M mem s i o j n 0 = s1M mem s i n := by
  refine Prod.ext rfl (Prod.ext ?_ rfl)
  funext a b e
  show (if a = 66 ∧ b = 0 ∧ 60 * o + j ≤ e ∧ e < 60 * o + j + 0 then _ else (s1M mem s i n).2.1 a b e) = _
  rw [if_neg (by omega)]
theorem s2M_s (mem : zM) (s i o j n c : Nat) : upJ (s2M mem s i o j n c) 66 0 (60 * o + j + c) (mem.2.1 66 0 (60 * s + i + c)) = s2M mem s i o j n (c + 1) := by
  refine Prod.ext rfl (Prod.ext ?_ rfl)
  funext a b e
  show (if a = 66 ∧ b = 0 ∧ e = 60 * o + j + c then mem.2.1 66 0 (60 * s + i + c) else (if a = 66 ∧ b = 0 ∧ 60 * o + j ≤ e ∧ e < 60 * o + j + c then mem.2.1 66 0 (60 * s + i + (e - (60 * o + j))) else (s1M mem s i n).2.1 a b e)) = (if a = 66 ∧ b = 0 ∧ 60 * o + j ≤ e ∧ e < 60 * o + j + (c + 1) then mem.2.1 66 0 (60 * s + i + (e - (60 * o + j))) else (s1M mem s i n).2.1 a b e)
  by_cases h : a = 66 ∧ b = 0 ∧ 60 * o + j ≤ e ∧ e < 60 * o + j + (c + 1)
  · rw [if_pos h]
    by_cases h2 : e = 60 * o + j + c
    · rw [if_pos ⟨h.1, h.2.1, h2⟩, show e - (60 * o + j) = c by omega]
    · rw [if_neg (fun w => h2 w.2.2), if_pos ⟨h.1, h.2.1, h.2.2.1, by omega⟩]
  · rw [if_neg h, if_neg (fun w => h ⟨w.1, w.2.1, by omega, by omega⟩), if_neg (fun w => h ⟨w.1, w.2.1, w.2.2.1, by omega⟩)]
theorem s2M_67 {mem : zM} {s i o j n c e : Nat} (h : e < n) : (s2M mem s i o j n c).2.1 67 0 e = mem.2.1 66 0 (60 * s + i + e) := by
  simp [s2M, s1M, h]
theorem s1M_66 {mem : zM} {s i n e : Nat} : (s1M mem s i n).2.1 66 0 e = mem.2.1 66 0 e := by
  simp [s1M]
section G9
variable {l : Launch} {ι : zE} {mem : zM} {Post : Option zV → zM → Prop} {x y : Int32} {xi xj xn : Int32}
theorem d_shift_loops (hH : zHas ι pM) {X : zX} (hX : zG ι M_Model_shift X 2 pM) (hR : zRt ι X Post) {s i o j n : Nat} (hs : s < 6) (ho : o < 6) (hi : i + n ≤ 60) (hj : j + n ≤ 60) (h : Post (some (zI (nI n))) (s2M mem s i o j n n)) : zW ι M_Model_shift X 110 [some (zP 40 0), some (zI (nI s)), some (zI (nI i)), some (zI (nI o)), some (zI (nI j)), some (zI (nI n)), none] [] mem := by
  refine z_iconst (v := 0) hX (D_Model_shift (i := 62) rfl) (by decide) ?_
  refine z_istore hX (D_Model_shift (i := 63) rfl) (by decide) rfl ?_
  suffices H1 : ∀ (d c : Nat), c + d = n → zW ι M_Model_shift X 113 [some (zP 40 0), some (zI (nI s)), some (zI (nI i)), some (zI (nI o)), some (zI (nI j)), some (zI (nI n)), some (zI (nI c))] [] (s1M mem s i c) by
    have := H1 n 0 (by omega)
    rw [s1M_0] at this
    exact this
  intro d
  induction d with
  | zero =>
    intro c hc
    obtain rfl : c = n := by omega
    refine z_iload hX (D_Model_shift (i := 64) rfl) rfl ?_
    refine z_iload hX (D_Model_shift (i := 65) rfl) rfl ?_
    refine z_icmp_ge (tgt := 147) hX (D_Model_shift (i := 66) rfl) (by decide) (fun _ => ?_) (fun hcc => absurd (Int32.le_refl _) hcc)
    refine z_iconst (v := 0) hX (D_Model_shift (i := 83) rfl) (by decide) ?_
    refine z_istore hX (D_Model_shift (i := 84) rfl) (by decide) rfl ?_
    suffices H2 : ∀ (d2 c2 : Nat), c2 + d2 = c → zW ι M_Model_shift X 150 [some (zP 40 0), some (zI (nI s)), some (zI (nI i)), some (zI (nI o)), some (zI (nI j)), some (zI (nI c)), some (zI (nI c2))] [] (s2M mem s i o j c c2) by
      have := H2 c 0 (by omega)
      rw [s2M_0] at this
      exact this
    intro d2
    induction d2 with
    | zero =>
      intro c2 hc2
      obtain rfl : c2 = c := by omega
      refine z_iload hX (D_Model_shift (i := 85) rfl) rfl ?_
      refine z_iload hX (D_Model_shift (i := 86) rfl) rfl ?_
      refine z_icmp_ge (tgt := 185) hX (D_Model_shift (i := 87) rfl) (by decide) (fun _ => ?_) (fun hcc => absurd (Int32.le_refl _) hcc)
      refine z_iload hX (D_Model_shift (i := 104) rfl) rfl ?_
      exact z_iret hX hR (D_Model_shift (i := 105) rfl) rfl h
    | succ d2 ih2 =>
      intro c2 hc2
      refine z_iload hX (D_Model_shift (i := 85) rfl) rfl ?_
      refine z_iload hX (D_Model_shift (i := 86) rfl) rfl ?_
      refine z_icmp_ge (tgt := 185) hX (D_Model_shift (i := 87) rfl) (by decide) (fun hcc => absurd hcc (nI_ge (by omega) (by omega))) (fun _ => ?_)
      refine z_aload_n hX (D_Model_shift (i := 88) rfl) rfl ?_
      refine z_getc hX (D_Model_shift (i := 89) rfl) f_Model_88 rfl (by decide) (by first | exact Nat.one_pos | assumption | omega) rfl ?_
      refine z_bipush (v := 60) hX (D_Model_shift (i := 90) rfl) (by decide) ?_
      refine z_iload_n hX (D_Model_shift (i := 91) rfl) rfl ?_
      refine z_imul hX (D_Model_shift (i := 92) rfl) ?_
      refine z_iload hX (D_Model_shift (i := 93) rfl) rfl ?_
      refine z_iadd hX (D_Model_shift (i := 94) rfl) ?_
      refine z_iload hX (D_Model_shift (i := 95) rfl) rfl ?_
      refine z_iadd hX (D_Model_shift (i := 96) rfl) ?_
      refine z_aload_n hX (D_Model_shift (i := 97) rfl) rfl ?_
      rw [show (60 : Int32) * nI o + nI j + nI c2 = nI (60 * o + j + c2) by rw [nlit, pk_mul, nI_add, nI_add]]
      refine z_getc hX (D_Model_shift (i := 98) rfl) f_Model_92 rfl (by decide) (by first | exact Nat.one_pos | assumption | omega) rfl ?_
      refine z_iload hX (D_Model_shift (i := 99) rfl) rfl ?_
      refine z_lald (j := c2) hX (D_Model_shift (i := 100) rfl) rfl (by decide) (by first | exact Nat.one_pos | assumption | omega) (by decide) rfl (by omega) ?_
      rw [s2M_67 (by omega)]
      refine z_last (j := 60 * o + j + c2) hX (D_Model_shift (i := 101) rfl) rfl (by decide) (by first | exact Nat.one_pos | assumption | omega) (by decide) rfl (by omega) ?_
      rw [s2M_s]
      first | refine z_inc1 hX (D_Model_shift (i := 102) rfl) rfl (by decide) rfl ?_ | refine z_iinc hX (D_Model_shift (i := 102) rfl) rfl rfl (by decide) rfl ?_
      refine z_goto (tgt := 150) hX (D_Model_shift (i := 103) rfl) (by decide) ?_
      exact ih2 (c2 + 1) (by omega)
  | succ d ih =>
    intro c hc
    refine z_iload hX (D_Model_shift (i := 64) rfl) rfl ?_
    refine z_iload hX (D_Model_shift (i := 65) rfl) rfl ?_
    refine z_icmp_ge (tgt := 147) hX (D_Model_shift (i := 66) rfl) (by decide) (fun hcc => absurd hcc (nI_ge (by omega) (by omega))) (fun _ => ?_)
    refine z_aload_n hX (D_Model_shift (i := 67) rfl) rfl ?_
    refine z_getc hX (D_Model_shift (i := 68) rfl) f_Model_92 rfl (by decide) (by first | exact Nat.one_pos | assumption | omega) rfl ?_
    refine z_iload hX (D_Model_shift (i := 69) rfl) rfl ?_
    refine z_aload_n hX (D_Model_shift (i := 70) rfl) rfl ?_
    refine z_getc hX (D_Model_shift (i := 71) rfl) f_Model_88 rfl (by decide) (by first | exact Nat.one_pos | assumption | omega) rfl ?_
    refine z_bipush (v := 60) hX (D_Model_shift (i := 72) rfl) (by decide) ?_
    refine z_iload_n hX (D_Model_shift (i := 73) rfl) rfl ?_
    refine z_imul hX (D_Model_shift (i := 74) rfl) ?_
    refine z_iload_n hX (D_Model_shift (i := 75) rfl) rfl ?_
    refine z_iadd hX (D_Model_shift (i := 76) rfl) ?_
    refine z_iload hX (D_Model_shift (i := 77) rfl) rfl ?_
    refine z_iadd hX (D_Model_shift (i := 78) rfl) ?_
    rw [show (60 : Int32) * nI s + nI i + nI c = nI (60 * s + i + c) by rw [nlit, pk_mul, nI_add, nI_add]]
    refine z_lald (j := 60 * s + i + c) hX (D_Model_shift (i := 79) rfl) rfl (by decide) (by first | exact Nat.one_pos | assumption | omega) (by decide) rfl (by omega) ?_
    rw [s1M_66]
    refine z_last (j := c) hX (D_Model_shift (i := 80) rfl) rfl (by decide) (by first | exact Nat.one_pos | assumption | omega) (by decide) rfl (by omega) ?_
    rw [s1M_s]
    first | refine z_inc1 hX (D_Model_shift (i := 81) rfl) rfl (by decide) rfl ?_ | refine z_iinc hX (D_Model_shift (i := 81) rfl) rfl rfl (by decide) rfl ?_
    refine z_goto (tgt := 113) hX (D_Model_shift (i := 82) rfl) (by decide) ?_
    exact ih (c + 1) (by omega)
theorem d_shift (hH : zHas ι pM) (hL : ∀ k, k < 6 → ∃ L : Nat, L ≤ 60 ∧ mem.1 65 0 k = nI L) (hno : (inN x 6 && inN y 6) = false → Post (some (zI (-1))) mem) (hbare : ∀ k o, k < 6 → o < 6 → x = nI k → y = nI o → (mem.1 64 0 k = -1 ∨ mem.1 64 0 o = -1) → Post (some (zI (-11))) mem) (hkind : ∀ k o, k < 6 → o < 6 → x = nI k → y = nI o → ¬ mem.1 64 0 k = -1 → ¬ mem.1 64 0 o = -1 → (0 ≤ mem.1 64 0 k ∨ ¬ mem.1 64 0 k = mem.1 64 0 o) → Post (some (zI (-12))) mem) (hpl : ∀ k o L L2, k < 6 → o < 6 → x = nI k → y = nI o → ¬ 0 ≤ mem.1 64 0 k → ¬ mem.1 64 0 k = -1 → mem.1 64 0 k = mem.1 64 0 o → mem.1 65 0 k = nI L → mem.1 65 0 o = nI L2 → (hsB L xi xn && hsB L2 xj xn) = false → Post (some (zI (-13))) mem) (hok : ∀ k o L L2 i j n, k < 6 → o < 6 → x = nI k → y = nI o → ¬ 0 ≤ mem.1 64 0 k → ¬ mem.1 64 0 k = -1 → mem.1 64 0 k = mem.1 64 0 o → mem.1 65 0 k = nI L → mem.1 65 0 o = nI L2 → L ≤ 60 → L2 ≤ 60 → i + n ≤ L → j + n ≤ L2 → xi = nI i → xj = nI j → xn = nI n → Post (some (zI (nI n))) (s2M mem k i o j n n)) : zC l ι M_Model_shift 2 [zP 40 0, zI x, zI xi, zI y, zI xj, zI xn] mem Post := by
  refine z_enter hH (by decide) (by simp [z_ent, M_Model_shift]) (fun X hXl hX hR => ?_)
  refine z_iload_n hX (D_Model_shift (i := 0) rfl) rfl ?_
  refine z_cS1 hX (D_Model_shift (i := 1) rfl) ms_Model_isShelf l_Model_112 (by first | decide | omega) (Nat.le_of_ble_eq_true rfl) (d_isShelf ?_)
  refine z_if_eq (tgt := 14) hX (D_Model_shift (i := 2) rfl) (by decide) (fun h1 => ?_) (fun h1 => ?_)
  · refine z_iconst (v := -1) hX (D_Model_shift (i := 6) rfl) (by decide) ?_
    exact z_iret hX hR (D_Model_shift (i := 7) rfl) rfl (hno (by rw [bI_0.mp h1]; rfl))
  · refine z_iload_n hX (D_Model_shift (i := 3) rfl) rfl ?_
    refine z_cS1 hX (D_Model_shift (i := 4) rfl) ms_Model_isShelf l_Model_112 (by first | decide | omega) (Nat.le_of_ble_eq_true rfl) (d_isShelf ?_)
    refine z_if_ne (tgt := 16) hX (D_Model_shift (i := 5) rfl) (by decide) (fun h2 => ?_) (fun h2 => ?_)
    · skip
      obtain ⟨k, hk, rfl⟩ := inN_ex (bI_n.mp h1) (by omega)
      obtain ⟨o, ho, rfl⟩ := inN_ex (bI_n.mp h2) (by omega)
      obtain ⟨L, hL60, e3⟩ := hL k hk
      obtain ⟨L2, hL2, e32⟩ := hL o ho
      refine z_aload_n hX (D_Model_shift (i := 8) rfl) rfl ?_
      refine z_getc hX (D_Model_shift (i := 9) rfl) f_Model_82 rfl (by decide) (by first | exact Nat.one_pos | assumption | omega) rfl ?_
      refine z_iload_n hX (D_Model_shift (i := 10) rfl) rfl ?_
      refine z_iald (j := k) hX (D_Model_shift (i := 11) rfl) rfl (by decide) (by first | exact Nat.one_pos | assumption | omega) (by decide) rfl hk ?_
      refine z_iconst (v := -1) hX (D_Model_shift (i := 12) rfl) (by decide) ?_
      refine z_icmp_eq (tgt := 36) hX (D_Model_shift (i := 13) rfl) (by decide) (fun h3 => ?_) (fun h3 => ?_)
      · refine z_bipush (v := -11) hX (D_Model_shift (i := 20) rfl) (by decide) ?_
        exact z_iret hX hR (D_Model_shift (i := 21) rfl) rfl (hbare k o hk ho rfl rfl (Or.inl h3))
      · refine z_aload_n hX (D_Model_shift (i := 14) rfl) rfl ?_
        refine z_getc hX (D_Model_shift (i := 15) rfl) f_Model_82 rfl (by decide) (by first | exact Nat.one_pos | assumption | omega) rfl ?_
        refine z_iload_n hX (D_Model_shift (i := 16) rfl) rfl ?_
        refine z_iald (j := o) hX (D_Model_shift (i := 17) rfl) rfl (by decide) (by first | exact Nat.one_pos | assumption | omega) (by decide) rfl ho ?_
        refine z_iconst (v := -1) hX (D_Model_shift (i := 18) rfl) (by decide) ?_
        refine z_icmp_ne (tgt := 39) hX (D_Model_shift (i := 19) rfl) (by decide) (fun h4 => ?_) (fun h4 => ?_)
        · refine z_aload_n hX (D_Model_shift (i := 22) rfl) rfl ?_
          refine z_getc hX (D_Model_shift (i := 23) rfl) f_Model_82 rfl (by decide) (by first | exact Nat.one_pos | assumption | omega) rfl ?_
          refine z_iload_n hX (D_Model_shift (i := 24) rfl) rfl ?_
          refine z_iald (j := k) hX (D_Model_shift (i := 25) rfl) rfl (by decide) (by first | exact Nat.one_pos | assumption | omega) (by decide) rfl hk ?_
          refine z_if_ge (tgt := 63) hX (D_Model_shift (i := 26) rfl) (by decide) (fun h5 => ?_) (fun h5 => ?_)
          · refine z_bipush (v := -12) hX (D_Model_shift (i := 36) rfl) (by decide) ?_
            exact z_iret hX hR (D_Model_shift (i := 37) rfl) rfl (hkind k o hk ho rfl rfl h3 h4 (Or.inl h5))
          · refine z_aload_n hX (D_Model_shift (i := 27) rfl) rfl ?_
            refine z_getc hX (D_Model_shift (i := 28) rfl) f_Model_82 rfl (by decide) (by first | exact Nat.one_pos | assumption | omega) rfl ?_
            refine z_iload_n hX (D_Model_shift (i := 29) rfl) rfl ?_
            refine z_iald (j := k) hX (D_Model_shift (i := 30) rfl) rfl (by decide) (by first | exact Nat.one_pos | assumption | omega) (by decide) rfl hk ?_
            refine z_aload_n hX (D_Model_shift (i := 31) rfl) rfl ?_
            refine z_getc hX (D_Model_shift (i := 32) rfl) f_Model_82 rfl (by decide) (by first | exact Nat.one_pos | assumption | omega) rfl ?_
            refine z_iload_n hX (D_Model_shift (i := 33) rfl) rfl ?_
            refine z_iald (j := o) hX (D_Model_shift (i := 34) rfl) rfl (by decide) (by first | exact Nat.one_pos | assumption | omega) (by decide) rfl ho ?_
            refine z_icmp_eq (tgt := 66) hX (D_Model_shift (i := 35) rfl) (by decide) (fun h6 => ?_) (fun h6 => ?_)
            · skip
              have bad : (hsB L xi xn && hsB L2 xj xn) = false → zW ι M_Model_shift X 107 [some (zP 40 0), some (zI (nI k)), some (zI xi), some (zI (nI o)), some (zI xj), some (zI xn), none] [] mem := by
                intro hb
                refine z_bipush (v := -13) hX (D_Model_shift (i := 60) rfl) (by decide) ?_
                exact z_iret hX hR (D_Model_shift (i := 61) rfl) rfl (hpl k o L L2 hk ho rfl rfl h5 h3 h6 e3 e32 hb)
              have neg : ∀ {w : Int32}, w < 0 → w.toInt < 0 := fun q => by have := Int32.lt_iff_toInt_lt.mp q; rw [i32_0] at this; exact this
              refine z_iload hX (D_Model_shift (i := 38) rfl) rfl ?_
              refine z_if_lt (tgt := 107) hX (D_Model_shift (i := 39) rfl) (by decide) (fun g1 => ?_) (fun g1 => ?_)
              · skip
                have := neg g1
                exact bad (by rw [show hsB L xi xn = false from decide_eq_false (by omega)]; rfl)
              · skip
                obtain ⟨n, hn, rfl⟩ := nI_of g1
                refine z_iload_n hX (D_Model_shift (i := 40) rfl) rfl ?_
                refine z_if_lt (tgt := 107) hX (D_Model_shift (i := 41) rfl) (by decide) (fun g2 => ?_) (fun g2 => ?_)
                · skip
                  have := neg g2
                  exact bad (by rw [show hsB L xi (nI n) = false from decide_eq_false (by omega)]; rfl)
                · skip
                  obtain ⟨i, hi, rfl⟩ := nI_of g2
                  refine z_iload hX (D_Model_shift (i := 42) rfl) rfl ?_
                  refine z_if_lt (tgt := 107) hX (D_Model_shift (i := 43) rfl) (by decide) (fun g3 => ?_) (fun g3 => ?_)
                  · skip
                    have := neg g3
                    exact bad (by rw [show hsB L2 xj (nI n) = false from decide_eq_false (by omega)]; simp)
                  · skip
                    obtain ⟨j, hj, rfl⟩ := nI_of g3
                    have sub : ∀ M : Nat, M ≤ 60 → (nI M - nI n).toInt = (M : Int) - n := fun M hM => by
                      have e : nI M - nI n = -(nI n) + nI M := by rw [Int32.sub_eq_add_neg, Int32.add_comm]
                      rw [Int32.toInt_sub, nI_toInt (by omega), nI_toInt hn]
                      exact Int.bmod_eq_of_le (by omega) (by omega)
                    refine z_iload_n hX (D_Model_shift (i := 44) rfl) rfl ?_
                    refine z_aload_n hX (D_Model_shift (i := 45) rfl) rfl ?_
                    refine z_getc hX (D_Model_shift (i := 46) rfl) f_Model_85 rfl (by decide) (by first | exact Nat.one_pos | assumption | omega) rfl ?_
                    refine z_iload_n hX (D_Model_shift (i := 47) rfl) rfl ?_
                    refine z_iald (j := k) hX (D_Model_shift (i := 48) rfl) rfl (by decide) (by first | exact Nat.one_pos | assumption | omega) (by decide) rfl hk ?_
                    rw [e3]
                    refine z_iload hX (D_Model_shift (i := 49) rfl) rfl ?_
                    refine z_isub hX (D_Model_shift (i := 50) rfl) ?_
                    refine z_icmp_gt (tgt := 107) hX (D_Model_shift (i := 51) rfl) (by decide) (fun g4 => ?_) (fun g4 => ?_)
                    · skip
                      have a4 := Int32.lt_iff_toInt_lt.mp g4
                      rw [sub L hL60, nI_toInt hi] at a4
                      exact bad (by rw [show hsB L (nI i) (nI n) = false from decide_eq_false (by rw [nI_toInt hi, nI_toInt hn]; omega)]; rfl)
                    · refine z_iload hX (D_Model_shift (i := 52) rfl) rfl ?_
                      refine z_aload_n hX (D_Model_shift (i := 53) rfl) rfl ?_
                      refine z_getc hX (D_Model_shift (i := 54) rfl) f_Model_85 rfl (by decide) (by first | exact Nat.one_pos | assumption | omega) rfl ?_
                      refine z_iload_n hX (D_Model_shift (i := 55) rfl) rfl ?_
                      have a4 : ¬ (nI L - nI n).toInt < (nI i).toInt := fun w => g4 (Int32.lt_iff_toInt_lt.mpr w)
                      rw [sub L hL60, nI_toInt hi] at a4
                      refine z_iald (j := o) hX (D_Model_shift (i := 56) rfl) rfl (by decide) (by first | exact Nat.one_pos | assumption | omega) (by decide) rfl ho ?_
                      rw [e32]
                      refine z_iload hX (D_Model_shift (i := 57) rfl) rfl ?_
                      refine z_isub hX (D_Model_shift (i := 58) rfl) ?_
                      refine z_icmp_le (tgt := 110) hX (D_Model_shift (i := 59) rfl) (by decide) (fun g5 => ?_) (fun g5 => ?_)
                      · skip
                        have a5 := Int32.le_iff_toInt_le.mp g5
                        rw [sub L2 hL2, nI_toInt hj] at a5
                        exact d_shift_loops hH hX hR hk ho (by omega) (by omega) (hok k o L L2 i j n hk ho rfl rfl h5 h3 h6 e3 e32 hL60 hL2 (by omega) (by omega) rfl rfl rfl)
                      · skip
                        have a5 : ¬ (nI j).toInt ≤ (nI L2 - nI n).toInt := fun w => g5 (Int32.le_iff_toInt_le.mpr w)
                        rw [sub L2 hL2, nI_toInt hj] at a5
                        exact bad (by rw [show hsB L2 (nI j) (nI n) = false from decide_eq_false (by rw [nI_toInt hj, nI_toInt hn]; omega)]; simp)
            · refine z_bipush (v := -12) hX (D_Model_shift (i := 36) rfl) (by decide) ?_
              exact z_iret hX hR (D_Model_shift (i := 37) rfl) rfl (hkind k o hk ho rfl rfl h3 h4 (Or.inr h6))
        · refine z_bipush (v := -11) hX (D_Model_shift (i := 20) rfl) (by decide) ?_
          exact z_iret hX hR (D_Model_shift (i := 21) rfl) rfl (hbare k o hk ho rfl rfl (Or.inr h4))
    · refine z_iconst (v := -1) hX (D_Model_shift (i := 6) rfl) (by decide) ?_
      exact z_iret hX hR (D_Model_shift (i := 7) rfl) rfl (hno (by rw [bI_0.mp h2]; simp))
end G9
