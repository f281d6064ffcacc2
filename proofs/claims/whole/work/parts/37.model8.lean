/-! the reference: cubes from a row, shift -/
theorem bmodL {z : Int} (h1 : -9223372036854775808 ≤ z) (h2 : z < 9223372036854775808) : z.bmod (2 ^ 64) = z := by
  rw [Int.bmod_eq_of_le (by omega) (by omega)]
theorem addL {x y : Int64} (h1 : -9223372036854775808 ≤ x.toInt + y.toInt) (h2 : x.toInt + y.toInt < 9223372036854775808) : (x + y).toInt = x.toInt + y.toInt := by
  rw [Int64.toInt_add, bmodL h1 h2]
theorem at_int (x : Int32) {c : Nat} (hc : c ≤ 1000) : (x.toInt64 + (nI c).toInt64).toInt = x.toInt + c := by
  have h1 := Int32.le_toInt x
  have h2 := Int32.toInt_lt x
  rw [addL]
  · rw [Int32.toInt_toInt64, Int32.toInt_toInt64, nI_toInt (by omega)]
  · rw [Int32.toInt_toInt64, Int32.toInt_toInt64, nI_toInt (by omega)]; omega
  · rw [Int32.toInt_toInt64, Int32.toInt_toInt64, nI_toInt (by omega)]; omega
def cnP (mem : zM) (s : Nat) (x : Int32) (t f : Nat) : Int32 := (mem.2.1 66 0 (60 * s + (x + nI (6 * t)).toInt.toNat + f)).toInt32
def cnM (mem : zM) (sz s : Nat) (x : Int32) (c : Nat) : zM := (fun a b e => if a = 41 ∧ b = 0 ∧ 6 * sz ≤ e ∧ e < 6 * (sz + c) then cnP mem s x ((e - 6 * sz) / 6) ((e - 6 * sz) % 6) else if a = 42 ∧ b = 0 ∧ sz ≤ e ∧ e < sz + c then 16 else if a = 40 ∧ b = 0 ∧ e = 1 then nI (sz + c) else mem.1 a b e, mem.2)
def cmM (mem : zM) (sz s : Nat) (x : Int32) (c g : Nat) : zM := (fun a b e => if a = 41 ∧ b = 0 ∧ 6 * (sz + c) ≤ e ∧ e < 6 * (sz + c) + g then cnP mem s x c (e - 6 * (sz + c)) else (cnM mem sz s x c).1 a b e, mem.2)
theorem cnM_0 {mem : zM} {sz s : Nat} {x : Int32} (hs : mem.1 40 0 1 = nI sz) : cnM mem sz s x 0 = mem := by
  refine Prod.ext ?_ rfl
  funext a b e
  show (if a = 41 ∧ b = 0 ∧ 6 * sz ≤ e ∧ e < 6 * (sz + 0) then _ else if a = 42 ∧ b = 0 ∧ sz ≤ e ∧ e < sz + 0 then 16 else if a = 40 ∧ b = 0 ∧ e = 1 then nI (sz + 0) else mem.1 a b e) = mem.1 a b e
  rw [if_neg (by omega), if_neg (by omega)]
  split
  · next h => rw [h.1, h.2.1, h.2.2, hs]; rfl
  · rfl
theorem cmM_0 (mem : zM) (sz s : Nat) (x : Int32) (c : Nat) : cmM mem sz s x c 0 = cnM mem sz s x c := by
  refine Prod.ext ?_ rfl
  funext a b e
  show (if a = 41 ∧ b = 0 ∧ 6 * (sz + c) ≤ e ∧ e < 6 * (sz + c) + 0 then _ else (cnM mem sz s x c).1 a b e) = _
  rw [if_neg (by omega)]
theorem cmM_s (mem : zM) (sz s : Nat) (x : Int32) (c g : Nat) : upI (cmM mem sz s x c g) 41 0 (6 * (sz + c) + g) (cnP mem s x c g) = cmM mem sz s x c (g + 1) := by
  refine Prod.ext ?_ rfl
  funext a b e
  rw [upI_get]
  show (if a = 41 ∧ b = 0 ∧ e = 6 * (sz + c) + g then cnP mem s x c g else (if a = 41 ∧ b = 0 ∧ 6 * (sz + c) ≤ e ∧ e < 6 * (sz + c) + g then cnP mem s x c (e - 6 * (sz + c)) else (cnM mem sz s x c).1 a b e)) = (if a = 41 ∧ b = 0 ∧ 6 * (sz + c) ≤ e ∧ e < 6 * (sz + c) + (g + 1) then cnP mem s x c (e - 6 * (sz + c)) else (cnM mem sz s x c).1 a b e)
  by_cases h : a = 41 ∧ b = 0 ∧ 6 * (sz + c) ≤ e ∧ e < 6 * (sz + c) + (g + 1)
  · rw [if_pos h]
    by_cases h2 : e = 6 * (sz + c) + g
    · rw [if_pos ⟨h.1, h.2.1, h2⟩, show e - 6 * (sz + c) = g by omega]
    · rw [if_neg (fun w => h2 w.2.2), if_pos ⟨h.1, h.2.1, h.2.2.1, by omega⟩]
  · rw [if_neg h, if_neg (fun w => h ⟨w.1, w.2.1, by omega, by omega⟩), if_neg (fun w => h ⟨w.1, w.2.1, w.2.2.1, by omega⟩)]
theorem cmM_6 (mem : zM) (sz s : Nat) (x : Int32) (c : Nat) : upI (upI (cmM mem sz s x c 6) 42 0 (sz + c) 16) 40 0 1 (nI (sz + c + 1)) = cnM mem sz s x (c + 1) := by
  refine Prod.ext ?_ rfl
  funext a b e
  rw [upI_get, upI_get]
  show (if a = 40 ∧ b = 0 ∧ e = 1 then nI (sz + c + 1) else if a = 42 ∧ b = 0 ∧ e = sz + c then 16 else (if a = 41 ∧ b = 0 ∧ 6 * (sz + c) ≤ e ∧ e < 6 * (sz + c) + 6 then cnP mem s x c (e - 6 * (sz + c)) else (if a = 41 ∧ b = 0 ∧ 6 * sz ≤ e ∧ e < 6 * (sz + c) then cnP mem s x ((e - 6 * sz) / 6) ((e - 6 * sz) % 6) else if a = 42 ∧ b = 0 ∧ sz ≤ e ∧ e < sz + c then 16 else if a = 40 ∧ b = 0 ∧ e = 1 then nI (sz + c) else mem.1 a b e))) = (if a = 41 ∧ b = 0 ∧ 6 * sz ≤ e ∧ e < 6 * (sz + (c + 1)) then cnP mem s x ((e - 6 * sz) / 6) ((e - 6 * sz) % 6) else if a = 42 ∧ b = 0 ∧ sz ≤ e ∧ e < sz + (c + 1) then 16 else if a = 40 ∧ b = 0 ∧ e = 1 then nI (sz + (c + 1)) else mem.1 a b e)
  by_cases h0 : a = 40 ∧ b = 0 ∧ e = 1
  · rw [if_pos h0, if_neg (by omega), if_neg (by omega), if_pos h0]; rfl
  · rw [if_neg h0]
    by_cases h1 : a = 42 ∧ b = 0 ∧ e = sz + c
    · rw [if_pos h1, if_neg (by omega), if_pos ⟨h1.1, h1.2.1, by omega, by omega⟩]
    · rw [if_neg h1]
      by_cases h2 : a = 41 ∧ b = 0 ∧ 6 * (sz + c) ≤ e ∧ e < 6 * (sz + c) + 6
      · rw [if_pos h2, if_pos ⟨h2.1, h2.2.1, by omega, by omega⟩, show (e - 6 * sz) / 6 = c by omega, show (e - 6 * sz) % 6 = e - 6 * (sz + c) by omega]
      · rw [if_neg h2]
        by_cases h3 : a = 41 ∧ b = 0 ∧ 6 * sz ≤ e ∧ e < 6 * (sz + c)
        · rw [if_pos h3, if_pos ⟨h3.1, h3.2.1, h3.2.2.1, by omega⟩]
        · have n41 : ¬ (a = 41 ∧ b = 0 ∧ 6 * sz ≤ e ∧ e < 6 * (sz + (c + 1))) := fun w => by
            by_cases h5 : 6 * (sz + c) ≤ e
            · exact h2 ⟨w.1, w.2.1, h5, by omega⟩
            · exact h3 ⟨w.1, w.2.1, w.2.2.1, by omega⟩
          rw [if_neg h3, if_neg n41]
          by_cases h4 : a = 42 ∧ b = 0 ∧ sz ≤ e ∧ e < sz + c
          · rw [if_pos h4, if_pos ⟨h4.1, h4.2.1, h4.2.2.1, by omega⟩]
          · have n42 : ¬ (a = 42 ∧ b = 0 ∧ sz ≤ e ∧ e < sz + (c + 1)) := fun w => by
              by_cases h5 : e = sz + c
              · exact h1 ⟨w.1, w.2.1, h5⟩
              · exact h4 ⟨w.1, w.2.1, w.2.2.1, by omega⟩
            rw [if_neg h4, if_neg n42, if_neg h0, if_neg h0]
def elN (mem : zM) (s j i : Nat) : Bool := decide (0 ≤ mem.2.1 66 0 (60 * s + j + i) ∧ mem.2.1 66 0 (60 * s + j + i) ≤ 6)
def csN (mem : zM) (sz s L n : Nat) (x : Int32) (t : Nat) : Bool := decide (t < n) && (decide (sz + t < 8) && (hsB L (x + nI (6 * t)) 6 && alI (elN mem s (x + nI (6 * t)).toInt.toNat) 6))
section G8
variable {l : Launch} {ι : zE} {mem : zM} {Post : Option zV → zM → Prop} {x y z : Int32} {sz nb : Nat}
theorem d_cubes_loop (hH : zHas ι pM) {X : zX} (hX : zG ι M_Model_cubes X 3 pM) (hR : zRt ι X Post) (hs : mem.1 40 0 1 = nI sz) (h8 : sz ≤ 8) {s L n : Nat} (hs6 : s < 6) (hL : mem.1 65 0 s = nI L) (h60 : L ≤ 60) (hn : n ≤ 8) (h : ∀ c, (∀ t, t < c → csN mem sz s L n x t = true) → csN mem sz s L n x c = false → Post (some (zI (nI c))) (cnM mem sz s x c)) : zW ι M_Model_cubes X 58 [some (zP 40 0), some (zI (nI s)), some (zI x), some (zI (nI n)), some (zI (nI 0)), none, none, none, none] [] mem := by
  suffices H : ∀ (d c : Nat) (v5 v7 v8 : Option zV), c + d = n → (∀ t, t < c → csN mem sz s L n x t = true) → zW ι M_Model_cubes X 58 [some (zP 40 0), some (zI (nI s)), some (zI x), some (zI (nI n)), some (zI (nI c)), v5, none, v7, v8] [] (cnM mem sz s x c) by
    have := H n 0 none none none (by omega) (fun _ h => absurd h (Nat.not_lt_zero _))
    rw [cnM_0 hs] at this
    exact this
  intro d
  induction d with
  | zero =>
    intro c v5 v7 v8 hc hinv
    obtain rfl : c = n := by omega
    have hh := h c hinv (by unfold csN; rw [decide_eq_false (by omega)]; rfl)
    refine z_iload hX (D_Model_cubes (i := 34) rfl) rfl ?_
    refine z_iload_n hX (D_Model_cubes (i := 35) rfl) rfl ?_
    refine z_icmp_ge (tgt := 241) hX (D_Model_cubes (i := 36) rfl) (by decide) (fun _ => ?_) (fun hcc => absurd (Int32.le_refl _) hcc)
    refine z_iload_n hX (D_Model_cubes (i := 136) rfl) rfl ?_
    exact z_iret hX hR (D_Model_cubes (i := 137) rfl) rfl hh
  | succ d ih =>
    intro c v5 v7 v8 hc hinv
    have g1 : (cnM mem sz s x c).1 40 0 1 = nI (sz + c) := by simp [cnM]
    have gL : (cnM mem sz s x c).1 65 0 s = nI L := by simp [cnM, hL]
    have q6 : (6 : Int32) * nI c = nI (6 * c) := pk_mul 6 c
    have lx := Int32.le_toInt x
    have ux := Int32.toInt_lt x
    have hA := at_int x (c := 6 * c) (by omega)
    have c8 : sz + c ≤ 8 := by
      by_cases hc0 : c = 0
      · omega
      · have a := hinv (c - 1) (by omega)
        unfold csN at a
        rw [Bool.and_eq_true, Bool.and_eq_true] at a
        have := of_decide_eq_true a.2.1
        omega
    have hx0 : c = 0 ∨ ∃ i : Nat, i ≤ 60 ∧ x = nI i := by
      by_cases hc0 : c = 0
      · exact Or.inl hc0
      · have a := hinv 0 (by omega)
        unfold csN at a
        rw [Bool.and_eq_true, Bool.and_eq_true, Bool.and_eq_true] at a
        have b := of_decide_eq_true a.2.2.1
        rw [show x + nI (6 * 0) = x from Int32.add_zero x] at b
        have e6 : (6 : Int32).toInt = 6 := rfl
        exact Or.inr ⟨x.toInt.toNat, by omega, Int32.toInt_inj.mp (by rw [nI_toInt (by omega)]; omega)⟩
    have hI : (x + nI (6 * c)).toInt = x.toInt + (6 * c : Nat) := by
      rcases hx0 with e | ⟨i, hi, e⟩
      · subst e; rw [show x + nI (6 * 0) = x from Int32.add_zero x]; simp
      · rw [e, nI_add, nI_toInt (by omega), nI_toInt (by omega)]; omega
    have hB : hsB L (x + nI (6 * c)) 6 = decide (0 ≤ x.toInt + (6 * c : Nat) ∧ x.toInt + (6 * c : Nat) + 6 ≤ L) := by
      unfold hsB
      rw [hI]
      refine decide_eq_decide.mpr ?_
      have e6 : (6 : Int32).toInt = 6 := rfl
      rw [e6]
      omega
    have bad : csN mem sz s L n x c = false → ∀ w5 : Option zV, zW ι M_Model_cubes X 108 [some (zP 40 0), some (zI (nI s)), some (zI x), some (zI (nI n)), some (zI (nI c)), w5, none, v7, v8] [] (cnM mem sz s x c) := by
      intro hf w5
      refine z_iload hX (D_Model_cubes (i := 63) rfl) rfl ?_
      exact z_iret hX hR (D_Model_cubes (i := 64) rfl) rfl (h c hinv hf)
    refine z_iload hX (D_Model_cubes (i := 34) rfl) rfl ?_
    refine z_iload_n hX (D_Model_cubes (i := 35) rfl) rfl ?_
    refine z_icmp_ge (tgt := 241) hX (D_Model_cubes (i := 36) rfl) (by decide) (fun hcc => absurd hcc (nI_ge (by omega) (by omega))) (fun _ => ?_)
    refine z_iload_n hX (D_Model_cubes (i := 37) rfl) rfl ?_
    refine z_i2l hX (D_Model_cubes (i := 38) rfl) ?_
    refine z_bipush (v := 6) hX (D_Model_cubes (i := 39) rfl) (by decide) ?_
    refine z_iload hX (D_Model_cubes (i := 40) rfl) rfl ?_
    refine z_imul hX (D_Model_cubes (i := 41) rfl) ?_
    rw [q6]
    refine z_i2l hX (D_Model_cubes (i := 42) rfl) ?_
    refine z_ladd hX (D_Model_cubes (i := 43) rfl) ?_
    refine z_lstore hX (D_Model_cubes (i := 44) rfl) (by decide) rfl ?_
    refine z_lload hX (D_Model_cubes (i := 45) rfl) rfl ?_
    refine z_lconst (v := 0) hX (D_Model_cubes (i := 46) rfl) (by decide) ?_
    refine z_lcmp hX (D_Model_cubes (i := 47) rfl) ?_
    refine z_if_lt (tgt := 108) hX (D_Model_cubes (i := 48) rfl) (by decide) (fun h1 => ?_) (fun h1 => ?_)
    · skip
      refine bad ?_ _
      have a1 := Int64.lt_iff_toInt_lt.mp ((lg_cmp_lt _ _).mp h1)
      rw [hA] at a1
      have z0 : (0 : Int64).toInt = 0 := rfl
      unfold csN
      rw [hB, decide_eq_false (p := 0 ≤ x.toInt + (6 * c : Nat) ∧ _) (by omega)]; simp
    · refine z_lload hX (D_Model_cubes (i := 49) rfl) rfl ?_
      refine z_ldc2 (v := 5) hX (D_Model_cubes (i := 50) rfl) k_Model_115 ?_
      refine z_ladd hX (D_Model_cubes (i := 51) rfl) ?_
      refine z_aload_n hX (D_Model_cubes (i := 52) rfl) rfl ?_
      refine z_getc hX (D_Model_cubes (i := 53) rfl) f_Model_85 rfl (by decide) (by first | exact Nat.one_pos | assumption | omega) rfl ?_
      refine z_iload_n hX (D_Model_cubes (i := 54) rfl) rfl ?_
      have a1 : ¬ (x.toInt64 + (nI (6 * c)).toInt64).toInt < (0 : Int64).toInt := fun w => h1 ((lg_cmp_lt _ _).mpr (Int64.lt_iff_toInt_lt.mpr w))
      have z0 : (0 : Int64).toInt = 0 := rfl
      rw [hA, z0] at a1
      refine z_iald (j := s) hX (D_Model_cubes (i := 55) rfl) rfl (by decide) (by first | exact Nat.one_pos | assumption | omega) (by decide) rfl hs6 ?_
      rw [gL]
      refine z_i2l hX (D_Model_cubes (i := 56) rfl) ?_
      refine z_lcmp hX (D_Model_cubes (i := 57) rfl) ?_
      have hA5 : (x.toInt64 + (nI (6 * c)).toInt64 + 5).toInt = x.toInt + (6 * c : Nat) + 5 := by
        have z5 : (5 : Int64).toInt = 5 := rfl
        rw [addL (by rw [hA, z5]; omega) (by rw [hA, z5]; omega), hA, z5]
      have hL64 : (nI L).toInt64.toInt = L := by rw [Int32.toInt_toInt64, nI_toInt (by omega)]
      refine z_if_ge (tgt := 108) hX (D_Model_cubes (i := 58) rfl) (by decide) (fun h2 => ?_) (fun h2 => ?_)
      · skip
        refine bad ?_ _
        have a2 := Int64.le_iff_toInt_le.mp ((lg_cmp_ge _ _).mp h2)
        rw [hA5, hL64] at a2
        unfold csN
        rw [hB, decide_eq_false (p := 0 ≤ x.toInt + (6 * c : Nat) ∧ _) (by omega)]; simp
      · refine z_aload_n hX (D_Model_cubes (i := 59) rfl) rfl ?_
        refine z_geti hX (D_Model_cubes (i := 60) rfl) f_Model_99 rfl (by decide) (by first | exact Nat.one_pos | assumption | omega) rfl ?_
        refine z_bipush (v := 8) hX (D_Model_cubes (i := 61) rfl) (by decide) ?_
        have a2 : ¬ (nI L).toInt64.toInt ≤ (x.toInt64 + (nI (6 * c)).toInt64 + 5).toInt := fun w => h2 ((lg_cmp_ge _ _).mpr (Int64.le_iff_toInt_le.mpr w))
        rw [hA5, hL64] at a2
        rw [g1]
        have hBt : hsB L (x + nI (6 * c)) 6 = true := by rw [hB]; exact decide_eq_true (by omega)
        refine z_icmp_ne (tgt := 111) hX (D_Model_cubes (i := 62) rfl) (by decide) (fun h3 => ?_) (fun h3 => ?_)
        · skip
          have c7 : sz + c < 8 := by
            have : ¬ sz + c = 8 := fun w => h3 (by rw [w]; rfl)
            omega
          obtain ⟨j, hj, hx⟩ : ∃ j : Nat, j + 6 ≤ L ∧ x + nI (6 * c) = nI j := ⟨(x + nI (6 * c)).toInt.toNat, by omega, Int32.toInt_inj.mp (by rw [nI_toInt (by omega)]; omega)⟩
          have hjj : (x + nI (6 * c)).toInt.toNat = j := by rw [hx, nI_toInt (by omega)]; rfl
          have hl2 : (x.toInt64 + (nI (6 * c)).toInt64).toInt32 = nI j := by
            refine Int32.toInt_inj.mp ?_
            rw [Int64.toInt_toInt32, hA, nI_toInt (by omega)]
            have e := hI
            rw [hx, nI_toInt (by omega)] at e
            rw [← e]
            exact Int.bmod_eq_of_le (by omega) (by omega)
          have e0 : csN mem sz s L n x c = alI (elN mem s j) 6 := by
            unfold csN
            rw [decide_eq_true (show c < n by omega), decide_eq_true c7, hBt, hjj]; rfl
          refine z_bipush (v := 60) hX (D_Model_cubes (i := 65) rfl) (by decide) ?_
          refine z_iload_n hX (D_Model_cubes (i := 66) rfl) rfl ?_
          refine z_imul hX (D_Model_cubes (i := 67) rfl) ?_
          refine z_lload hX (D_Model_cubes (i := 68) rfl) rfl ?_
          refine z_l2i hX (D_Model_cubes (i := 69) rfl) ?_
          refine z_iadd hX (D_Model_cubes (i := 70) rfl) ?_
          rw [hl2, show (60 : Int32) * nI s + nI j = nI (60 * s + j) by rw [nlit, pk_mul, nI_add]]
          refine z_istore hX (D_Model_cubes (i := 71) rfl) (by decide) rfl ?_
          refine z_iconst (v := 0) hX (D_Model_cubes (i := 72) rfl) (by decide) ?_
          refine z_istore hX (D_Model_cubes (i := 73) rfl) (by decide) rfl ?_
          suffices HC : ∀ (d2 g : Nat), g + d2 = 6 → (∀ w, w < g → elN mem s j w = true) → zW ι M_Model_cubes X 124 [some (zP 40 0), some (zI (nI s)), some (zI x), some (zI (nI n)), some (zI (nI c)), some (zJ (x.toInt64 + (nI (6 * c)).toInt64)), none, some (zI (nI (60 * s + j))), some (zI (nI g))] [] (cnM mem sz s x c) from HC 6 0 rfl (fun _ h => absurd h (Nat.not_lt_zero _))
          intro d2
          induction d2 with
          | zero =>
            intro g hg hel
            obtain rfl : g = 6 := by omega
            have hcs : csN mem sz s L n x c = true := by rw [e0]; exact alI_true.mpr hel
            refine z_iload hX (D_Model_cubes (i := 74) rfl) rfl ?_
            refine z_bipush (v := 6) hX (D_Model_cubes (i := 75) rfl) (by decide) ?_
            refine z_icmp_ge (tgt := 172) hX (D_Model_cubes (i := 76) rfl) (by decide) (fun _ => ?_) (fun hcc => absurd (Int32.le_refl _) hcc)
            refine z_iconst (v := 0) hX (D_Model_cubes (i := 99) rfl) (by decide) ?_
            refine z_istore hX (D_Model_cubes (i := 100) rfl) (by decide) rfl ?_
            rw [← cmM_0]
            suffices HI : ∀ (d2 g : Nat), g + d2 = 6 → zW ι M_Model_cubes X 175 [some (zP 40 0), some (zI (nI s)), some (zI x), some (zI (nI n)), some (zI (nI c)), some (zJ (x.toInt64 + (nI (6 * c)).toInt64)), none, some (zI (nI (60 * s + j))), some (zI (nI g))] [] (cmM mem sz s x c g) from HI 6 0 rfl
            intro d2
            induction d2 with
            | zero =>
              intro g hg
              obtain rfl : g = 6 := by omega
              refine z_iload hX (D_Model_cubes (i := 101) rfl) rfl ?_
              refine z_bipush (v := 6) hX (D_Model_cubes (i := 102) rfl) (by decide) ?_
              refine z_icmp_ge (tgt := 214) hX (D_Model_cubes (i := 103) rfl) (by decide) (fun _ => ?_) (fun hcc => absurd (Int32.le_refl _) hcc)
              refine z_aload_n hX (D_Model_cubes (i := 122) rfl) rfl ?_
              refine z_getc hX (D_Model_cubes (i := 123) rfl) f_Model_13 rfl (by decide) (by first | exact Nat.one_pos | assumption | omega) rfl ?_
              refine z_aload_n hX (D_Model_cubes (i := 124) rfl) rfl ?_
              refine z_geti hX (D_Model_cubes (i := 125) rfl) f_Model_99 rfl (by decide) (by first | exact Nat.one_pos | assumption | omega) rfl ?_
              rw [show (cmM mem sz s x c 6).1 40 0 1 = nI (sz + c) by simp [cmM, cnM]]
              refine z_bipush (v := 16) hX (D_Model_cubes (i := 126) rfl) (by decide) ?_
              refine z_iast (j := sz + c) hX (D_Model_cubes (i := 127) rfl) rfl (by decide) (by first | exact Nat.one_pos | assumption | omega) (by decide) rfl (by omega) ?_
              refine z_aload_n hX (D_Model_cubes (i := 128) rfl) rfl ?_
              refine z_dupP hX (D_Model_cubes (i := 129) rfl) ?_
              refine z_geti hX (D_Model_cubes (i := 130) rfl) f_Model_99 rfl (by decide) (by first | exact Nat.one_pos | assumption | omega) rfl ?_
              rw [show (upI (cmM mem sz s x c 6) 42 0 (sz + c) 16).1 40 0 1 = nI (sz + c) by simp [upI_get, cmM, cnM]]
              refine z_iconst (v := 1) hX (D_Model_cubes (i := 131) rfl) (by decide) ?_
              refine z_iadd hX (D_Model_cubes (i := 132) rfl) ?_
              rw [nI_1]
              refine z_puti hX (D_Model_cubes (i := 133) rfl) g_Model_99 rfl (by decide) (by first | exact Nat.one_pos | assumption | omega) rfl ?_
              rw [cmM_6]
              first | refine z_inc1 hX (D_Model_cubes (i := 134) rfl) rfl (by decide) rfl ?_ | refine z_iinc hX (D_Model_cubes (i := 134) rfl) rfl rfl (by decide) rfl ?_
              refine z_goto (tgt := 58) hX (D_Model_cubes (i := 135) rfl) (by decide) ?_
              exact z_fewer (lv' := [some (zP 40 0), some (zI (nI s)), some (zI x), some (zI (nI n)), some (zI (nI (c + 1))), none, none, none, none]) (fun i u hu => by
                match i, hu with
                | 0, hu => exact hu
                | 1, hu => exact hu
                | 2, hu => exact hu
                | 3, hu => exact hu
                | 4, hu => exact hu
                | 5, hu => cases hu
                | 6, hu => cases hu
                | 7, hu => cases hu
                | 8, hu => cases hu
                | i + 9, hu => simp at hu) (ih (c + 1) none none none (by omega) (fun t ht => if e : t = c then by subst e; exact hcs else hinv t (by omega)))
            | succ d2 ih2 =>
              intro g hg
              refine z_iload hX (D_Model_cubes (i := 101) rfl) rfl ?_
              refine z_bipush (v := 6) hX (D_Model_cubes (i := 102) rfl) (by decide) ?_
              refine z_icmp_ge (tgt := 214) hX (D_Model_cubes (i := 103) rfl) (by decide) (fun hcc => absurd hcc (nI_ge (b := 6) (by omega) (by decide))) (fun _ => ?_)
              refine z_aload_n hX (D_Model_cubes (i := 104) rfl) rfl ?_
              refine z_getc hX (D_Model_cubes (i := 105) rfl) f_Model_7 rfl (by decide) (by first | exact Nat.one_pos | assumption | omega) rfl ?_
              refine z_bipush (v := 6) hX (D_Model_cubes (i := 106) rfl) (by decide) ?_
              refine z_aload_n hX (D_Model_cubes (i := 107) rfl) rfl ?_
              refine z_geti hX (D_Model_cubes (i := 108) rfl) f_Model_99 rfl (by decide) (by first | exact Nat.one_pos | assumption | omega) rfl ?_
              rw [show (cmM mem sz s x c g).1 40 0 1 = nI (sz + c) by simp [cmM, cnM]]
              refine z_imul hX (D_Model_cubes (i := 109) rfl) ?_
              refine z_iload hX (D_Model_cubes (i := 110) rfl) rfl ?_
              refine z_iadd hX (D_Model_cubes (i := 111) rfl) ?_
              rw [show (6 : Int32) * nI (sz + c) + nI g = nI (6 * (sz + c) + g) by rw [nlit, pk_mul, nI_add]]
              refine z_aload_n hX (D_Model_cubes (i := 112) rfl) rfl ?_
              refine z_getc hX (D_Model_cubes (i := 113) rfl) f_Model_88 rfl (by decide) (by first | exact Nat.one_pos | assumption | omega) rfl ?_
              refine z_iload hX (D_Model_cubes (i := 114) rfl) rfl ?_
              refine z_iload hX (D_Model_cubes (i := 115) rfl) rfl ?_
              refine z_iadd hX (D_Model_cubes (i := 116) rfl) ?_
              rw [nI_add]
              refine z_lald (j := 60 * s + j + g) hX (D_Model_cubes (i := 117) rfl) rfl (by decide) (by first | exact Nat.one_pos | assumption | omega) (by decide) rfl (by omega) ?_
              refine z_l2i hX (D_Model_cubes (i := 118) rfl) ?_
              rw [show ((cmM mem sz s x c g).2.1 66 0 (60 * s + j + g)).toInt32 = cnP mem s x c g by unfold cnP; rw [hjj]; rfl]
              refine z_iast (j := 6 * (sz + c) + g) hX (D_Model_cubes (i := 119) rfl) rfl (by decide) (by first | exact Nat.one_pos | assumption | omega) (by decide) rfl (by omega) ?_
              rw [cmM_s]
              first | refine z_inc1 hX (D_Model_cubes (i := 120) rfl) rfl (by decide) rfl ?_ | refine z_iinc hX (D_Model_cubes (i := 120) rfl) rfl rfl (by decide) rfl ?_
              refine z_goto (tgt := 175) hX (D_Model_cubes (i := 121) rfl) (by decide) ?_
              exact ih2 (g + 1) (by omega)
          | succ d2 ih2 =>
            intro g hg hel
            refine z_iload hX (D_Model_cubes (i := 74) rfl) rfl ?_
            refine z_bipush (v := 6) hX (D_Model_cubes (i := 75) rfl) (by decide) ?_
            refine z_icmp_ge (tgt := 172) hX (D_Model_cubes (i := 76) rfl) (by decide) (fun hcc => absurd hcc (nI_ge (b := 6) (by omega) (by decide))) (fun _ => ?_)
            refine z_aload_n hX (D_Model_cubes (i := 77) rfl) rfl ?_
            refine z_getc hX (D_Model_cubes (i := 78) rfl) f_Model_88 rfl (by decide) (by first | exact Nat.one_pos | assumption | omega) rfl ?_
            refine z_iload hX (D_Model_cubes (i := 79) rfl) rfl ?_
            refine z_iload hX (D_Model_cubes (i := 80) rfl) rfl ?_
            refine z_iadd hX (D_Model_cubes (i := 81) rfl) ?_
            rw [nI_add]
            refine z_lald (j := 60 * s + j + g) hX (D_Model_cubes (i := 82) rfl) rfl (by decide) (by first | exact Nat.one_pos | assumption | omega) (by decide) rfl (by omega) ?_
            refine z_lconst (v := 0) hX (D_Model_cubes (i := 83) rfl) (by decide) ?_
            refine z_lcmp hX (D_Model_cubes (i := 84) rfl) ?_
            refine z_if_lt (tgt := 163) hX (D_Model_cubes (i := 85) rfl) (by decide) (fun h4 => ?_) (fun h4 => ?_)
            · refine z_iload hX (D_Model_cubes (i := 95) rfl) rfl ?_
              refine z_iret hX hR (D_Model_cubes (i := 96) rfl) rfl (h c hinv (by
                rw [e0]
                refine alI_false (k := g) (by omega) (decide_eq_false (fun w => ?_))
                have b1 := Int64.lt_iff_toInt_lt.mp ((lg_cmp_lt _ _).mp h4)
                have b2 := Int64.le_iff_toInt_le.mp w.1
                exact absurd b1 (Int.not_lt.mpr b2)))
            · refine z_aload_n hX (D_Model_cubes (i := 86) rfl) rfl ?_
              refine z_getc hX (D_Model_cubes (i := 87) rfl) f_Model_88 rfl (by decide) (by first | exact Nat.one_pos | assumption | omega) rfl ?_
              refine z_iload hX (D_Model_cubes (i := 88) rfl) rfl ?_
              refine z_iload hX (D_Model_cubes (i := 89) rfl) rfl ?_
              refine z_iadd hX (D_Model_cubes (i := 90) rfl) ?_
              rw [nI_add]
              refine z_lald (j := 60 * s + j + g) hX (D_Model_cubes (i := 91) rfl) rfl (by decide) (by first | exact Nat.one_pos | assumption | omega) (by decide) rfl (by omega) ?_
              refine z_ldc2 (v := 6) hX (D_Model_cubes (i := 92) rfl) k_Model_117 ?_
              refine z_lcmp hX (D_Model_cubes (i := 93) rfl) ?_
              refine z_if_le (tgt := 166) hX (D_Model_cubes (i := 94) rfl) (by decide) (fun h5 => ?_) (fun h5 => ?_)
              · first | refine z_inc1 hX (D_Model_cubes (i := 97) rfl) rfl (by decide) rfl ?_ | refine z_iinc hX (D_Model_cubes (i := 97) rfl) rfl rfl (by decide) rfl ?_
                refine z_goto (tgt := 124) hX (D_Model_cubes (i := 98) rfl) (by decide) ?_
                refine ih2 (g + 1) (by omega) (fun w hw => if e : w = g then ?_ else hel w (by omega))
                subst e
                refine decide_eq_true ⟨?_, (lg_cmp_le _ _).mp h5⟩
                have b1 := fun z => h4 ((lg_cmp_lt _ _).mpr (Int64.lt_iff_toInt_lt.mpr z))
                exact Int64.le_iff_toInt_le.mpr (Int.not_lt.mp b1)
              · refine z_iload hX (D_Model_cubes (i := 95) rfl) rfl ?_
                refine z_iret hX hR (D_Model_cubes (i := 96) rfl) rfl (h c hinv (by
                  rw [e0]
                  exact alI_false (k := g) (by omega) (decide_eq_false (fun w => h5 ((lg_cmp_le _ _).mpr w.2)))))
        · skip
          refine bad ?_ _
          have : sz + c = 8 := (nI_eq (b := 8) (by omega) (by decide)).mp h3
          unfold csN
          rw [decide_eq_false (show ¬ sz + c < 8 by omega)]; simp
theorem d_cubes (hH : zHas ι pM) (hs : mem.1 40 0 1 = nI sz) (h8 : sz ≤ 8) (hL : ∀ k, k < 6 → ∃ L : Nat, L ≤ 60 ∧ mem.1 65 0 k = nI L) (hno : (inN x 6 = false ∨ z < 1 ∨ ¬ z ≤ 8) → Post (some (zI (-1))) mem) (hbare : ∀ k, k < 6 → x = nI k → ¬ z < 1 → z ≤ 8 → mem.1 64 0 k = -1 → Post (some (zI 0)) mem) (hkind : ∀ k, k < 6 → x = nI k → ¬ z < 1 → z ≤ 8 → ¬ mem.1 64 0 k = -1 → ¬ mem.1 64 0 k = -2 → Post (some (zI (-12))) mem) (hok : ∀ k L n c, k < 6 → x = nI k → n ≤ 8 → z = nI n → L ≤ 60 → mem.1 64 0 k = -2 → mem.1 65 0 k = nI L → (∀ t, t < c → csN mem sz k L n y t = true) → csN mem sz k L n y c = false → Post (some (zI (nI c))) (cnM mem sz k y c)) : zC l ι M_Model_cubes 3 [zP 40 0, zI x, zI y, zI z] mem Post := by
  refine z_enter hH (by decide) (by simp [z_ent, M_Model_cubes]) (fun X hXl hX hR => ?_)
  refine z_iload_n hX (D_Model_cubes (i := 0) rfl) rfl ?_
  refine z_cS1 hX (D_Model_cubes (i := 1) rfl) ms_Model_isShelf l_Model_112 (by first | decide | omega) (Nat.le_of_ble_eq_true rfl) (d_isShelf ?_)
  refine z_if_eq (tgt := 17) hX (D_Model_cubes (i := 2) rfl) (by decide) (fun h1 => ?_) (fun h1 => ?_)
  · refine z_iconst (v := -1) hX (D_Model_cubes (i := 8) rfl) (by decide) ?_
    exact z_iret hX hR (D_Model_cubes (i := 9) rfl) rfl (hno (Or.inl (bI_0.mp h1)))
  · refine z_iload_n hX (D_Model_cubes (i := 3) rfl) rfl ?_
    refine z_iconst (v := 1) hX (D_Model_cubes (i := 4) rfl) (by decide) ?_
    refine z_bipush (v := 8) hX (D_Model_cubes (i := 5) rfl) (by decide) ?_
    refine z_cS3 hX (D_Model_cubes (i := 6) rfl) ms_Model_in l_Model_102 (by first | decide | omega) (Nat.le_of_ble_eq_true rfl) (d_in ?_)
    refine z_if_ne (tgt := 19) hX (D_Model_cubes (i := 7) rfl) (by decide) (fun h2 => ?_) (fun h2 => ?_)
    · skip
      have a := of_decide_eq_true (bI_n.mp h2)
      have g2 : ¬ z < 1 := Int32.not_lt.mpr a.1
      obtain ⟨k, hk, rfl⟩ := inN_ex (bI_n.mp h1) (by omega)
      obtain ⟨L, hL60, e3⟩ := hL k hk
      have loop : ¬ mem.1 64 0 k = -1 → mem.1 64 0 k = -2 → zW ι M_Model_cubes X 43 [some (zP 40 0), some (zI (nI k)), some (zI y), some (zI z), none, none, none, none, none] [] mem := by
        intro m1 m2
        obtain ⟨n, hn, hzn⟩ : ∃ n : Nat, n ≤ 8 ∧ z = nI n := by
          have a1 := Int32.le_iff_toInt_le.mp a.1
          have a2 := Int32.le_iff_toInt_le.mp a.2
          have k1 : (1 : Int32).toInt = 1 := rfl
          have k8 : (8 : Int32).toInt = 8 := rfl
          exact ⟨z.toInt.toNat, by omega, Int32.toInt_inj.mp (by rw [nI_toInt (by omega)]; omega)⟩
        refine z_aload_n hX (D_Model_cubes (i := 24) rfl) rfl ?_
        refine z_getc hX (D_Model_cubes (i := 25) rfl) f_Model_82 rfl (by decide) (by first | exact Nat.one_pos | assumption | omega) rfl ?_
        refine z_iload_n hX (D_Model_cubes (i := 26) rfl) rfl ?_
        refine z_iald (j := k) hX (D_Model_cubes (i := 27) rfl) rfl (by decide) (by first | exact Nat.one_pos | assumption | omega) (by decide) rfl hk ?_
        refine z_iconst (v := -1) hX (D_Model_cubes (i := 28) rfl) (by decide) ?_
        refine z_icmp_ne (tgt := 55) hX (D_Model_cubes (i := 29) rfl) (by decide) (fun _ => ?_) (fun hcc => absurd hcc (m1))
        refine z_iconst (v := 0) hX (D_Model_cubes (i := 32) rfl) (by decide) ?_
        refine z_istore hX (D_Model_cubes (i := 33) rfl) (by decide) rfl ?_
        subst hzn
        exact d_cubes_loop hH hX hR hs h8 hk e3 hL60 hn (fun c q1 q2 => hok k L n c hk rfl hn rfl hL60 m2 e3 q1 q2)
      refine z_aload_n hX (D_Model_cubes (i := 10) rfl) rfl ?_
      refine z_getc hX (D_Model_cubes (i := 11) rfl) f_Model_82 rfl (by decide) (by first | exact Nat.one_pos | assumption | omega) rfl ?_
      refine z_iload_n hX (D_Model_cubes (i := 12) rfl) rfl ?_
      refine z_iald (j := k) hX (D_Model_cubes (i := 13) rfl) rfl (by decide) (by first | exact Nat.one_pos | assumption | omega) (by decide) rfl hk ?_
      refine z_iconst (v := -1) hX (D_Model_cubes (i := 14) rfl) (by decide) ?_
      refine z_icmp_eq (tgt := 43) hX (D_Model_cubes (i := 15) rfl) (by decide) (fun h4 => ?_) (fun h4 => ?_)
      · refine z_aload_n hX (D_Model_cubes (i := 24) rfl) rfl ?_
        refine z_getc hX (D_Model_cubes (i := 25) rfl) f_Model_82 rfl (by decide) (by first | exact Nat.one_pos | assumption | omega) rfl ?_
        refine z_iload_n hX (D_Model_cubes (i := 26) rfl) rfl ?_
        refine z_iald (j := k) hX (D_Model_cubes (i := 27) rfl) rfl (by decide) (by first | exact Nat.one_pos | assumption | omega) (by decide) rfl hk ?_
        refine z_iconst (v := -1) hX (D_Model_cubes (i := 28) rfl) (by decide) ?_
        refine z_icmp_ne (tgt := 55) hX (D_Model_cubes (i := 29) rfl) (by decide) (fun hcc => absurd (h4) hcc) (fun _ => ?_)
        refine z_iconst (v := 0) hX (D_Model_cubes (i := 30) rfl) (by decide) ?_
        exact z_iret hX hR (D_Model_cubes (i := 31) rfl) rfl (hbare k hk rfl g2 a.2 h4)
      · refine z_aload_n hX (D_Model_cubes (i := 16) rfl) rfl ?_
        refine z_getc hX (D_Model_cubes (i := 17) rfl) f_Model_82 rfl (by decide) (by first | exact Nat.one_pos | assumption | omega) rfl ?_
        refine z_iload_n hX (D_Model_cubes (i := 18) rfl) rfl ?_
        refine z_iald (j := k) hX (D_Model_cubes (i := 19) rfl) rfl (by decide) (by first | exact Nat.one_pos | assumption | omega) (by decide) rfl hk ?_
        refine z_bipush (v := -2) hX (D_Model_cubes (i := 20) rfl) (by decide) ?_
        refine z_icmp_eq (tgt := 43) hX (D_Model_cubes (i := 21) rfl) (by decide) (fun h5 => ?_) (fun h5 => ?_)
        · skip
          exact loop h4 h5
        · refine z_bipush (v := -12) hX (D_Model_cubes (i := 22) rfl) (by decide) ?_
          exact z_iret hX hR (D_Model_cubes (i := 23) rfl) rfl (hkind k hk rfl g2 a.2 h4 h5)
    · refine z_iconst (v := -1) hX (D_Model_cubes (i := 8) rfl) (by decide) ?_
      have a := of_decide_eq_false (bI_0.mp h2)
      refine z_iret hX hR (D_Model_cubes (i := 9) rfl) rfl (hno ?_)
      by_cases q1 : z < 1
      · exact Or.inr (Or.inl q1)
      · exact Or.inr (Or.inr (fun w => a ⟨Int32.not_lt.mp q1, w⟩))
end G8
