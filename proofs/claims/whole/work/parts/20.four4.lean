/-! cube, cubes, many, bits counted -/
section F8
variable {l : Launch} {ι : zE} {mem : zM} {Post : Option zV → zM → Prop} {x y z : Int32} {sz nb : Nat}
theorem div10 (j i : Nat) : j / 10 ^ i / 10 = j / 10 ^ (i + 1) := by rw [Nat.div_div_eq_div_mul, Nat.pow_succ]
theorem div_le10 (j i : Nat) : j / 10 ^ i ≤ j := Nat.div_le_self _ _
theorem c_Four_areSixColours (h : Post (some (zI (bI (sixB x)))) mem) : zC l ι M_Four_areSixColours 0 [zI x] mem Post := by
  have hH : zHas ι [] := zHas.nil
  have L1 : ∀ a b : Int32, a < b ↔ a.toInt < b.toInt := fun a b => Int32.lt_iff_toInt_lt
  have L2 : ∀ a b : Int32, a ≤ b ↔ a.toInt ≤ b.toInt := fun a b => Int32.le_iff_toInt_le
  have k1 : (111111 : Int32).toInt = 111111 := rfl
  have k2 : (777777 : Int32).toInt = 777777 := rfl
  refine z_enter hH (by decide) (by simp [z_ent, M_Four_areSixColours]) (fun X hXl hX hR => ?_)
  refine z_iload_n hX (D_Four_areSixColours (i := 0) rfl) rfl ?_
  refine z_ldcw (v := 111111) hX (D_Four_areSixColours (i := 1) rfl) k_Four_307 ?_
  refine z_icmp_lt (tgt := 14) hX (D_Four_areSixColours (i := 2) rfl) (by decide) (fun h1 => ?_) (fun h1 => ?_)
  · refine z_iconst (v := 0) hX (D_Four_areSixColours (i := 6) rfl) (by decide) ?_
    rw [L1, k1] at h1
    rw [show sixB x = false by unfold sixB; rw [decide_eq_false (by omega)]; rfl] at h
    exact z_zret hX hR (D_Four_areSixColours (i := 7) rfl) rfl (by first | exact Or.inl rfl | exact Or.inr rfl | assumption) (by assumption)
  · refine z_iload_n hX (D_Four_areSixColours (i := 3) rfl) rfl ?_
    refine z_ldcw (v := 777777) hX (D_Four_areSixColours (i := 4) rfl) k_Four_308 ?_
    refine z_icmp_le (tgt := 16) hX (D_Four_areSixColours (i := 5) rfl) (by decide) (fun h2 => ?_) (fun h2 => ?_)
    · skip
      rw [L1, k1] at h1
      rw [L2, k2] at h2
      obtain ⟨j, hj, rfl⟩ : ∃ j : Nat, j ≤ 777777 ∧ x = nI j := ⟨x.toInt.toNat, by omega, Int32.toInt_inj.mp (by rw [nI_toInt (by omega)]; omega)⟩
      have e0 : sixB (nI j) = alI (digB j) 6 := by
        unfold sixB
        rw [decide_eq_true ⟨by omega, h2⟩, nI_toInt (by omega)]; rfl
      rw [e0] at h
      refine z_iload_n hX (D_Four_areSixColours (i := 8) rfl) rfl ?_
      refine z_istore_n hX (D_Four_areSixColours (i := 9) rfl) (by decide) rfl ?_
      refine z_iconst (v := 0) hX (D_Four_areSixColours (i := 10) rfl) (by decide) ?_
      refine z_istore_n hX (D_Four_areSixColours (i := 11) rfl) (by decide) rfl ?_
      suffices H : ∀ (d i : Nat), i + d = 6 → (∀ w, w < i → digB j w = true) → zW ι M_Four_areSixColours X 20 [some (zI (nI j)), some (zI (nI (j / 10 ^ i))), some (zI (nI i))] [] mem by
        have := H 6 0 rfl (fun _ h => absurd h (Nat.not_lt_zero _))
        rw [Nat.pow_zero, Nat.div_one] at this
        exact this
      intro d
      induction d with
      | zero =>
        intro i hi hinv
        obtain rfl : i = 6 := by omega
        refine z_iload_n hX (D_Four_areSixColours (i := 12) rfl) rfl ?_
        refine z_bipush (v := 6) hX (D_Four_areSixColours (i := 13) rfl) (by decide) ?_
        refine z_icmp_ge (tgt := 56) hX (D_Four_areSixColours (i := 14) rfl) (by decide) (fun _ => ?_) (fun hcc => absurd (Int32.le_refl _) hcc)
        refine z_iconst (v := 1) hX (D_Four_areSixColours (i := 33) rfl) (by decide) ?_
        rw [alI_true.mpr hinv] at h
        exact z_zret hX hR (D_Four_areSixColours (i := 34) rfl) rfl (by first | exact Or.inl rfl | exact Or.inr rfl | assumption) (by assumption)
      | succ d ih =>
        intro i hi hinv
        have hq := div_le10 j i
        refine z_iload_n hX (D_Four_areSixColours (i := 12) rfl) rfl ?_
        refine z_bipush (v := 6) hX (D_Four_areSixColours (i := 13) rfl) (by decide) ?_
        refine z_icmp_ge (tgt := 56) hX (D_Four_areSixColours (i := 14) rfl) (by decide) (fun hcc => absurd hcc (nI_ge (b := 6) (by omega) (by decide))) (fun _ => ?_)
        refine z_iload_n hX (D_Four_areSixColours (i := 15) rfl) rfl ?_
        refine z_bipush (v := 10) hX (D_Four_areSixColours (i := 16) rfl) (by decide) ?_
        refine z_irem hX (D_Four_areSixColours (i := 17) rfl) (by decide) ?_
        rw [nlit, pk_rem (by omega) (by decide) (by decide)]
        refine z_iconst (v := 1) hX (D_Four_areSixColours (i := 18) rfl) (by decide) ?_
        refine z_icmp_lt (tgt := 43) hX (D_Four_areSixColours (i := 19) rfl) (by decide) (fun h3 => ?_) (fun h3 => ?_)
        · refine z_iconst (v := 0) hX (D_Four_areSixColours (i := 25) rfl) (by decide) ?_
          rw [alI_false (k := i) (by omega) (decide_eq_false (fun w => absurd ((nI_ltI (b := 1) (by omega) (by decide)).mp h3) (by omega)))] at h
          exact z_zret hX hR (D_Four_areSixColours (i := 26) rfl) rfl (by first | exact Or.inl rfl | exact Or.inr rfl | assumption) (by assumption)
        · refine z_iload_n hX (D_Four_areSixColours (i := 20) rfl) rfl ?_
          refine z_bipush (v := 10) hX (D_Four_areSixColours (i := 21) rfl) (by decide) ?_
          have h3' : ¬ j / 10 ^ i % 10 < 1 := fun w => h3 (nI_lt (b := 1) w (by decide))
          refine z_irem hX (D_Four_areSixColours (i := 22) rfl) (by decide) ?_
          rw [nlit, pk_rem (by omega) (by decide) (by decide)]
          refine z_bipush (v := 7) hX (D_Four_areSixColours (i := 23) rfl) (by decide) ?_
          refine z_icmp_le (tgt := 45) hX (D_Four_areSixColours (i := 24) rfl) (by decide) (fun h4 => ?_) (fun h4 => ?_)
          · refine z_iload_n hX (D_Four_areSixColours (i := 27) rfl) rfl ?_
            refine z_bipush (v := 10) hX (D_Four_areSixColours (i := 28) rfl) (by decide) ?_
            have h4' := (nI_leI (b := 7) (by omega) (by decide)).mp h4
            refine z_idiv hX (D_Four_areSixColours (i := 29) rfl) (by decide) ?_
            rw [nlit, pk_div (by omega) (by decide) (by decide), div10]
            refine z_istore_n hX (D_Four_areSixColours (i := 30) rfl) (by decide) rfl ?_
            first | refine z_inc1 hX (D_Four_areSixColours (i := 31) rfl) rfl (by decide) rfl ?_ | refine z_iinc hX (D_Four_areSixColours (i := 31) rfl) rfl rfl (by decide) rfl ?_
            refine z_goto (tgt := 20) hX (D_Four_areSixColours (i := 32) rfl) (by decide) ?_
            exact ih (i + 1) (by omega) (fun w hw => if e : w = i then by subst e; exact decide_eq_true ⟨by omega, h4'⟩ else hinv w (by omega))
          · refine z_iconst (v := 0) hX (D_Four_areSixColours (i := 25) rfl) (by decide) ?_
            rw [alI_false (k := i) (by omega) (decide_eq_false (fun w => h4 (nI_le (b := 7) w.2 (by decide))))] at h
            exact z_zret hX hR (D_Four_areSixColours (i := 26) rfl) rfl (by first | exact Or.inl rfl | exact Or.inr rfl | assumption) (by assumption)
    · refine z_iconst (v := 0) hX (D_Four_areSixColours (i := 6) rfl) (by decide) ?_
      rw [L2, k2] at h2
      rw [show sixB x = false by unfold sixB; rw [decide_eq_false (by omega)]; rfl] at h
      exact z_zret hX hR (D_Four_areSixColours (i := 7) rfl) rfl (by first | exact Or.inl rfl | exact Or.inr rfl | assumption) (by assumption)
def cbM (mem : zM) (k j i : Nat) : zM := (fun a b c => if a = 3 ∧ b = k ∧ 6 - i ≤ c ∧ c < 6 then nI (j / 10 ^ (5 - c) % 10 - 1) else mem.1 a b c, mem.2)
theorem cbM_0 (mem : zM) (k j : Nat) : cbM mem k j 0 = mem := by
  refine Prod.ext ?_ rfl
  funext a b c
  show (if a = 3 ∧ b = k ∧ 6 - 0 ≤ c ∧ c < 6 then _ else mem.1 a b c) = mem.1 a b c
  rw [if_neg (by omega)]
theorem cbM_s (mem : zM) (k j i : Nat) (hi : i < 6) : upI (cbM mem k j i) 3 k (5 - i) (nI (j / 10 ^ i % 10 - 1)) = cbM mem k j (i + 1) := by
  refine Prod.ext ?_ rfl
  funext a b c
  rw [upI_get]
  show (if a = 3 ∧ b = k ∧ c = 5 - i then nI (j / 10 ^ i % 10 - 1) else (if a = 3 ∧ b = k ∧ 6 - i ≤ c ∧ c < 6 then nI (j / 10 ^ (5 - c) % 10 - 1) else mem.1 a b c)) = (if a = 3 ∧ b = k ∧ 6 - (i + 1) ≤ c ∧ c < 6 then nI (j / 10 ^ (5 - c) % 10 - 1) else mem.1 a b c)
  by_cases h : a = 3 ∧ b = k ∧ 6 - (i + 1) ≤ c ∧ c < 6
  · rw [if_pos h]
    by_cases h2 : c = 5 - i
    · rw [if_pos ⟨h.1, h.2.1, h2⟩, show 5 - c = i by omega]
    · rw [if_neg (fun w => h2 w.2.2), if_pos ⟨h.1, h.2.1, by omega, h.2.2.2⟩]
  · rw [if_neg h, if_neg (fun w => h ⟨w.1, w.2.1, by omega, by omega⟩), if_neg (fun w => h ⟨w.1, w.2.1, by omega, w.2.2.2⟩)]
def fcI (i : Nat) : Int32 := nI (6 - i) - 1
theorem fcI_eq {i : Nat} (hi : i < 6) : fcI i = nI (5 - i) := by
  unfold fcI
  rw [nlit, pk_sub (by omega), show 6 - i - 1 = 5 - i by omega]
theorem fcI_s {i : Nat} (hi : i < 6) : fcI i + Int32.ofInt (-1) = fcI (i + 1) := by
  rw [fcI_eq hi]
  unfold fcI
  rw [show 6 - (i + 1) = 5 - i by omega, Int32.sub_eq_add_neg]; rfl
theorem c_Four_cube (hH : zHas ι pX) (hs : mem.1 0 0 1 = nI sz) (h8 : sz ≤ 8) (hno : sixB x = false → Post (some (zI (-1))) mem) (hfull : sixB x = true → sz = 8 → Post (some (zI (-3))) mem) (hok : ∀ j, x = nI j → sixB x = true → j ≤ 777777 → sz < 8 → Post (some (zI (nI sz))) (upI (cbM mem sz j 6) 0 0 1 (nI (sz + 1)))) : zC l ι M_Four_cube 1 [zP 0 0, zI x] mem Post := by
  refine z_enter hH (by decide) (by simp [z_ent, M_Four_cube]) (fun X hXl hX hR => ?_)
  refine z_iload_n hX (D_Four_cube (i := 0) rfl) rfl ?_
  refine z_cS1 hX (D_Four_cube (i := 1) rfl) ms_Four_areSixColours l_Four_63 (by first | decide | omega) (Nat.le_of_ble_eq_true rfl) (c_Four_areSixColours ?_)
  refine z_if_ne (tgt := 9) hX (D_Four_cube (i := 2) rfl) (by decide) (fun h1 => ?_) (fun h1 => ?_)
  · refine z_aload_n hX (D_Four_cube (i := 5) rfl) rfl ?_
    refine z_geti hX (D_Four_cube (i := 6) rfl) f_Four_67 rfl (by decide) (by first | exact Nat.one_pos | assumption | omega) rfl ?_
    refine z_bipush (v := 8) hX (D_Four_cube (i := 7) rfl) (by decide) ?_
    rw [hs]
    have hb := bI_n.mp h1
    by_cases h2 : sz < 8
    · obtain ⟨j, hj, rfl, hd⟩ : ∃ j : Nat, j ≤ 777777 ∧ x = nI j ∧ ∀ i, i < 6 → digB j i = true := by
        have hb2 := hb
        unfold sixB at hb2
        rw [Bool.and_eq_true] at hb2
        have a1 := of_decide_eq_true hb2.1
        exact ⟨x.toInt.toNat, by omega, Int32.toInt_inj.mp (by rw [nI_toInt (by omega)]; omega), alI_true.mp hb2.2⟩
      have hh := hok j rfl hb hj h2
      refine z_icmp_lt (tgt := 21) hX (D_Four_cube (i := 8) rfl) (by decide) (fun _ => ?_) (fun hcc => absurd (nI_lt (b := 8) h2 (by decide)) hcc)
      refine z_iload_n hX (D_Four_cube (i := 11) rfl) rfl ?_
      refine z_istore_n hX (D_Four_cube (i := 12) rfl) (by decide) rfl ?_
      refine z_iconst (v := 5) hX (D_Four_cube (i := 13) rfl) (by decide) ?_
      refine z_istore_n hX (D_Four_cube (i := 14) rfl) (by decide) rfl ?_
      suffices H : ∀ (d i : Nat), i + d = 6 → zW ι M_Four_cube X 25 [some (zP 0 0), some (zI (nI j)), some (zI (nI (j / 10 ^ i))), some (zI (fcI i))] [] (cbM mem sz j i) by
        have := H 6 0 rfl
        rw [Nat.pow_zero, Nat.div_one, cbM_0] at this
        exact this
      intro d
      induction d with
      | zero =>
        intro i hi
        obtain rfl : i = 6 := by omega
        refine z_iload_n hX (D_Four_cube (i := 15) rfl) rfl ?_
        refine z_if_lt (tgt := 60) hX (D_Four_cube (i := 16) rfl) (by decide) (fun _ => ?_) (fun hcc => absurd (by decide) hcc)
        refine z_aload_n hX (D_Four_cube (i := 36) rfl) rfl ?_
        refine z_dupP hX (D_Four_cube (i := 37) rfl) ?_
        refine z_geti hX (D_Four_cube (i := 38) rfl) f_Four_67 rfl (by decide) (by first | exact Nat.one_pos | assumption | omega) rfl ?_
        rw [show (cbM mem sz j 6).1 0 0 1 = nI sz by rw [← hs]; simp [cbM]]
        refine z_iconst (v := 1) hX (D_Four_cube (i := 39) rfl) (by decide) ?_
        refine z_iadd hX (D_Four_cube (i := 40) rfl) ?_
        rw [nlit, nI_add]
        refine z_puti hX (D_Four_cube (i := 41) rfl) g_Four_67 rfl (by decide) (by first | exact Nat.one_pos | assumption | omega) rfl ?_
        refine z_aload_n hX (D_Four_cube (i := 42) rfl) rfl ?_
        refine z_geti hX (D_Four_cube (i := 43) rfl) f_Four_67 rfl (by decide) (by first | exact Nat.one_pos | assumption | omega) rfl ?_
        refine z_iconst (v := 1) hX (D_Four_cube (i := 44) rfl) (by decide) ?_
        refine z_isub hX (D_Four_cube (i := 45) rfl) ?_
        rw [show (upI (cbM mem sz j 6) 0 0 1 (nI (sz + 1))).1 0 0 1 = nI (sz + 1) by simp [upI_get]]
        rw [nlit, pk_sub (by omega), Nat.add_sub_cancel]
        exact z_iret hX hR (D_Four_cube (i := 46) rfl) rfl hh
      | succ d ih =>
        intro i hi
        have hi6 : i < 6 := by omega
        have hq := div_le10 j i
        have dg := of_decide_eq_true (hd i hi6)
        have e1 := fcI_eq hi6
        refine z_iload_n hX (D_Four_cube (i := 15) rfl) rfl ?_
        refine z_if_lt (tgt := 60) hX (D_Four_cube (i := 16) rfl) (by decide) (fun hcc => absurd hcc (by rw [e1]; exact nI_pos (by omega))) (fun _ => ?_)
        refine z_aload_n hX (D_Four_cube (i := 17) rfl) rfl ?_
        refine z_getc hX (D_Four_cube (i := 18) rfl) f_Four_11 rfl (by decide) (by first | exact Nat.one_pos | assumption | omega) rfl ?_
        refine z_aload_n hX (D_Four_cube (i := 19) rfl) rfl ?_
        refine z_geti hX (D_Four_cube (i := 20) rfl) f_Four_67 rfl (by decide) (by first | exact Nat.one_pos | assumption | omega) rfl ?_
        rw [show (cbM mem sz j i).1 0 0 1 = nI sz by rw [← hs]; simp [cbM]]
        refine z_aldCubec (j := sz) hX (D_Four_cube (i := 21) rfl) rfl (by decide) (by first | exact Nat.one_pos | assumption | omega) (by decide) rfl h2 ?_
        refine z_getc hX (D_Four_cube (i := 22) rfl) f_Four_71 rfl (by decide) (by first | exact Nat.one_pos | assumption | omega) rfl ?_
        refine z_iload_n hX (D_Four_cube (i := 23) rfl) rfl ?_
        refine z_iload_n hX (D_Four_cube (i := 24) rfl) rfl ?_
        refine z_bipush (v := 10) hX (D_Four_cube (i := 25) rfl) (by decide) ?_
        refine z_irem hX (D_Four_cube (i := 26) rfl) (by decide) ?_
        rw [nlit, pk_rem (by omega) (by decide) (by decide)]
        refine z_iconst (v := 1) hX (D_Four_cube (i := 27) rfl) (by decide) ?_
        refine z_isub hX (D_Four_cube (i := 28) rfl) ?_
        rw [show nI (j / 10 ^ i % 10) - 1 = nI (j / 10 ^ i % 10 - 1) from pk_sub (b := 1) (by omega)]
        refine z_iast (j := 5 - i) hX (D_Four_cube (i := 29) rfl) rfl (by decide) (by first | exact Nat.one_pos | assumption | omega) (by decide) e1 (by omega) ?_
        rw [cbM_s mem sz j i hi6]
        refine z_iload_n hX (D_Four_cube (i := 30) rfl) rfl ?_
        refine z_bipush (v := 10) hX (D_Four_cube (i := 31) rfl) (by decide) ?_
        refine z_idiv hX (D_Four_cube (i := 32) rfl) (by decide) ?_
        rw [nlit, pk_div (by omega) (by decide) (by decide), div10]
        refine z_istore_n hX (D_Four_cube (i := 33) rfl) (by decide) rfl ?_
        refine z_iinc (v := fcI (i + 1)) hX (D_Four_cube (i := 34) rfl) rfl (fcI_s hi6) (by decide) rfl ?_
        refine z_goto (tgt := 25) hX (D_Four_cube (i := 35) rfl) (by decide) ?_
        exact ih (i + 1) (by omega)
    · obtain rfl : sz = 8 := by omega
      refine z_icmp_lt (tgt := 21) hX (D_Four_cube (i := 8) rfl) (by decide) (fun hcc => absurd hcc (by decide)) (fun _ => ?_)
      refine z_bipush (v := -3) hX (D_Four_cube (i := 9) rfl) (by decide) ?_
      exact z_iret hX hR (D_Four_cube (i := 10) rfl) rfl (hfull hb rfl)
  · refine z_iconst (v := -1) hX (D_Four_cube (i := 3) rfl) (by decide) ?_
    exact z_iret hX hR (D_Four_cube (i := 4) rfl) rfl (hno (bI_0.mp h1))
def maT (n : Int32) : Int64 := n.toInt64 * n.toInt64 * n.toInt64 * (n.toInt64 * n.toInt64 * n.toInt64) + 3 * (n.toInt64 * n.toInt64) * (n.toInt64 * n.toInt64) + 12 * (n.toInt64 * n.toInt64 * n.toInt64) + 8 * (n.toInt64 * n.toInt64)
def maG (n : Int32) : Int64 := 3 * (n.toInt64 * n.toInt64 * n.toInt64) * (n.toInt64 * n.toInt64) + 6 * (n.toInt64 * n.toInt64) * (n.toInt64 * n.toInt64) + n.toInt64 * n.toInt64 * n.toInt64 + 6 * (n.toInt64 * n.toInt64) + (8 * n).toInt64
theorem c_Four_many (hH : zHas ι pX) (hno : (x < 1 ∨ 1000 < x ∨ y < 0 ∨ ¬ y ≤ 1) → Post (some (zJ (-1))) mem) (h0 : ¬ x < 1 → ¬ 1000 < x → y = 0 → Post (some (zJ (maT x / 24))) mem) (h1 : ¬ x < 1 → ¬ 1000 < x → ¬ y = 0 → ¬ y < 0 → y ≤ 1 → Post (some (zJ ((maT x + maG x) / 48))) mem) : zC l ι M_Four_many 0 [zP 0 0, zI x, zI y] mem Post := by
  refine z_enter hH (by decide) (by simp [z_ent, M_Four_many]) (fun X hXl hX hR => ?_)
  refine z_iload_n hX (D_Four_many (i := 0) rfl) rfl ?_
  refine z_iconst (v := 1) hX (D_Four_many (i := 1) rfl) (by decide) ?_
  refine z_icmp_lt (tgt := 21) hX (D_Four_many (i := 2) rfl) (by decide) (fun a1 => ?_) (fun a1 => ?_)
  · refine z_ldc2 (v := -1) hX (D_Four_many (i := 11) rfl) k_Four_211 ?_
    exact z_lret hX hR (D_Four_many (i := 12) rfl) rfl (hno (Or.inl a1))
  · refine z_iload_n hX (D_Four_many (i := 3) rfl) rfl ?_
    refine z_sipush (v := 1000) hX (D_Four_many (i := 4) rfl) (by decide) ?_
    refine z_icmp_gt (tgt := 21) hX (D_Four_many (i := 5) rfl) (by decide) (fun a2 => ?_) (fun a2 => ?_)
    · refine z_ldc2 (v := -1) hX (D_Four_many (i := 11) rfl) k_Four_211 ?_
      exact z_lret hX hR (D_Four_many (i := 12) rfl) rfl (hno (Or.inr (Or.inl a2)))
    · refine z_iload_n hX (D_Four_many (i := 6) rfl) rfl ?_
      refine z_if_lt (tgt := 21) hX (D_Four_many (i := 7) rfl) (by decide) (fun a3 => ?_) (fun a3 => ?_)
      · refine z_ldc2 (v := -1) hX (D_Four_many (i := 11) rfl) k_Four_211 ?_
        exact z_lret hX hR (D_Four_many (i := 12) rfl) rfl (hno (Or.inr (Or.inr (Or.inl a3))))
      · refine z_iload_n hX (D_Four_many (i := 8) rfl) rfl ?_
        refine z_iconst (v := 1) hX (D_Four_many (i := 9) rfl) (by decide) ?_
        refine z_icmp_le (tgt := 25) hX (D_Four_many (i := 10) rfl) (by decide) (fun a4 => ?_) (fun a4 => ?_)
        · refine z_iload_n hX (D_Four_many (i := 13) rfl) rfl ?_
          refine z_i2l hX (D_Four_many (i := 14) rfl) ?_
          refine z_iload_n hX (D_Four_many (i := 15) rfl) rfl ?_
          refine z_i2l hX (D_Four_many (i := 16) rfl) ?_
          refine z_lmul hX (D_Four_many (i := 17) rfl) ?_
          refine z_lstore_n hX (D_Four_many (i := 18) rfl) (by decide) rfl ?_
          refine z_lload_n hX (D_Four_many (i := 19) rfl) rfl ?_
          refine z_iload_n hX (D_Four_many (i := 20) rfl) rfl ?_
          refine z_i2l hX (D_Four_many (i := 21) rfl) ?_
          refine z_lmul hX (D_Four_many (i := 22) rfl) ?_
          refine z_lstore hX (D_Four_many (i := 23) rfl) (by decide) rfl ?_
          refine z_lload hX (D_Four_many (i := 24) rfl) rfl ?_
          refine z_lload hX (D_Four_many (i := 25) rfl) rfl ?_
          refine z_lmul hX (D_Four_many (i := 26) rfl) ?_
          refine z_ldc2 (v := 3) hX (D_Four_many (i := 27) rfl) k_Four_213 ?_
          refine z_lload_n hX (D_Four_many (i := 28) rfl) rfl ?_
          refine z_lmul hX (D_Four_many (i := 29) rfl) ?_
          refine z_lload_n hX (D_Four_many (i := 30) rfl) rfl ?_
          refine z_lmul hX (D_Four_many (i := 31) rfl) ?_
          refine z_ladd hX (D_Four_many (i := 32) rfl) ?_
          refine z_ldc2 (v := 12) hX (D_Four_many (i := 33) rfl) k_Four_215 ?_
          refine z_lload hX (D_Four_many (i := 34) rfl) rfl ?_
          refine z_lmul hX (D_Four_many (i := 35) rfl) ?_
          refine z_ladd hX (D_Four_many (i := 36) rfl) ?_
          refine z_ldc2 (v := 8) hX (D_Four_many (i := 37) rfl) k_Four_217 ?_
          refine z_lload_n hX (D_Four_many (i := 38) rfl) rfl ?_
          refine z_lmul hX (D_Four_many (i := 39) rfl) ?_
          refine z_ladd hX (D_Four_many (i := 40) rfl) ?_
          refine z_lstore hX (D_Four_many (i := 41) rfl) (by decide) rfl ?_
          refine z_iload_n hX (D_Four_many (i := 42) rfl) rfl ?_
          refine z_if_ne (tgt := 76) hX (D_Four_many (i := 43) rfl) (by decide) (fun a5 => ?_) (fun a5 => ?_)
          · refine z_ldc2 (v := 3) hX (D_Four_many (i := 48) rfl) k_Four_213 ?_
            refine z_lload hX (D_Four_many (i := 49) rfl) rfl ?_
            refine z_lmul hX (D_Four_many (i := 50) rfl) ?_
            refine z_lload_n hX (D_Four_many (i := 51) rfl) rfl ?_
            refine z_lmul hX (D_Four_many (i := 52) rfl) ?_
            refine z_ldc2 (v := 6) hX (D_Four_many (i := 53) rfl) k_Four_221 ?_
            refine z_lload_n hX (D_Four_many (i := 54) rfl) rfl ?_
            refine z_lmul hX (D_Four_many (i := 55) rfl) ?_
            refine z_lload_n hX (D_Four_many (i := 56) rfl) rfl ?_
            refine z_lmul hX (D_Four_many (i := 57) rfl) ?_
            refine z_ladd hX (D_Four_many (i := 58) rfl) ?_
            refine z_lload hX (D_Four_many (i := 59) rfl) rfl ?_
            refine z_ladd hX (D_Four_many (i := 60) rfl) ?_
            refine z_ldc2 (v := 6) hX (D_Four_many (i := 61) rfl) k_Four_221 ?_
            refine z_lload_n hX (D_Four_many (i := 62) rfl) rfl ?_
            refine z_lmul hX (D_Four_many (i := 63) rfl) ?_
            refine z_ladd hX (D_Four_many (i := 64) rfl) ?_
            refine z_bipush (v := 8) hX (D_Four_many (i := 65) rfl) (by decide) ?_
            refine z_iload_n hX (D_Four_many (i := 66) rfl) rfl ?_
            refine z_imul hX (D_Four_many (i := 67) rfl) ?_
            refine z_i2l hX (D_Four_many (i := 68) rfl) ?_
            refine z_ladd hX (D_Four_many (i := 69) rfl) ?_
            refine z_lstore hX (D_Four_many (i := 70) rfl) (by decide) rfl ?_
            refine z_lload hX (D_Four_many (i := 71) rfl) rfl ?_
            refine z_lload hX (D_Four_many (i := 72) rfl) rfl ?_
            refine z_ladd hX (D_Four_many (i := 73) rfl) ?_
            refine z_ldc2 (v := 48) hX (D_Four_many (i := 74) rfl) k_Four_223 ?_
            refine z_ldiv hX (D_Four_many (i := 75) rfl) (by decide) ?_
            exact z_lret hX hR (D_Four_many (i := 76) rfl) rfl (h1 a1 a2 a5 a3 a4)
          · refine z_lload hX (D_Four_many (i := 44) rfl) rfl ?_
            refine z_ldc2 (v := 24) hX (D_Four_many (i := 45) rfl) k_Four_219 ?_
            refine z_ldiv hX (D_Four_many (i := 46) rfl) (by decide) ?_
            exact z_lret hX hR (D_Four_many (i := 47) rfl) rfl (h0 a1 a2 a5)
        · refine z_ldc2 (v := -1) hX (D_Four_many (i := 11) rfl) k_Four_211 ?_
          exact z_lret hX hR (D_Four_many (i := 12) rfl) rfl (hno (Or.inr (Or.inr (Or.inr a4))))
end F8
