/-! the class's simple calls -/
theorem leT {x : Int32} {n : Nat} (hn : n + 1 < 2 ^ 31) : x ≤ nI n ↔ ¬ nI (n + 1) ≤ x := by
  rw [Int32.le_iff_toInt_le, Int32.le_iff_toInt_le, nI_toInt (by omega), nI_toInt hn]
  omega
theorem ltT {x : Int32} {n : Nat} : x < nI n ↔ ¬ nI n ≤ x := Int32.not_le.symm
def ShOK (mem : zM) : Prop := ∀ k, k < 6 → ∃ L s : Nat, L ≤ 60 ∧ s < 5 ∧ mem.1 31 k 3 = nI L ∧ mem.1 31 k 2 = nI s
section F5
variable {l : Launch} {ι : zE} {mem : zM} {Post : Option zV → zM → Prop} {x y z : Int32} {sz : Nat}
theorem c_Four_turn (hH : zHas ι pX) (hs : mem.1 0 0 1 = nI sz) (h8 : sz ≤ 8) (hno : (inN x sz && inN y 24) = false → Post (some (zI (-1))) mem) (hok : ∀ k t, k < sz → t < 24 → x = nI k → y = nI t → Post (some (zI (mem.1 2 k 1))) (upI mem 2 k 1 (nI t))) : zC l ι M_Four_turn 1 [zP 0 0, zI x, zI y] mem Post := by
  refine z_enter hH (by decide) (by simp [z_ent, M_Four_turn]) (fun X hXl hX hR => ?_)
  refine z_aload_n hX (D_Four_turn (i := 0) rfl) rfl ?_
  refine z_iload_n hX (D_Four_turn (i := 1) rfl) rfl ?_
  refine z_cV1 hX (D_Four_turn (i := 2) rfl) mi_Four_isCube l_Four_110 rfl rfl (by decide) (by first | exact Nat.one_pos | assumption | omega) (by first | decide | omega) (Nat.le_of_ble_eq_true rfl) (c_Four_isCube hH hs h8 ?_)
  refine z_if_eq (tgt := 15) hX (D_Four_turn (i := 3) rfl) (by decide) (fun h1 => ?_) (fun h1 => ?_)
  · refine z_iconst (v := -1) hX (D_Four_turn (i := 7) rfl) (by decide) ?_
    exact z_iret hX hR (D_Four_turn (i := 8) rfl) rfl (hno (by rw [bI_0.mp h1]; rfl))
  · refine z_iload_n hX (D_Four_turn (i := 4) rfl) rfl ?_
    refine z_cS1 hX (D_Four_turn (i := 5) rfl) ms_Four_isTurning l_Four_137 (by first | decide | omega) (Nat.le_of_ble_eq_true rfl) (c_Four_isTurning ?_)
    refine z_if_ne (tgt := 17) hX (D_Four_turn (i := 6) rfl) (by decide) (fun h2 => ?_) (fun h2 => ?_)
    · skip
      obtain ⟨k, hk, rfl⟩ := inN_ex (bI_n.mp h1) (by omega)
      obtain ⟨t, ht, rfl⟩ := inN_ex (bI_n.mp h2) (by omega)
      have hk8 : k < 8 := by omega
      refine z_aload_n hX (D_Four_turn (i := 9) rfl) rfl ?_
      refine z_getc hX (D_Four_turn (i := 10) rfl) f_Four_11 rfl (by decide) (by first | exact Nat.one_pos | assumption | omega) rfl ?_
      refine z_iload_n hX (D_Four_turn (i := 11) rfl) rfl ?_
      refine z_aldCubec (j := k) hX (D_Four_turn (i := 12) rfl) rfl (by decide) (by first | exact Nat.one_pos | assumption | omega) (by decide) rfl hk8 ?_
      refine z_geti hX (D_Four_turn (i := 13) rfl) f_Four_113 rfl (by decide) (by first | exact Nat.one_pos | assumption | omega) rfl ?_
      refine z_istore_n hX (D_Four_turn (i := 14) rfl) (by decide) rfl ?_
      refine z_aload_n hX (D_Four_turn (i := 15) rfl) rfl ?_
      refine z_getc hX (D_Four_turn (i := 16) rfl) f_Four_11 rfl (by decide) (by first | exact Nat.one_pos | assumption | omega) rfl ?_
      refine z_iload_n hX (D_Four_turn (i := 17) rfl) rfl ?_
      refine z_aldCubec (j := k) hX (D_Four_turn (i := 18) rfl) rfl (by decide) (by first | exact Nat.one_pos | assumption | omega) (by decide) rfl hk8 ?_
      refine z_iload_n hX (D_Four_turn (i := 19) rfl) rfl ?_
      refine z_puti hX (D_Four_turn (i := 20) rfl) g_Four_113 rfl (by decide) (by first | exact Nat.one_pos | assumption | omega) rfl ?_
      refine z_iload_n hX (D_Four_turn (i := 21) rfl) rfl ?_
      exact z_iret hX hR (D_Four_turn (i := 22) rfl) rfl (hok k t hk ht rfl rfl)
    · refine z_iconst (v := -1) hX (D_Four_turn (i := 7) rfl) (by decide) ?_
      exact z_iret hX hR (D_Four_turn (i := 8) rfl) rfl (hno (by rw [bI_0.mp h2]; simp))
theorem c_Four_shows (hH : zHas ι pX) (hs : mem.1 0 0 1 = nI sz) (h8 : sz ≤ 8) (hno : (inN x sz && (inN y 24 && inN z 6)) = false → Post (some (zI (-1))) mem) (hok : ∀ k t w, k < sz → t < 24 → w < 6 → x = nI k → y = nI t → z = nI w → Post (some (zI (mem.1 3 k (stN t w)))) mem) : zC l ι M_Four_shows 1 [zP 0 0, zI x, zI y, zI z] mem Post := by
  refine z_enter hH (by decide) (by simp [z_ent, M_Four_shows]) (fun X hXl hX hR => ?_)
  refine z_aload_n hX (D_Four_shows (i := 0) rfl) rfl ?_
  refine z_iload_n hX (D_Four_shows (i := 1) rfl) rfl ?_
  refine z_cV1 hX (D_Four_shows (i := 2) rfl) mi_Four_isCube l_Four_110 rfl rfl (by decide) (by first | exact Nat.one_pos | assumption | omega) (by first | decide | omega) (Nat.le_of_ble_eq_true rfl) (c_Four_isCube hH hs h8 ?_)
  refine z_if_eq (tgt := 25) hX (D_Four_shows (i := 3) rfl) (by decide) (fun h1 => ?_) (fun h1 => ?_)
  · refine z_iconst (v := -1) hX (D_Four_shows (i := 12) rfl) (by decide) ?_
    exact z_iret hX hR (D_Four_shows (i := 13) rfl) rfl (hno (by rw [bI_0.mp h1]; rfl))
  · refine z_iload_n hX (D_Four_shows (i := 4) rfl) rfl ?_
    refine z_cS1 hX (D_Four_shows (i := 5) rfl) ms_Four_isTurning l_Four_137 (by first | decide | omega) (Nat.le_of_ble_eq_true rfl) (c_Four_isTurning ?_)
    refine z_if_eq (tgt := 25) hX (D_Four_shows (i := 6) rfl) (by decide) (fun h2 => ?_) (fun h2 => ?_)
    · refine z_iconst (v := -1) hX (D_Four_shows (i := 12) rfl) (by decide) ?_
      exact z_iret hX hR (D_Four_shows (i := 13) rfl) rfl (hno (by rw [bI_0.mp h2]; simp))
    · refine z_iload_n hX (D_Four_shows (i := 7) rfl) rfl ?_
      refine z_if_lt (tgt := 25) hX (D_Four_shows (i := 8) rfl) (by decide) (fun h3 => ?_) (fun h3 => ?_)
      · refine z_iconst (v := -1) hX (D_Four_shows (i := 12) rfl) (by decide) ?_
        exact z_iret hX hR (D_Four_shows (i := 13) rfl) rfl (hno (by rw [inN_lo h3]; simp))
      · refine z_iload_n hX (D_Four_shows (i := 9) rfl) rfl ?_
        refine z_bipush (v := 6) hX (D_Four_shows (i := 10) rfl) (by decide) ?_
        refine z_icmp_lt (tgt := 27) hX (D_Four_shows (i := 11) rfl) (by decide) (fun h4 => ?_) (fun h4 => ?_)
        · skip
          obtain ⟨k, hk, rfl⟩ := inN_ex (bI_n.mp h1) (by omega)
          obtain ⟨t, ht, rfl⟩ := inN_ex (bI_n.mp h2) (by omega)
          obtain ⟨w, hw, rfl⟩ := inN_ex (inN_in (n := 6) h3 (ltT.mp h4) (by decide)) (by omega)
          have hk8 : k < 8 := by omega
          refine z_aload_n hX (D_Four_shows (i := 14) rfl) rfl ?_
          refine z_getc hX (D_Four_shows (i := 15) rfl) f_Four_11 rfl (by decide) (by first | exact Nat.one_pos | assumption | omega) rfl ?_
          refine z_iload_n hX (D_Four_shows (i := 16) rfl) rfl ?_
          refine z_aldCubec (j := k) hX (D_Four_shows (i := 17) rfl) rfl (by decide) (by first | exact Nat.one_pos | assumption | omega) (by decide) rfl hk8 ?_
          refine z_iload_n hX (D_Four_shows (i := 18) rfl) rfl ?_
          refine z_iload_n hX (D_Four_shows (i := 19) rfl) rfl ?_
          refine z_cV2 hX (D_Four_shows (i := 20) rfl) mi_Cube_seen l_Four_140 rfl rfl (by decide) (by first | exact Nat.one_pos | assumption | omega) (by first | decide | omega) (Nat.le_of_ble_eq_true rfl) (c_Cube_seen hH hk8 ht hw ?_)
          exact z_iret hX hR (D_Four_shows (i := 21) rfl) rfl (hok k t w hk ht hw rfl rfl rfl)
        · refine z_iconst (v := -1) hX (D_Four_shows (i := 12) rfl) (by decide) ?_
          exact z_iret hX hR (D_Four_shows (i := 13) rfl) rfl (hno (by rw [inN_hi (n := 6) (Int32.not_lt.mp h4) (by decide)]; simp))
theorem c_Four_of (hH : zHas ι pX) (hs : mem.1 0 0 1 = nI sz) (h8 : sz ≤ 8) (hcol : ∀ k, k < 8 → ∀ f, f < 6 → ∃ c, c ≤ 6 ∧ mem.1 3 k f = nI c) (hno : (inN x sz = false ∨ (inN y 6 = false ∧ ¬ y = 6 ∧ inN (y - 10) 3 = false)) → Post (some (zI (-1))) mem) (hf : ∀ k f, k < sz → f < 6 → x = nI k → y = nI f → Post (some (zI (mem.1 3 k f))) mem) (ht : ∀ k, k < sz → x = nI k → y = 6 → Post (some (zI (mem.1 2 k 1))) mem) (hl : ∀ k i a b, k < sz → i < 3 → a ≤ 6 → b ≤ 6 → x = nI k → y = nI (10 + i) → mem.1 3 k (edN i) = nI a → mem.1 3 k (opN (edN i)) = nI b → Post (some (zI (nI (lnN a b)))) mem) : zC l ι M_Four_of 2 [zP 0 0, zI x, zI y] mem Post := by
  refine z_enter hH (by decide) (by simp [z_ent, M_Four_of]) (fun X hXl hX hR => ?_)
  refine z_aload_n hX (D_Four_of (i := 0) rfl) rfl ?_
  refine z_iload_n hX (D_Four_of (i := 1) rfl) rfl ?_
  refine z_cV1 hX (D_Four_of (i := 2) rfl) mi_Four_isCube l_Four_110 rfl rfl (by decide) (by first | exact Nat.one_pos | assumption | omega) (by first | decide | omega) (Nat.le_of_ble_eq_true rfl) (c_Four_isCube hH hs h8 ?_)
  refine z_if_ne (tgt := 10) hX (D_Four_of (i := 3) rfl) (by decide) (fun h1 => ?_) (fun h1 => ?_)
  · skip
    obtain ⟨k, hk, rfl⟩ := inN_ex (bI_n.mp h1) (by omega)
    have hk8 : k < 8 := by omega
    have two : inN y 6 = false → zW ι M_Four_of X 32 [some (zP 0 0), some (zI (nI k)), some (zI y)] [] mem := by
      intro h6
      refine z_iload_n hX (D_Four_of (i := 19) rfl) rfl ?_
      refine z_bipush (v := 6) hX (D_Four_of (i := 20) rfl) (by decide) ?_
      refine z_icmp_ne (tgt := 48) hX (D_Four_of (i := 21) rfl) (by decide) (fun h7 => ?_) (fun h7 => ?_)
      · refine z_iload_n hX (D_Four_of (i := 28) rfl) rfl ?_
        refine z_bipush (v := 10) hX (D_Four_of (i := 29) rfl) (by decide) ?_
        refine z_icmp_lt (tgt := 74) hX (D_Four_of (i := 30) rfl) (by decide) (fun h8' => ?_) (fun h8' => ?_)
        · refine z_iconst (v := -1) hX (D_Four_of (i := 43) rfl) (by decide) ?_
          refine z_iret hX hR (D_Four_of (i := 44) rfl) rfl (hno (Or.inr ⟨h6, h7, ?_⟩))
          have a1 := Int32.lt_iff_toInt_lt.mp h8'
          have a3 : (10 : Int32).toInt = 10 := rfl
          have a2 : ¬ inN (y - 10) 3 = true := fun w => by
            obtain ⟨j, hj, e⟩ := inN_ex w (by decide)
            have e2 : y = nI (10 + j) := by rw [← nI_add, ← e]; show y = 10 + (y - 10); rw [Int32.add_comm, Int32.sub_add_cancel]
            rw [e2, nI_toInt (by omega)] at a1
            omega
          simpa using a2
        · refine z_iload_n hX (D_Four_of (i := 31) rfl) rfl ?_
          refine z_bipush (v := 13) hX (D_Four_of (i := 32) rfl) (by decide) ?_
          refine z_icmp_ge (tgt := 74) hX (D_Four_of (i := 33) rfl) (by decide) (fun h9 => ?_) (fun h9 => ?_)
          · refine z_iconst (v := -1) hX (D_Four_of (i := 43) rfl) (by decide) ?_
            refine z_iret hX hR (D_Four_of (i := 44) rfl) rfl (hno (Or.inr ⟨h6, h7, ?_⟩))
            have a1 := Int32.le_iff_toInt_le.mp h9
            have a3 : (13 : Int32).toInt = 13 := rfl
            have a2 : ¬ inN (y - 10) 3 = true := fun w => by
              obtain ⟨j, hj, e⟩ := inN_ex w (by decide)
              have e2 : y = nI (10 + j) := by rw [← nI_add, ← e]; show y = 10 + (y - 10); rw [Int32.add_comm, Int32.sub_add_cancel]
              rw [e2, nI_toInt (by omega)] at a1
              omega
            simpa using a2
          · skip
            obtain ⟨i, hi, rfl⟩ : ∃ i : Nat, i < 3 ∧ y = nI (10 + i) := by
              have a1 := fun w => h8' (Int32.lt_iff_toInt_lt.mpr w)
              have a2 := fun w => h9 (Int32.le_iff_toInt_le.mpr w)
              have a3 : (13 : Int32).toInt = 13 := rfl
              have a4 : (10 : Int32).toInt = 10 := rfl
              rw [a4] at a1
              rw [a3] at a2
              have b1 : ¬ y.toInt < 10 := a1
              have b2 : ¬ 13 ≤ y.toInt := a2
              refine ⟨y.toInt.toNat - 10, by omega, Int32.toInt_inj.mp ?_⟩
              rw [nI_toInt (by omega)]
              omega
            obtain ⟨a, la, ea⟩ := hcol k hk8 (edN i) (ed_ok i hi).1
            obtain ⟨b, lb, eb⟩ := hcol k hk8 (opN (edN i)) (ed_ok i hi).2
            refine z_aload_n hX (D_Four_of (i := 34) rfl) rfl ?_
            refine z_getc hX (D_Four_of (i := 35) rfl) f_Four_11 rfl (by decide) (by first | exact Nat.one_pos | assumption | omega) rfl ?_
            refine z_iload_n hX (D_Four_of (i := 36) rfl) rfl ?_
            refine z_aldCubec (j := k) hX (D_Four_of (i := 37) rfl) rfl (by decide) (by first | exact Nat.one_pos | assumption | omega) (by decide) rfl hk8 ?_
            refine z_iload_n hX (D_Four_of (i := 38) rfl) rfl ?_
            refine z_bipush (v := 10) hX (D_Four_of (i := 39) rfl) (by decide) ?_
            refine z_isub hX (D_Four_of (i := 40) rfl) ?_
            rw [nlit, pk_sub (by omega), Nat.add_sub_cancel_left]
            refine z_cV1 hX (D_Four_of (i := 41) rfl) mi_Cube_line l_Four_116 rfl rfl (by decide) (by first | exact Nat.one_pos | assumption | omega) (by first | decide | omega) (Nat.le_of_ble_eq_true rfl) (c_Cube_line hH hk8 hi ea eb la lb ?_)
            exact z_iret hX hR (D_Four_of (i := 42) rfl) rfl (hl k i a b hk hi la lb rfl rfl ea eb)
      · refine z_aload_n hX (D_Four_of (i := 22) rfl) rfl ?_
        refine z_getc hX (D_Four_of (i := 23) rfl) f_Four_11 rfl (by decide) (by first | exact Nat.one_pos | assumption | omega) rfl ?_
        refine z_iload_n hX (D_Four_of (i := 24) rfl) rfl ?_
        refine z_aldCubec (j := k) hX (D_Four_of (i := 25) rfl) rfl (by decide) (by first | exact Nat.one_pos | assumption | omega) (by decide) rfl hk8 ?_
        refine z_geti hX (D_Four_of (i := 26) rfl) f_Four_113 rfl (by decide) (by first | exact Nat.one_pos | assumption | omega) rfl ?_
        exact z_iret hX hR (D_Four_of (i := 27) rfl) rfl (ht k hk rfl h7)
    refine z_iload_n hX (D_Four_of (i := 6) rfl) rfl ?_
    refine z_if_lt (tgt := 32) hX (D_Four_of (i := 7) rfl) (by decide) (fun h2 => ?_) (fun h2 => ?_)
    · skip
      exact two (inN_lo h2)
    · refine z_iload_n hX (D_Four_of (i := 8) rfl) rfl ?_
      refine z_bipush (v := 6) hX (D_Four_of (i := 9) rfl) (by decide) ?_
      refine z_icmp_ge (tgt := 32) hX (D_Four_of (i := 10) rfl) (by decide) (fun h3 => ?_) (fun h3 => ?_)
      · skip
        exact two (inN_hi (n := 6) h3 (by decide))
      · skip
        obtain ⟨f, hf6, rfl⟩ := inN_ex (inN_in (n := 6) h2 h3 (by decide)) (by omega)
        refine z_aload_n hX (D_Four_of (i := 11) rfl) rfl ?_
        refine z_getc hX (D_Four_of (i := 12) rfl) f_Four_11 rfl (by decide) (by first | exact Nat.one_pos | assumption | omega) rfl ?_
        refine z_iload_n hX (D_Four_of (i := 13) rfl) rfl ?_
        refine z_aldCubec (j := k) hX (D_Four_of (i := 14) rfl) rfl (by decide) (by first | exact Nat.one_pos | assumption | omega) (by decide) rfl hk8 ?_
        refine z_getc hX (D_Four_of (i := 15) rfl) f_Four_71 rfl (by decide) (by first | exact Nat.one_pos | assumption | omega) rfl ?_
        refine z_iload_n hX (D_Four_of (i := 16) rfl) rfl ?_
        refine z_iald (j := f) hX (D_Four_of (i := 17) rfl) rfl (by decide) (by first | exact Nat.one_pos | assumption | omega) (by decide) rfl hf6 ?_
        exact z_iret hX hR (D_Four_of (i := 18) rfl) rfl (hf k f hk hf6 rfl rfl)
  · refine z_iconst (v := -1) hX (D_Four_of (i := 4) rfl) (by decide) ?_
    exact z_iret hX hR (D_Four_of (i := 5) rfl) rfl (hno (Or.inl (bI_0.mp h1)))
theorem c_Four_alike (hH : zHas ι pX) (hs : mem.1 0 0 1 = nI sz) (h8 : sz ≤ 8) (hno : (x < 0 ∨ ∃ j : Nat, j < 2 ^ 31 ∧ x = nI j ∧ (sz ≤ j / 10 ∨ sz ≤ j % 10)) → Post (some (zI (-1))) mem) (hok : ∀ a b, a < sz → b < sz → b < 10 → x = nI (10 * a + b) → Post (some (zI (if exI (fun t => alI (lkC mem a b t false) 6) 24 = true then 1 else if exI (fun t => alI (lkC mem a b t true) 6) 24 = true then 2 else 0))) mem) : zC l ι M_Four_alike 2 [zP 0 0, zI x] mem Post := by
  refine z_enter hH (by decide) (by simp [z_ent, M_Four_alike]) (fun X hXl hX hR => ?_)
  refine z_iload_n hX (D_Four_alike (i := 0) rfl) rfl ?_
  refine z_if_lt (tgt := 26) hX (D_Four_alike (i := 1) rfl) (by decide) (fun h1 => ?_) (fun h1 => ?_)
  · refine z_iconst (v := -1) hX (D_Four_alike (i := 14) rfl) (by decide) ?_
    exact z_iret hX hR (D_Four_alike (i := 15) rfl) rfl (hno (Or.inl h1))
  · skip
    obtain ⟨j, hj, rfl⟩ := nI_of h1
    refine z_aload_n hX (D_Four_alike (i := 2) rfl) rfl ?_
    refine z_iload_n hX (D_Four_alike (i := 3) rfl) rfl ?_
    refine z_bipush (v := 10) hX (D_Four_alike (i := 4) rfl) (by decide) ?_
    refine z_idiv hX (D_Four_alike (i := 5) rfl) (by decide) ?_
    rw [nlit, pk_div hj (by decide) (by decide)]
    refine z_cV1 hX (D_Four_alike (i := 6) rfl) mi_Four_isCube l_Four_110 rfl rfl (by decide) (by first | exact Nat.one_pos | assumption | omega) (by first | decide | omega) (Nat.le_of_ble_eq_true rfl) (c_Four_isCube hH hs h8 ?_)
    rw [inN_nI' (by omega)]
    refine z_if_eq (tgt := 26) hX (D_Four_alike (i := 7) rfl) (by decide) (fun h2 => ?_) (fun h2 => ?_)
    · refine z_iconst (v := -1) hX (D_Four_alike (i := 14) rfl) (by decide) ?_
      exact z_iret hX hR (D_Four_alike (i := 15) rfl) rfl (hno (Or.inr ⟨j, hj, rfl, Or.inl (by have := of_decide_eq_false (bI_0.mp h2); omega)⟩))
    · refine z_aload_n hX (D_Four_alike (i := 8) rfl) rfl ?_
      refine z_iload_n hX (D_Four_alike (i := 9) rfl) rfl ?_
      refine z_bipush (v := 10) hX (D_Four_alike (i := 10) rfl) (by decide) ?_
      refine z_irem hX (D_Four_alike (i := 11) rfl) (by decide) ?_
      rw [nlit, pk_rem hj (by decide) (by decide)]
      refine z_cV1 hX (D_Four_alike (i := 12) rfl) mi_Four_isCube l_Four_110 rfl rfl (by decide) (by first | exact Nat.one_pos | assumption | omega) (by first | decide | omega) (Nat.le_of_ble_eq_true rfl) (c_Four_isCube hH hs h8 ?_)
      rw [inN_nI' (by omega)]
      have a1 := of_decide_eq_true (bI_n.mp h2)
      refine z_if_ne (tgt := 28) hX (D_Four_alike (i := 13) rfl) (by decide) (fun h3 => ?_) (fun h3 => ?_)
      · skip
        have a2 := of_decide_eq_true (bI_n.mp h3)
        have hA : j / 10 < 8 := by omega
        have hB : j % 10 < 8 := by omega
        have hh := hok (j / 10) (j % 10) a1 a2 (by omega) (by rw [Nat.div_add_mod])
        refine z_aload_n hX (D_Four_alike (i := 16) rfl) rfl ?_
        refine z_getc hX (D_Four_alike (i := 17) rfl) f_Four_11 rfl (by decide) (by first | exact Nat.one_pos | assumption | omega) rfl ?_
        refine z_iload_n hX (D_Four_alike (i := 18) rfl) rfl ?_
        refine z_bipush (v := 10) hX (D_Four_alike (i := 19) rfl) (by decide) ?_
        refine z_idiv hX (D_Four_alike (i := 20) rfl) (by decide) ?_
        rw [nlit, pk_div hj (by decide) (by decide)]
        refine z_aldCubec (j := j / 10) hX (D_Four_alike (i := 21) rfl) rfl (by decide) (by first | exact Nat.one_pos | assumption | omega) (by decide) rfl hA ?_
        refine z_astore_n hX (D_Four_alike (i := 22) rfl) (by decide) rfl ?_
        refine z_aload_n hX (D_Four_alike (i := 23) rfl) rfl ?_
        refine z_getc hX (D_Four_alike (i := 24) rfl) f_Four_11 rfl (by decide) (by first | exact Nat.one_pos | assumption | omega) rfl ?_
        refine z_iload_n hX (D_Four_alike (i := 25) rfl) rfl ?_
        refine z_bipush (v := 10) hX (D_Four_alike (i := 26) rfl) (by decide) ?_
        refine z_irem hX (D_Four_alike (i := 27) rfl) (by decide) ?_
        rw [nlit, pk_rem hj (by decide) (by decide)]
        refine z_aldCubec (j := j % 10) hX (D_Four_alike (i := 28) rfl) rfl (by decide) (by first | exact Nat.one_pos | assumption | omega) (by decide) rfl hB ?_
        refine z_astore_n hX (D_Four_alike (i := 29) rfl) (by decide) rfl ?_
        refine z_aload_n hX (D_Four_alike (i := 30) rfl) rfl ?_
        refine z_aload_n hX (D_Four_alike (i := 31) rfl) rfl ?_
        refine z_iconst (v := 0) hX (D_Four_alike (i := 32) rfl) (by decide) ?_
        refine z_cV2 hX (D_Four_alike (i := 33) rfl) mi_Cube_turnsInto l_Four_207 rfl rfl (by decide) (by first | exact Nat.one_pos | assumption | omega) (by first | decide | omega) (Nat.le_of_ble_eq_true rfl) (c_Cube_turnsInto (g := false) hH hA hB ?_)
        refine z_if_eq (tgt := 59) hX (D_Four_alike (i := 34) rfl) (by decide) (fun h4 => ?_) (fun h4 => ?_)
        · refine z_aload_n hX (D_Four_alike (i := 37) rfl) rfl ?_
          refine z_aload_n hX (D_Four_alike (i := 38) rfl) rfl ?_
          refine z_iconst (v := 1) hX (D_Four_alike (i := 39) rfl) (by decide) ?_
          rw [bI_0.mp h4] at hh
          refine z_cV2 hX (D_Four_alike (i := 40) rfl) mi_Cube_turnsInto l_Four_207 rfl rfl (by decide) (by first | exact Nat.one_pos | assumption | omega) (by first | decide | omega) (Nat.le_of_ble_eq_true rfl) (c_Cube_turnsInto (g := true) hH hA hB ?_)
          refine z_if_eq (tgt := 72) hX (D_Four_alike (i := 41) rfl) (by decide) (fun h5 => ?_) (fun h5 => ?_)
          · refine z_iconst (v := 0) hX (D_Four_alike (i := 44) rfl) (by decide) ?_
            rw [bI_0.mp h5] at hh
            exact z_iret hX hR (D_Four_alike (i := 45) rfl) rfl hh
          · refine z_iconst (v := 2) hX (D_Four_alike (i := 42) rfl) (by decide) ?_
            refine z_goto (tgt := 73) hX (D_Four_alike (i := 43) rfl) (by decide) ?_
            rw [bI_n.mp h5] at hh
            exact z_iret hX hR (D_Four_alike (i := 45) rfl) rfl hh
        · refine z_iconst (v := 1) hX (D_Four_alike (i := 35) rfl) (by decide) ?_
          rw [bI_n.mp h4] at hh
          exact z_iret hX hR (D_Four_alike (i := 36) rfl) rfl hh
      · refine z_iconst (v := -1) hX (D_Four_alike (i := 14) rfl) (by decide) ?_
        exact z_iret hX hR (D_Four_alike (i := 15) rfl) rfl (hno (Or.inr ⟨j, hj, rfl, Or.inr (by have := of_decide_eq_false (bI_0.mp h3); omega)⟩))
theorem c_Four_great (hH : zHas ι pX) (hs : mem.1 0 0 1 = nI sz) (h8 : sz ≤ 8) (hno : inN x 6 = false → Post (some (zI (-1))) mem) (hok : inN x 6 = true → Post (some (zI (mkI (fun k => alI (crC mem k x) 3) sz))) mem) : zC l ι M_Four_great 2 [zP 0 0, zI x] mem Post := by
  refine z_enter hH (by decide) (by simp [z_ent, M_Four_great]) (fun X hXl hX hR => ?_)
  refine z_iload_n hX (D_Four_great (i := 0) rfl) rfl ?_
  refine z_if_lt (tgt := 10) hX (D_Four_great (i := 1) rfl) (by decide) (fun h1 => ?_) (fun h1 => ?_)
  · refine z_iconst (v := -1) hX (D_Four_great (i := 5) rfl) (by decide) ?_
    exact z_iret hX hR (D_Four_great (i := 6) rfl) rfl (hno (inN_lo h1))
  · refine z_iload_n hX (D_Four_great (i := 2) rfl) rfl ?_
    refine z_bipush (v := 6) hX (D_Four_great (i := 3) rfl) (by decide) ?_
    refine z_icmp_lt (tgt := 12) hX (D_Four_great (i := 4) rfl) (by decide) (fun h2 => ?_) (fun h2 => ?_)
    · skip
      have hh := hok (inN_in (n := 6) h1 (ltT.mp h2) (by decide))
      refine z_iconst (v := 0) hX (D_Four_great (i := 7) rfl) (by decide) ?_
      refine z_istore_n hX (D_Four_great (i := 8) rfl) (by decide) rfl ?_
      refine z_iconst (v := 0) hX (D_Four_great (i := 9) rfl) (by decide) ?_
      refine z_istore_n hX (D_Four_great (i := 10) rfl) (by decide) rfl ?_
      suffices H : ∀ (d i : Nat), i + d = sz → zW ι M_Four_great X 16 [some (zP 0 0), some (zI x), some (zI (mkI (fun k => alI (crC mem k x) 3) i)), some (zI (nI i))] [] mem from H sz 0 (by omega)
      intro d
      induction d with
      | zero =>
        intro i hi
        obtain rfl : i = sz := by omega
        refine z_iload_n hX (D_Four_great (i := 11) rfl) rfl ?_
        refine z_aload_n hX (D_Four_great (i := 12) rfl) rfl ?_
        refine z_geti hX (D_Four_great (i := 13) rfl) f_Four_67 rfl (by decide) (by first | exact Nat.one_pos | assumption | omega) rfl ?_
        rw [hs]
        refine z_icmp_ge (tgt := 49) hX (D_Four_great (i := 14) rfl) (by decide) (fun _ => ?_) (fun hcc => absurd (Int32.le_refl _) hcc)
        refine z_iload_n hX (D_Four_great (i := 30) rfl) rfl ?_
        exact z_iret hX hR (D_Four_great (i := 31) rfl) rfl hh
      | succ d ih =>
        intro i hi
        have hi8 : i < 8 := by omega
        refine z_iload_n hX (D_Four_great (i := 11) rfl) rfl ?_
        refine z_aload_n hX (D_Four_great (i := 12) rfl) rfl ?_
        refine z_geti hX (D_Four_great (i := 13) rfl) f_Four_67 rfl (by decide) (by first | exact Nat.one_pos | assumption | omega) rfl ?_
        rw [hs]
        refine z_icmp_ge (tgt := 49) hX (D_Four_great (i := 14) rfl) (by decide) (fun hcc => absurd hcc (nI_ge (by omega) (by omega))) (fun _ => ?_)
        refine z_aload_n hX (D_Four_great (i := 15) rfl) rfl ?_
        refine z_getc hX (D_Four_great (i := 16) rfl) f_Four_11 rfl (by decide) (by first | exact Nat.one_pos | assumption | omega) rfl ?_
        refine z_iload_n hX (D_Four_great (i := 17) rfl) rfl ?_
        refine z_aldCubec (j := i) hX (D_Four_great (i := 18) rfl) rfl (by decide) (by first | exact Nat.one_pos | assumption | omega) (by decide) rfl hi8 ?_
        refine z_iload_n hX (D_Four_great (i := 19) rfl) rfl ?_
        refine z_cV1 hX (D_Four_great (i := 20) rfl) mi_Cube_hasCornerOf l_Four_231 rfl rfl (by decide) (by first | exact Nat.one_pos | assumption | omega) (by first | decide | omega) (Nat.le_of_ble_eq_true rfl) (c_Cube_hasCornerOf hH hi8 ?_)
        refine z_if_eq (tgt := 43) hX (D_Four_great (i := 21) rfl) (by decide) (fun h3 => ?_) (fun h3 => ?_)
        · first | refine z_inc1 hX (D_Four_great (i := 28) rfl) rfl (by decide) rfl ?_ | refine z_iinc hX (D_Four_great (i := 28) rfl) rfl rfl (by decide) rfl ?_
          refine z_goto (tgt := 16) hX (D_Four_great (i := 29) rfl) (by decide) ?_
          have e : mkI (fun k => alI (crC mem k x) 3) (i + 1) = mkI (fun k => alI (crC mem k x) 3) i := by
            rw [mkI, if_neg]
            rw [bI_0.mp h3]; decide
          rw [← e]
          exact ih (i + 1) (by omega)
        · refine z_iload_n hX (D_Four_great (i := 22) rfl) rfl ?_
          refine z_iconst (v := 1) hX (D_Four_great (i := 23) rfl) (by decide) ?_
          refine z_iload_n hX (D_Four_great (i := 24) rfl) rfl ?_
          refine z_ishl hX (D_Four_great (i := 25) rfl) ?_
          refine z_ior hX (D_Four_great (i := 26) rfl) ?_
          refine z_istore_n hX (D_Four_great (i := 27) rfl) (by decide) rfl ?_
          first | refine z_inc1 hX (D_Four_great (i := 28) rfl) rfl (by decide) rfl ?_ | refine z_iinc hX (D_Four_great (i := 28) rfl) rfl rfl (by decide) rfl ?_
          refine z_goto (tgt := 16) hX (D_Four_great (i := 29) rfl) (by decide) ?_
          have e : mkI (fun k => alI (crC mem k x) 3) (i + 1) = mkI (fun k => alI (crC mem k x) 3) i ||| ((1 : Int32) <<< (nI i &&& 31)) := by
            rw [mkI, if_pos (bI_n.mp h3)]
          rw [← e]
          exact ih (i + 1) (by omega)
    · refine z_iconst (v := -1) hX (D_Four_great (i := 5) rfl) (by decide) ?_
      exact z_iret hX hR (D_Four_great (i := 6) rfl) rfl (hno (inN_hi (n := 6) (Int32.not_lt.mp h2) (by decide)))
end F5
