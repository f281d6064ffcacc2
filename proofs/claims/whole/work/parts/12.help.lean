/-! numbers that may be; helpers of the class -/
def inN (x : Int32) (n : Nat) : Bool := decide (0 ≤ x.toInt ∧ x.toInt < n)
theorem i32_0 : (0 : Int32).toInt = 0 := rfl
theorem inN_lo {x : Int32} {n : Nat} (h : x < 0) : inN x n = false := by
  have := Int32.lt_iff_toInt_lt.mp h
  rw [i32_0] at this
  exact decide_eq_false (by omega)
theorem inN_hi {x : Int32} {n : Nat} (h : nI n ≤ x) (hn : n < 2 ^ 31) : inN x n = false := by
  have := Int32.le_iff_toInt_le.mp h
  rw [nI_toInt hn] at this
  exact decide_eq_false (by omega)
theorem inN_in {x : Int32} {n : Nat} (h1 : ¬ x < 0) (h2 : ¬ nI n ≤ x) (hn : n < 2 ^ 31) : inN x n = true := by
  have e1 : ¬ x.toInt < (0 : Int32).toInt := fun z => h1 (Int32.lt_iff_toInt_lt.mpr z)
  have e2 : ¬ (nI n).toInt ≤ x.toInt := fun z => h2 (Int32.le_iff_toInt_le.mpr z)
  rw [i32_0] at e1
  rw [nI_toInt hn] at e2
  exact decide_eq_true (by omega)
theorem inN_ex {x : Int32} {n : Nat} (h : inN x n = true) (hn : n < 2 ^ 31) : ∃ j : Nat, j < n ∧ x = nI j := by
  have h := of_decide_eq_true h
  refine ⟨x.toInt.toNat, by omega, Int32.toInt_inj.mp ?_⟩
  rw [nI_toInt (by omega)]
  omega
theorem inN_nI {j n : Nat} (h : j < n) (hn : n < 2 ^ 31) : inN (nI j) n = true := by
  unfold inN
  rw [nI_toInt (by omega)]
  exact decide_eq_true (by omega)
theorem inN_nI' {j n : Nat} (hj : j < 2 ^ 31) : inN (nI j) n = decide (j < n) := by
  unfold inN
  rw [nI_toInt hj]
  by_cases h : j < n
  · rw [decide_eq_true h]; exact decide_eq_true (by omega)
  · rw [decide_eq_false h]; exact decide_eq_false (by omega)
def fcB (x : Int32) (n : Nat) : Bool := decide (0 ≤ x.toInt ∧ x.toInt.toNat / 10 < n ∧ x.toInt.toNat % 10 < 6)
theorem fcB_lo {x : Int32} {n : Nat} (h : x < 0) : fcB x n = false := by
  have := Int32.lt_iff_toInt_lt.mp h
  rw [i32_0] at this
  exact decide_eq_false (by omega)
theorem fcB_nI {j n : Nat} (hj : j < 2 ^ 31) : fcB (nI j) n = (decide (j / 10 < n) && decide (j % 10 < 6)) := by
  unfold fcB
  rw [nI_toInt hj, ← Bool.decide_and]
  exact decide_eq_decide.mpr (by simp)
theorem fcB_ex {x : Int32} {n : Nat} (h : fcB x n = true) : ∃ k f : Nat, k < n ∧ f < 6 ∧ x = nI (10 * k + f) := by
  have h := of_decide_eq_true h
  refine ⟨x.toInt.toNat / 10, x.toInt.toNat % 10, h.2.1, h.2.2, ?_⟩
  rw [Nat.div_add_mod]
  refine Int32.toInt_inj.mp ?_
  rw [nI_toInt (by have := x.toInt_lt; omega)]
  omega
theorem sh8 : ∀ n, n ≤ 8 → (1 : Int32) <<< (nI n &&& 31) = nI (2 ^ n) := by decide +kernel
theorem sh24 : ∀ n, n < 24 → (1 : Int32) <<< (nI n &&& 31) = nI (2 ^ n) := by decide +kernel
theorem p8 : ∀ n, n ≤ 8 → 2 ^ n ≤ 256 := by decide
def digB (j i : Nat) : Bool := decide (1 ≤ j / 10 ^ i % 10 ∧ j / 10 ^ i % 10 ≤ 7)
def sixB (x : Int32) : Bool := decide (111111 ≤ x.toInt ∧ x.toInt ≤ 777777) && alI (digB x.toInt.toNat) 6
section F1
variable {l : Launch} {ι : zE} {mem : zM} {Post : Option zV → zM → Prop} {x y : Int32}
theorem c_Four_isCube (hH : zHas ι pX) {sz : Nat} (hs : mem.1 0 0 1 = nI sz) (h8 : sz ≤ 8) (h : Post (some (zI (bI (inN x sz)))) mem) : zC l ι M_Four_isCube 0 [zP 0 0, zI x] mem Post := by
  refine z_enter hH (by decide) (by simp [z_ent, M_Four_isCube]) (fun X hXl hX hR => ?_)
  refine z_iload_n hX (D_Four_isCube (i := 0) rfl) rfl ?_
  refine z_if_lt (tgt := 16) hX (D_Four_isCube (i := 1) rfl) (by decide) (fun h1 => ?_) (fun h1 => ?_)
  · refine z_iconst (v := 0) hX (D_Four_isCube (i := 8) rfl) (by decide) ?_
    rw [inN_lo h1] at h
    exact z_zret hX hR (D_Four_isCube (i := 9) rfl) rfl (by first | exact Or.inl rfl | exact Or.inr rfl | assumption) (by assumption)
  · refine z_iload_n hX (D_Four_isCube (i := 2) rfl) rfl ?_
    refine z_aload_n hX (D_Four_isCube (i := 3) rfl) rfl ?_
    refine z_geti hX (D_Four_isCube (i := 4) rfl) f_Four_67 rfl (by decide) (by first | exact Nat.one_pos | assumption | omega) rfl ?_
    rw [hs]
    refine z_icmp_ge (tgt := 16) hX (D_Four_isCube (i := 5) rfl) (by decide) (fun h2 => ?_) (fun h2 => ?_)
    · refine z_iconst (v := 0) hX (D_Four_isCube (i := 8) rfl) (by decide) ?_
      rw [inN_hi h2 (by omega)] at h
      exact z_zret hX hR (D_Four_isCube (i := 9) rfl) rfl (by first | exact Or.inl rfl | exact Or.inr rfl | assumption) (by assumption)
    · refine z_iconst (v := 1) hX (D_Four_isCube (i := 6) rfl) (by decide) ?_
      refine z_goto (tgt := 17) hX (D_Four_isCube (i := 7) rfl) (by decide) ?_
      rw [inN_in h1 h2 (by omega)] at h
      exact z_zret hX hR (D_Four_isCube (i := 9) rfl) rfl (by first | exact Or.inl rfl | exact Or.inr rfl | assumption) (by assumption)
theorem c_Four_isFace (hH : zHas ι pX) {sz : Nat} (hs : mem.1 0 0 1 = nI sz) (h8 : sz ≤ 8) (h : Post (some (zI (bI (fcB x sz)))) mem) : zC l ι M_Four_isFace 1 [zP 0 0, zI x] mem Post := by
  refine z_enter hH (by decide) (by simp [z_ent, M_Four_isFace]) (fun X hXl hX hR => ?_)
  refine z_iload_n hX (D_Four_isFace (i := 0) rfl) rfl ?_
  refine z_if_lt (tgt := 28) hX (D_Four_isFace (i := 1) rfl) (by decide) (fun h1 => ?_) (fun h1 => ?_)
  · refine z_iconst (v := 0) hX (D_Four_isFace (i := 15) rfl) (by decide) ?_
    rw [fcB_lo h1] at h
    exact z_zret hX hR (D_Four_isFace (i := 16) rfl) rfl (by first | exact Or.inl rfl | exact Or.inr rfl | assumption) (by assumption)
  · skip
    obtain ⟨j, hj, rfl⟩ := nI_of h1
    rw [fcB_nI hj] at h
    refine z_aload_n hX (D_Four_isFace (i := 2) rfl) rfl ?_
    refine z_iload_n hX (D_Four_isFace (i := 3) rfl) rfl ?_
    refine z_bipush (v := 10) hX (D_Four_isFace (i := 4) rfl) (by decide) ?_
    refine z_idiv hX (D_Four_isFace (i := 5) rfl) (by decide) ?_
    rw [nlit, pk_div hj (by decide) (by decide)]
    refine z_cV1 hX (D_Four_isFace (i := 6) rfl) mi_Four_isCube l_Four_110 rfl rfl (by decide) (by first | exact Nat.one_pos | assumption | omega) (by first | decide | omega) (Nat.le_of_ble_eq_true rfl) (c_Four_isCube hH hs h8 ?_)
    rw [inN_nI' (by omega)]
    refine z_if_eq (tgt := 28) hX (D_Four_isFace (i := 7) rfl) (by decide) (fun h2 => ?_) (fun h2 => ?_)
    · refine z_iconst (v := 0) hX (D_Four_isFace (i := 15) rfl) (by decide) ?_
      rw [bI_0.mp h2] at h
      exact z_zret hX hR (D_Four_isFace (i := 16) rfl) rfl (by first | exact Or.inl rfl | exact Or.inr rfl | assumption) (by assumption)
    · refine z_iload_n hX (D_Four_isFace (i := 8) rfl) rfl ?_
      refine z_bipush (v := 10) hX (D_Four_isFace (i := 9) rfl) (by decide) ?_
      refine z_irem hX (D_Four_isFace (i := 10) rfl) (by decide) ?_
      rw [nlit, pk_rem hj (by decide) (by decide)]
      refine z_bipush (v := 6) hX (D_Four_isFace (i := 11) rfl) (by decide) ?_
      rw [bI_n.mp h2] at h
      refine z_icmp_ge (tgt := 28) hX (D_Four_isFace (i := 12) rfl) (by decide) (fun h3 => ?_) (fun h3 => ?_)
      · refine z_iconst (v := 0) hX (D_Four_isFace (i := 15) rfl) (by decide) ?_
        rw [decide_eq_false (Nat.not_lt.mpr ((nI_leI (a := 6) (by decide) (by omega)).mp h3))] at h
        exact z_zret hX hR (D_Four_isFace (i := 16) rfl) rfl (by first | exact Or.inl rfl | exact Or.inr rfl | assumption) (by assumption)
      · refine z_iconst (v := 1) hX (D_Four_isFace (i := 13) rfl) (by decide) ?_
        refine z_goto (tgt := 29) hX (D_Four_isFace (i := 14) rfl) (by decide) ?_
        rw [decide_eq_true (Nat.not_le.mp (fun z => h3 ((nI_leI (a := 6) (by decide) (by omega)).mpr z)))] at h
        exact z_zret hX hR (D_Four_isFace (i := 16) rfl) rfl (by first | exact Or.inl rfl | exact Or.inr rfl | assumption) (by assumption)
theorem c_Four_areCubes (hH : zHas ι pX) {sz : Nat} (hs : mem.1 0 0 1 = nI sz) (h8 : sz ≤ 8) (h : Post (some (zI (bI (inN x (2 ^ sz))))) mem) : zC l ι M_Four_areCubes 0 [zP 0 0, zI x] mem Post := by
  have h9 := p8 sz h8
  refine z_enter hH (by decide) (by simp [z_ent, M_Four_areCubes]) (fun X hXl hX hR => ?_)
  refine z_iload_n hX (D_Four_areCubes (i := 0) rfl) rfl ?_
  refine z_if_lt (tgt := 18) hX (D_Four_areCubes (i := 1) rfl) (by decide) (fun h1 => ?_) (fun h1 => ?_)
  · refine z_iconst (v := 0) hX (D_Four_areCubes (i := 10) rfl) (by decide) ?_
    rw [inN_lo h1] at h
    exact z_zret hX hR (D_Four_areCubes (i := 11) rfl) rfl (by first | exact Or.inl rfl | exact Or.inr rfl | assumption) (by assumption)
  · refine z_iload_n hX (D_Four_areCubes (i := 2) rfl) rfl ?_
    refine z_iconst (v := 1) hX (D_Four_areCubes (i := 3) rfl) (by decide) ?_
    refine z_aload_n hX (D_Four_areCubes (i := 4) rfl) rfl ?_
    refine z_geti hX (D_Four_areCubes (i := 5) rfl) f_Four_67 rfl (by decide) (by first | exact Nat.one_pos | assumption | omega) rfl ?_
    refine z_ishl hX (D_Four_areCubes (i := 6) rfl) ?_
    rw [hs, sh8 sz h8]
    refine z_icmp_ge (tgt := 18) hX (D_Four_areCubes (i := 7) rfl) (by decide) (fun h2 => ?_) (fun h2 => ?_)
    · refine z_iconst (v := 0) hX (D_Four_areCubes (i := 10) rfl) (by decide) ?_
      rw [inN_hi h2 (by omega)] at h
      exact z_zret hX hR (D_Four_areCubes (i := 11) rfl) rfl (by first | exact Or.inl rfl | exact Or.inr rfl | assumption) (by assumption)
    · refine z_iconst (v := 1) hX (D_Four_areCubes (i := 8) rfl) (by decide) ?_
      refine z_goto (tgt := 19) hX (D_Four_areCubes (i := 9) rfl) (by decide) ?_
      rw [inN_in h1 h2 (by omega)] at h
      exact z_zret hX hR (D_Four_areCubes (i := 11) rfl) rfl (by first | exact Or.inl rfl | exact Or.inr rfl | assumption) (by assumption)
theorem c_Four_isShelf (h : Post (some (zI (bI (inN x 6)))) mem) : zC l ι M_Four_isShelf 0 [zI x] mem Post := by
  have hH : zHas ι [] := zHas.nil
  refine z_enter hH (by decide) (by simp [z_ent, M_Four_isShelf]) (fun X hXl hX hR => ?_)
  refine z_iload_n hX (D_Four_isShelf (i := 0) rfl) rfl ?_
  refine z_if_lt (tgt := 14) hX (D_Four_isShelf (i := 1) rfl) (by decide) (fun h1 => ?_) (fun h1 => ?_)
  · refine z_iconst (v := 0) hX (D_Four_isShelf (i := 7) rfl) (by decide) ?_
    rw [inN_lo h1] at h
    exact z_zret hX hR (D_Four_isShelf (i := 8) rfl) rfl (by first | exact Or.inl rfl | exact Or.inr rfl | assumption) (by assumption)
  · refine z_iload_n hX (D_Four_isShelf (i := 2) rfl) rfl ?_
    refine z_bipush (v := 6) hX (D_Four_isShelf (i := 3) rfl) (by decide) ?_
    refine z_icmp_ge (tgt := 14) hX (D_Four_isShelf (i := 4) rfl) (by decide) (fun h2 => ?_) (fun h2 => ?_)
    · refine z_iconst (v := 0) hX (D_Four_isShelf (i := 7) rfl) (by decide) ?_
      rw [inN_hi (n := 6) h2 (by decide)] at h
      exact z_zret hX hR (D_Four_isShelf (i := 8) rfl) rfl (by first | exact Or.inl rfl | exact Or.inr rfl | assumption) (by assumption)
    · refine z_iconst (v := 1) hX (D_Four_isShelf (i := 5) rfl) (by decide) ?_
      refine z_goto (tgt := 15) hX (D_Four_isShelf (i := 6) rfl) (by decide) ?_
      rw [inN_in (n := 6) h1 h2 (by decide)] at h
      exact z_zret hX hR (D_Four_isShelf (i := 8) rfl) rfl (by first | exact Or.inl rfl | exact Or.inr rfl | assumption) (by assumption)
theorem c_Four_isTurning (h : Post (some (zI (bI (inN x 24)))) mem) : zC l ι M_Four_isTurning 0 [zI x] mem Post := by
  have hH : zHas ι [] := zHas.nil
  refine z_enter hH (by decide) (by simp [z_ent, M_Four_isTurning]) (fun X hXl hX hR => ?_)
  refine z_iload_n hX (D_Four_isTurning (i := 0) rfl) rfl ?_
  refine z_if_lt (tgt := 14) hX (D_Four_isTurning (i := 1) rfl) (by decide) (fun h1 => ?_) (fun h1 => ?_)
  · refine z_iconst (v := 0) hX (D_Four_isTurning (i := 7) rfl) (by decide) ?_
    rw [inN_lo h1] at h
    exact z_zret hX hR (D_Four_isTurning (i := 8) rfl) rfl (by first | exact Or.inl rfl | exact Or.inr rfl | assumption) (by assumption)
  · refine z_iload_n hX (D_Four_isTurning (i := 2) rfl) rfl ?_
    refine z_bipush (v := 24) hX (D_Four_isTurning (i := 3) rfl) (by decide) ?_
    refine z_icmp_ge (tgt := 14) hX (D_Four_isTurning (i := 4) rfl) (by decide) (fun h2 => ?_) (fun h2 => ?_)
    · refine z_iconst (v := 0) hX (D_Four_isTurning (i := 7) rfl) (by decide) ?_
      rw [inN_hi (n := 24) h2 (by decide)] at h
      exact z_zret hX hR (D_Four_isTurning (i := 8) rfl) rfl (by first | exact Or.inl rfl | exact Or.inr rfl | assumption) (by assumption)
    · refine z_iconst (v := 1) hX (D_Four_isTurning (i := 5) rfl) (by decide) ?_
      refine z_goto (tgt := 15) hX (D_Four_isTurning (i := 6) rfl) (by decide) ?_
      rw [inN_in (n := 24) h1 h2 (by decide)] at h
      exact z_zret hX hR (D_Four_isTurning (i := 8) rfl) rfl (by first | exact Or.inl rfl | exact Or.inr rfl | assumption) (by assumption)
theorem c_Four_isKind (h : Post (some (zI (bI (inN x 8)))) mem) : zC l ι M_Four_isKind 0 [zI x] mem Post := by
  have hH : zHas ι [] := zHas.nil
  refine z_enter hH (by decide) (by simp [z_ent, M_Four_isKind]) (fun X hXl hX hR => ?_)
  refine z_iload_n hX (D_Four_isKind (i := 0) rfl) rfl ?_
  refine z_if_lt (tgt := 14) hX (D_Four_isKind (i := 1) rfl) (by decide) (fun h1 => ?_) (fun h1 => ?_)
  · refine z_iconst (v := 0) hX (D_Four_isKind (i := 7) rfl) (by decide) ?_
    rw [inN_lo h1] at h
    exact z_zret hX hR (D_Four_isKind (i := 8) rfl) rfl (by first | exact Or.inl rfl | exact Or.inr rfl | assumption) (by assumption)
  · refine z_iload_n hX (D_Four_isKind (i := 2) rfl) rfl ?_
    refine z_bipush (v := 8) hX (D_Four_isKind (i := 3) rfl) (by decide) ?_
    refine z_icmp_ge (tgt := 14) hX (D_Four_isKind (i := 4) rfl) (by decide) (fun h2 => ?_) (fun h2 => ?_)
    · refine z_iconst (v := 0) hX (D_Four_isKind (i := 7) rfl) (by decide) ?_
      rw [inN_hi (n := 8) h2 (by decide)] at h
      exact z_zret hX hR (D_Four_isKind (i := 8) rfl) rfl (by first | exact Or.inl rfl | exact Or.inr rfl | assumption) (by assumption)
    · refine z_iconst (v := 1) hX (D_Four_isKind (i := 5) rfl) (by decide) ?_
      refine z_goto (tgt := 15) hX (D_Four_isKind (i := 6) rfl) (by decide) ?_
      rw [inN_in (n := 8) h1 h2 (by decide)] at h
      exact z_zret hX hR (D_Four_isKind (i := 8) rfl) rfl (by first | exact Or.inl rfl | exact Or.inr rfl | assumption) (by assumption)
theorem c_Four_colourAt (hH : zHas ι pX) {k f : Nat} (hk : k < 8) (hf : f < 6) (h : Post (some (zI (mem.1 3 k f))) mem) : zC l ι M_Four_colourAt 0 [zP 0 0, zI (nI (10 * k + f))] mem Post := by
  have e1 : (10 * k + f) / 10 = k := by omega
  have e2 : (10 * k + f) % 10 = f := by omega
  refine z_enter hH (by decide) (by simp [z_ent, M_Four_colourAt]) (fun X hXl hX hR => ?_)
  refine z_aload_n hX (D_Four_colourAt (i := 0) rfl) rfl ?_
  refine z_getc hX (D_Four_colourAt (i := 1) rfl) f_Four_11 rfl (by decide) (by first | exact Nat.one_pos | assumption | omega) rfl ?_
  refine z_iload_n hX (D_Four_colourAt (i := 2) rfl) rfl ?_
  refine z_bipush (v := 10) hX (D_Four_colourAt (i := 3) rfl) (by decide) ?_
  refine z_idiv hX (D_Four_colourAt (i := 4) rfl) (by decide) ?_
  rw [nlit, pk_div (by omega) (by decide) (by decide), e1]
  refine z_aldCubec (j := k) hX (D_Four_colourAt (i := 5) rfl) rfl (by decide) (by first | exact Nat.one_pos | assumption | omega) (by decide) rfl hk ?_
  refine z_getc hX (D_Four_colourAt (i := 6) rfl) f_Four_71 rfl (by decide) (by first | exact Nat.one_pos | assumption | omega) rfl ?_
  refine z_iload_n hX (D_Four_colourAt (i := 7) rfl) rfl ?_
  refine z_bipush (v := 10) hX (D_Four_colourAt (i := 8) rfl) (by decide) ?_
  refine z_irem hX (D_Four_colourAt (i := 9) rfl) (by decide) ?_
  rw [nlit, pk_rem (by omega) (by decide) (by decide), e2]
  refine z_iald (j := f) hX (D_Four_colourAt (i := 10) rfl) rfl (by decide) (by first | exact Nat.one_pos | assumption | omega) (by decide) rfl hf ?_
  exact z_iret hX hR (D_Four_colourAt (i := 11) rfl) rfl h
theorem c_Four_setColour (hH : zHas ι pX) {k f : Nat} {c : Int32} (hk : k < 8) (hf : f < 6) (h : Post none (upI mem 3 k f c)) : zC l ι M_Four_setColour 0 [zP 0 0, zI (nI (10 * k + f)), zI c] mem Post := by
  have e1 : (10 * k + f) / 10 = k := by omega
  have e2 : (10 * k + f) % 10 = f := by omega
  refine z_enter hH (by decide) (by simp [z_ent, M_Four_setColour]) (fun X hXl hX hR => ?_)
  refine z_aload_n hX (D_Four_setColour (i := 0) rfl) rfl ?_
  refine z_getc hX (D_Four_setColour (i := 1) rfl) f_Four_11 rfl (by decide) (by first | exact Nat.one_pos | assumption | omega) rfl ?_
  refine z_iload_n hX (D_Four_setColour (i := 2) rfl) rfl ?_
  refine z_bipush (v := 10) hX (D_Four_setColour (i := 3) rfl) (by decide) ?_
  refine z_idiv hX (D_Four_setColour (i := 4) rfl) (by decide) ?_
  rw [nlit, pk_div (by omega) (by decide) (by decide), e1]
  refine z_aldCubec (j := k) hX (D_Four_setColour (i := 5) rfl) rfl (by decide) (by first | exact Nat.one_pos | assumption | omega) (by decide) rfl hk ?_
  refine z_getc hX (D_Four_setColour (i := 6) rfl) f_Four_71 rfl (by decide) (by first | exact Nat.one_pos | assumption | omega) rfl ?_
  refine z_iload_n hX (D_Four_setColour (i := 7) rfl) rfl ?_
  refine z_bipush (v := 10) hX (D_Four_setColour (i := 8) rfl) (by decide) ?_
  refine z_irem hX (D_Four_setColour (i := 9) rfl) (by decide) ?_
  rw [nlit, pk_rem (by omega) (by decide) (by decide), e2]
  refine z_iload_n hX (D_Four_setColour (i := 10) rfl) rfl ?_
  refine z_iast (j := f) hX (D_Four_setColour (i := 11) rfl) rfl (by decide) (by first | exact Nat.one_pos | assumption | omega) (by decide) rfl hf ?_
  exact z_ret hX hR (D_Four_setColour (i := 12) rfl) rfl h
end F1
