/-! the reference's simple calls -/
def cv (mem : zM) : zM := (fun _ k f => mem.1 41 0 (6 * k + f), mem.2)
def aroN (j : Nat) : Nat := [5, 1, 4, 3, 0, 5, 2, 4, 4, 1, 5, 3, 0, 4, 2, 5, 0, 1, 2, 3, 2, 1, 0, 3].getD j 0
def ArOK (mem : zM) : Prop := ∀ j, j < 24 → mem.1 43 0 j = nI (aroN j)
def oppN (f : Nat) : Nat := if f < 4 then (f + 2) % 4 else 9 - f
theorem aro_ok : ∀ t, t < 24 → (∀ w, w < 4 → aroN (4 * (t / 4) + (t % 4 + w) % 4) = stN t w) ∧ t / 4 = stN t 4 ∧ oppN (t / 4) = stN t 5 := by decide +kernel
theorem in0 {x : Int32} {n : Nat} (hn : n < 2 ^ 30) : decide ((0 : Int32) ≤ x ∧ x ≤ nI n - 1) = inN x n := by
  unfold inN
  refine decide_eq_decide.mpr ?_
  have e := pk_sub_toInt (a := n) (b := 1) hn (by decide)
  rw [Int32.le_iff_toInt_le, Int32.le_iff_toInt_le, i32_0]
  rw [show (nI n - 1).toInt = (n : Int) - 1 from e]
  omega
theorem in0l {x : Int32} {n : Nat} (hn : n + 1 < 2 ^ 31) : decide ((0 : Int32) ≤ x ∧ x ≤ nI n) = inN x (n + 1) := by
  unfold inN
  refine decide_eq_decide.mpr ?_
  rw [Int32.le_iff_toInt_le, Int32.le_iff_toInt_le, i32_0, nI_toInt (by omega)]
  omega
section G1
variable {l : Launch} {ι : zE} {mem : zM} {Post : Option zV → zM → Prop} {x y z : Int32} {sz nb : Nat}
theorem d_in (h : Post (some (zI (bI (decide (y ≤ x ∧ x ≤ z))))) mem) : zC l ι M_Model_in 0 [zI x, zI y, zI z] mem Post := by
  have hH : zHas ι [] := zHas.nil
  refine z_enter hH (by decide) (by simp [z_ent, M_Model_in]) (fun X hXl hX hR => ?_)
  refine z_iload_n hX (D_Model_in (i := 0) rfl) rfl ?_
  refine z_iload_n hX (D_Model_in (i := 1) rfl) rfl ?_
  refine z_icmp_lt (tgt := 14) hX (D_Model_in (i := 2) rfl) (by decide) (fun h1 => ?_) (fun h1 => ?_)
  · refine z_iconst (v := 0) hX (D_Model_in (i := 8) rfl) (by decide) ?_
    rw [decide_eq_false (fun w => absurd h1 (Int32.not_lt.mpr w.1))] at h
    exact z_zret hX hR (D_Model_in (i := 9) rfl) rfl (by first | exact Or.inl rfl | exact Or.inr rfl | assumption) (by assumption)
  · refine z_iload_n hX (D_Model_in (i := 3) rfl) rfl ?_
    refine z_iload_n hX (D_Model_in (i := 4) rfl) rfl ?_
    refine z_icmp_gt (tgt := 14) hX (D_Model_in (i := 5) rfl) (by decide) (fun h2 => ?_) (fun h2 => ?_)
    · refine z_iconst (v := 0) hX (D_Model_in (i := 8) rfl) (by decide) ?_
      rw [decide_eq_false (fun w => absurd h2 (Int32.not_lt.mpr w.2))] at h
      exact z_zret hX hR (D_Model_in (i := 9) rfl) rfl (by first | exact Or.inl rfl | exact Or.inr rfl | assumption) (by assumption)
    · refine z_iconst (v := 1) hX (D_Model_in (i := 6) rfl) (by decide) ?_
      refine z_goto (tgt := 15) hX (D_Model_in (i := 7) rfl) (by decide) ?_
      rw [decide_eq_true ⟨Int32.not_lt.mp h1, Int32.not_lt.mp h2⟩] at h
      exact z_zret hX hR (D_Model_in (i := 9) rfl) rfl (by first | exact Or.inl rfl | exact Or.inr rfl | assumption) (by assumption)
theorem d_isCube (hH : zHas ι pM) (hs : mem.1 40 0 1 = nI sz) (h8 : sz ≤ 8) (h : Post (some (zI (bI (inN x sz)))) mem) : zC l ι M_Model_isCube 1 [zP 40 0, zI x] mem Post := by
  refine z_enter hH (by decide) (by simp [z_ent, M_Model_isCube]) (fun X hXl hX hR => ?_)
  refine z_iload_n hX (D_Model_isCube (i := 0) rfl) rfl ?_
  refine z_iconst (v := 0) hX (D_Model_isCube (i := 1) rfl) (by decide) ?_
  refine z_aload_n hX (D_Model_isCube (i := 2) rfl) rfl ?_
  refine z_geti hX (D_Model_isCube (i := 3) rfl) f_Model_99 rfl (by decide) (by first | exact Nat.one_pos | assumption | omega) rfl ?_
  refine z_iconst (v := 1) hX (D_Model_isCube (i := 4) rfl) (by decide) ?_
  refine z_isub hX (D_Model_isCube (i := 5) rfl) ?_
  rw [hs]
  refine z_cS3 hX (D_Model_isCube (i := 6) rfl) ms_Model_in l_Model_102 (by first | decide | omega) (Nat.le_of_ble_eq_true rfl) (d_in ?_)
  rw [in0 (by omega)]
  exact z_zret hX hR (D_Model_isCube (i := 7) rfl) rfl (bI_or _) h
theorem d_isFace (hH : zHas ι pM) (hs : mem.1 40 0 1 = nI sz) (h8 : sz ≤ 8) (h : Post (some (zI (bI (fcB x sz)))) mem) : zC l ι M_Model_isFace 2 [zP 40 0, zI x] mem Post := by
  refine z_enter hH (by decide) (by simp [z_ent, M_Model_isFace]) (fun X hXl hX hR => ?_)
  refine z_iload_n hX (D_Model_isFace (i := 0) rfl) rfl ?_
  refine z_if_lt (tgt := 28) hX (D_Model_isFace (i := 1) rfl) (by decide) (fun h1 => ?_) (fun h1 => ?_)
  · refine z_iconst (v := 0) hX (D_Model_isFace (i := 15) rfl) (by decide) ?_
    rw [fcB_lo h1] at h
    exact z_zret hX hR (D_Model_isFace (i := 16) rfl) rfl (by first | exact Or.inl rfl | exact Or.inr rfl | assumption) (by assumption)
  · skip
    obtain ⟨j, hj, rfl⟩ := nI_of h1
    rw [fcB_nI hj] at h
    refine z_aload_n hX (D_Model_isFace (i := 2) rfl) rfl ?_
    refine z_iload_n hX (D_Model_isFace (i := 3) rfl) rfl ?_
    refine z_bipush (v := 10) hX (D_Model_isFace (i := 4) rfl) (by decide) ?_
    refine z_idiv hX (D_Model_isFace (i := 5) rfl) (by decide) ?_
    rw [nlit, pk_div hj (by decide) (by decide)]
    refine z_cV1 hX (D_Model_isFace (i := 6) rfl) mi_Model_isCube l_Model_106 rfl rfl (by decide) (by first | exact Nat.one_pos | assumption | omega) (by first | decide | omega) (Nat.le_of_ble_eq_true rfl) (d_isCube hH hs h8 ?_)
    rw [inN_nI' (by omega)]
    refine z_if_eq (tgt := 28) hX (D_Model_isFace (i := 7) rfl) (by decide) (fun h2 => ?_) (fun h2 => ?_)
    · refine z_iconst (v := 0) hX (D_Model_isFace (i := 15) rfl) (by decide) ?_
      rw [bI_0.mp h2] at h
      exact z_zret hX hR (D_Model_isFace (i := 16) rfl) rfl (by first | exact Or.inl rfl | exact Or.inr rfl | assumption) (by assumption)
    · refine z_iload_n hX (D_Model_isFace (i := 8) rfl) rfl ?_
      refine z_bipush (v := 10) hX (D_Model_isFace (i := 9) rfl) (by decide) ?_
      refine z_irem hX (D_Model_isFace (i := 10) rfl) (by decide) ?_
      rw [nlit, pk_rem hj (by decide) (by decide)]
      refine z_bipush (v := 6) hX (D_Model_isFace (i := 11) rfl) (by decide) ?_
      rw [bI_n.mp h2] at h
      refine z_icmp_ge (tgt := 28) hX (D_Model_isFace (i := 12) rfl) (by decide) (fun h3 => ?_) (fun h3 => ?_)
      · refine z_iconst (v := 0) hX (D_Model_isFace (i := 15) rfl) (by decide) ?_
        rw [decide_eq_false (Nat.not_lt.mpr ((nI_leI (a := 6) (by decide) (by omega)).mp h3))] at h
        exact z_zret hX hR (D_Model_isFace (i := 16) rfl) rfl (by first | exact Or.inl rfl | exact Or.inr rfl | assumption) (by assumption)
      · refine z_iconst (v := 1) hX (D_Model_isFace (i := 13) rfl) (by decide) ?_
        refine z_goto (tgt := 29) hX (D_Model_isFace (i := 14) rfl) (by decide) ?_
        rw [decide_eq_true (Nat.not_le.mp (fun z => h3 ((nI_leI (a := 6) (by decide) (by omega)).mpr z)))] at h
        exact z_zret hX hR (D_Model_isFace (i := 16) rfl) rfl (by first | exact Or.inl rfl | exact Or.inr rfl | assumption) (by assumption)
theorem d_isColour (h : Post (some (zI (bI (inN x 6)))) mem) : zC l ι M_Model_isColour 1 [zI x] mem Post := by
  have hH : zHas ι [] := zHas.nil
  refine z_enter hH (by decide) (by simp [z_ent, M_Model_isColour]) (fun X hXl hX hR => ?_)
  refine z_iload_n hX (D_Model_isColour (i := 0) rfl) rfl ?_
  refine z_iconst (v := 0) hX (D_Model_isColour (i := 1) rfl) (by decide) ?_
  refine z_iconst (v := 5) hX (D_Model_isColour (i := 2) rfl) (by decide) ?_
  refine z_cS3 hX (D_Model_isColour (i := 3) rfl) ms_Model_in l_Model_102 (by first | decide | omega) (Nat.le_of_ble_eq_true rfl) (d_in ?_)
  rw [show decide ((0 : Int32) ≤ x ∧ x ≤ 5) = inN x 6 from in0l (n := 5) (by decide)]
  exact z_zret hX hR (D_Model_isColour (i := 4) rfl) rfl (bI_or _) h
theorem d_turn (hH : zHas ι pM) (hs : mem.1 40 0 1 = nI sz) (h8 : sz ≤ 8) (hno : (inN x sz && inN y 24) = false → Post (some (zI (-1))) mem) (hok : ∀ k t, k < sz → t < 24 → x = nI k → y = nI t → Post (some (zI (mem.1 42 0 k))) (upI mem 42 0 k (nI t))) : zC l ι M_Model_turn 2 [zP 40 0, zI x, zI y] mem Post := by
  refine z_enter hH (by decide) (by simp [z_ent, M_Model_turn]) (fun X hXl hX hR => ?_)
  refine z_aload_n hX (D_Model_turn (i := 0) rfl) rfl ?_
  refine z_iload_n hX (D_Model_turn (i := 1) rfl) rfl ?_
  refine z_cV1 hX (D_Model_turn (i := 2) rfl) mi_Model_isCube l_Model_106 rfl rfl (by decide) (by first | exact Nat.one_pos | assumption | omega) (by first | decide | omega) (Nat.le_of_ble_eq_true rfl) (d_isCube hH hs h8 ?_)
  refine z_if_eq (tgt := 18) hX (D_Model_turn (i := 3) rfl) (by decide) (fun h1 => ?_) (fun h1 => ?_)
  · refine z_iconst (v := -1) hX (D_Model_turn (i := 9) rfl) (by decide) ?_
    exact z_iret hX hR (D_Model_turn (i := 10) rfl) rfl (hno (by rw [bI_0.mp h1]; rfl))
  · refine z_iload_n hX (D_Model_turn (i := 4) rfl) rfl ?_
    refine z_iconst (v := 0) hX (D_Model_turn (i := 5) rfl) (by decide) ?_
    refine z_bipush (v := 23) hX (D_Model_turn (i := 6) rfl) (by decide) ?_
    refine z_cS3 hX (D_Model_turn (i := 7) rfl) ms_Model_in l_Model_102 (by first | decide | omega) (Nat.le_of_ble_eq_true rfl) (d_in ?_)
    rw [show decide ((0 : Int32) ≤ y ∧ y ≤ 23) = inN y 24 from in0l (n := 23) (by decide)]
    refine z_if_ne (tgt := 20) hX (D_Model_turn (i := 8) rfl) (by decide) (fun h2 => ?_) (fun h2 => ?_)
    · skip
      obtain ⟨k, hk, rfl⟩ := inN_ex (bI_n.mp h1) (by omega)
      obtain ⟨t, ht, rfl⟩ := inN_ex (bI_n.mp h2) (by omega)
      refine z_aload_n hX (D_Model_turn (i := 11) rfl) rfl ?_
      refine z_getc hX (D_Model_turn (i := 12) rfl) f_Model_13 rfl (by decide) (by first | exact Nat.one_pos | assumption | omega) rfl ?_
      refine z_iload_n hX (D_Model_turn (i := 13) rfl) rfl ?_
      refine z_iald (j := k) hX (D_Model_turn (i := 14) rfl) rfl (by decide) (by first | exact Nat.one_pos | assumption | omega) (by decide) rfl (by omega) ?_
      refine z_istore_n hX (D_Model_turn (i := 15) rfl) (by decide) rfl ?_
      refine z_aload_n hX (D_Model_turn (i := 16) rfl) rfl ?_
      refine z_getc hX (D_Model_turn (i := 17) rfl) f_Model_13 rfl (by decide) (by first | exact Nat.one_pos | assumption | omega) rfl ?_
      refine z_iload_n hX (D_Model_turn (i := 18) rfl) rfl ?_
      refine z_iload_n hX (D_Model_turn (i := 19) rfl) rfl ?_
      refine z_iast (j := k) hX (D_Model_turn (i := 20) rfl) rfl (by decide) (by first | exact Nat.one_pos | assumption | omega) (by decide) rfl (by omega) ?_
      refine z_iload_n hX (D_Model_turn (i := 21) rfl) rfl ?_
      exact z_iret hX hR (D_Model_turn (i := 22) rfl) rfl (hok k t hk ht rfl rfl)
    · refine z_iconst (v := -1) hX (D_Model_turn (i := 9) rfl) (by decide) ?_
      exact z_iret hX hR (D_Model_turn (i := 10) rfl) rfl (hno (by rw [bI_0.mp h2]; simp))
theorem d_opposite {f : Nat} (hf : f < 6) (h : Post (some (zI (nI (oppN f)))) mem) : zC l ι M_Model_opposite 0 [zI (nI f)] mem Post := by
  have hH : zHas ι [] := zHas.nil
  unfold oppN at h
  refine z_enter hH (by decide) (by simp [z_ent, M_Model_opposite]) (fun X hXl hX hR => ?_)
  refine z_iload_n hX (D_Model_opposite (i := 0) rfl) rfl ?_
  refine z_iconst (v := 4) hX (D_Model_opposite (i := 1) rfl) (by decide) ?_
  refine z_icmp_ge (tgt := 13) hX (D_Model_opposite (i := 2) rfl) (by decide) (fun h1 => ?_) (fun h1 => ?_)
  · refine z_bipush (v := 9) hX (D_Model_opposite (i := 9) rfl) (by decide) ?_
    refine z_iload_n hX (D_Model_opposite (i := 10) rfl) rfl ?_
    refine z_isub hX (D_Model_opposite (i := 11) rfl) ?_
    have : ¬ f < 4 := fun w => absurd h1 (nI_ge (b := 4) w (by decide))
    rw [if_neg this] at h
    rw [nlit, pk_sub (by omega)]
    exact z_iret hX hR (D_Model_opposite (i := 12) rfl) rfl (by assumption)
  · refine z_iload_n hX (D_Model_opposite (i := 3) rfl) rfl ?_
    refine z_iconst (v := 2) hX (D_Model_opposite (i := 4) rfl) (by decide) ?_
    refine z_iadd hX (D_Model_opposite (i := 5) rfl) ?_
    refine z_iconst (v := 4) hX (D_Model_opposite (i := 6) rfl) (by decide) ?_
    have : f < 4 := Nat.not_le.mp (fun w => h1 (nI_le (a := 4) w (by omega)))
    rw [if_pos this] at h
    rw [show nI f + 2 = nI (f + 2) from nI_add f 2]
    refine z_irem hX (D_Model_opposite (i := 7) rfl) (by decide) ?_
    rw [nlit, pk_rem (by omega) (by decide) (by decide)]
    refine z_goto (tgt := 17) hX (D_Model_opposite (i := 8) rfl) (by decide) ?_
    exact z_iret hX hR (D_Model_opposite (i := 12) rfl) rfl (by assumption)
theorem d_showsOf (hH : zHas ι pM) (hA : ArOK mem) {k t w : Nat} (hk : k < 8) (ht : t < 24) (hw : w < 6) (h : Post (some (zI ((cv mem).1 3 k (stN t w)))) mem) : zC l ι M_Model_showsOf 1 [zP 40 0, zI (nI k), zI (nI t), zI (nI w)] mem Post := by
  obtain ⟨a1, a2, a3⟩ := aro_ok t ht
  have hst := (st_ok t ht w hw).2
  refine z_enter hH (by decide) (by simp [z_ent, M_Model_showsOf]) (fun X hXl hX hR => ?_)
  refine z_iload_n hX (D_Model_showsOf (i := 0) rfl) rfl ?_
  refine z_iconst (v := 4) hX (D_Model_showsOf (i := 1) rfl) (by decide) ?_
  refine z_idiv hX (D_Model_showsOf (i := 2) rfl) (by decide) ?_
  rw [nlit, pk_div (by omega) (by decide) (by decide)]
  refine z_istore hX (D_Model_showsOf (i := 3) rfl) (by decide) rfl ?_
  refine z_iload_n hX (D_Model_showsOf (i := 4) rfl) rfl ?_
  refine z_iconst (v := 4) hX (D_Model_showsOf (i := 5) rfl) (by decide) ?_
  have last : zW ι M_Model_showsOf X 45 [some (zP 40 0), some (zI (nI k)), some (zI (nI t)), some (zI (nI w)), some (zI (nI (t / 4))), none] [zI (nI (stN t w))] mem := by
    refine z_istore hX (D_Model_showsOf (i := 29) rfl) (by decide) rfl ?_
    refine z_aload_n hX (D_Model_showsOf (i := 30) rfl) rfl ?_
    refine z_getc hX (D_Model_showsOf (i := 31) rfl) f_Model_7 rfl (by decide) (by first | exact Nat.one_pos | assumption | omega) rfl ?_
    refine z_bipush (v := 6) hX (D_Model_showsOf (i := 32) rfl) (by decide) ?_
    refine z_iload_n hX (D_Model_showsOf (i := 33) rfl) rfl ?_
    refine z_imul hX (D_Model_showsOf (i := 34) rfl) ?_
    refine z_iload hX (D_Model_showsOf (i := 35) rfl) rfl ?_
    refine z_iadd hX (D_Model_showsOf (i := 36) rfl) ?_
    refine z_iald (j := 6 * k + stN t w) hX (D_Model_showsOf (i := 37) rfl) rfl (by decide) (by first | exact Nat.one_pos | assumption | omega) (by decide) (by first | (simp only [nlit, nI_add, pk_mul]; done) | rfl) (by omega) ?_
    exact z_iret hX hR (D_Model_showsOf (i := 38) rfl) rfl h
  refine z_icmp_ne (tgt := 15) hX (D_Model_showsOf (i := 6) rfl) (by decide) (fun h1 => ?_) (fun h1 => ?_)
  · refine z_iload_n hX (D_Model_showsOf (i := 9) rfl) rfl ?_
    refine z_iconst (v := 5) hX (D_Model_showsOf (i := 10) rfl) (by decide) ?_
    have n4 : ¬ w = 4 := fun e => h1 (by rw [e]; rfl)
    refine z_icmp_ne (tgt := 28) hX (D_Model_showsOf (i := 11) rfl) (by decide) (fun h2 => ?_) (fun h2 => ?_)
    · refine z_aload_n hX (D_Model_showsOf (i := 15) rfl) rfl ?_
      refine z_getc hX (D_Model_showsOf (i := 16) rfl) f_Model_16 rfl (by decide) (by first | exact Nat.one_pos | assumption | omega) rfl ?_
      refine z_iconst (v := 4) hX (D_Model_showsOf (i := 17) rfl) (by decide) ?_
      refine z_iload hX (D_Model_showsOf (i := 18) rfl) rfl ?_
      refine z_imul hX (D_Model_showsOf (i := 19) rfl) ?_
      refine z_iload_n hX (D_Model_showsOf (i := 20) rfl) rfl ?_
      refine z_iconst (v := 4) hX (D_Model_showsOf (i := 21) rfl) (by decide) ?_
      have n5 : ¬ w = 5 := fun e => h2 (by rw [e]; rfl)
      refine z_irem hX (D_Model_showsOf (i := 22) rfl) (by decide) ?_
      rw [nlit, pk_rem (by omega) (by decide) (by decide)]
      refine z_iload_n hX (D_Model_showsOf (i := 23) rfl) rfl ?_
      refine z_iadd hX (D_Model_showsOf (i := 24) rfl) ?_
      refine z_iconst (v := 4) hX (D_Model_showsOf (i := 25) rfl) (by decide) ?_
      rw [nI_add]
      refine z_irem hX (D_Model_showsOf (i := 26) rfl) (by decide) ?_
      rw [nlit, pk_rem (by omega) (by decide) (by decide)]
      refine z_iadd hX (D_Model_showsOf (i := 27) rfl) ?_
      refine z_iald (j := 4 * (t / 4) + (t % 4 + w) % 4) hX (D_Model_showsOf (i := 28) rfl) rfl (by decide) (by first | exact Nat.one_pos | assumption | omega) (by decide) (by first | (simp only [nlit, nI_add, pk_mul]; done) | rfl) (by omega) ?_
      rw [hA _ (by omega), a1 w (by omega)]
      exact last
    · refine z_iload hX (D_Model_showsOf (i := 12) rfl) rfl ?_
      have n5 : w = 5 := (nI_eq (b := 5) (by omega) (by decide)).mp h2
      refine z_cS1 hX (D_Model_showsOf (i := 13) rfl) ms_Model_opposite l_Model_220 (by first | decide | omega) (Nat.le_of_ble_eq_true rfl) (d_opposite (by omega) ?_)
      rw [a3, ← n5]
      refine z_goto (tgt := 45) hX (D_Model_showsOf (i := 14) rfl) (by decide) ?_
      exact last
  · refine z_iload hX (D_Model_showsOf (i := 7) rfl) rfl ?_
    refine z_goto (tgt := 45) hX (D_Model_showsOf (i := 8) rfl) (by decide) ?_
    have n4 : w = 4 := (nI_eq (b := 4) (by omega) (by decide)).mp h1
    rw [n4, ← a2] at last
    rw [n4]
    exact last
theorem d_shows (hH : zHas ι pM) (hA : ArOK mem) (hs : mem.1 40 0 1 = nI sz) (h8 : sz ≤ 8) (hno : (inN x sz && (inN y 24 && inN z 6)) = false → Post (some (zI (-1))) mem) (hok : ∀ k t w, k < sz → t < 24 → w < 6 → x = nI k → y = nI t → z = nI w → Post (some (zI ((cv mem).1 3 k (stN t w)))) mem) : zC l ι M_Model_shows 2 [zP 40 0, zI x, zI y, zI z] mem Post := by
  refine z_enter hH (by decide) (by simp [z_ent, M_Model_shows]) (fun X hXl hX hR => ?_)
  refine z_aload_n hX (D_Model_shows (i := 0) rfl) rfl ?_
  refine z_iload_n hX (D_Model_shows (i := 1) rfl) rfl ?_
  refine z_cV1 hX (D_Model_shows (i := 2) rfl) mi_Model_isCube l_Model_106 rfl rfl (by decide) (by first | exact Nat.one_pos | assumption | omega) (by first | decide | omega) (Nat.le_of_ble_eq_true rfl) (d_isCube hH hs h8 ?_)
  refine z_if_eq (tgt := 37) hX (D_Model_shows (i := 3) rfl) (by decide) (fun h1 => ?_) (fun h1 => ?_)
  · refine z_iconst (v := -1) hX (D_Model_shows (i := 20) rfl) (by decide) ?_
    exact z_iret hX hR (D_Model_shows (i := 21) rfl) rfl (hno (by rw [bI_0.mp h1]; rfl))
  · refine z_iload_n hX (D_Model_shows (i := 4) rfl) rfl ?_
    refine z_iconst (v := 0) hX (D_Model_shows (i := 5) rfl) (by decide) ?_
    refine z_bipush (v := 23) hX (D_Model_shows (i := 6) rfl) (by decide) ?_
    refine z_cS3 hX (D_Model_shows (i := 7) rfl) ms_Model_in l_Model_102 (by first | decide | omega) (Nat.le_of_ble_eq_true rfl) (d_in ?_)
    rw [show decide ((0 : Int32) ≤ y ∧ y ≤ 23) = inN y 24 from in0l (n := 23) (by decide)]
    refine z_if_eq (tgt := 37) hX (D_Model_shows (i := 8) rfl) (by decide) (fun h2 => ?_) (fun h2 => ?_)
    · refine z_iconst (v := -1) hX (D_Model_shows (i := 20) rfl) (by decide) ?_
      exact z_iret hX hR (D_Model_shows (i := 21) rfl) rfl (hno (by rw [bI_0.mp h2]; simp))
    · refine z_iload_n hX (D_Model_shows (i := 9) rfl) rfl ?_
      refine z_iconst (v := 0) hX (D_Model_shows (i := 10) rfl) (by decide) ?_
      refine z_iconst (v := 5) hX (D_Model_shows (i := 11) rfl) (by decide) ?_
      refine z_cS3 hX (D_Model_shows (i := 12) rfl) ms_Model_in l_Model_102 (by first | decide | omega) (Nat.le_of_ble_eq_true rfl) (d_in ?_)
      rw [show decide ((0 : Int32) ≤ z ∧ z ≤ 5) = inN z 6 from in0l (n := 5) (by decide)]
      refine z_if_eq (tgt := 37) hX (D_Model_shows (i := 13) rfl) (by decide) (fun h3 => ?_) (fun h3 => ?_)
      · refine z_iconst (v := -1) hX (D_Model_shows (i := 20) rfl) (by decide) ?_
        exact z_iret hX hR (D_Model_shows (i := 21) rfl) rfl (hno (by rw [bI_0.mp h3]; simp))
      · skip
        obtain ⟨k, hk, rfl⟩ := inN_ex (bI_n.mp h1) (by omega)
        obtain ⟨t, ht, rfl⟩ := inN_ex (bI_n.mp h2) (by omega)
        obtain ⟨w, hw, rfl⟩ := inN_ex (bI_n.mp h3) (by omega)
        refine z_aload_n hX (D_Model_shows (i := 14) rfl) rfl ?_
        refine z_iload_n hX (D_Model_shows (i := 15) rfl) rfl ?_
        refine z_iload_n hX (D_Model_shows (i := 16) rfl) rfl ?_
        refine z_iload_n hX (D_Model_shows (i := 17) rfl) rfl ?_
        refine z_cV3 hX (D_Model_shows (i := 18) rfl) mi_Model_showsOf l_Model_223 rfl rfl (by decide) (by first | exact Nat.one_pos | assumption | omega) (by first | decide | omega) (Nat.le_of_ble_eq_true rfl) (d_showsOf hH hA (by omega) ht hw ?_)
        refine z_goto (tgt := 38) hX (D_Model_shows (i := 19) rfl) (by decide) ?_
        exact z_iret hX hR (D_Model_shows (i := 21) rfl) rfl (hok k t w hk ht hw rfl rfl rfl)
theorem d_lineOf (hH : zHas ι pM) {k i a b : Nat} (hk : k < 8) (hi : i < 3) (ha : (cv mem).1 3 k (edN i) = nI a) (hb : (cv mem).1 3 k (opN (edN i)) = nI b) (la : a ≤ 6) (lb : b ≤ 6) (h : Post (some (zI (nI (lnN a b)))) mem) : zC l ι M_Model_lineOf 0 [zP 40 0, zI (nI k), zI (nI i)] mem Post := by
  have f2 : opN 4 = 5 := by decide +kernel
  have f0 : ∀ i, i < 3 → ¬ i = 2 → opN i = i + 2 := by decide +kernel
  refine z_enter hH (by decide) (by simp [z_ent, M_Model_lineOf]) (fun X hXl hX hR => ?_)
  refine z_aload_n hX (D_Model_lineOf (i := 0) rfl) rfl ?_
  refine z_getc hX (D_Model_lineOf (i := 1) rfl) f_Model_7 rfl (by decide) (by first | exact Nat.one_pos | assumption | omega) rfl ?_
  refine z_bipush (v := 6) hX (D_Model_lineOf (i := 2) rfl) (by decide) ?_
  refine z_iload_n hX (D_Model_lineOf (i := 3) rfl) rfl ?_
  refine z_imul hX (D_Model_lineOf (i := 4) rfl) ?_
  refine z_iload_n hX (D_Model_lineOf (i := 5) rfl) rfl ?_
  refine z_iconst (v := 2) hX (D_Model_lineOf (i := 6) rfl) (by decide) ?_
  have B : zW ι M_Model_lineOf X 41 [some (zP 40 0), some (zI (nI k)), some (zI (nI i)), some (zI (nI a)), none] [zI (nI (opN (edN i))), zI (6 * nI k), zP 41 0] mem := by
    have hq := (ed_ok i hi).2
    refine z_iadd hX (D_Model_lineOf (i := 27) rfl) ?_
    refine z_iald (j := 6 * k + opN (edN i)) hX (D_Model_lineOf (i := 28) rfl) rfl (by decide) (by first | exact Nat.one_pos | assumption | omega) (by decide) (by first | (simp only [nlit, nI_add, pk_mul]; done) | rfl) (by omega) ?_
    rw [show mem.1 41 0 (6 * k + opN (edN i)) = nI b from hb]
    refine z_istore hX (D_Model_lineOf (i := 29) rfl) (by decide) rfl ?_
    refine z_iload_n hX (D_Model_lineOf (i := 30) rfl) rfl ?_
    refine z_iload hX (D_Model_lineOf (i := 31) rfl) rfl ?_
    refine z_icmp_ge (tgt := 61) hX (D_Model_lineOf (i := 32) rfl) (by decide) (fun h3 => ?_) (fun h3 => ?_)
    · refine z_bipush (v := 10) hX (D_Model_lineOf (i := 39) rfl) (by decide) ?_
      refine z_iload hX (D_Model_lineOf (i := 40) rfl) rfl ?_
      refine z_imul hX (D_Model_lineOf (i := 41) rfl) ?_
      refine z_iload_n hX (D_Model_lineOf (i := 42) rfl) rfl ?_
      refine z_iadd hX (D_Model_lineOf (i := 43) rfl) ?_
      have h4 := (nI_leI (by omega) (by omega)).mp h3
      rw [nlit, pk_mul, nI_add]
      have e : lnN a b = 10 * b + a := by
        unfold lnN
        by_cases e0 : b < a
        · rw [if_pos e0, if_neg (by omega)]
        · rw [if_neg e0, if_neg (by omega)]; omega
      rw [e] at h
      exact z_iret hX hR (D_Model_lineOf (i := 44) rfl) rfl (by assumption)
    · refine z_bipush (v := 10) hX (D_Model_lineOf (i := 33) rfl) (by decide) ?_
      refine z_iload_n hX (D_Model_lineOf (i := 34) rfl) rfl ?_
      refine z_imul hX (D_Model_lineOf (i := 35) rfl) ?_
      refine z_iload hX (D_Model_lineOf (i := 36) rfl) rfl ?_
      refine z_iadd hX (D_Model_lineOf (i := 37) rfl) ?_
      refine z_goto (tgt := 68) hX (D_Model_lineOf (i := 38) rfl) (by decide) ?_
      have h4 : a < b := Nat.not_le.mp (fun w => h3 (nI_le w (by omega)))
      rw [nlit, pk_mul, nI_add]
      have e : lnN a b = 10 * a + b := by
        unfold lnN
        rw [if_neg (by omega), if_pos h4]
      rw [e] at h
      exact z_iret hX hR (D_Model_lineOf (i := 44) rfl) rfl (by assumption)
  have A : zW ι M_Model_lineOf X 18 [some (zP 40 0), some (zI (nI k)), some (zI (nI i)), none, none] [zI (nI (edN i)), zI (6 * nI k), zP 41 0] mem := by
    have hq := (ed_ok i hi).1
    refine z_iadd hX (D_Model_lineOf (i := 11) rfl) ?_
    refine z_iald (j := 6 * k + edN i) hX (D_Model_lineOf (i := 12) rfl) rfl (by decide) (by first | exact Nat.one_pos | assumption | omega) (by decide) (by first | (simp only [nlit, nI_add, pk_mul]; done) | rfl) (by omega) ?_
    rw [show mem.1 41 0 (6 * k + edN i) = nI a from ha]
    refine z_istore_n hX (D_Model_lineOf (i := 13) rfl) (by decide) rfl ?_
    refine z_aload_n hX (D_Model_lineOf (i := 14) rfl) rfl ?_
    refine z_getc hX (D_Model_lineOf (i := 15) rfl) f_Model_7 rfl (by decide) (by first | exact Nat.one_pos | assumption | omega) rfl ?_
    refine z_bipush (v := 6) hX (D_Model_lineOf (i := 16) rfl) (by decide) ?_
    refine z_iload_n hX (D_Model_lineOf (i := 17) rfl) rfl ?_
    refine z_imul hX (D_Model_lineOf (i := 18) rfl) ?_
    refine z_iload_n hX (D_Model_lineOf (i := 19) rfl) rfl ?_
    refine z_iconst (v := 2) hX (D_Model_lineOf (i := 20) rfl) (by decide) ?_
    refine z_icmp_ne (tgt := 38) hX (D_Model_lineOf (i := 21) rfl) (by decide) (fun h2 => ?_) (fun h2 => ?_)
    · refine z_iload_n hX (D_Model_lineOf (i := 24) rfl) rfl ?_
      refine z_iconst (v := 2) hX (D_Model_lineOf (i := 25) rfl) (by decide) ?_
      refine z_iadd hX (D_Model_lineOf (i := 26) rfl) ?_
      have n2 : ¬ i = 2 := fun e => h2 (by rw [e]; rfl)
      have e : opN (edN i) = i + 2 := by unfold edN; rw [if_neg n2, f0 i hi n2]
      rw [show nI i + 2 = nI (i + 2) from nI_add i 2, ← e]
      exact B
    · refine z_iconst (v := 5) hX (D_Model_lineOf (i := 22) rfl) (by decide) ?_
      refine z_goto (tgt := 41) hX (D_Model_lineOf (i := 23) rfl) (by decide) ?_
      have n2 : i = 2 := (nI_eq (b := 2) (by omega) (by decide)).mp h2
      have e : opN (edN i) = 5 := by unfold edN; rw [if_pos n2, f2]
      rw [e] at B
      exact B
  refine z_icmp_ne (tgt := 17) hX (D_Model_lineOf (i := 7) rfl) (by decide) (fun h1 => ?_) (fun h1 => ?_)
  · refine z_iload_n hX (D_Model_lineOf (i := 10) rfl) rfl ?_
    have n2 : ¬ i = 2 := fun e => h1 (by rw [e]; rfl)
    have e : edN i = i := by unfold edN; rw [if_neg n2]
    rw [e] at A
    exact A
  · refine z_iconst (v := 4) hX (D_Model_lineOf (i := 8) rfl) (by decide) ?_
    refine z_goto (tgt := 18) hX (D_Model_lineOf (i := 9) rfl) (by decide) ?_
    have n2 : i = 2 := (nI_eq (b := 2) (by omega) (by decide)).mp h1
    have e : edN i = 4 := by unfold edN; rw [if_pos n2]
    rw [e] at A
    exact A
theorem d12 {y : Int32} : decide ((10 : Int32) ≤ y ∧ y ≤ 12) = inN (y - 10) 3 := by
  cases h : inN (y - 10) 3 with
  | true =>
    obtain ⟨j, hj, e⟩ := inN_ex h (by decide)
    have e2 : y = nI (10 + j) := by rw [← nI_add, ← e]; show y = 10 + (y - 10); rw [Int32.add_comm, Int32.sub_add_cancel]
    rw [e2]
    exact decide_eq_true ⟨nI_le (a := 10) (by omega) (by omega), nI_le (b := 12) (by omega) (by decide)⟩
  | false =>
    refine decide_eq_false (fun w => ?_)
    have a1 := Int32.le_iff_toInt_le.mp w.1
    have a2 := Int32.le_iff_toInt_le.mp w.2
    have k1 : (10 : Int32).toInt = 10 := rfl
    have k2 : (12 : Int32).toInt = 12 := rfl
    obtain ⟨i, hi, rfl⟩ : ∃ i : Nat, i < 3 ∧ y = nI (10 + i) := ⟨y.toInt.toNat - 10, by omega, Int32.toInt_inj.mp (by rw [nI_toInt (by omega)]; omega)⟩
    rw [show nI (10 + i) - 10 = nI i by rw [nlit, pk_sub (by omega), Nat.add_sub_cancel_left], inN_nI hi (by decide)] at h
    cases h
theorem d_of (hH : zHas ι pM) (hs : mem.1 40 0 1 = nI sz) (h8 : sz ≤ 8) (hcol : ∀ k, k < 8 → ∀ f, f < 6 → ∃ c, c ≤ 6 ∧ (cv mem).1 3 k f = nI c) (hno : (inN x sz = false ∨ (inN y 6 = false ∧ ¬ y = 6 ∧ inN (y - 10) 3 = false)) → Post (some (zI (-1))) mem) (hf : ∀ k f, k < sz → f < 6 → x = nI k → y = nI f → Post (some (zI ((cv mem).1 3 k f))) mem) (ht : ∀ k, k < sz → x = nI k → y = 6 → Post (some (zI (mem.1 42 0 k))) mem) (hl : ∀ k i a b, k < sz → i < 3 → a ≤ 6 → b ≤ 6 → x = nI k → y = nI (10 + i) → (cv mem).1 3 k (edN i) = nI a → (cv mem).1 3 k (opN (edN i)) = nI b → Post (some (zI (nI (lnN a b)))) mem) : zC l ι M_Model_of 2 [zP 40 0, zI x, zI y] mem Post := by
  refine z_enter hH (by decide) (by simp [z_ent, M_Model_of]) (fun X hXl hX hR => ?_)
  refine z_aload_n hX (D_Model_of (i := 0) rfl) rfl ?_
  refine z_iload_n hX (D_Model_of (i := 1) rfl) rfl ?_
  refine z_cV1 hX (D_Model_of (i := 2) rfl) mi_Model_isCube l_Model_106 rfl rfl (by decide) (by first | exact Nat.one_pos | assumption | omega) (by first | decide | omega) (Nat.le_of_ble_eq_true rfl) (d_isCube hH hs h8 ?_)
  refine z_if_ne (tgt := 10) hX (D_Model_of (i := 3) rfl) (by decide) (fun h1 => ?_) (fun h1 => ?_)
  · skip
    obtain ⟨k, hk, rfl⟩ := inN_ex (bI_n.mp h1) (by omega)
    refine z_iload_n hX (D_Model_of (i := 6) rfl) rfl ?_
    refine z_iconst (v := 0) hX (D_Model_of (i := 7) rfl) (by decide) ?_
    refine z_iconst (v := 5) hX (D_Model_of (i := 8) rfl) (by decide) ?_
    refine z_cS3 hX (D_Model_of (i := 9) rfl) ms_Model_in l_Model_102 (by first | decide | omega) (Nat.le_of_ble_eq_true rfl) (d_in ?_)
    rw [show decide ((0 : Int32) ≤ y ∧ y ≤ 5) = inN y 6 from in0l (n := 5) (by decide)]
    refine z_if_eq (tgt := 31) hX (D_Model_of (i := 10) rfl) (by decide) (fun h2 => ?_) (fun h2 => ?_)
    · refine z_iload_n hX (D_Model_of (i := 20) rfl) rfl ?_
      refine z_bipush (v := 6) hX (D_Model_of (i := 21) rfl) (by decide) ?_
      refine z_icmp_ne (tgt := 46) hX (D_Model_of (i := 22) rfl) (by decide) (fun h3 => ?_) (fun h3 => ?_)
      · refine z_iload_n hX (D_Model_of (i := 28) rfl) rfl ?_
        refine z_bipush (v := 10) hX (D_Model_of (i := 29) rfl) (by decide) ?_
        refine z_bipush (v := 12) hX (D_Model_of (i := 30) rfl) (by decide) ?_
        refine z_cS3 hX (D_Model_of (i := 31) rfl) ms_Model_in l_Model_102 (by first | decide | omega) (Nat.le_of_ble_eq_true rfl) (d_in ?_)
        rw [d12]
        refine z_if_eq (tgt := 69) hX (D_Model_of (i := 32) rfl) (by decide) (fun h4 => ?_) (fun h4 => ?_)
        · refine z_iconst (v := -1) hX (D_Model_of (i := 40) rfl) (by decide) ?_
          exact z_iret hX hR (D_Model_of (i := 41) rfl) rfl (hno (Or.inr ⟨bI_0.mp h2, h3, bI_0.mp h4⟩))
        · skip
          obtain ⟨i, hi, e⟩ := inN_ex (bI_n.mp h4) (by omega)
          have e2 : y = nI (10 + i) := by rw [← nI_add, ← e]; show y = 10 + (y - 10); rw [Int32.add_comm, Int32.sub_add_cancel]
          obtain ⟨a, la, ea⟩ := hcol k (by omega) (edN i) (ed_ok i hi).1
          obtain ⟨b, lb, eb⟩ := hcol k (by omega) (opN (edN i)) (ed_ok i hi).2
          refine z_aload_n hX (D_Model_of (i := 33) rfl) rfl ?_
          refine z_iload_n hX (D_Model_of (i := 34) rfl) rfl ?_
          refine z_iload_n hX (D_Model_of (i := 35) rfl) rfl ?_
          refine z_bipush (v := 10) hX (D_Model_of (i := 36) rfl) (by decide) ?_
          refine z_isub hX (D_Model_of (i := 37) rfl) ?_
          rw [e]
          refine z_cV2 hX (D_Model_of (i := 38) rfl) mi_Model_lineOf l_Model_140 rfl rfl (by decide) (by first | exact Nat.one_pos | assumption | omega) (by first | decide | omega) (Nat.le_of_ble_eq_true rfl) (d_lineOf hH (by omega) hi ea eb la lb ?_)
          refine z_goto (tgt := 70) hX (D_Model_of (i := 39) rfl) (by decide) ?_
          exact z_iret hX hR (D_Model_of (i := 41) rfl) rfl (hl k i a b hk hi la lb rfl e2 ea eb)
      · refine z_aload_n hX (D_Model_of (i := 23) rfl) rfl ?_
        refine z_getc hX (D_Model_of (i := 24) rfl) f_Model_13 rfl (by decide) (by first | exact Nat.one_pos | assumption | omega) rfl ?_
        refine z_iload_n hX (D_Model_of (i := 25) rfl) rfl ?_
        refine z_iald (j := k) hX (D_Model_of (i := 26) rfl) rfl (by decide) (by first | exact Nat.one_pos | assumption | omega) (by decide) rfl (by omega) ?_
        refine z_goto (tgt := 70) hX (D_Model_of (i := 27) rfl) (by decide) ?_
        exact z_iret hX hR (D_Model_of (i := 41) rfl) rfl (ht k hk rfl h3)
    · skip
      obtain ⟨f, hf6, rfl⟩ := inN_ex (bI_n.mp h2) (by omega)
      refine z_aload_n hX (D_Model_of (i := 11) rfl) rfl ?_
      refine z_getc hX (D_Model_of (i := 12) rfl) f_Model_7 rfl (by decide) (by first | exact Nat.one_pos | assumption | omega) rfl ?_
      refine z_bipush (v := 6) hX (D_Model_of (i := 13) rfl) (by decide) ?_
      refine z_iload_n hX (D_Model_of (i := 14) rfl) rfl ?_
      refine z_imul hX (D_Model_of (i := 15) rfl) ?_
      refine z_iload_n hX (D_Model_of (i := 16) rfl) rfl ?_
      refine z_iadd hX (D_Model_of (i := 17) rfl) ?_
      refine z_iald (j := 6 * k + f) hX (D_Model_of (i := 18) rfl) rfl (by decide) (by first | exact Nat.one_pos | assumption | omega) (by decide) (by first | (simp only [nlit, nI_add, pk_mul]; done) | rfl) (by omega) ?_
      exact z_iret hX hR (D_Model_of (i := 19) rfl) rfl (hf k f hk hf6 rfl rfl)
  · refine z_iconst (v := -1) hX (D_Model_of (i := 4) rfl) (by decide) ?_
    exact z_iret hX hR (D_Model_of (i := 5) rfl) rfl (hno (Or.inl (bI_0.mp h1)))
end G1
