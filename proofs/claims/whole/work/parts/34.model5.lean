/-! the reference: shift, taken, many, changes, cube, cubes, box, feed -/
section G5
variable {l : Launch} {ι : zE} {mem : zM} {Post : Option zV → zM → Prop} {x y z : Int32} {sz nb : Nat} {s κ r : Nat}
theorem d_taken (hH : zHas ι pM) (hn : mem.1 40 0 37 = nI nb) (h50 : nb ≤ 50) (hk : ∀ b, b < nb → ∃ κ, κ < 8 ∧ mem.1 62 0 b = nI κ) (hho : ∀ k, k < 6 → HoM mem nb k) (hno : (inN x 6 && inN y 8) = false → Post (some (zI (-1))) mem) (hbare : ∀ k, k < 6 → x = nI k → inN y 8 = true → mem.1 64 0 k = -1 → Post (some (zI (-11))) mem) (hrow : ∀ k s, k < 6 → s < 5 → x = nI k → inN y 8 = true → mem.1 64 0 k = -(nI (s + 2)) → Post (some (zI (-12))) mem) (hok : ∀ k t b κ, k < 6 → t < 8 → b < nb → κ < 8 → x = nI k → y = nI t → mem.1 64 0 k = nI b → mem.1 62 0 b = nI κ → Post (some (zI (if unN 8 κ t = true then nI κ else -12))) mem) : zC l ι M_Model_taken 2 [zP 40 0, zI x, zI y] mem Post := by
  refine z_enter hH (by decide) (by simp [z_ent, M_Model_taken]) (fun X hXl hX hR => ?_)
  refine z_iload_n hX (D_Model_taken (i := 0) rfl) rfl ?_
  refine z_cS1 hX (D_Model_taken (i := 1) rfl) ms_Model_isShelf l_Model_112 (by first | decide | omega) (Nat.le_of_ble_eq_true rfl) (d_isShelf ?_)
  refine z_if_eq (tgt := 17) hX (D_Model_taken (i := 2) rfl) (by decide) (fun h1 => ?_) (fun h1 => ?_)
  · refine z_iconst (v := -1) hX (D_Model_taken (i := 8) rfl) (by decide) ?_
    exact z_iret hX hR (D_Model_taken (i := 9) rfl) rfl (hno (by rw [bI_0.mp h1]; rfl))
  · refine z_iload_n hX (D_Model_taken (i := 3) rfl) rfl ?_
    refine z_iconst (v := 0) hX (D_Model_taken (i := 4) rfl) (by decide) ?_
    refine z_bipush (v := 7) hX (D_Model_taken (i := 5) rfl) (by decide) ?_
    refine z_cS3 hX (D_Model_taken (i := 6) rfl) ms_Model_in l_Model_102 (by first | decide | omega) (Nat.le_of_ble_eq_true rfl) (d_in ?_)
    rw [show decide ((0 : Int32) ≤ y ∧ y ≤ 7) = inN y 8 from in0l (n := 7) (by decide)]
    refine z_if_ne (tgt := 19) hX (D_Model_taken (i := 7) rfl) (by decide) (fun h2 => ?_) (fun h2 => ?_)
    · skip
      obtain ⟨k, hk6, rfl⟩ := inN_ex (bI_n.mp h1) (by omega)
      refine z_aload_n hX (D_Model_taken (i := 10) rfl) rfl ?_
      refine z_getc hX (D_Model_taken (i := 11) rfl) f_Model_82 rfl (by decide) (by first | exact Nat.one_pos | assumption | omega) rfl ?_
      refine z_iload_n hX (D_Model_taken (i := 12) rfl) rfl ?_
      refine z_iald (j := k) hX (D_Model_taken (i := 13) rfl) rfl (by decide) (by first | exact Nat.one_pos | assumption | omega) (by decide) rfl hk6 ?_
      refine z_iconst (v := -1) hX (D_Model_taken (i := 14) rfl) (by decide) ?_
      refine z_icmp_ne (tgt := 32) hX (D_Model_taken (i := 15) rfl) (by decide) (fun h3 => ?_) (fun h3 => ?_)
      · refine z_aload_n hX (D_Model_taken (i := 18) rfl) rfl ?_
        refine z_getc hX (D_Model_taken (i := 19) rfl) f_Model_82 rfl (by decide) (by first | exact Nat.one_pos | assumption | omega) rfl ?_
        refine z_iload_n hX (D_Model_taken (i := 20) rfl) rfl ?_
        refine z_iald (j := k) hX (D_Model_taken (i := 21) rfl) rfl (by decide) (by first | exact Nat.one_pos | assumption | omega) (by decide) rfl hk6 ?_
        rcases hho k hk6 with e | ⟨b, hb, e⟩ | ⟨s, hs, e⟩
        · exact absurd e h3
        · obtain ⟨κ, h8, e2⟩ := hk b hb
          obtain ⟨t, ht, rfl⟩ := inN_ex (bI_n.mp h2) (by omega)
          have hh := hok k t b κ hk6 ht hb h8 rfl rfl e e2
          rw [e]
          refine z_if_lt (tgt := 73) hX (D_Model_taken (i := 22) rfl) (by decide) (fun hcc => absurd hcc (nI_pos (by omega))) (fun _ => ?_)
          refine z_aload_n hX (D_Model_taken (i := 23) rfl) rfl ?_
          refine z_getc hX (D_Model_taken (i := 24) rfl) f_Model_76 rfl (by decide) (by first | exact Nat.one_pos | assumption | omega) rfl ?_
          refine z_aload_n hX (D_Model_taken (i := 25) rfl) rfl ?_
          refine z_getc hX (D_Model_taken (i := 26) rfl) f_Model_82 rfl (by decide) (by first | exact Nat.one_pos | assumption | omega) rfl ?_
          refine z_iload_n hX (D_Model_taken (i := 27) rfl) rfl ?_
          refine z_iald (j := k) hX (D_Model_taken (i := 28) rfl) rfl (by decide) (by first | exact Nat.one_pos | assumption | omega) (by decide) rfl hk6 ?_
          rw [e]
          refine z_iald (j := b) hX (D_Model_taken (i := 29) rfl) rfl (by decide) (by first | exact Nat.one_pos | assumption | omega) (by decide) rfl (by omega) ?_
          rw [e2]
          refine z_iload_n hX (D_Model_taken (i := 30) rfl) rfl ?_
          refine z_cS2 hX (D_Model_taken (i := 31) rfl) ms_Model_isUnder l_Model_357 (by first | decide | omega) (Nat.le_of_ble_eq_true rfl) (d_isUnder h8 ht ?_)
          refine z_if_eq (tgt := 73) hX (D_Model_taken (i := 32) rfl) (by decide) (fun h5 => ?_) (fun h5 => ?_)
          · refine z_bipush (v := -12) hX (D_Model_taken (i := 41) rfl) (by decide) ?_
            rw [if_neg (by rw [bI_0.mp h5]; decide)] at hh
            exact z_iret hX hR (D_Model_taken (i := 42) rfl) rfl hh
          · refine z_aload_n hX (D_Model_taken (i := 33) rfl) rfl ?_
            refine z_getc hX (D_Model_taken (i := 34) rfl) f_Model_76 rfl (by decide) (by first | exact Nat.one_pos | assumption | omega) rfl ?_
            refine z_aload_n hX (D_Model_taken (i := 35) rfl) rfl ?_
            refine z_getc hX (D_Model_taken (i := 36) rfl) f_Model_82 rfl (by decide) (by first | exact Nat.one_pos | assumption | omega) rfl ?_
            refine z_iload_n hX (D_Model_taken (i := 37) rfl) rfl ?_
            rw [if_pos (bI_n.mp h5)] at hh
            refine z_iald (j := k) hX (D_Model_taken (i := 38) rfl) rfl (by decide) (by first | exact Nat.one_pos | assumption | omega) (by decide) rfl hk6 ?_
            rw [e]
            refine z_iald (j := b) hX (D_Model_taken (i := 39) rfl) rfl (by decide) (by first | exact Nat.one_pos | assumption | omega) (by decide) rfl (by omega) ?_
            rw [e2]
            refine z_goto (tgt := 75) hX (D_Model_taken (i := 40) rfl) (by decide) ?_
            exact z_iret hX hR (D_Model_taken (i := 42) rfl) rfl hh
        · rw [e]
          refine z_if_lt (tgt := 73) hX (D_Model_taken (i := 22) rfl) (by decide) (fun _ => ?_) (fun hcc => absurd ((ho_neg s hs).1) hcc)
          refine z_bipush (v := -12) hX (D_Model_taken (i := 41) rfl) (by decide) ?_
          exact z_iret hX hR (D_Model_taken (i := 42) rfl) rfl (hrow k s hk6 hs rfl (bI_n.mp h2) e)
      · refine z_bipush (v := -11) hX (D_Model_taken (i := 16) rfl) (by decide) ?_
        exact z_iret hX hR (D_Model_taken (i := 17) rfl) rfl (hbare k hk6 rfl (bI_n.mp h2) h3)
    · refine z_iconst (v := -1) hX (D_Model_taken (i := 8) rfl) (by decide) ?_
      exact z_iret hX hR (D_Model_taken (i := 9) rfl) rfl (hno (by rw [bI_0.mp h2]; simp))
theorem d_many (hH : zHas ι pM) (hno : (x < 1 ∨ 1000 < x ∨ y < 0 ∨ ¬ y ≤ 1) → Post (some (zJ (-1))) mem) (h0 : ¬ x < 1 → ¬ 1000 < x → y = 0 → Post (some (zJ ((x.toInt64 * x.toInt64 * x.toInt64 * (x.toInt64 * x.toInt64 * x.toInt64) + 3 * (x.toInt64 * x.toInt64 * (x.toInt64 * x.toInt64)) + 12 * (x.toInt64 * x.toInt64 * x.toInt64) + 8 * (x.toInt64 * x.toInt64)) / 24))) mem) (h1 : ¬ x < 1 → ¬ 1000 < x → ¬ y = 0 → ¬ y < 0 → y ≤ 1 → Post (some (zJ ((x.toInt64 * x.toInt64 * x.toInt64 * (x.toInt64 * x.toInt64 * x.toInt64) + 3 * (x.toInt64 * x.toInt64 * (x.toInt64 * x.toInt64)) * x.toInt64 + 9 * (x.toInt64 * x.toInt64 * (x.toInt64 * x.toInt64)) + 13 * (x.toInt64 * x.toInt64 * x.toInt64) + 14 * (x.toInt64 * x.toInt64) + 8 * x.toInt64) / 48))) mem) : zC l ι M_Model_many 1 [zP 40 0, zI x, zI y] mem Post := by
  refine z_enter hH (by decide) (by simp [z_ent, M_Model_many]) (fun X hXl hX hR => ?_)
  refine z_iload_n hX (D_Model_many (i := 0) rfl) rfl ?_
  refine z_iconst (v := 1) hX (D_Model_many (i := 1) rfl) (by decide) ?_
  refine z_sipush (v := 1000) hX (D_Model_many (i := 2) rfl) (by decide) ?_
  refine z_cS3 hX (D_Model_many (i := 3) rfl) ms_Model_in l_Model_102 (by first | decide | omega) (Nat.le_of_ble_eq_true rfl) (d_in ?_)
  refine z_if_eq (tgt := 20) hX (D_Model_many (i := 4) rfl) (by decide) (fun a1 => ?_) (fun a1 => ?_)
  · refine z_ldc2 (v := -1) hX (D_Model_many (i := 10) rfl) k_Model_302 ?_
    have a2 := of_decide_eq_false (bI_0.mp a1)
    refine z_lret hX hR (D_Model_many (i := 11) rfl) rfl (hno ?_)
    by_cases q1 : x < 1
    · exact Or.inl q1
    · refine Or.inr (Or.inl (Classical.byContradiction (fun w => a2 ⟨Int32.not_lt.mp q1, Int32.not_lt.mp w⟩)))
  · refine z_iload_n hX (D_Model_many (i := 5) rfl) rfl ?_
    refine z_iconst (v := 0) hX (D_Model_many (i := 6) rfl) (by decide) ?_
    refine z_iconst (v := 1) hX (D_Model_many (i := 7) rfl) (by decide) ?_
    have a2 := of_decide_eq_true (bI_n.mp a1)
    refine z_cS3 hX (D_Model_many (i := 8) rfl) ms_Model_in l_Model_102 (by first | decide | omega) (Nat.le_of_ble_eq_true rfl) (d_in ?_)
    refine z_if_ne (tgt := 24) hX (D_Model_many (i := 9) rfl) (by decide) (fun a3 => ?_) (fun a3 => ?_)
    · refine z_iload_n hX (D_Model_many (i := 12) rfl) rfl ?_
      refine z_i2l hX (D_Model_many (i := 13) rfl) ?_
      refine z_iload_n hX (D_Model_many (i := 14) rfl) rfl ?_
      refine z_i2l hX (D_Model_many (i := 15) rfl) ?_
      refine z_lmul hX (D_Model_many (i := 16) rfl) ?_
      refine z_lstore_n hX (D_Model_many (i := 17) rfl) (by decide) rfl ?_
      refine z_lload_n hX (D_Model_many (i := 18) rfl) rfl ?_
      refine z_iload_n hX (D_Model_many (i := 19) rfl) rfl ?_
      refine z_i2l hX (D_Model_many (i := 20) rfl) ?_
      refine z_lmul hX (D_Model_many (i := 21) rfl) ?_
      refine z_lstore hX (D_Model_many (i := 22) rfl) (by decide) rfl ?_
      refine z_lload_n hX (D_Model_many (i := 23) rfl) rfl ?_
      refine z_lload_n hX (D_Model_many (i := 24) rfl) rfl ?_
      refine z_lmul hX (D_Model_many (i := 25) rfl) ?_
      refine z_lstore hX (D_Model_many (i := 26) rfl) (by decide) rfl ?_
      refine z_lload hX (D_Model_many (i := 27) rfl) rfl ?_
      refine z_lload hX (D_Model_many (i := 28) rfl) rfl ?_
      refine z_lmul hX (D_Model_many (i := 29) rfl) ?_
      refine z_lstore hX (D_Model_many (i := 30) rfl) (by decide) rfl ?_
      refine z_iload_n hX (D_Model_many (i := 31) rfl) rfl ?_
      have a4 := of_decide_eq_true (bI_n.mp a3)
      refine z_if_ne (tgt := 79) hX (D_Model_many (i := 32) rfl) (by decide) (fun a5 => ?_) (fun a5 => ?_)
      · refine z_lload hX (D_Model_many (i := 49) rfl) rfl ?_
        refine z_ldc2 (v := 3) hX (D_Model_many (i := 50) rfl) k_Model_304 ?_
        refine z_lload hX (D_Model_many (i := 51) rfl) rfl ?_
        refine z_lmul hX (D_Model_many (i := 52) rfl) ?_
        refine z_iload_n hX (D_Model_many (i := 53) rfl) rfl ?_
        refine z_i2l hX (D_Model_many (i := 54) rfl) ?_
        refine z_lmul hX (D_Model_many (i := 55) rfl) ?_
        refine z_ladd hX (D_Model_many (i := 56) rfl) ?_
        refine z_ldc2 (v := 9) hX (D_Model_many (i := 57) rfl) k_Model_312 ?_
        refine z_lload hX (D_Model_many (i := 58) rfl) rfl ?_
        refine z_lmul hX (D_Model_many (i := 59) rfl) ?_
        refine z_ladd hX (D_Model_many (i := 60) rfl) ?_
        refine z_ldc2 (v := 13) hX (D_Model_many (i := 61) rfl) k_Model_314 ?_
        refine z_lload hX (D_Model_many (i := 62) rfl) rfl ?_
        refine z_lmul hX (D_Model_many (i := 63) rfl) ?_
        refine z_ladd hX (D_Model_many (i := 64) rfl) ?_
        refine z_ldc2 (v := 14) hX (D_Model_many (i := 65) rfl) k_Model_316 ?_
        refine z_lload_n hX (D_Model_many (i := 66) rfl) rfl ?_
        refine z_lmul hX (D_Model_many (i := 67) rfl) ?_
        refine z_ladd hX (D_Model_many (i := 68) rfl) ?_
        refine z_ldc2 (v := 8) hX (D_Model_many (i := 69) rfl) k_Model_308 ?_
        refine z_iload_n hX (D_Model_many (i := 70) rfl) rfl ?_
        refine z_i2l hX (D_Model_many (i := 71) rfl) ?_
        refine z_lmul hX (D_Model_many (i := 72) rfl) ?_
        refine z_ladd hX (D_Model_many (i := 73) rfl) ?_
        refine z_ldc2 (v := 48) hX (D_Model_many (i := 74) rfl) k_Model_318 ?_
        refine z_ldiv hX (D_Model_many (i := 75) rfl) (by decide) ?_
        exact z_lret hX hR (D_Model_many (i := 76) rfl) rfl (h1 (Int32.not_lt.mpr a2.1) (Int32.not_lt.mpr a2.2) a5 (Int32.not_lt.mpr a4.1) a4.2)
      · refine z_lload hX (D_Model_many (i := 33) rfl) rfl ?_
        refine z_ldc2 (v := 3) hX (D_Model_many (i := 34) rfl) k_Model_304 ?_
        refine z_lload hX (D_Model_many (i := 35) rfl) rfl ?_
        refine z_lmul hX (D_Model_many (i := 36) rfl) ?_
        refine z_ladd hX (D_Model_many (i := 37) rfl) ?_
        refine z_ldc2 (v := 12) hX (D_Model_many (i := 38) rfl) k_Model_306 ?_
        refine z_lload hX (D_Model_many (i := 39) rfl) rfl ?_
        refine z_lmul hX (D_Model_many (i := 40) rfl) ?_
        refine z_ladd hX (D_Model_many (i := 41) rfl) ?_
        refine z_ldc2 (v := 8) hX (D_Model_many (i := 42) rfl) k_Model_308 ?_
        refine z_lload_n hX (D_Model_many (i := 43) rfl) rfl ?_
        refine z_lmul hX (D_Model_many (i := 44) rfl) ?_
        refine z_ladd hX (D_Model_many (i := 45) rfl) ?_
        refine z_ldc2 (v := 24) hX (D_Model_many (i := 46) rfl) k_Model_310 ?_
        refine z_ldiv hX (D_Model_many (i := 47) rfl) (by decide) ?_
        exact z_lret hX hR (D_Model_many (i := 48) rfl) rfl (h0 (Int32.not_lt.mpr a2.1) (Int32.not_lt.mpr a2.2) a5)
    · refine z_ldc2 (v := -1) hX (D_Model_many (i := 10) rfl) k_Model_302 ?_
      have a4 := of_decide_eq_false (bI_0.mp a3)
      refine z_lret hX hR (D_Model_many (i := 11) rfl) rfl (hno ?_)
      by_cases q1 : y < 0
      · exact Or.inr (Or.inr (Or.inl q1))
      · exact Or.inr (Or.inr (Or.inr (fun w => a4 ⟨Int32.not_lt.mp q1, w⟩)))
theorem i64mul_assoc (a b c : Int64) : a * b * c = a * (b * c) := Int64.mul_assoc a b c
theorem many0 (x : Int32) : (x.toInt64 * x.toInt64 * x.toInt64 * (x.toInt64 * x.toInt64 * x.toInt64) + 3 * (x.toInt64 * x.toInt64 * (x.toInt64 * x.toInt64)) + 12 * (x.toInt64 * x.toInt64 * x.toInt64) + 8 * (x.toInt64 * x.toInt64)) = maT x := by
  unfold maT
  rw [Int64.mul_assoc 3]
theorem many1 (x : Int32) (h8 : (8 * x).toInt64 = 8 * x.toInt64) : (x.toInt64 * x.toInt64 * x.toInt64 * (x.toInt64 * x.toInt64 * x.toInt64) + 3 * (x.toInt64 * x.toInt64 * (x.toInt64 * x.toInt64)) * x.toInt64 + 9 * (x.toInt64 * x.toInt64 * (x.toInt64 * x.toInt64)) + 13 * (x.toInt64 * x.toInt64 * x.toInt64) + 14 * (x.toInt64 * x.toInt64) + 8 * x.toInt64) = maT x + maG x := by
  unfold maT maG
  rw [h8]
  grind
theorem d_bitsOf {b : Nat} (hb : b < 256) (h : Post (some (zI (nI (pcN b 8)))) mem) : zC l ι M_Model_bitsOf 0 [zI (nI b)] mem Post := by
  have hH : zHas ι [] := zHas.nil
  have step : ∀ c, c < 256 → c = 0 ∨ (nI c &&& (nI c - 1) = nI (c &&& (c - 1)) ∧ (c &&& (c - 1)) < 256 ∧ pcN c 8 = pcN (c &&& (c - 1)) 8 + 1) := by decide +kernel
  have p0 : pcN 0 8 = 0 := by decide
  refine z_enter hH (by decide) (by simp [z_ent, M_Model_bitsOf]) (fun X hXl hX hR => ?_)
  refine z_iconst (v := 0) hX (D_Model_bitsOf (i := 0) rfl) (by decide) ?_
  refine z_istore_n hX (D_Model_bitsOf (i := 1) rfl) (by decide) rfl ?_
  refine z_iload_n hX (D_Model_bitsOf (i := 2) rfl) rfl ?_
  refine z_istore_n hX (D_Model_bitsOf (i := 3) rfl) (by decide) rfl ?_
  suffices H : ∀ (n c m : Nat), c < 256 → pcN c 8 ≤ n → m + pcN c 8 = pcN b 8 → m < 1000 → zW ι M_Model_bitsOf X 4 [some (zI (nI b)), some (zI (nI m)), some (zI (nI c))] [] mem from H (pcN b 8) b 0 hb (Nat.le_refl _) (Nat.zero_add _) (by decide)
  have p8' := (bc8 b hb).2
  intro n
  induction n with
  | zero =>
    intro c m hc hn hm hm1
    rcases step c hc with e | ⟨e1, e2, e3⟩
    · subst e
      refine z_iload_n hX (D_Model_bitsOf (i := 4) rfl) rfl ?_
      refine z_if_eq (tgt := 20) hX (D_Model_bitsOf (i := 5) rfl) (by decide) (fun _ => ?_) (fun hcc => absurd (rfl) hcc)
      refine z_iload_n hX (D_Model_bitsOf (i := 14) rfl) rfl ?_
      rw [← hm, p0] at h
      exact z_iret hX hR (D_Model_bitsOf (i := 15) rfl) rfl h
    · omega
  | succ n ih =>
    intro c m hc hn hm hm1
    rcases step c hc with e | ⟨e1, e2, e3⟩
    · subst e
      refine z_iload_n hX (D_Model_bitsOf (i := 4) rfl) rfl ?_
      refine z_if_eq (tgt := 20) hX (D_Model_bitsOf (i := 5) rfl) (by decide) (fun _ => ?_) (fun hcc => absurd (rfl) hcc)
      refine z_iload_n hX (D_Model_bitsOf (i := 14) rfl) rfl ?_
      rw [← hm, p0] at h
      exact z_iret hX hR (D_Model_bitsOf (i := 15) rfl) rfl h
    · refine z_iload_n hX (D_Model_bitsOf (i := 4) rfl) rfl ?_
      refine z_if_eq (tgt := 20) hX (D_Model_bitsOf (i := 5) rfl) (by decide) (fun hcc => absurd hcc (fun w => by have := (nI_eq (b := 0) (by omega) (by decide)).mp w; subst this; rw [p0] at e3; omega)) (fun _ => ?_)
      first | refine z_inc1 hX (D_Model_bitsOf (i := 6) rfl) rfl (by decide) rfl ?_ | refine z_iinc hX (D_Model_bitsOf (i := 6) rfl) rfl rfl (by decide) rfl ?_
      refine z_iload_n hX (D_Model_bitsOf (i := 7) rfl) rfl ?_
      refine z_iload_n hX (D_Model_bitsOf (i := 8) rfl) rfl ?_
      refine z_iconst (v := 1) hX (D_Model_bitsOf (i := 9) rfl) (by decide) ?_
      refine z_isub hX (D_Model_bitsOf (i := 10) rfl) ?_
      refine z_iand hX (D_Model_bitsOf (i := 11) rfl) ?_
      refine z_istore_n hX (D_Model_bitsOf (i := 12) rfl) (by decide) rfl ?_
      rw [e1]
      refine z_goto (tgt := 4) hX (D_Model_bitsOf (i := 13) rfl) (by decide) ?_
      exact ih _ (m + 1) e2 (by omega) (by omega) (by omega)
theorem sm8 : ∀ s, s ≤ 8 → ((nI s &&& 31).toBitVec.smod 32).toNat = s := by decide +kernel
theorem shr_ok : ∀ s, s ≤ 8 → ∀ b, b < 2 ^ s → nI b >>> (nI s &&& 31) = 0 := by
  intro s hs b hb
  have h9 := p8 s hs
  rw [pk_shrN (n := b) (by omega) (nI s &&& 31) s ?_]
  · rw [Nat.div_eq_of_lt hb]; rfl
  · exact sm8 s hs
theorem shr_no {s : Nat} {b : Nat} (hs : s ≤ 8) (hb : b < 2 ^ 31) (h : nI b >>> (nI s &&& 31) = 0) : b < 2 ^ s := by
  have h9 := p8 s hs
  have hz : ((nI s &&& 31).toBitVec.smod 32).toNat = s := sm8 s hs
  rw [pk_shrN (n := b) hb (nI s &&& 31) s hz] at h
  have h2 := (nI_eq (b := 0) (Nat.lt_of_le_of_lt (Nat.div_le_self _ _) hb) (by decide)).mp h
  rcases (Nat.div_eq_zero_iff).mp h2 with h3 | h3
  · have := Nat.pos_of_ne_zero (fun w : 2 ^ s = 0 => by have := Nat.pow_pos (n := s) (show 0 < 2 by decide); omega)
    omega
  · exact h3
theorem d_box (hH : zHas ι pM) (hs : mem.1 40 0 1 = nI sz) (h8 : sz ≤ 8) (hno : (inN x (2 ^ sz) = false ∨ ∃ b, b < 2 ^ sz ∧ x = nI b ∧ 4 < pcN b 8) → Post (some (zI (-1))) mem) (hok : ∀ b, b < 2 ^ sz → x = nI b → pcN b 8 ≤ 4 → Post (some (zI (mem.1 40 0 4))) (upI mem 40 0 4 (nI b))) : zC l ι M_Model_box 1 [zP 40 0, zI x] mem Post := by
  have h9 := p8 sz h8
  refine z_enter hH (by decide) (by simp [z_ent, M_Model_box]) (fun X hXl hX hR => ?_)
  refine z_iload_n hX (D_Model_box (i := 0) rfl) rfl ?_
  refine z_if_lt (tgt := 21) hX (D_Model_box (i := 1) rfl) (by decide) (fun h1 => ?_) (fun h1 => ?_)
  · refine z_iconst (v := -1) hX (D_Model_box (i := 11) rfl) (by decide) ?_
    exact z_iret hX hR (D_Model_box (i := 12) rfl) rfl (hno (Or.inl (inN_lo h1)))
  · skip
    obtain ⟨b, hb, rfl⟩ := nI_of h1
    refine z_iload_n hX (D_Model_box (i := 2) rfl) rfl ?_
    refine z_aload_n hX (D_Model_box (i := 3) rfl) rfl ?_
    refine z_geti hX (D_Model_box (i := 4) rfl) f_Model_99 rfl (by decide) (by first | exact Nat.one_pos | assumption | omega) rfl ?_
    refine z_ishr hX (D_Model_box (i := 5) rfl) ?_
    rw [hs]
    by_cases hb2 : b < 2 ^ sz
    · rw [shr_ok sz h8 b hb2]
      refine z_if_ne (tgt := 21) hX (D_Model_box (i := 6) rfl) (by decide) (fun hcc => absurd (rfl) hcc) (fun _ => ?_)
      refine z_iload_n hX (D_Model_box (i := 7) rfl) rfl ?_
      refine z_cS1 hX (D_Model_box (i := 8) rfl) ms_Model_bitsOf l_Model_143 (by first | decide | omega) (Nat.le_of_ble_eq_true rfl) (d_bitsOf (by omega) ?_)
      refine z_iconst (v := 4) hX (D_Model_box (i := 9) rfl) (by decide) ?_
      have e2 := (bc8 b (by omega)).2
      refine z_icmp_le (tgt := 23) hX (D_Model_box (i := 10) rfl) (by decide) (fun h2 => ?_) (fun h2 => ?_)
      · refine z_aload_n hX (D_Model_box (i := 13) rfl) rfl ?_
        refine z_geti hX (D_Model_box (i := 14) rfl) f_Model_147 rfl (by decide) (by first | exact Nat.one_pos | assumption | omega) rfl ?_
        refine z_istore_n hX (D_Model_box (i := 15) rfl) (by decide) rfl ?_
        refine z_aload_n hX (D_Model_box (i := 16) rfl) rfl ?_
        refine z_iload_n hX (D_Model_box (i := 17) rfl) rfl ?_
        refine z_puti hX (D_Model_box (i := 18) rfl) g_Model_147 rfl (by decide) (by first | exact Nat.one_pos | assumption | omega) rfl ?_
        refine z_iload_n hX (D_Model_box (i := 19) rfl) rfl ?_
        exact z_iret hX hR (D_Model_box (i := 20) rfl) rfl (hok b hb2 rfl ((nI_leI (b := 4) (by omega) (by decide)).mp h2))
      · refine z_iconst (v := -1) hX (D_Model_box (i := 11) rfl) (by decide) ?_
        exact z_iret hX hR (D_Model_box (i := 12) rfl) rfl (hno (Or.inr ⟨b, hb2, rfl, Nat.not_le.mp (fun w => h2 (nI_le (b := 4) w (by decide)))⟩))
    · skip
      refine z_if_ne (tgt := 21) hX (D_Model_box (i := 6) rfl) (by decide) (fun _ => ?_) (fun hcc => absurd hcc (fun w => hb2 (shr_no h8 hb w)))
      refine z_iconst (v := -1) hX (D_Model_box (i := 11) rfl) (by decide) ?_
      exact z_iret hX hR (D_Model_box (i := 12) rfl) rfl (hno (Or.inl (by rw [inN_nI' hb]; exact decide_eq_false hb2)))
def by8 (x : Int32) : Int32 := x.toInt8.toInt32.toInt8.toInt32
theorem d_feed (hH : zHas ι pM) {f : Nat} (hf : mem.1 40 0 13 = nI f) (h120 : f ≤ 120) (hno : inN x 256 = false → Post (some (zI (-1))) mem) (hfull : inN x 256 = true → f = 120 → Post (some (zI (-3))) mem) (hok : inN x 256 = true → f < 120 → Post (some (zI (nI (f + 1)))) (upI (upI mem 48 0 f (by8 x)) 40 0 13 (nI (f + 1)))) : zC l ι M_Model_feed 1 [zP 40 0, zI x] mem Post := by
  refine z_enter hH (by decide) (by simp [z_ent, M_Model_feed]) (fun X hXl hX hR => ?_)
  refine z_iload_n hX (D_Model_feed (i := 0) rfl) rfl ?_
  refine z_iconst (v := 0) hX (D_Model_feed (i := 1) rfl) (by decide) ?_
  refine z_sipush (v := 255) hX (D_Model_feed (i := 2) rfl) (by decide) ?_
  refine z_cS3 hX (D_Model_feed (i := 3) rfl) ms_Model_in l_Model_102 (by first | decide | omega) (Nat.le_of_ble_eq_true rfl) (d_in ?_)
  rw [show decide ((0 : Int32) ≤ x ∧ x ≤ 255) = inN x 256 from in0l (n := 255) (by decide)]
  refine z_if_ne (tgt := 13) hX (D_Model_feed (i := 4) rfl) (by decide) (fun h1 => ?_) (fun h1 => ?_)
  · refine z_aload_n hX (D_Model_feed (i := 7) rfl) rfl ?_
    refine z_geti hX (D_Model_feed (i := 8) rfl) f_Model_150 rfl (by decide) (by first | exact Nat.one_pos | assumption | omega) rfl ?_
    refine z_bipush (v := 120) hX (D_Model_feed (i := 9) rfl) (by decide) ?_
    rw [hf]
    refine z_icmp_ne (tgt := 25) hX (D_Model_feed (i := 10) rfl) (by decide) (fun h2 => ?_) (fun h2 => ?_)
    · refine z_aload_n hX (D_Model_feed (i := 13) rfl) rfl ?_
      refine z_getc hX (D_Model_feed (i := 14) rfl) f_Model_31 rfl (by decide) (by first | exact Nat.one_pos | assumption | omega) rfl ?_
      refine z_aload_n hX (D_Model_feed (i := 15) rfl) rfl ?_
      refine z_geti hX (D_Model_feed (i := 16) rfl) f_Model_150 rfl (by decide) (by first | exact Nat.one_pos | assumption | omega) rfl ?_
      refine z_iload_n hX (D_Model_feed (i := 17) rfl) rfl ?_
      refine z_i2b hX (D_Model_feed (i := 18) rfl) ?_
      have hb : f < 120 := by
        have : ¬ f = 120 := fun w => h2 (by rw [w]; rfl)
        omega
      rw [hf]
      refine z_bast (j := f) hX (D_Model_feed (i := 19) rfl) rfl (by decide) (by first | exact Nat.one_pos | assumption | omega) (by decide) rfl hb ?_
      refine z_aload_n hX (D_Model_feed (i := 20) rfl) rfl ?_
      refine z_dupP hX (D_Model_feed (i := 21) rfl) ?_
      refine z_geti hX (D_Model_feed (i := 22) rfl) f_Model_150 rfl (by decide) (by first | exact Nat.one_pos | assumption | omega) rfl ?_
      rw [show (upI mem 48 0 f (x.toInt8.toInt32.toInt8.toInt32)).1 40 0 13 = nI f by simp [upI_get, hf]]
      refine z_iconst (v := 1) hX (D_Model_feed (i := 23) rfl) (by decide) ?_
      refine z_iadd hX (D_Model_feed (i := 24) rfl) ?_
      rw [nlit, nI_add]
      refine z_puti hX (D_Model_feed (i := 25) rfl) g_Model_150 rfl (by decide) (by first | exact Nat.one_pos | assumption | omega) rfl ?_
      refine z_aload_n hX (D_Model_feed (i := 26) rfl) rfl ?_
      refine z_geti hX (D_Model_feed (i := 27) rfl) f_Model_150 rfl (by decide) (by first | exact Nat.one_pos | assumption | omega) rfl ?_
      rw [show (upI (upI mem 48 0 f (x.toInt8.toInt32.toInt8.toInt32)) 40 0 13 (nI (f + 1))).1 40 0 13 = nI (f + 1) by simp [upI_get]]
      exact z_iret hX hR (D_Model_feed (i := 28) rfl) rfl (hok (bI_n.mp h1) hb)
    · refine z_bipush (v := -3) hX (D_Model_feed (i := 11) rfl) (by decide) ?_
      exact z_iret hX hR (D_Model_feed (i := 12) rfl) rfl (hfull (bI_n.mp h1) ((nI_eq (b := 120) (by omega) (by decide)).mp h2))
  · refine z_iconst (v := -1) hX (D_Model_feed (i := 5) rfl) (by decide) ?_
    exact z_iret hX hR (D_Model_feed (i := 6) rfl) rfl (hno (bI_0.mp h1))
end G5
