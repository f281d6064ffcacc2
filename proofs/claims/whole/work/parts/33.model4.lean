/-! the reference: act, body, trace, count, shelves -/
section G4
variable {l : Launch} {ι : zE} {mem : zM} {Post : Option zV → zM → Prop} {x y z : Int32} {sz nb : Nat} {s κ r : Nat}
theorem d_isBody (hH : zHas ι pM) (hn : mem.1 40 0 37 = nI nb) (h50 : nb ≤ 50) (h : Post (some (zI (bI (inN x nb)))) mem) : zC l ι M_Model_isBody 1 [zP 40 0, zI x] mem Post := by
  refine z_enter hH (by decide) (by simp [z_ent, M_Model_isBody]) (fun X hXl hX hR => ?_)
  refine z_iload_n hX (D_Model_isBody (i := 0) rfl) rfl ?_
  refine z_iconst (v := 0) hX (D_Model_isBody (i := 1) rfl) (by decide) ?_
  refine z_aload_n hX (D_Model_isBody (i := 2) rfl) rfl ?_
  refine z_geti hX (D_Model_isBody (i := 3) rfl) f_Model_345 rfl (by decide) (by first | exact Nat.one_pos | assumption | omega) rfl ?_
  refine z_iconst (v := 1) hX (D_Model_isBody (i := 4) rfl) (by decide) ?_
  refine z_isub hX (D_Model_isBody (i := 5) rfl) ?_
  rw [hn]
  refine z_cS3 hX (D_Model_isBody (i := 6) rfl) ms_Model_in l_Model_102 (by first | decide | omega) (Nat.le_of_ble_eq_true rfl) (d_in ?_)
  rw [in0 (by omega)]
  exact z_zret hX hR (D_Model_isBody (i := 7) rfl) rfl (bI_or _) h
theorem d_isShelf (h : Post (some (zI (bI (inN x 6)))) mem) : zC l ι M_Model_isShelf 1 [zI x] mem Post := by
  have hH : zHas ι [] := zHas.nil
  refine z_enter hH (by decide) (by simp [z_ent, M_Model_isShelf]) (fun X hXl hX hR => ?_)
  refine z_iload_n hX (D_Model_isShelf (i := 0) rfl) rfl ?_
  refine z_iconst (v := 0) hX (D_Model_isShelf (i := 1) rfl) (by decide) ?_
  refine z_iconst (v := 5) hX (D_Model_isShelf (i := 2) rfl) (by decide) ?_
  refine z_cS3 hX (D_Model_isShelf (i := 3) rfl) ms_Model_in l_Model_102 (by first | decide | omega) (Nat.le_of_ble_eq_true rfl) (d_in ?_)
  rw [show decide ((0 : Int32) ≤ x ∧ x ≤ 5) = inN x 6 from in0l (n := 5) (by decide)]
  exact z_zret hX hR (D_Model_isShelf (i := 4) rfl) rfl (bI_or _) h
theorem d_act (hH : zHas ι pM) (hn : mem.1 40 0 37 = nI nb) (h50 : nb ≤ 50) (hk : ∀ b, b < nb → ∃ κ, κ < 8 ∧ mem.1 62 0 b = nI κ) (hno : (inN x nb && inN y 4) = false → Post (some (zI 0)) (upI mem 40 0 39 0)) (hok : ∀ b d κ, b < nb → d < 4 → κ < 8 → x = nI b → y = nI d → mem.1 62 0 b = nI κ → Post (some (zI (acP κ d (nI b) z).1)) (trMM (upI mem 40 0 39 0) 0 (acP κ d (nI b) z).2)) : zC l ι M_Model_act 10 [zP 40 0, zI x, zI y, zI z] mem Post := by
  have e : (upI mem 40 0 39 0).1 40 0 37 = nI nb := by simp [upI_get, hn]
  refine z_enter hH (by decide) (by simp [z_ent, M_Model_act]) (fun X hXl hX hR => ?_)
  refine z_aload_n hX (D_Model_act (i := 0) rfl) rfl ?_
  refine z_iconst (v := 0) hX (D_Model_act (i := 1) rfl) (by decide) ?_
  refine z_puti hX (D_Model_act (i := 2) rfl) g_Model_348 rfl (by decide) (by first | exact Nat.one_pos | assumption | omega) rfl ?_
  refine z_aload_n hX (D_Model_act (i := 3) rfl) rfl ?_
  refine z_iload_n hX (D_Model_act (i := 4) rfl) rfl ?_
  refine z_cV1 hX (D_Model_act (i := 5) rfl) mi_Model_isBody l_Model_387 rfl rfl (by decide) (by first | exact Nat.one_pos | assumption | omega) (by first | decide | omega) (Nat.le_of_ble_eq_true rfl) (d_isBody hH e h50 ?_)
  refine z_if_eq (tgt := 22) hX (D_Model_act (i := 6) rfl) (by decide) (fun h1 => ?_) (fun h1 => ?_)
  · refine z_iconst (v := 0) hX (D_Model_act (i := 12) rfl) (by decide) ?_
    exact z_iret hX hR (D_Model_act (i := 13) rfl) rfl (hno (by rw [bI_0.mp h1]; rfl))
  · refine z_iload_n hX (D_Model_act (i := 7) rfl) rfl ?_
    refine z_iconst (v := 0) hX (D_Model_act (i := 8) rfl) (by decide) ?_
    refine z_iconst (v := 3) hX (D_Model_act (i := 9) rfl) (by decide) ?_
    refine z_cS3 hX (D_Model_act (i := 10) rfl) ms_Model_in l_Model_102 (by first | decide | omega) (Nat.le_of_ble_eq_true rfl) (d_in ?_)
    rw [show decide ((0 : Int32) ≤ y ∧ y ≤ 3) = inN y 4 from in0l (n := 3) (by decide)]
    refine z_if_ne (tgt := 24) hX (D_Model_act (i := 11) rfl) (by decide) (fun h2 => ?_) (fun h2 => ?_)
    · skip
      obtain ⟨b, hb, rfl⟩ := inN_ex (bI_n.mp h1) (by omega)
      obtain ⟨d, hd, rfl⟩ := inN_ex (bI_n.mp h2) (by omega)
      obtain ⟨κ, h8, ek⟩ := hk b hb
      have hh := hok b d κ hb hd h8 rfl rfl ek
      have hB : BodyM (upI mem 40 0 39 0) b κ 0 := ⟨by omega, by simp [upI_get, ek], h8, by simp [upI_get]; rfl⟩
      unfold acP at hh
      refine z_iload_n hX (D_Model_act (i := 14) rfl) rfl ?_
      refine z_if_ne (tgt := 37) hX (D_Model_act (i := 15) rfl) (by decide) (fun h3 => ?_) (fun h3 => ?_)
      · refine z_iload_n hX (D_Model_act (i := 21) rfl) rfl ?_
        refine z_iconst (v := 1) hX (D_Model_act (i := 22) rfl) (by decide) ?_
        have n3 : ¬ d = 0 := fun w => h3 (by rw [w]; rfl)
        rw [if_neg n3] at hh
        refine z_icmp_ne (tgt := 51) hX (D_Model_act (i := 23) rfl) (by decide) (fun h4 => ?_) (fun h4 => ?_)
        · refine z_iload_n hX (D_Model_act (i := 29) rfl) rfl ?_
          refine z_iconst (v := 2) hX (D_Model_act (i := 30) rfl) (by decide) ?_
          have n4 : ¬ d = 1 := fun w => h4 (by rw [w]; rfl)
          rw [if_neg n4] at hh
          refine z_icmp_ne (tgt := 65) hX (D_Model_act (i := 31) rfl) (by decide) (fun h5 => ?_) (fun h5 => ?_)
          · refine z_aload_n hX (D_Model_act (i := 37) rfl) rfl ?_
            refine z_iload_n hX (D_Model_act (i := 38) rfl) rfl ?_
            refine z_iload_n hX (D_Model_act (i := 39) rfl) rfl ?_
            have n5 : ¬ d = 2 := fun w => h5 (by rw [w]; rfl)
            rw [if_neg n5] at hh
            refine z_cV2 hX (D_Model_act (i := 40) rfl) mi_Model_telling l_Model_390 rfl rfl (by decide) (by first | exact Nat.one_pos | assumption | omega) (by first | decide | omega) (Nat.le_of_ble_eq_true rfl) (d_telling hH hB (by omega) ?_)
            exact z_iret hX hR (D_Model_act (i := 41) rfl) rfl hh
          · refine z_aload_n hX (D_Model_act (i := 32) rfl) rfl ?_
            refine z_iload_n hX (D_Model_act (i := 33) rfl) rfl ?_
            refine z_iload_n hX (D_Model_act (i := 34) rfl) rfl ?_
            rw [if_pos ((nI_eq (b := 2) (by omega) (by decide)).mp h5)] at hh
            refine z_cV2 hX (D_Model_act (i := 35) rfl) mi_Model_lying l_Model_372 rfl rfl (by decide) (by first | exact Nat.one_pos | assumption | omega) (by first | decide | omega) (Nat.le_of_ble_eq_true rfl) (d_lying hH hB (by omega) ?_)
            refine z_goto (tgt := 71) hX (D_Model_act (i := 36) rfl) (by decide) ?_
            exact z_iret hX hR (D_Model_act (i := 41) rfl) rfl hh
        · refine z_aload_n hX (D_Model_act (i := 24) rfl) rfl ?_
          refine z_iload_n hX (D_Model_act (i := 25) rfl) rfl ?_
          refine z_iload_n hX (D_Model_act (i := 26) rfl) rfl ?_
          rw [if_pos ((nI_eq (b := 1) (by omega) (by decide)).mp h4)] at hh
          refine z_cV2 hX (D_Model_act (i := 27) rfl) mi_Model_showing l_Model_378 rfl rfl (by decide) (by first | exact Nat.one_pos | assumption | omega) (by first | decide | omega) (Nat.le_of_ble_eq_true rfl) (d_showing hH hB (by omega) ?_)
          refine z_goto (tgt := 71) hX (D_Model_act (i := 28) rfl) (by decide) ?_
          exact z_iret hX hR (D_Model_act (i := 41) rfl) rfl hh
      · refine z_aload_n hX (D_Model_act (i := 16) rfl) rfl ?_
        refine z_iload_n hX (D_Model_act (i := 17) rfl) rfl ?_
        refine z_iload_n hX (D_Model_act (i := 18) rfl) rfl ?_
        rw [if_pos ((nI_eq (b := 0) (by omega) (by decide)).mp h3)] at hh
        refine z_cV2 hX (D_Model_act (i := 19) rfl) mi_Model_turningBy l_Model_363 rfl rfl (by decide) (by first | exact Nat.one_pos | assumption | omega) (by first | decide | omega) (Nat.le_of_ble_eq_true rfl) (d_turningBy hH hB (by omega) ?_)
        refine z_goto (tgt := 71) hX (D_Model_act (i := 20) rfl) (by decide) ?_
        exact z_iret hX hR (D_Model_act (i := 41) rfl) rfl hh
    · refine z_iconst (v := 0) hX (D_Model_act (i := 12) rfl) (by decide) ?_
      exact z_iret hX hR (D_Model_act (i := 13) rfl) rfl (hno (by rw [bI_0.mp h2]; simp))
theorem d_trace (hH : zHas ι pM) (hr : mem.1 40 0 39 = nI r) (h3 : r < 2 ^ 31) (hno : inN x (if 24 < r then 24 else r) = false → Post (some (zI (-1))) mem) (hok : ∀ i, i < (if 24 < r then 24 else r) → x = nI i → Post (some (zI (mem.1 63 0 i))) mem) : zC l ι M_Model_trace 0 [zP 40 0, zI x] mem Post := by
  refine z_enter hH (by decide) (by simp [z_ent, M_Model_trace]) (fun X hXl hX hR => ?_)
  refine z_iload_n hX (D_Model_trace (i := 0) rfl) rfl ?_
  refine z_if_lt (tgt := 27) hX (D_Model_trace (i := 1) rfl) (by decide) (fun h1 => ?_) (fun h1 => ?_)
  · refine z_iconst (v := -1) hX (D_Model_trace (i := 14) rfl) (by decide) ?_
    exact z_iret hX hR (D_Model_trace (i := 15) rfl) rfl (hno (inN_lo h1))
  · skip
    obtain ⟨j, hj, rfl⟩ := nI_of h1
    refine z_iload_n hX (D_Model_trace (i := 2) rfl) rfl ?_
    refine z_aload_n hX (D_Model_trace (i := 3) rfl) rfl ?_
    refine z_geti hX (D_Model_trace (i := 4) rfl) f_Model_348 rfl (by decide) (by first | exact Nat.one_pos | assumption | omega) rfl ?_
    rw [hr]
    refine z_icmp_ge (tgt := 27) hX (D_Model_trace (i := 5) rfl) (by decide) (fun h2 => ?_) (fun h2 => ?_)
    · refine z_iconst (v := -1) hX (D_Model_trace (i := 14) rfl) (by decide) ?_
      have := (nI_leI h3 hj).mp h2
      exact z_iret hX hR (D_Model_trace (i := 15) rfl) rfl (hno (by rw [inN_nI' hj]; exact decide_eq_false (by split <;> omega)))
    · refine z_iload_n hX (D_Model_trace (i := 6) rfl) rfl ?_
      refine z_bipush (v := 24) hX (D_Model_trace (i := 7) rfl) (by decide) ?_
      have a2 : j < r := Nat.not_le.mp (fun w => h2 (nI_le w hj))
      refine z_icmp_ge (tgt := 27) hX (D_Model_trace (i := 8) rfl) (by decide) (fun h4 => ?_) (fun h4 => ?_)
      · refine z_iconst (v := -1) hX (D_Model_trace (i := 14) rfl) (by decide) ?_
        have := (nI_leI (a := 24) (by decide) hj).mp h4
        exact z_iret hX hR (D_Model_trace (i := 15) rfl) rfl (hno (by rw [inN_nI' hj]; exact decide_eq_false (by split <;> omega)))
      · skip
        have a4 : j < 24 := Nat.not_le.mp (fun w => h4 (nI_le (a := 24) w hj))
        refine z_aload_n hX (D_Model_trace (i := 9) rfl) rfl ?_
        refine z_getc hX (D_Model_trace (i := 10) rfl) f_Model_79 rfl (by decide) (by first | exact Nat.one_pos | assumption | omega) rfl ?_
        refine z_iload_n hX (D_Model_trace (i := 11) rfl) rfl ?_
        refine z_iald (j := j) hX (D_Model_trace (i := 12) rfl) rfl (by decide) (by first | exact Nat.one_pos | assumption | omega) (by decide) rfl a4 ?_
        refine z_goto (tgt := 28) hX (D_Model_trace (i := 13) rfl) (by decide) ?_
        exact z_iret hX hR (D_Model_trace (i := 15) rfl) rfl (hok j (by split <;> omega) rfl)
theorem d_body (hH : zHas ι pM) (hn : mem.1 40 0 37 = nI nb) (h50 : nb ≤ 50) (hno : inN x 8 = false → Post (some (zI (-1))) mem) (hfull : inN x 8 = true → nb = 50 → Post (some (zI (-3))) mem) (hok : inN x 8 = true → nb < 50 → Post (some (zI (nI nb))) (upI (upI mem 62 0 nb x) 40 0 37 (nI (nb + 1)))) : zC l ι M_Model_body 1 [zP 40 0, zI x] mem Post := by
  refine z_enter hH (by decide) (by simp [z_ent, M_Model_body]) (fun X hXl hX hR => ?_)
  refine z_iload_n hX (D_Model_body (i := 0) rfl) rfl ?_
  refine z_iconst (v := 0) hX (D_Model_body (i := 1) rfl) (by decide) ?_
  refine z_bipush (v := 7) hX (D_Model_body (i := 2) rfl) (by decide) ?_
  refine z_cS3 hX (D_Model_body (i := 3) rfl) ms_Model_in l_Model_102 (by first | decide | omega) (Nat.le_of_ble_eq_true rfl) (d_in ?_)
  rw [show decide ((0 : Int32) ≤ x ∧ x ≤ 7) = inN x 8 from in0l (n := 7) (by decide)]
  refine z_if_ne (tgt := 12) hX (D_Model_body (i := 4) rfl) (by decide) (fun h1 => ?_) (fun h1 => ?_)
  · refine z_aload_n hX (D_Model_body (i := 7) rfl) rfl ?_
    refine z_geti hX (D_Model_body (i := 8) rfl) f_Model_345 rfl (by decide) (by first | exact Nat.one_pos | assumption | omega) rfl ?_
    refine z_bipush (v := 50) hX (D_Model_body (i := 9) rfl) (by decide) ?_
    rw [hn]
    refine z_icmp_ne (tgt := 24) hX (D_Model_body (i := 10) rfl) (by decide) (fun h2 => ?_) (fun h2 => ?_)
    · refine z_aload_n hX (D_Model_body (i := 13) rfl) rfl ?_
      refine z_getc hX (D_Model_body (i := 14) rfl) f_Model_76 rfl (by decide) (by first | exact Nat.one_pos | assumption | omega) rfl ?_
      refine z_aload_n hX (D_Model_body (i := 15) rfl) rfl ?_
      refine z_geti hX (D_Model_body (i := 16) rfl) f_Model_345 rfl (by decide) (by first | exact Nat.one_pos | assumption | omega) rfl ?_
      refine z_iload_n hX (D_Model_body (i := 17) rfl) rfl ?_
      have hb : nb < 50 := by
        have : ¬ nb = 50 := fun w => h2 (by rw [w]; rfl)
        omega
      rw [hn]
      refine z_iast (j := nb) hX (D_Model_body (i := 18) rfl) rfl (by decide) (by first | exact Nat.one_pos | assumption | omega) (by decide) rfl hb ?_
      refine z_aload_n hX (D_Model_body (i := 19) rfl) rfl ?_
      refine z_dupP hX (D_Model_body (i := 20) rfl) ?_
      refine z_geti hX (D_Model_body (i := 21) rfl) f_Model_345 rfl (by decide) (by first | exact Nat.one_pos | assumption | omega) rfl ?_
      rw [show (upI mem 62 0 nb x).1 40 0 37 = nI nb by simp [upI_get, hn]]
      refine z_iconst (v := 1) hX (D_Model_body (i := 22) rfl) (by decide) ?_
      refine z_iadd hX (D_Model_body (i := 23) rfl) ?_
      rw [nlit, nI_add]
      refine z_puti hX (D_Model_body (i := 24) rfl) g_Model_345 rfl (by decide) (by first | exact Nat.one_pos | assumption | omega) rfl ?_
      refine z_aload_n hX (D_Model_body (i := 25) rfl) rfl ?_
      refine z_geti hX (D_Model_body (i := 26) rfl) f_Model_345 rfl (by decide) (by first | exact Nat.one_pos | assumption | omega) rfl ?_
      refine z_iconst (v := 1) hX (D_Model_body (i := 27) rfl) (by decide) ?_
      refine z_isub hX (D_Model_body (i := 28) rfl) ?_
      rw [show (upI (upI mem 62 0 nb x) 40 0 37 (nI (nb + 1))).1 40 0 37 = nI (nb + 1) by simp [upI_get], nlit, pk_sub (by omega), Nat.add_sub_cancel]
      exact z_iret hX hR (D_Model_body (i := 29) rfl) rfl (hok (bI_n.mp h1) hb)
    · refine z_bipush (v := -3) hX (D_Model_body (i := 11) rfl) (by decide) ?_
      exact z_iret hX hR (D_Model_body (i := 12) rfl) rfl (hfull (bI_n.mp h1) ((nI_eq (b := 50) (by omega) (by decide)).mp h2))
  · refine z_iconst (v := -1) hX (D_Model_body (i := 5) rfl) (by decide) ?_
    exact z_iret hX hR (D_Model_body (i := 6) rfl) rfl (hno (bI_0.mp h1))
theorem d_count (hH : zHas ι pM) (hno : inN x 6 = false → Post (some (zI (-1))) mem) (h0 : x = 0 → Post (some (zI (mem.1 40 0 1))) mem) (h1 : x = 1 → Post (some (zI (mem.1 40 0 4))) mem) (h2 : x = 2 → Post (some (zI (mem.1 40 0 13))) mem) (h3 : x = 3 → Post (some (zI (mem.1 40 0 6))) mem) (h4 : x = 4 → Post (some (zI (mem.1 40 0 37))) mem) (h5 : x = 5 → Post (some (zI (mem.1 40 0 39))) mem) : zC l ι M_Model_count 0 [zP 40 0, zI x] mem Post := by
  refine z_enter hH (by decide) (by simp [z_ent, M_Model_count]) (fun X hXl hX hR => ?_)
  refine z_iload_n hX (D_Model_count (i := 0) rfl) rfl ?_
  cases hb : inN x 6 with
  | false =>
    have hb2 := of_decide_eq_false hb
    refine z_tabOut (tgt := 70) hX (D_Model_count (i := 1) rfl) (by omega) (by decide) ?_
    refine z_iconst (v := -1) hX (D_Model_count (i := 20) rfl) (by decide) ?_
    exact z_iret hX hR (D_Model_count (i := 21) rfl) rfl (hno hb)
  | true =>
    obtain ⟨k, hk, rfl⟩ := inN_ex hb (by omega)
    match k, hk, h0, h1, h2, h3, h4, h5 with
    | 0, _, h0, h1, h2, h3, h4, h5 =>
      refine z_tabIn (off := 39) (tgt := 40) hX (D_Model_count (i := 1) rfl) (by decide) (by decide) (by decide) (by decide) ?_
      refine z_aload_n hX (D_Model_count (i := 2) rfl) rfl ?_
      refine z_geti hX (D_Model_count (i := 3) rfl) f_Model_99 rfl (by decide) (by first | exact Nat.one_pos | assumption | omega) rfl ?_
      exact z_iret hX hR (D_Model_count (i := 4) rfl) rfl (h0 rfl)
    | 1, _, h0, h1, h2, h3, h4, h5 =>
      refine z_tabIn (off := 44) (tgt := 45) hX (D_Model_count (i := 1) rfl) (by decide) (by decide) (by decide) (by decide) ?_
      refine z_aload_n hX (D_Model_count (i := 5) rfl) rfl ?_
      refine z_geti hX (D_Model_count (i := 6) rfl) f_Model_147 rfl (by decide) (by first | exact Nat.one_pos | assumption | omega) rfl ?_
      exact z_iret hX hR (D_Model_count (i := 7) rfl) rfl (h1 rfl)
    | 2, _, h0, h1, h2, h3, h4, h5 =>
      refine z_tabIn (off := 49) (tgt := 50) hX (D_Model_count (i := 1) rfl) (by decide) (by decide) (by decide) (by decide) ?_
      refine z_aload_n hX (D_Model_count (i := 8) rfl) rfl ?_
      refine z_geti hX (D_Model_count (i := 9) rfl) f_Model_150 rfl (by decide) (by first | exact Nat.one_pos | assumption | omega) rfl ?_
      exact z_iret hX hR (D_Model_count (i := 10) rfl) rfl (h2 rfl)
    | 3, _, h0, h1, h2, h3, h4, h5 =>
      refine z_tabIn (off := 54) (tgt := 55) hX (D_Model_count (i := 1) rfl) (by decide) (by decide) (by decide) (by decide) ?_
      refine z_aload_n hX (D_Model_count (i := 11) rfl) rfl ?_
      refine z_geti hX (D_Model_count (i := 12) rfl) f_Model_126 rfl (by decide) (by first | exact Nat.one_pos | assumption | omega) rfl ?_
      exact z_iret hX hR (D_Model_count (i := 13) rfl) rfl (h3 rfl)
    | 4, _, h0, h1, h2, h3, h4, h5 =>
      refine z_tabIn (off := 59) (tgt := 60) hX (D_Model_count (i := 1) rfl) (by decide) (by decide) (by decide) (by decide) ?_
      refine z_aload_n hX (D_Model_count (i := 14) rfl) rfl ?_
      refine z_geti hX (D_Model_count (i := 15) rfl) f_Model_345 rfl (by decide) (by first | exact Nat.one_pos | assumption | omega) rfl ?_
      exact z_iret hX hR (D_Model_count (i := 16) rfl) rfl (h4 rfl)
    | 5, _, h0, h1, h2, h3, h4, h5 =>
      refine z_tabIn (off := 64) (tgt := 65) hX (D_Model_count (i := 1) rfl) (by decide) (by decide) (by decide) (by decide) ?_
      refine z_aload_n hX (D_Model_count (i := 17) rfl) rfl ?_
      refine z_geti hX (D_Model_count (i := 18) rfl) f_Model_348 rfl (by decide) (by first | exact Nat.one_pos | assumption | omega) rfl ?_
      exact z_iret hX hR (D_Model_count (i := 19) rfl) rfl (h5 rfl)
theorem d_keep (hH : zHas ι pM) (hn : mem.1 40 0 37 = nI nb) (h50 : nb ≤ 50) (hno : (inN x 6 = false ∨ (¬ y = -1 ∧ inN y nb = false)) → Post (some (zI (-1))) mem) (hclr : ∀ k, k < 6 → x = nI k → y = -1 → Post (some (zI 1)) (upI mem 64 0 k (-1))) (hok : ∀ k b, k < 6 → b < nb → x = nI k → y = nI b → Post (some (zI 1)) (upI mem 64 0 k (nI b))) : zC l ι M_Model_keep 2 [zP 40 0, zI x, zI y] mem Post := by
  refine z_enter hH (by decide) (by simp [z_ent, M_Model_keep]) (fun X hXl hX hR => ?_)
  refine z_iload_n hX (D_Model_keep (i := 0) rfl) rfl ?_
  refine z_cS1 hX (D_Model_keep (i := 1) rfl) ms_Model_isShelf l_Model_112 (by first | decide | omega) (Nat.le_of_ble_eq_true rfl) (d_isShelf ?_)
  refine z_if_eq (tgt := 20) hX (D_Model_keep (i := 2) rfl) (by decide) (fun h1 => ?_) (fun h1 => ?_)
  · refine z_iconst (v := -1) hX (D_Model_keep (i := 10) rfl) (by decide) ?_
    exact z_iret hX hR (D_Model_keep (i := 11) rfl) rfl (hno (Or.inl (bI_0.mp h1)))
  · skip
    obtain ⟨k, hk, rfl⟩ := inN_ex (bI_n.mp h1) (by omega)
    refine z_iload_n hX (D_Model_keep (i := 3) rfl) rfl ?_
    refine z_iconst (v := -1) hX (D_Model_keep (i := 4) rfl) (by decide) ?_
    refine z_icmp_eq (tgt := 22) hX (D_Model_keep (i := 5) rfl) (by decide) (fun h2 => ?_) (fun h2 => ?_)
    · skip
      subst h2
      refine z_aload_n hX (D_Model_keep (i := 12) rfl) rfl ?_
      refine z_getc hX (D_Model_keep (i := 13) rfl) f_Model_82 rfl (by decide) (by first | exact Nat.one_pos | assumption | omega) rfl ?_
      refine z_iload_n hX (D_Model_keep (i := 14) rfl) rfl ?_
      refine z_iload_n hX (D_Model_keep (i := 15) rfl) rfl ?_
      refine z_iast (j := k) hX (D_Model_keep (i := 16) rfl) rfl (by decide) (by first | exact Nat.one_pos | assumption | omega) (by decide) rfl hk ?_
      refine z_iconst (v := 1) hX (D_Model_keep (i := 17) rfl) (by decide) ?_
      exact z_iret hX hR (D_Model_keep (i := 18) rfl) rfl (hclr k hk rfl rfl)
    · refine z_aload_n hX (D_Model_keep (i := 6) rfl) rfl ?_
      refine z_iload_n hX (D_Model_keep (i := 7) rfl) rfl ?_
      refine z_cV1 hX (D_Model_keep (i := 8) rfl) mi_Model_isBody l_Model_387 rfl rfl (by decide) (by first | exact Nat.one_pos | assumption | omega) (by first | decide | omega) (Nat.le_of_ble_eq_true rfl) (d_isBody hH hn h50 ?_)
      refine z_if_ne (tgt := 22) hX (D_Model_keep (i := 9) rfl) (by decide) (fun h3 => ?_) (fun h3 => ?_)
      · skip
        obtain ⟨b, hb, rfl⟩ := inN_ex (bI_n.mp h3) (by omega)
        refine z_aload_n hX (D_Model_keep (i := 12) rfl) rfl ?_
        refine z_getc hX (D_Model_keep (i := 13) rfl) f_Model_82 rfl (by decide) (by first | exact Nat.one_pos | assumption | omega) rfl ?_
        refine z_iload_n hX (D_Model_keep (i := 14) rfl) rfl ?_
        refine z_iload_n hX (D_Model_keep (i := 15) rfl) rfl ?_
        refine z_iast (j := k) hX (D_Model_keep (i := 16) rfl) rfl (by decide) (by first | exact Nat.one_pos | assumption | omega) (by decide) rfl hk ?_
        refine z_iconst (v := 1) hX (D_Model_keep (i := 17) rfl) (by decide) ?_
        exact z_iret hX hR (D_Model_keep (i := 18) rfl) rfl (hok k b hk hb rfl rfl)
      · refine z_iconst (v := -1) hX (D_Model_keep (i := 10) rfl) (by decide) ?_
        exact z_iret hX hR (D_Model_keep (i := 11) rfl) rfl (hno (Or.inr ⟨h2, bI_0.mp h3⟩))
def rwM (mem : zM) (k i : Nat) : zM := (mem.1, fun a b c => if a = 66 ∧ b = 0 ∧ 60 * k ≤ c ∧ c < 60 * k + i then 0 else mem.2.1 a b c, mem.2.2)
theorem rwM_0 (mem : zM) (k : Nat) : rwM mem k 0 = mem := by
  refine Prod.ext rfl (Prod.ext ?_ rfl)
  funext a b c
  show (if a = 66 ∧ b = 0 ∧ 60 * k ≤ c ∧ c < 60 * k + 0 then 0 else mem.2.1 a b c) = mem.2.1 a b c
  rw [if_neg (by omega)]
theorem rwM_s (mem : zM) (k i : Nat) : upJ (rwM mem k i) 66 0 (60 * k + i) 0 = rwM mem k (i + 1) := by
  refine Prod.ext rfl (Prod.ext ?_ rfl)
  funext a b c
  show (if a = 66 ∧ b = 0 ∧ c = 60 * k + i then 0 else (if a = 66 ∧ b = 0 ∧ 60 * k ≤ c ∧ c < 60 * k + i then 0 else mem.2.1 a b c)) = if a = 66 ∧ b = 0 ∧ 60 * k ≤ c ∧ c < 60 * k + (i + 1) then 0 else mem.2.1 a b c
  by_cases h : a = 66 ∧ b = 0 ∧ 60 * k ≤ c ∧ c < 60 * k + (i + 1)
  · rw [if_pos h]
    by_cases h2 : c = 60 * k + i
    · rw [if_pos ⟨h.1, h.2.1, h2⟩]
    · rw [if_neg (fun z => h2 z.2.2), if_pos ⟨h.1, h.2.1, h.2.2.1, by omega⟩]
  · rw [if_neg h, if_neg (fun z => h ⟨z.1, z.2.1, by omega, by omega⟩), if_neg (fun z => h ⟨z.1, z.2.1, z.2.2.1, by omega⟩)]
theorem hs5 : ∀ s, s < 5 → (-2 : Int32) - nI s = -(nI (s + 2)) := by decide +kernel
theorem d_row (hH : zHas ι pM) (hno : (inN x 6 = false ∨ inN y 5 = false ∨ nI 61 ≤ z) → Post (some (zI (-1))) mem) (hneg : inN x 6 = true → inN y 5 = true → z < 0 → Post (some (zI (-14))) mem) (hok : ∀ k s n, k < 6 → s < 5 → n ≤ 60 → x = nI k → y = nI s → z = nI n → Post (some (zI 1)) (rwM (upI (upI mem 64 0 k (-(nI (s + 2)))) 65 0 k (nI n)) k 60)) : zC l ι M_Model_row 2 [zP 40 0, zI x, zI y, zI z] mem Post := by
  refine z_enter hH (by decide) (by simp [z_ent, M_Model_row]) (fun X hXl hX hR => ?_)
  refine z_iload_n hX (D_Model_row (i := 0) rfl) rfl ?_
  refine z_cS1 hX (D_Model_row (i := 1) rfl) ms_Model_isShelf l_Model_112 (by first | decide | omega) (Nat.le_of_ble_eq_true rfl) (d_isShelf ?_)
  refine z_if_eq (tgt := 22) hX (D_Model_row (i := 2) rfl) (by decide) (fun h1 => ?_) (fun h1 => ?_)
  · refine z_iconst (v := -1) hX (D_Model_row (i := 11) rfl) (by decide) ?_
    exact z_iret hX hR (D_Model_row (i := 12) rfl) rfl (hno (Or.inl (bI_0.mp h1)))
  · refine z_iload_n hX (D_Model_row (i := 3) rfl) rfl ?_
    refine z_iconst (v := 0) hX (D_Model_row (i := 4) rfl) (by decide) ?_
    refine z_iconst (v := 4) hX (D_Model_row (i := 5) rfl) (by decide) ?_
    refine z_cS3 hX (D_Model_row (i := 6) rfl) ms_Model_in l_Model_102 (by first | decide | omega) (Nat.le_of_ble_eq_true rfl) (d_in ?_)
    rw [show decide ((0 : Int32) ≤ y ∧ y ≤ 4) = inN y 5 from in0l (n := 4) (by decide)]
    refine z_if_eq (tgt := 22) hX (D_Model_row (i := 7) rfl) (by decide) (fun h2 => ?_) (fun h2 => ?_)
    · refine z_iconst (v := -1) hX (D_Model_row (i := 11) rfl) (by decide) ?_
      exact z_iret hX hR (D_Model_row (i := 12) rfl) rfl (hno (Or.inr (Or.inl (bI_0.mp h2))))
    · refine z_iload_n hX (D_Model_row (i := 8) rfl) rfl ?_
      refine z_bipush (v := 60) hX (D_Model_row (i := 9) rfl) (by decide) ?_
      refine z_icmp_le (tgt := 24) hX (D_Model_row (i := 10) rfl) (by decide) (fun h4 => ?_) (fun h4 => ?_)
      · refine z_iload_n hX (D_Model_row (i := 13) rfl) rfl ?_
        have h5 := leT (n := 60) (by decide) |>.mp h4
        refine z_if_ge (tgt := 31) hX (D_Model_row (i := 14) rfl) (by decide) (fun h6 => ?_) (fun h6 => ?_)
        · skip
          obtain ⟨k, hk, rfl⟩ := inN_ex (bI_n.mp h1) (by omega)
          obtain ⟨s, hs, rfl⟩ := inN_ex (bI_n.mp h2) (by omega)
          obtain ⟨n, hn, rfl⟩ := inN_ex (inN_in (n := 61) (fun w => absurd h6 (Int32.not_le.mpr w)) h5 (by decide)) (by omega)
          have hh := hok k s n hk hs (by omega) rfl rfl rfl
          refine z_aload_n hX (D_Model_row (i := 17) rfl) rfl ?_
          refine z_getc hX (D_Model_row (i := 18) rfl) f_Model_82 rfl (by decide) (by first | exact Nat.one_pos | assumption | omega) rfl ?_
          refine z_iload_n hX (D_Model_row (i := 19) rfl) rfl ?_
          refine z_bipush (v := -2) hX (D_Model_row (i := 20) rfl) (by decide) ?_
          refine z_iload_n hX (D_Model_row (i := 21) rfl) rfl ?_
          refine z_isub hX (D_Model_row (i := 22) rfl) ?_
          rw [hs5 s hs]
          refine z_iast (j := k) hX (D_Model_row (i := 23) rfl) rfl (by decide) (by first | exact Nat.one_pos | assumption | omega) (by decide) rfl hk ?_
          refine z_aload_n hX (D_Model_row (i := 24) rfl) rfl ?_
          refine z_getc hX (D_Model_row (i := 25) rfl) f_Model_85 rfl (by decide) (by first | exact Nat.one_pos | assumption | omega) rfl ?_
          refine z_iload_n hX (D_Model_row (i := 26) rfl) rfl ?_
          refine z_iload_n hX (D_Model_row (i := 27) rfl) rfl ?_
          refine z_iast (j := k) hX (D_Model_row (i := 28) rfl) rfl (by decide) (by first | exact Nat.one_pos | assumption | omega) (by decide) rfl hk ?_
          refine z_bipush (v := 60) hX (D_Model_row (i := 29) rfl) (by decide) ?_
          refine z_iload_n hX (D_Model_row (i := 30) rfl) rfl ?_
          refine z_imul hX (D_Model_row (i := 31) rfl) ?_
          rw [nlit, pk_mul]
          refine z_istore hX (D_Model_row (i := 32) rfl) (by decide) rfl ?_
          suffices H : ∀ (d i : Nat), i + d = 60 → zW ι M_Model_row X 54 [some (zP 40 0), some (zI (nI k)), some (zI (nI s)), some (zI (nI n)), some (zI (nI (60 * k + i)))] [] (rwM (upI (upI mem 64 0 k (-(nI (s + 2)))) 65 0 k (nI n)) k i) by
            have := H 60 0 rfl
            rw [rwM_0] at this
            exact this
          intro d
          induction d with
          | zero =>
            intro i hi
            obtain rfl : i = 60 := by omega
            refine z_iload hX (D_Model_row (i := 33) rfl) rfl ?_
            refine z_bipush (v := 60) hX (D_Model_row (i := 34) rfl) (by decide) ?_
            refine z_iload_n hX (D_Model_row (i := 35) rfl) rfl ?_
            refine z_imul hX (D_Model_row (i := 36) rfl) ?_
            refine z_bipush (v := 60) hX (D_Model_row (i := 37) rfl) (by decide) ?_
            refine z_iadd hX (D_Model_row (i := 38) rfl) ?_
            rw [nlit, pk_mul, nI_add]
            refine z_icmp_ge (tgt := 80) hX (D_Model_row (i := 39) rfl) (by decide) (fun _ => ?_) (fun hcc => absurd (Int32.le_refl _) hcc)
            refine z_iconst (v := 1) hX (D_Model_row (i := 47) rfl) (by decide) ?_
            exact z_iret hX hR (D_Model_row (i := 48) rfl) rfl hh
          | succ d ih =>
            intro i hi
            refine z_iload hX (D_Model_row (i := 33) rfl) rfl ?_
            refine z_bipush (v := 60) hX (D_Model_row (i := 34) rfl) (by decide) ?_
            refine z_iload_n hX (D_Model_row (i := 35) rfl) rfl ?_
            refine z_imul hX (D_Model_row (i := 36) rfl) ?_
            refine z_bipush (v := 60) hX (D_Model_row (i := 37) rfl) (by decide) ?_
            refine z_iadd hX (D_Model_row (i := 38) rfl) ?_
            rw [nlit, pk_mul, nI_add]
            refine z_icmp_ge (tgt := 80) hX (D_Model_row (i := 39) rfl) (by decide) (fun hcc => absurd hcc (nI_ge (by omega) (by omega))) (fun _ => ?_)
            refine z_aload_n hX (D_Model_row (i := 40) rfl) rfl ?_
            refine z_getc hX (D_Model_row (i := 41) rfl) f_Model_88 rfl (by decide) (by first | exact Nat.one_pos | assumption | omega) rfl ?_
            refine z_iload hX (D_Model_row (i := 42) rfl) rfl ?_
            refine z_lconst (v := 0) hX (D_Model_row (i := 43) rfl) (by decide) ?_
            refine z_last (j := 60 * k + i) hX (D_Model_row (i := 44) rfl) rfl (by decide) (by first | exact Nat.one_pos | assumption | omega) (by decide) rfl (by omega) ?_
            rw [rwM_s]
            first | refine z_inc1 hX (D_Model_row (i := 45) rfl) rfl (by decide) rfl ?_ | refine z_iinc hX (D_Model_row (i := 45) rfl) rfl rfl (by decide) rfl ?_
            refine z_goto (tgt := 54) hX (D_Model_row (i := 46) rfl) (by decide) ?_
            exact ih (i + 1) (by omega)
        · refine z_bipush (v := -14) hX (D_Model_row (i := 15) rfl) (by decide) ?_
          exact z_iret hX hR (D_Model_row (i := 16) rfl) rfl (hneg (bI_n.mp h1) (bI_n.mp h2) (Int32.not_le.mp h6))
      · refine z_iconst (v := -1) hX (D_Model_row (i := 11) rfl) (by decide) ?_
        refine z_iret hX hR (D_Model_row (i := 12) rfl) rfl (hno (Or.inr (Or.inr (Classical.byContradiction (fun w => h4 (leT (n := 60) (by decide) |>.mpr w))))))
/-- what a shelf of the reference holds: nothing, a body, a row of a sort -/
def HoM (mem : zM) (nb k : Nat) : Prop := mem.1 64 0 k = -1 ∨ (∃ b, b < nb ∧ mem.1 64 0 k = nI b) ∨ ∃ s, s < 5 ∧ mem.1 64 0 k = -(nI (s + 2))
theorem ho_neg : ∀ s, s < 5 → (-(nI (s + 2)) : Int32) < 0 ∧ ¬ (-(nI (s + 2)) : Int32) = -1 ∧ (-2 : Int32) - -(nI (s + 2)) = nI s := by decide +kernel
def wpV (mem : zM) (x i : Int32) : Int32 := if inN x 6 = true then (if mem.1 64 0 x.toNatClampNeg = -1 then -11 else if ¬ mem.1 64 0 x.toNatClampNeg < 0 then -12 else if inN i (mem.1 65 0 x.toNatClampNeg).toNatClampNeg = true then 0 else -13) else -1
theorem d_whyNoPlace (hH : zHas ι pM) (hL : ∀ k, k < 6 → ∃ L : Nat, L ≤ 60 ∧ mem.1 65 0 k = nI L) (h : Post (some (zI (wpV mem x y))) mem) : zC l ι M_Model_whyNoPlace 2 [zP 40 0, zI x, zI y] mem Post := by
  unfold wpV at h
  refine z_enter hH (by decide) (by simp [z_ent, M_Model_whyNoPlace]) (fun X hXl hX hR => ?_)
  refine z_iload_n hX (D_Model_whyNoPlace (i := 0) rfl) rfl ?_
  refine z_cS1 hX (D_Model_whyNoPlace (i := 1) rfl) ms_Model_isShelf l_Model_112 (by first | decide | omega) (Nat.le_of_ble_eq_true rfl) (d_isShelf ?_)
  refine z_if_ne (tgt := 9) hX (D_Model_whyNoPlace (i := 2) rfl) (by decide) (fun h1 => ?_) (fun h1 => ?_)
  · skip
    rw [if_pos (bI_n.mp h1)] at h
    obtain ⟨k, hk, rfl⟩ := inN_ex (bI_n.mp h1) (by omega)
    rw [nI_clamp (by omega)] at h
    obtain ⟨L, h60, e3⟩ := hL k hk
    rw [e3, nI_clamp (by omega)] at h
    refine z_aload_n hX (D_Model_whyNoPlace (i := 5) rfl) rfl ?_
    refine z_getc hX (D_Model_whyNoPlace (i := 6) rfl) f_Model_82 rfl (by decide) (by first | exact Nat.one_pos | assumption | omega) rfl ?_
    refine z_iload_n hX (D_Model_whyNoPlace (i := 7) rfl) rfl ?_
    refine z_iald (j := k) hX (D_Model_whyNoPlace (i := 8) rfl) rfl (by decide) (by first | exact Nat.one_pos | assumption | omega) (by decide) rfl hk ?_
    refine z_iconst (v := -1) hX (D_Model_whyNoPlace (i := 9) rfl) (by decide) ?_
    refine z_icmp_ne (tgt := 22) hX (D_Model_whyNoPlace (i := 10) rfl) (by decide) (fun h2 => ?_) (fun h2 => ?_)
    · refine z_aload_n hX (D_Model_whyNoPlace (i := 13) rfl) rfl ?_
      refine z_getc hX (D_Model_whyNoPlace (i := 14) rfl) f_Model_82 rfl (by decide) (by first | exact Nat.one_pos | assumption | omega) rfl ?_
      refine z_iload_n hX (D_Model_whyNoPlace (i := 15) rfl) rfl ?_
      rw [if_neg h2] at h
      refine z_iald (j := k) hX (D_Model_whyNoPlace (i := 16) rfl) rfl (by decide) (by first | exact Nat.one_pos | assumption | omega) (by decide) rfl hk ?_
      refine z_if_lt (tgt := 34) hX (D_Model_whyNoPlace (i := 17) rfl) (by decide) (fun h3 => ?_) (fun h3 => ?_)
      · refine z_iload_n hX (D_Model_whyNoPlace (i := 20) rfl) rfl ?_
        refine z_iconst (v := 0) hX (D_Model_whyNoPlace (i := 21) rfl) (by decide) ?_
        refine z_aload_n hX (D_Model_whyNoPlace (i := 22) rfl) rfl ?_
        refine z_getc hX (D_Model_whyNoPlace (i := 23) rfl) f_Model_85 rfl (by decide) (by first | exact Nat.one_pos | assumption | omega) rfl ?_
        refine z_iload_n hX (D_Model_whyNoPlace (i := 24) rfl) rfl ?_
        rw [if_neg (fun w => w h3)] at h
        refine z_iald (j := k) hX (D_Model_whyNoPlace (i := 25) rfl) rfl (by decide) (by first | exact Nat.one_pos | assumption | omega) (by decide) rfl hk ?_
        rw [e3]
        refine z_iconst (v := 1) hX (D_Model_whyNoPlace (i := 26) rfl) (by decide) ?_
        refine z_isub hX (D_Model_whyNoPlace (i := 27) rfl) ?_
        refine z_cS3 hX (D_Model_whyNoPlace (i := 28) rfl) ms_Model_in l_Model_102 (by first | decide | omega) (Nat.le_of_ble_eq_true rfl) (d_in ?_)
        rw [in0 (by omega)]
        refine z_if_eq (tgt := 54) hX (D_Model_whyNoPlace (i := 29) rfl) (by decide) (fun h4 => ?_) (fun h4 => ?_)
        · refine z_bipush (v := -13) hX (D_Model_whyNoPlace (i := 32) rfl) (by decide) ?_
          rw [if_neg (by rw [bI_0.mp h4]; decide)] at h
          exact z_iret hX hR (D_Model_whyNoPlace (i := 33) rfl) rfl (by assumption)
        · refine z_iconst (v := 0) hX (D_Model_whyNoPlace (i := 30) rfl) (by decide) ?_
          refine z_goto (tgt := 56) hX (D_Model_whyNoPlace (i := 31) rfl) (by decide) ?_
          rw [if_pos (bI_n.mp h4)] at h
          exact z_iret hX hR (D_Model_whyNoPlace (i := 33) rfl) rfl (by assumption)
      · refine z_bipush (v := -12) hX (D_Model_whyNoPlace (i := 18) rfl) (by decide) ?_
        rw [if_pos h3] at h
        exact z_iret hX hR (D_Model_whyNoPlace (i := 19) rfl) rfl (by assumption)
    · refine z_bipush (v := -11) hX (D_Model_whyNoPlace (i := 11) rfl) (by decide) ?_
      rw [if_pos h2] at h
      exact z_iret hX hR (D_Model_whyNoPlace (i := 12) rfl) rfl (by assumption)
  · refine z_iconst (v := -1) hX (D_Model_whyNoPlace (i := 3) rfl) (by decide) ?_
    rw [if_neg (by rw [bI_0.mp h1]; decide)] at h
    exact z_iret hX hR (D_Model_whyNoPlace (i := 4) rfl) rfl (by assumption)
theorem wpV_ge {mem : zM} {x i : Int32} (hL : ∀ k, k < 6 → ∃ L : Nat, L ≤ 60 ∧ mem.1 65 0 k = nI L) (h : 0 ≤ wpV mem x i) : wpV mem x i = 0 ∧ ∃ k j L : Nat, k < 6 ∧ x = nI k ∧ j < L ∧ L ≤ 60 ∧ i = nI j ∧ ¬ mem.1 64 0 k = -1 ∧ mem.1 64 0 k < 0 ∧ mem.1 65 0 k = nI L := by
  unfold wpV at h ⊢
  split at h
  · next h1 =>
    obtain ⟨k, hk, rfl⟩ := inN_ex h1 (by omega)
    rw [nI_clamp (by omega)] at h
    obtain ⟨L, h60, e3⟩ := hL k hk
    rw [e3, nI_clamp (by omega)] at h
    split at h
    · exact absurd h (by decide)
    · next h2 =>
      split at h
      · exact absurd h (by decide)
      · next h3 =>
        split at h
        · next h4 =>
          obtain ⟨j, hj, rfl⟩ := inN_ex h4 (by omega)
          refine ⟨?_, k, j, L, hk, rfl, hj, h60, rfl, h2, Classical.not_not.mp h3, e3⟩
          rw [if_pos h1, nI_clamp (by omega), if_neg h2, if_neg h3, e3, nI_clamp (by omega), if_pos h4]
        · exact absurd h (by decide)
  · exact absurd h (by decide)
theorem d_put (hH : zHas ι pM) (hL : ∀ k, k < 6 → ∃ L : Nat, L ≤ 60 ∧ mem.1 65 0 k = nI L) (hho : ∀ k, k < 6 → HoM mem nb k) (h50 : nb ≤ 50) {v : Int64} (hno : wpV mem x y < 0 → Post (some (zI (wpV mem x y))) mem) (hok : ∀ k j s, k < 6 → j < 60 → s < 5 → x = nI k → y = nI j → mem.1 64 0 k = -(nI (s + 2)) → wpV mem x y = 0 → Post (some (zI 1)) (upJ mem 66 0 (60 * k + j) (snJ s v))) : zC l ι M_Model_put 3 [zP 40 0, zI x, zI y, zJ v] mem Post := by
  refine z_enter hH (by decide) (by simp [z_ent, M_Model_put]) (fun X hXl hX hR => ?_)
  refine z_aload_n hX (D_Model_put (i := 0) rfl) rfl ?_
  refine z_iload_n hX (D_Model_put (i := 1) rfl) rfl ?_
  refine z_iload_n hX (D_Model_put (i := 2) rfl) rfl ?_
  refine z_cV2 hX (D_Model_put (i := 3) rfl) mi_Model_whyNoPlace l_Model_393 rfl rfl (by decide) (by first | exact Nat.one_pos | assumption | omega) (by first | decide | omega) (Nat.le_of_ble_eq_true rfl) (d_whyNoPlace hH hL ?_)
  refine z_istore hX (D_Model_put (i := 4) rfl) (by decide) rfl ?_
  refine z_iload hX (D_Model_put (i := 5) rfl) rfl ?_
  refine z_if_ge (tgt := 16) hX (D_Model_put (i := 6) rfl) (by decide) (fun h1 => ?_) (fun h1 => ?_)
  · skip
    obtain ⟨e0, k, j, L, hk, rfl, hj, h60, rfl, n1, n2, eL⟩ := wpV_ge hL h1
    obtain ⟨s, hs, es⟩ : ∃ s, s < 5 ∧ mem.1 64 0 k = -(nI (s + 2)) := by
      rcases hho k hk with e | ⟨b, hb, e⟩ | e
      · exact absurd e n1
      · rw [e] at n2; exact absurd n2 (nI_pos (by omega))
      · exact e
    have hh := hok k j s hk (by omega) hs rfl rfl es e0
    have fin : ∀ w : Int64, w = snJ s v → zW ι M_Model_put X 95 [some (zP 40 0), some (zI (nI k)), some (zI (nI j)), some (zJ v), none, some (zI (wpV mem (nI k) (nI j))), some (zI (nI s))] [zJ w, zI (nI (60 * k + j)), zP 66 0] mem := by
      intro w hw
      refine z_last (j := 60 * k + j) hX (D_Model_put (i := 57) rfl) rfl (by decide) (by first | exact Nat.one_pos | assumption | omega) (by decide) rfl (by omega) ?_
      rw [hw]
      refine z_iconst (v := 1) hX (D_Model_put (i := 58) rfl) (by decide) ?_
      exact z_iret hX hR (D_Model_put (i := 59) rfl) rfl hh
    refine z_bipush (v := -2) hX (D_Model_put (i := 9) rfl) (by decide) ?_
    refine z_aload_n hX (D_Model_put (i := 10) rfl) rfl ?_
    refine z_getc hX (D_Model_put (i := 11) rfl) f_Model_82 rfl (by decide) (by first | exact Nat.one_pos | assumption | omega) rfl ?_
    refine z_iload_n hX (D_Model_put (i := 12) rfl) rfl ?_
    refine z_iald (j := k) hX (D_Model_put (i := 13) rfl) rfl (by decide) (by first | exact Nat.one_pos | assumption | omega) (by decide) rfl hk ?_
    rw [es]
    refine z_isub hX (D_Model_put (i := 14) rfl) ?_
    rw [(ho_neg s hs).2.2]
    refine z_istore hX (D_Model_put (i := 15) rfl) (by decide) rfl ?_
    refine z_aload_n hX (D_Model_put (i := 16) rfl) rfl ?_
    refine z_getc hX (D_Model_put (i := 17) rfl) f_Model_88 rfl (by decide) (by first | exact Nat.one_pos | assumption | omega) rfl ?_
    refine z_bipush (v := 60) hX (D_Model_put (i := 18) rfl) (by decide) ?_
    refine z_iload_n hX (D_Model_put (i := 19) rfl) rfl ?_
    refine z_imul hX (D_Model_put (i := 20) rfl) ?_
    refine z_iload_n hX (D_Model_put (i := 21) rfl) rfl ?_
    refine z_iadd hX (D_Model_put (i := 22) rfl) ?_
    rw [nlit, pk_mul, nI_add]
    refine z_iload hX (D_Model_put (i := 23) rfl) rfl ?_
    match s, hs, fin with
    | 0, _, fin =>
      refine z_if_ne (tgt := 49) hX (D_Model_put (i := 24) rfl) (by decide) (fun hcc => absurd (rfl) hcc) (fun _ => ?_)
      refine z_lload_n hX (D_Model_put (i := 25) rfl) rfl ?_
      refine z_l2i hX (D_Model_put (i := 26) rfl) ?_
      refine z_i2b hX (D_Model_put (i := 27) rfl) ?_
      refine z_i2l hX (D_Model_put (i := 28) rfl) ?_
      refine z_goto (tgt := 95) hX (D_Model_put (i := 29) rfl) (by decide) ?_
      exact fin _ rfl
    | 1, _, fin =>
      refine z_if_ne (tgt := 49) hX (D_Model_put (i := 24) rfl) (by decide) (fun _ => ?_) (fun hcc => absurd hcc (by decide))
      refine z_iload hX (D_Model_put (i := 30) rfl) rfl ?_
      refine z_iconst (v := 1) hX (D_Model_put (i := 31) rfl) (by decide) ?_
      refine z_icmp_ne (tgt := 62) hX (D_Model_put (i := 32) rfl) (by decide) (fun hcc => absurd (rfl) hcc) (fun _ => ?_)
      refine z_lload_n hX (D_Model_put (i := 33) rfl) rfl ?_
      refine z_l2i hX (D_Model_put (i := 34) rfl) ?_
      refine z_i2s hX (D_Model_put (i := 35) rfl) ?_
      refine z_i2l hX (D_Model_put (i := 36) rfl) ?_
      refine z_goto (tgt := 95) hX (D_Model_put (i := 37) rfl) (by decide) ?_
      exact fin _ rfl
    | 2, _, fin =>
      refine z_if_ne (tgt := 49) hX (D_Model_put (i := 24) rfl) (by decide) (fun _ => ?_) (fun hcc => absurd hcc (by decide))
      refine z_iload hX (D_Model_put (i := 30) rfl) rfl ?_
      refine z_iconst (v := 1) hX (D_Model_put (i := 31) rfl) (by decide) ?_
      refine z_icmp_ne (tgt := 62) hX (D_Model_put (i := 32) rfl) (by decide) (fun _ => ?_) (fun hcc => absurd hcc (by decide))
      refine z_iload hX (D_Model_put (i := 38) rfl) rfl ?_
      refine z_iconst (v := 2) hX (D_Model_put (i := 39) rfl) (by decide) ?_
      refine z_icmp_ne (tgt := 74) hX (D_Model_put (i := 40) rfl) (by decide) (fun hcc => absurd (rfl) hcc) (fun _ => ?_)
      refine z_lload_n hX (D_Model_put (i := 41) rfl) rfl ?_
      refine z_l2i hX (D_Model_put (i := 42) rfl) ?_
      refine z_i2l hX (D_Model_put (i := 43) rfl) ?_
      refine z_goto (tgt := 95) hX (D_Model_put (i := 44) rfl) (by decide) ?_
      exact fin _ rfl
    | 3, _, fin =>
      refine z_if_ne (tgt := 49) hX (D_Model_put (i := 24) rfl) (by decide) (fun _ => ?_) (fun hcc => absurd hcc (by decide))
      refine z_iload hX (D_Model_put (i := 30) rfl) rfl ?_
      refine z_iconst (v := 1) hX (D_Model_put (i := 31) rfl) (by decide) ?_
      refine z_icmp_ne (tgt := 62) hX (D_Model_put (i := 32) rfl) (by decide) (fun _ => ?_) (fun hcc => absurd hcc (by decide))
      refine z_iload hX (D_Model_put (i := 38) rfl) rfl ?_
      refine z_iconst (v := 2) hX (D_Model_put (i := 39) rfl) (by decide) ?_
      refine z_icmp_ne (tgt := 74) hX (D_Model_put (i := 40) rfl) (by decide) (fun _ => ?_) (fun hcc => absurd hcc (by decide))
      refine z_iload hX (D_Model_put (i := 45) rfl) rfl ?_
      refine z_iconst (v := 3) hX (D_Model_put (i := 46) rfl) (by decide) ?_
      refine z_icmp_ne (tgt := 84) hX (D_Model_put (i := 47) rfl) (by decide) (fun hcc => absurd (rfl) hcc) (fun _ => ?_)
      refine z_lload_n hX (D_Model_put (i := 48) rfl) rfl ?_
      refine z_goto (tgt := 95) hX (D_Model_put (i := 49) rfl) (by decide) ?_
      exact fin _ rfl
    | 4, _, fin =>
      refine z_if_ne (tgt := 49) hX (D_Model_put (i := 24) rfl) (by decide) (fun _ => ?_) (fun hcc => absurd hcc (by decide))
      refine z_iload hX (D_Model_put (i := 30) rfl) rfl ?_
      refine z_iconst (v := 1) hX (D_Model_put (i := 31) rfl) (by decide) ?_
      refine z_icmp_ne (tgt := 62) hX (D_Model_put (i := 32) rfl) (by decide) (fun _ => ?_) (fun hcc => absurd hcc (by decide))
      refine z_iload hX (D_Model_put (i := 38) rfl) rfl ?_
      refine z_iconst (v := 2) hX (D_Model_put (i := 39) rfl) (by decide) ?_
      refine z_icmp_ne (tgt := 74) hX (D_Model_put (i := 40) rfl) (by decide) (fun _ => ?_) (fun hcc => absurd hcc (by decide))
      refine z_iload hX (D_Model_put (i := 45) rfl) rfl ?_
      refine z_iconst (v := 3) hX (D_Model_put (i := 46) rfl) (by decide) ?_
      refine z_icmp_ne (tgt := 84) hX (D_Model_put (i := 47) rfl) (by decide) (fun _ => ?_) (fun hcc => absurd hcc (by decide))
      refine z_lload_n hX (D_Model_put (i := 50) rfl) rfl ?_
      refine z_lconst (v := 0) hX (D_Model_put (i := 51) rfl) (by decide) ?_
      refine z_lcmp hX (D_Model_put (i := 52) rfl) ?_
      refine z_if_eq (tgt := 94) hX (D_Model_put (i := 53) rfl) (by decide) (fun h0 => ?_) (fun h0 => ?_)
      · refine z_lconst (v := 0) hX (D_Model_put (i := 56) rfl) (by decide) ?_
        exact fin _ (if_pos ((lg_cmp_eq _ _).mp h0)).symm
      · refine z_lconst (v := 1) hX (D_Model_put (i := 54) rfl) (by decide) ?_
        refine z_goto (tgt := 95) hX (D_Model_put (i := 55) rfl) (by decide) ?_
        exact fin _ (if_neg (fun w => h0 ((lg_cmp_eq _ _).mpr w))).symm
  · refine z_iload hX (D_Model_put (i := 7) rfl) rfl ?_
    exact z_iret hX hR (D_Model_put (i := 8) rfl) rfl (hno (Int32.not_le.mp h1))
theorem d_element (hH : zHas ι pM) (hL : ∀ k, k < 6 → ∃ L : Nat, L ≤ 60 ∧ mem.1 65 0 k = nI L) (hno : wpV mem x y < 0 → Post (some (zJ (-9223372036854775808))) mem) (hok : ∀ k j, k < 6 → j < 60 → x = nI k → y = nI j → wpV mem x y = 0 → Post (some (zJ (mem.2.1 66 0 (60 * k + j)))) mem) : zC l ι M_Model_element 3 [zP 40 0, zI x, zI y] mem Post := by
  refine z_enter hH (by decide) (by simp [z_ent, M_Model_element]) (fun X hXl hX hR => ?_)
  refine z_aload_n hX (D_Model_element (i := 0) rfl) rfl ?_
  refine z_iload_n hX (D_Model_element (i := 1) rfl) rfl ?_
  refine z_iload_n hX (D_Model_element (i := 2) rfl) rfl ?_
  refine z_cV2 hX (D_Model_element (i := 3) rfl) mi_Model_whyNoPlace l_Model_393 rfl rfl (by decide) (by first | exact Nat.one_pos | assumption | omega) (by first | decide | omega) (Nat.le_of_ble_eq_true rfl) (d_whyNoPlace hH hL ?_)
  refine z_if_ge (tgt := 15) hX (D_Model_element (i := 4) rfl) (by decide) (fun h1 => ?_) (fun h1 => ?_)
  · skip
    obtain ⟨e0, k, j, L, hk, rfl, hj, h60, rfl, n1, n2, eL⟩ := wpV_ge hL h1
    refine z_aload_n hX (D_Model_element (i := 7) rfl) rfl ?_
    refine z_getc hX (D_Model_element (i := 8) rfl) f_Model_88 rfl (by decide) (by first | exact Nat.one_pos | assumption | omega) rfl ?_
    refine z_bipush (v := 60) hX (D_Model_element (i := 9) rfl) (by decide) ?_
    refine z_iload_n hX (D_Model_element (i := 10) rfl) rfl ?_
    refine z_imul hX (D_Model_element (i := 11) rfl) ?_
    refine z_iload_n hX (D_Model_element (i := 12) rfl) rfl ?_
    refine z_iadd hX (D_Model_element (i := 13) rfl) ?_
    refine z_lald (j := 60 * k + j) hX (D_Model_element (i := 14) rfl) rfl (by decide) (by first | exact Nat.one_pos | assumption | omega) (by decide) (by first | (simp only [nlit, nI_add, pk_mul]; done) | rfl) (by omega) ?_
    exact z_lret hX hR (D_Model_element (i := 15) rfl) rfl (hok k j hk (by omega) rfl rfl e0)
  · refine z_ldc2 (v := -9223372036854775808) hX (D_Model_element (i := 5) rfl) k_Model_398 ?_
    refine z_goto (tgt := 26) hX (D_Model_element (i := 6) rfl) (by decide) ?_
    exact z_lret hX hR (D_Model_element (i := 15) rfl) rfl (hno (Int32.not_le.mp h1))
end G4
