section LL
variable {ι : zE} {X : zX} {L : Nat} {xs : Nat → Int32}

theorem lc_cube (hX : zG ι M_Law0_law X 100 (pX ++ pM)) (hXX : zHas ι pX) (hMM : zHas ι pM) (hs : zScr ι X L xs) {i : Nat} (hi : i + 6 ≤ L) (hL : L ≤ 384) {mem : zM} (hR : RR mem) (nx : ∀ m, RR m → zW ι M_Law0_law X 1198 [some (zP 99 0), some (zP 0 0), some (zP 40 0), some (zI (nI i))] [] m) : zW ι M_Law0_law X 184 [some (zP 99 0), some (zP 0 0), some (zP 40 0), some (zI (nI i))] [] mem := by
  refine z_aload_n hX (D_Law0_0 (i := 22) rfl) rfl ?_
  refine z_aload_n hX (D_Law0_0 (i := 23) rfl) rfl ?_
  refine z_iload_n hX (D_Law0_0 (i := 24) rfl) rfl ?_
  refine z_iconst (v := 1) hX (D_Law0_0 (i := 25) rfl) (by decide) ?_
  refine z_iadd hX (D_Law0_0 (i := 26) rfl) ?_
  rw [show nI i + 1 = nI (i + 1) from nI_add i 1]
  refine z_sld hX hs (D_Law0_0 (i := 27) rfl) rfl (by omega) ?_
  refine z_cV1 hX (D_Law0_0 (i := 28) rfl) mi_Four_cube l_Law0_13 rfl rfl (by decide) (by first | exact Nat.one_pos | assumption | omega) (by first | decide | omega) (Nat.le_of_ble_eq_true rfl) (p_cube hXX hMM hR _ ?_)
  intro v m1 hM
  refine z_aload_n hX (D_Law0_0 (i := 29) rfl) rfl ?_
  refine z_aload_n hX (D_Law0_0 (i := 30) rfl) rfl ?_
  refine z_iload_n hX (D_Law0_0 (i := 31) rfl) rfl ?_
  refine z_iconst (v := 1) hX (D_Law0_0 (i := 32) rfl) (by decide) ?_
  refine z_iadd hX (D_Law0_0 (i := 33) rfl) ?_
  rw [show nI i + 1 = nI (i + 1) from nI_add i 1]
  refine z_sld hX hs (D_Law0_0 (i := 34) rfl) rfl (by omega) ?_
  refine z_cV1 hX (D_Law0_0 (i := 35) rfl) mi_Model_cube l_Law0_17 rfl rfl (by decide) (by first | exact Nat.one_pos | assumption | omega) (by first | decide | omega) (Nat.le_of_ble_eq_true rfl) (hM _ ?_)
  intro m2 hR2
  refine z_icmp_eq (tgt := 1198) hX (D_Law0_0 (i := 36) rfl) (by decide) (fun _ => ?_) (fun hcc => absurd (rfl) hcc)
  exact nx m2 hR2
theorem lc_cubes (hX : zG ι M_Law0_law X 100 (pX ++ pM)) (hXX : zHas ι pX) (hMM : zHas ι pM) (hs : zScr ι X L xs) {i : Nat} (hi : i + 6 ≤ L) (hL : L ≤ 384) {mem : zM} (hR : RR mem) (nx : ∀ m, RR m → zW ι M_Law0_law X 1198 [some (zP 99 0), some (zP 0 0), some (zP 40 0), some (zI (nI i))] [] m) : zW ι M_Law0_law X 207 [some (zP 99 0), some (zP 0 0), some (zP 40 0), some (zI (nI i))] [] mem := by
  refine z_aload_n hX (D_Law0_0 (i := 39) rfl) rfl ?_
  refine z_aload_n hX (D_Law0_0 (i := 40) rfl) rfl ?_
  refine z_iload_n hX (D_Law0_0 (i := 41) rfl) rfl ?_
  refine z_iconst (v := 1) hX (D_Law0_0 (i := 42) rfl) (by decide) ?_
  refine z_iadd hX (D_Law0_0 (i := 43) rfl) ?_
  rw [show nI i + 1 = nI (i + 1) from nI_add i 1]
  refine z_sld hX hs (D_Law0_0 (i := 44) rfl) rfl (by omega) ?_
  refine z_aload_n hX (D_Law0_0 (i := 45) rfl) rfl ?_
  refine z_iload_n hX (D_Law0_0 (i := 46) rfl) rfl ?_
  refine z_iconst (v := 2) hX (D_Law0_0 (i := 47) rfl) (by decide) ?_
  refine z_iadd hX (D_Law0_0 (i := 48) rfl) ?_
  rw [show nI i + 2 = nI (i + 2) from nI_add i 2]
  refine z_sld hX hs (D_Law0_0 (i := 49) rfl) rfl (by omega) ?_
  refine z_aload_n hX (D_Law0_1 (i := 0) rfl) rfl ?_
  refine z_iload_n hX (D_Law0_1 (i := 1) rfl) rfl ?_
  refine z_iconst (v := 3) hX (D_Law0_1 (i := 2) rfl) (by decide) ?_
  refine z_iadd hX (D_Law0_1 (i := 3) rfl) ?_
  rw [show nI i + 3 = nI (i + 3) from nI_add i 3]
  refine z_sld hX hs (D_Law0_1 (i := 4) rfl) rfl (by omega) ?_
  refine z_cV3 hX (D_Law0_1 (i := 5) rfl) mi_Four_cubes l_Law0_18 rfl rfl (by decide) (by first | exact Nat.one_pos | assumption | omega) (by first | decide | omega) (Nat.le_of_ble_eq_true rfl) (p_cubes hXX hMM hR _ ?_)
  intro v m1 hM
  refine z_aload_n hX (D_Law0_1 (i := 6) rfl) rfl ?_
  refine z_aload_n hX (D_Law0_1 (i := 7) rfl) rfl ?_
  refine z_iload_n hX (D_Law0_1 (i := 8) rfl) rfl ?_
  refine z_iconst (v := 1) hX (D_Law0_1 (i := 9) rfl) (by decide) ?_
  refine z_iadd hX (D_Law0_1 (i := 10) rfl) ?_
  rw [show nI i + 1 = nI (i + 1) from nI_add i 1]
  refine z_sld hX hs (D_Law0_1 (i := 11) rfl) rfl (by omega) ?_
  refine z_aload_n hX (D_Law0_1 (i := 12) rfl) rfl ?_
  refine z_iload_n hX (D_Law0_1 (i := 13) rfl) rfl ?_
  refine z_iconst (v := 2) hX (D_Law0_1 (i := 14) rfl) (by decide) ?_
  refine z_iadd hX (D_Law0_1 (i := 15) rfl) ?_
  rw [show nI i + 2 = nI (i + 2) from nI_add i 2]
  refine z_sld hX hs (D_Law0_1 (i := 16) rfl) rfl (by omega) ?_
  refine z_aload_n hX (D_Law0_1 (i := 17) rfl) rfl ?_
  refine z_iload_n hX (D_Law0_1 (i := 18) rfl) rfl ?_
  refine z_iconst (v := 3) hX (D_Law0_1 (i := 19) rfl) (by decide) ?_
  refine z_iadd hX (D_Law0_1 (i := 20) rfl) ?_
  rw [show nI i + 3 = nI (i + 3) from nI_add i 3]
  refine z_sld hX hs (D_Law0_1 (i := 21) rfl) rfl (by omega) ?_
  refine z_cV3 hX (D_Law0_1 (i := 22) rfl) mi_Model_cubes l_Law0_22 rfl rfl (by decide) (by first | exact Nat.one_pos | assumption | omega) (by first | decide | omega) (Nat.le_of_ble_eq_true rfl) (hM _ ?_)
  intro m2 hR2
  refine z_icmp_eq (tgt := 1198) hX (D_Law0_1 (i := 23) rfl) (by decide) (fun _ => ?_) (fun hcc => absurd (rfl) hcc)
  exact nx m2 hR2
theorem lc_paint (hX : zG ι M_Law0_law X 100 (pX ++ pM)) (hXX : zHas ι pX) (hMM : zHas ι pM) (hs : zScr ι X L xs) {i : Nat} (hi : i + 6 ≤ L) (hL : L ≤ 384) {mem : zM} (hR : RR mem) (nx : ∀ m, RR m → zW ι M_Law0_law X 1198 [some (zP 99 0), some (zP 0 0), some (zP 40 0), some (zI (nI i))] [] m) : zW ι M_Law0_law X 250 [some (zP 99 0), some (zP 0 0), some (zP 40 0), some (zI (nI i))] [] mem := by
  refine z_aload_n hX (D_Law0_1 (i := 26) rfl) rfl ?_
  refine z_aload_n hX (D_Law0_1 (i := 27) rfl) rfl ?_
  refine z_iload_n hX (D_Law0_1 (i := 28) rfl) rfl ?_
  refine z_iconst (v := 1) hX (D_Law0_1 (i := 29) rfl) (by decide) ?_
  refine z_iadd hX (D_Law0_1 (i := 30) rfl) ?_
  rw [show nI i + 1 = nI (i + 1) from nI_add i 1]
  refine z_sld hX hs (D_Law0_1 (i := 31) rfl) rfl (by omega) ?_
  refine z_aload_n hX (D_Law0_1 (i := 32) rfl) rfl ?_
  refine z_iload_n hX (D_Law0_1 (i := 33) rfl) rfl ?_
  refine z_iconst (v := 2) hX (D_Law0_1 (i := 34) rfl) (by decide) ?_
  refine z_iadd hX (D_Law0_1 (i := 35) rfl) ?_
  rw [show nI i + 2 = nI (i + 2) from nI_add i 2]
  refine z_sld hX hs (D_Law0_1 (i := 36) rfl) rfl (by omega) ?_
  refine z_cV2 hX (D_Law0_1 (i := 37) rfl) mi_Four_paint l_Law0_23 rfl rfl (by decide) (by first | exact Nat.one_pos | assumption | omega) (by first | decide | omega) (Nat.le_of_ble_eq_true rfl) (p_paint hXX hMM hR _ ?_)
  intro v m1 hM
  refine z_aload_n hX (D_Law0_1 (i := 38) rfl) rfl ?_
  refine z_aload_n hX (D_Law0_1 (i := 39) rfl) rfl ?_
  refine z_iload_n hX (D_Law0_1 (i := 40) rfl) rfl ?_
  refine z_iconst (v := 1) hX (D_Law0_1 (i := 41) rfl) (by decide) ?_
  refine z_iadd hX (D_Law0_1 (i := 42) rfl) ?_
  rw [show nI i + 1 = nI (i + 1) from nI_add i 1]
  refine z_sld hX hs (D_Law0_1 (i := 43) rfl) rfl (by omega) ?_
  refine z_aload_n hX (D_Law0_1 (i := 44) rfl) rfl ?_
  refine z_iload_n hX (D_Law0_1 (i := 45) rfl) rfl ?_
  refine z_iconst (v := 2) hX (D_Law0_1 (i := 46) rfl) (by decide) ?_
  refine z_iadd hX (D_Law0_1 (i := 47) rfl) ?_
  rw [show nI i + 2 = nI (i + 2) from nI_add i 2]
  refine z_sld hX hs (D_Law0_1 (i := 48) rfl) rfl (by omega) ?_
  refine z_cV2 hX (D_Law0_1 (i := 49) rfl) mi_Model_paint l_Law0_27 rfl rfl (by decide) (by first | exact Nat.one_pos | assumption | omega) (by first | decide | omega) (Nat.le_of_ble_eq_true rfl) (hM _ ?_)
  intro m2 hR2
  refine z_icmp_eq (tgt := 1198) hX (D_Law0_2 (i := 0) rfl) (by decide) (fun _ => ?_) (fun hcc => absurd (rfl) hcc)
  exact nx m2 hR2
theorem lc_of (hX : zG ι M_Law0_law X 100 (pX ++ pM)) (hXX : zHas ι pX) (hMM : zHas ι pM) (hs : zScr ι X L xs) {i : Nat} (hi : i + 6 ≤ L) (hL : L ≤ 384) {mem : zM} (hR : RR mem) (nx : ∀ m, RR m → zW ι M_Law0_law X 1198 [some (zP 99 0), some (zP 0 0), some (zP 40 0), some (zI (nI i))] [] m) : zW ι M_Law0_law X 283 [some (zP 99 0), some (zP 0 0), some (zP 40 0), some (zI (nI i))] [] mem := by
  refine z_aload_n hX (D_Law0_2 (i := 3) rfl) rfl ?_
  refine z_aload_n hX (D_Law0_2 (i := 4) rfl) rfl ?_
  refine z_iload_n hX (D_Law0_2 (i := 5) rfl) rfl ?_
  refine z_iconst (v := 1) hX (D_Law0_2 (i := 6) rfl) (by decide) ?_
  refine z_iadd hX (D_Law0_2 (i := 7) rfl) ?_
  rw [show nI i + 1 = nI (i + 1) from nI_add i 1]
  refine z_sld hX hs (D_Law0_2 (i := 8) rfl) rfl (by omega) ?_
  refine z_aload_n hX (D_Law0_2 (i := 9) rfl) rfl ?_
  refine z_iload_n hX (D_Law0_2 (i := 10) rfl) rfl ?_
  refine z_iconst (v := 2) hX (D_Law0_2 (i := 11) rfl) (by decide) ?_
  refine z_iadd hX (D_Law0_2 (i := 12) rfl) ?_
  rw [show nI i + 2 = nI (i + 2) from nI_add i 2]
  refine z_sld hX hs (D_Law0_2 (i := 13) rfl) rfl (by omega) ?_
  refine z_cV2 hX (D_Law0_2 (i := 14) rfl) mi_Four_of l_Law0_28 rfl rfl (by decide) (by first | exact Nat.one_pos | assumption | omega) (by first | decide | omega) (Nat.le_of_ble_eq_true rfl) (p_of hXX hMM hR _ ?_)
  intro v m1 hM
  refine z_aload_n hX (D_Law0_2 (i := 15) rfl) rfl ?_
  refine z_aload_n hX (D_Law0_2 (i := 16) rfl) rfl ?_
  refine z_iload_n hX (D_Law0_2 (i := 17) rfl) rfl ?_
  refine z_iconst (v := 1) hX (D_Law0_2 (i := 18) rfl) (by decide) ?_
  refine z_iadd hX (D_Law0_2 (i := 19) rfl) ?_
  rw [show nI i + 1 = nI (i + 1) from nI_add i 1]
  refine z_sld hX hs (D_Law0_2 (i := 20) rfl) rfl (by omega) ?_
  refine z_aload_n hX (D_Law0_2 (i := 21) rfl) rfl ?_
  refine z_iload_n hX (D_Law0_2 (i := 22) rfl) rfl ?_
  refine z_iconst (v := 2) hX (D_Law0_2 (i := 23) rfl) (by decide) ?_
  refine z_iadd hX (D_Law0_2 (i := 24) rfl) ?_
  rw [show nI i + 2 = nI (i + 2) from nI_add i 2]
  refine z_sld hX hs (D_Law0_2 (i := 25) rfl) rfl (by omega) ?_
  refine z_cV2 hX (D_Law0_2 (i := 26) rfl) mi_Model_of l_Law0_31 rfl rfl (by decide) (by first | exact Nat.one_pos | assumption | omega) (by first | decide | omega) (Nat.le_of_ble_eq_true rfl) (hM _ ?_)
  intro m2 hR2
  refine z_icmp_eq (tgt := 1198) hX (D_Law0_2 (i := 27) rfl) (by decide) (fun _ => ?_) (fun hcc => absurd (rfl) hcc)
  exact nx m2 hR2
theorem lc_box (hX : zG ι M_Law0_law X 100 (pX ++ pM)) (hXX : zHas ι pX) (hMM : zHas ι pM) (hs : zScr ι X L xs) {i : Nat} (hi : i + 6 ≤ L) (hL : L ≤ 384) {mem : zM} (hR : RR mem) (nx : ∀ m, RR m → zW ι M_Law0_law X 1198 [some (zP 99 0), some (zP 0 0), some (zP 40 0), some (zI (nI i))] [] m) : zW ι M_Law0_law X 316 [some (zP 99 0), some (zP 0 0), some (zP 40 0), some (zI (nI i))] [] mem := by
  refine z_aload_n hX (D_Law0_2 (i := 30) rfl) rfl ?_
  refine z_aload_n hX (D_Law0_2 (i := 31) rfl) rfl ?_
  refine z_iload_n hX (D_Law0_2 (i := 32) rfl) rfl ?_
  refine z_iconst (v := 1) hX (D_Law0_2 (i := 33) rfl) (by decide) ?_
  refine z_iadd hX (D_Law0_2 (i := 34) rfl) ?_
  rw [show nI i + 1 = nI (i + 1) from nI_add i 1]
  refine z_sld hX hs (D_Law0_2 (i := 35) rfl) rfl (by omega) ?_
  refine z_cV1 hX (D_Law0_2 (i := 36) rfl) mi_Four_box l_Law0_32 rfl rfl (by decide) (by first | exact Nat.one_pos | assumption | omega) (by first | decide | omega) (Nat.le_of_ble_eq_true rfl) (p_box hXX hMM hR _ ?_)
  intro v m1 hM
  refine z_aload_n hX (D_Law0_2 (i := 37) rfl) rfl ?_
  refine z_aload_n hX (D_Law0_2 (i := 38) rfl) rfl ?_
  refine z_iload_n hX (D_Law0_2 (i := 39) rfl) rfl ?_
  refine z_iconst (v := 1) hX (D_Law0_2 (i := 40) rfl) (by decide) ?_
  refine z_iadd hX (D_Law0_2 (i := 41) rfl) ?_
  rw [show nI i + 1 = nI (i + 1) from nI_add i 1]
  refine z_sld hX hs (D_Law0_2 (i := 42) rfl) rfl (by omega) ?_
  refine z_cV1 hX (D_Law0_2 (i := 43) rfl) mi_Model_box l_Law0_35 rfl rfl (by decide) (by first | exact Nat.one_pos | assumption | omega) (by first | decide | omega) (Nat.le_of_ble_eq_true rfl) (hM _ ?_)
  intro m2 hR2
  refine z_icmp_eq (tgt := 1198) hX (D_Law0_2 (i := 44) rfl) (by decide) (fun _ => ?_) (fun hcc => absurd (rfl) hcc)
  exact nx m2 hR2
theorem lc_feed (hX : zG ι M_Law0_law X 100 (pX ++ pM)) (hXX : zHas ι pX) (hMM : zHas ι pM) (hs : zScr ι X L xs) {i : Nat} (hi : i + 6 ≤ L) (hL : L ≤ 384) {mem : zM} (hR : RR mem) (nx : ∀ m, RR m → zW ι M_Law0_law X 1198 [some (zP 99 0), some (zP 0 0), some (zP 40 0), some (zI (nI i))] [] m) : zW ι M_Law0_law X 339 [some (zP 99 0), some (zP 0 0), some (zP 40 0), some (zI (nI i))] [] mem := by
  refine z_aload_n hX (D_Law0_2 (i := 47) rfl) rfl ?_
  refine z_aload_n hX (D_Law0_2 (i := 48) rfl) rfl ?_
  refine z_iload_n hX (D_Law0_2 (i := 49) rfl) rfl ?_
  refine z_iconst (v := 1) hX (D_Law0_3 (i := 0) rfl) (by decide) ?_
  refine z_iadd hX (D_Law0_3 (i := 1) rfl) ?_
  rw [show nI i + 1 = nI (i + 1) from nI_add i 1]
  refine z_sld hX hs (D_Law0_3 (i := 2) rfl) rfl (by omega) ?_
  refine z_cV1 hX (D_Law0_3 (i := 3) rfl) mi_Four_feed l_Law0_36 rfl rfl (by decide) (by first | exact Nat.one_pos | assumption | omega) (by first | decide | omega) (Nat.le_of_ble_eq_true rfl) (p_feed hXX hMM hR _ ?_)
  intro v m1 hM
  refine z_aload_n hX (D_Law0_3 (i := 4) rfl) rfl ?_
  refine z_aload_n hX (D_Law0_3 (i := 5) rfl) rfl ?_
  refine z_iload_n hX (D_Law0_3 (i := 6) rfl) rfl ?_
  refine z_iconst (v := 1) hX (D_Law0_3 (i := 7) rfl) (by decide) ?_
  refine z_iadd hX (D_Law0_3 (i := 8) rfl) ?_
  rw [show nI i + 1 = nI (i + 1) from nI_add i 1]
  refine z_sld hX hs (D_Law0_3 (i := 9) rfl) rfl (by omega) ?_
  refine z_cV1 hX (D_Law0_3 (i := 10) rfl) mi_Model_feed l_Law0_39 rfl rfl (by decide) (by first | exact Nat.one_pos | assumption | omega) (by first | decide | omega) (Nat.le_of_ble_eq_true rfl) (hM _ ?_)
  intro m2 hR2
  refine z_icmp_eq (tgt := 1198) hX (D_Law0_3 (i := 11) rfl) (by decide) (fun _ => ?_) (fun hcc => absurd (rfl) hcc)
  exact nx m2 hR2
theorem lc_law (hX : zG ι M_Law0_law X 100 (pX ++ pM)) (hXX : zHas ι pX) (hMM : zHas ι pM) (hs : zScr ι X L xs) {i : Nat} (hi : i + 6 ≤ L) (hL : L ≤ 384) {mem : zM} (hR : RR mem) (nx : ∀ m, RR m → zW ι M_Law0_law X 1198 [some (zP 99 0), some (zP 0 0), some (zP 40 0), some (zI (nI i))] [] m) : zW ι M_Law0_law X 362 [some (zP 99 0), some (zP 0 0), some (zP 40 0), some (zI (nI i))] [] mem := by
  refine z_aload_n hX (D_Law0_3 (i := 14) rfl) rfl ?_
  refine z_cV0 hX (D_Law0_3 (i := 15) rfl) mi_Four_law l_Law0_40 rfl rfl (by decide) (by first | exact Nat.one_pos | assumption | omega) (by first | decide | omega) (Nat.le_of_ble_eq_true rfl) (p_law hXX hMM hR _ ?_)
  intro v m1 hM
  refine z_aload_n hX (D_Law0_3 (i := 16) rfl) rfl ?_
  refine z_cV0 hX (D_Law0_3 (i := 17) rfl) mi_Model_law l_Law0_44 rfl rfl (by decide) (by first | exact Nat.one_pos | assumption | omega) (by first | decide | omega) (Nat.le_of_ble_eq_true rfl) (hM _ ?_)
  intro m2 hR2
  refine z_icmp_eq (tgt := 1198) hX (D_Law0_3 (i := 18) rfl) (by decide) (fun _ => ?_) (fun hcc => absurd (rfl) hcc)
  exact nx m2 hR2
theorem lc_turn (hX : zG ι M_Law0_law X 100 (pX ++ pM)) (hXX : zHas ι pX) (hMM : zHas ι pM) (hs : zScr ι X L xs) {i : Nat} (hi : i + 6 ≤ L) (hL : L ≤ 384) {mem : zM} (hR : RR mem) (nx : ∀ m, RR m → zW ι M_Law0_law X 1198 [some (zP 99 0), some (zP 0 0), some (zP 40 0), some (zI (nI i))] [] m) : zW ι M_Law0_law X 375 [some (zP 99 0), some (zP 0 0), some (zP 40 0), some (zI (nI i))] [] mem := by
  refine z_aload_n hX (D_Law0_3 (i := 21) rfl) rfl ?_
  refine z_aload_n hX (D_Law0_3 (i := 22) rfl) rfl ?_
  refine z_iload_n hX (D_Law0_3 (i := 23) rfl) rfl ?_
  refine z_iconst (v := 1) hX (D_Law0_3 (i := 24) rfl) (by decide) ?_
  refine z_iadd hX (D_Law0_3 (i := 25) rfl) ?_
  rw [show nI i + 1 = nI (i + 1) from nI_add i 1]
  refine z_sld hX hs (D_Law0_3 (i := 26) rfl) rfl (by omega) ?_
  refine z_aload_n hX (D_Law0_3 (i := 27) rfl) rfl ?_
  refine z_iload_n hX (D_Law0_3 (i := 28) rfl) rfl ?_
  refine z_iconst (v := 2) hX (D_Law0_3 (i := 29) rfl) (by decide) ?_
  refine z_iadd hX (D_Law0_3 (i := 30) rfl) ?_
  rw [show nI i + 2 = nI (i + 2) from nI_add i 2]
  refine z_sld hX hs (D_Law0_3 (i := 31) rfl) rfl (by omega) ?_
  refine z_cV2 hX (D_Law0_3 (i := 32) rfl) mi_Four_turn l_Law0_45 rfl rfl (by decide) (by first | exact Nat.one_pos | assumption | omega) (by first | decide | omega) (Nat.le_of_ble_eq_true rfl) (p_turn hXX hMM hR _ ?_)
  intro v m1 hM
  refine z_aload_n hX (D_Law0_3 (i := 33) rfl) rfl ?_
  refine z_aload_n hX (D_Law0_3 (i := 34) rfl) rfl ?_
  refine z_iload_n hX (D_Law0_3 (i := 35) rfl) rfl ?_
  refine z_iconst (v := 1) hX (D_Law0_3 (i := 36) rfl) (by decide) ?_
  refine z_iadd hX (D_Law0_3 (i := 37) rfl) ?_
  rw [show nI i + 1 = nI (i + 1) from nI_add i 1]
  refine z_sld hX hs (D_Law0_3 (i := 38) rfl) rfl (by omega) ?_
  refine z_aload_n hX (D_Law0_3 (i := 39) rfl) rfl ?_
  refine z_iload_n hX (D_Law0_3 (i := 40) rfl) rfl ?_
  refine z_iconst (v := 2) hX (D_Law0_3 (i := 41) rfl) (by decide) ?_
  refine z_iadd hX (D_Law0_3 (i := 42) rfl) ?_
  rw [show nI i + 2 = nI (i + 2) from nI_add i 2]
  refine z_sld hX hs (D_Law0_3 (i := 43) rfl) rfl (by omega) ?_
  refine z_cV2 hX (D_Law0_3 (i := 44) rfl) mi_Model_turn l_Law0_48 rfl rfl (by decide) (by first | exact Nat.one_pos | assumption | omega) (by first | decide | omega) (Nat.le_of_ble_eq_true rfl) (hM _ ?_)
  intro m2 hR2
  refine z_icmp_eq (tgt := 1198) hX (D_Law0_3 (i := 45) rfl) (by decide) (fun _ => ?_) (fun hcc => absurd (rfl) hcc)
  exact nx m2 hR2
theorem lc_shows (hX : zG ι M_Law0_law X 100 (pX ++ pM)) (hXX : zHas ι pX) (hMM : zHas ι pM) (hs : zScr ι X L xs) {i : Nat} (hi : i + 6 ≤ L) (hL : L ≤ 384) {mem : zM} (hR : RR mem) (nx : ∀ m, RR m → zW ι M_Law0_law X 1198 [some (zP 99 0), some (zP 0 0), some (zP 40 0), some (zI (nI i))] [] m) : zW ι M_Law0_law X 408 [some (zP 99 0), some (zP 0 0), some (zP 40 0), some (zI (nI i))] [] mem := by
  refine z_aload_n hX (D_Law0_3 (i := 48) rfl) rfl ?_
  refine z_aload_n hX (D_Law0_3 (i := 49) rfl) rfl ?_
  refine z_iload_n hX (D_Law0_4 (i := 0) rfl) rfl ?_
  refine z_iconst (v := 1) hX (D_Law0_4 (i := 1) rfl) (by decide) ?_
  refine z_iadd hX (D_Law0_4 (i := 2) rfl) ?_
  rw [show nI i + 1 = nI (i + 1) from nI_add i 1]
  refine z_sld hX hs (D_Law0_4 (i := 3) rfl) rfl (by omega) ?_
  refine z_aload_n hX (D_Law0_4 (i := 4) rfl) rfl ?_
  refine z_iload_n hX (D_Law0_4 (i := 5) rfl) rfl ?_
  refine z_iconst (v := 2) hX (D_Law0_4 (i := 6) rfl) (by decide) ?_
  refine z_iadd hX (D_Law0_4 (i := 7) rfl) ?_
  rw [show nI i + 2 = nI (i + 2) from nI_add i 2]
  refine z_sld hX hs (D_Law0_4 (i := 8) rfl) rfl (by omega) ?_
  refine z_aload_n hX (D_Law0_4 (i := 9) rfl) rfl ?_
  refine z_iload_n hX (D_Law0_4 (i := 10) rfl) rfl ?_
  refine z_iconst (v := 3) hX (D_Law0_4 (i := 11) rfl) (by decide) ?_
  refine z_iadd hX (D_Law0_4 (i := 12) rfl) ?_
  rw [show nI i + 3 = nI (i + 3) from nI_add i 3]
  refine z_sld hX hs (D_Law0_4 (i := 13) rfl) rfl (by omega) ?_
  refine z_cV3 hX (D_Law0_4 (i := 14) rfl) mi_Four_shows l_Law0_49 rfl rfl (by decide) (by first | exact Nat.one_pos | assumption | omega) (by first | decide | omega) (Nat.le_of_ble_eq_true rfl) (p_shows hXX hMM hR _ ?_)
  intro v m1 hM
  refine z_aload_n hX (D_Law0_4 (i := 15) rfl) rfl ?_
  refine z_aload_n hX (D_Law0_4 (i := 16) rfl) rfl ?_
  refine z_iload_n hX (D_Law0_4 (i := 17) rfl) rfl ?_
  refine z_iconst (v := 1) hX (D_Law0_4 (i := 18) rfl) (by decide) ?_
  refine z_iadd hX (D_Law0_4 (i := 19) rfl) ?_
  rw [show nI i + 1 = nI (i + 1) from nI_add i 1]
  refine z_sld hX hs (D_Law0_4 (i := 20) rfl) rfl (by omega) ?_
  refine z_aload_n hX (D_Law0_4 (i := 21) rfl) rfl ?_
  refine z_iload_n hX (D_Law0_4 (i := 22) rfl) rfl ?_
  refine z_iconst (v := 2) hX (D_Law0_4 (i := 23) rfl) (by decide) ?_
  refine z_iadd hX (D_Law0_4 (i := 24) rfl) ?_
  rw [show nI i + 2 = nI (i + 2) from nI_add i 2]
  refine z_sld hX hs (D_Law0_4 (i := 25) rfl) rfl (by omega) ?_
  refine z_aload_n hX (D_Law0_4 (i := 26) rfl) rfl ?_
  refine z_iload_n hX (D_Law0_4 (i := 27) rfl) rfl ?_
  refine z_iconst (v := 3) hX (D_Law0_4 (i := 28) rfl) (by decide) ?_
  refine z_iadd hX (D_Law0_4 (i := 29) rfl) ?_
  rw [show nI i + 3 = nI (i + 3) from nI_add i 3]
  refine z_sld hX hs (D_Law0_4 (i := 30) rfl) rfl (by omega) ?_
  refine z_cV3 hX (D_Law0_4 (i := 31) rfl) mi_Model_shows l_Law0_52 rfl rfl (by decide) (by first | exact Nat.one_pos | assumption | omega) (by first | decide | omega) (Nat.le_of_ble_eq_true rfl) (hM _ ?_)
  intro m2 hR2
  refine z_icmp_eq (tgt := 1198) hX (D_Law0_4 (i := 32) rfl) (by decide) (fun _ => ?_) (fun hcc => absurd (rfl) hcc)
  exact nx m2 hR2
theorem lc_judge (hX : zG ι M_Law0_law X 100 (pX ++ pM)) (hXX : zHas ι pX) (hMM : zHas ι pM) (hs : zScr ι X L xs) {i : Nat} (hi : i + 6 ≤ L) (hL : L ≤ 384) {mem : zM} (hR : RR mem) (nx : ∀ m, RR m → zW ι M_Law0_law X 1198 [some (zP 99 0), some (zP 0 0), some (zP 40 0), some (zI (nI i))] [] m) : zW ι M_Law0_law X 451 [some (zP 99 0), some (zP 0 0), some (zP 40 0), some (zI (nI i))] [] mem := by
  refine z_aload_n hX (D_Law0_4 (i := 35) rfl) rfl ?_
  refine z_cV0 hX (D_Law0_4 (i := 36) rfl) mi_Four_judge l_Law0_53 rfl rfl (by decide) (by first | exact Nat.one_pos | assumption | omega) (by first | decide | omega) (Nat.le_of_ble_eq_true rfl) (p_judge hXX hMM hR _ ?_)
  intro v m1 hM
  refine z_aload_n hX (D_Law0_4 (i := 37) rfl) rfl ?_
  refine z_cV0 hX (D_Law0_4 (i := 38) rfl) mi_Model_judge l_Law0_56 rfl rfl (by decide) (by first | exact Nat.one_pos | assumption | omega) (by first | decide | omega) (Nat.le_of_ble_eq_true rfl) (hM _ ?_)
  intro m2 hR2
  refine z_icmp_eq (tgt := 1198) hX (D_Law0_4 (i := 39) rfl) (by decide) (fun _ => ?_) (fun hcc => absurd (rfl) hcc)
  exact nx m2 hR2
theorem lc_ways (hX : zG ι M_Law0_law X 100 (pX ++ pM)) (hXX : zHas ι pX) (hMM : zHas ι pM) (hs : zScr ι X L xs) {i : Nat} (hi : i + 6 ≤ L) (hL : L ≤ 384) {mem : zM} (hR : RR mem) (nx : ∀ m, RR m → zW ι M_Law0_law X 1198 [some (zP 99 0), some (zP 0 0), some (zP 40 0), some (zI (nI i))] [] m) : zW ι M_Law0_law X 464 [some (zP 99 0), some (zP 0 0), some (zP 40 0), some (zI (nI i))] [] mem := by
  refine z_aload_n hX (D_Law0_4 (i := 42) rfl) rfl ?_
  refine z_aload_n hX (D_Law0_4 (i := 43) rfl) rfl ?_
  refine z_iload_n hX (D_Law0_4 (i := 44) rfl) rfl ?_
  refine z_iconst (v := 1) hX (D_Law0_4 (i := 45) rfl) (by decide) ?_
  refine z_iadd hX (D_Law0_4 (i := 46) rfl) ?_
  rw [show nI i + 1 = nI (i + 1) from nI_add i 1]
  refine z_sld hX hs (D_Law0_4 (i := 47) rfl) rfl (by omega) ?_
  refine z_aload_n hX (D_Law0_4 (i := 48) rfl) rfl ?_
  refine z_iload_n hX (D_Law0_4 (i := 49) rfl) rfl ?_
  refine z_iconst (v := 2) hX (D_Law0_5 (i := 0) rfl) (by decide) ?_
  refine z_iadd hX (D_Law0_5 (i := 1) rfl) ?_
  rw [show nI i + 2 = nI (i + 2) from nI_add i 2]
  refine z_sld hX hs (D_Law0_5 (i := 2) rfl) rfl (by omega) ?_
  refine z_cV2 hX (D_Law0_5 (i := 3) rfl) mi_Four_ways l_Law0_57 rfl rfl (by decide) (by first | exact Nat.one_pos | assumption | omega) (by first | decide | omega) (Nat.le_of_ble_eq_true rfl) (p_ways hXX hMM hR _ ?_)
  intro v m1 hM
  refine z_aload_n hX (D_Law0_5 (i := 4) rfl) rfl ?_
  refine z_aload_n hX (D_Law0_5 (i := 5) rfl) rfl ?_
  refine z_iload_n hX (D_Law0_5 (i := 6) rfl) rfl ?_
  refine z_iconst (v := 1) hX (D_Law0_5 (i := 7) rfl) (by decide) ?_
  refine z_iadd hX (D_Law0_5 (i := 8) rfl) ?_
  rw [show nI i + 1 = nI (i + 1) from nI_add i 1]
  refine z_sld hX hs (D_Law0_5 (i := 9) rfl) rfl (by omega) ?_
  refine z_aload_n hX (D_Law0_5 (i := 10) rfl) rfl ?_
  refine z_iload_n hX (D_Law0_5 (i := 11) rfl) rfl ?_
  refine z_iconst (v := 2) hX (D_Law0_5 (i := 12) rfl) (by decide) ?_
  refine z_iadd hX (D_Law0_5 (i := 13) rfl) ?_
  rw [show nI i + 2 = nI (i + 2) from nI_add i 2]
  refine z_sld hX hs (D_Law0_5 (i := 14) rfl) rfl (by omega) ?_
  refine z_cV2 hX (D_Law0_5 (i := 15) rfl) mi_Model_ways l_Law0_60 rfl rfl (by decide) (by first | exact Nat.one_pos | assumption | omega) (by first | decide | omega) (Nat.le_of_ble_eq_true rfl) (hM _ ?_)
  intro m2 hR2
  refine z_icmp_eq (tgt := 1198) hX (D_Law0_5 (i := 16) rfl) (by decide) (fun _ => ?_) (fun hcc => absurd (rfl) hcc)
  exact nx m2 hR2
theorem lc_near (hX : zG ι M_Law0_law X 100 (pX ++ pM)) (hXX : zHas ι pX) (hMM : zHas ι pM) (hs : zScr ι X L xs) {i : Nat} (hi : i + 6 ≤ L) (hL : L ≤ 384) {mem : zM} (hR : RR mem) (nx : ∀ m, RR m → zW ι M_Law0_law X 1198 [some (zP 99 0), some (zP 0 0), some (zP 40 0), some (zI (nI i))] [] m) : zW ι M_Law0_law X 497 [some (zP 99 0), some (zP 0 0), some (zP 40 0), some (zI (nI i))] [] mem := by
  refine z_aload_n hX (D_Law0_5 (i := 19) rfl) rfl ?_
  refine z_aload_n hX (D_Law0_5 (i := 20) rfl) rfl ?_
  refine z_iload_n hX (D_Law0_5 (i := 21) rfl) rfl ?_
  refine z_iconst (v := 1) hX (D_Law0_5 (i := 22) rfl) (by decide) ?_
  refine z_iadd hX (D_Law0_5 (i := 23) rfl) ?_
  rw [show nI i + 1 = nI (i + 1) from nI_add i 1]
  refine z_sld hX hs (D_Law0_5 (i := 24) rfl) rfl (by omega) ?_
  refine z_cV1 hX (D_Law0_5 (i := 25) rfl) mi_Four_near l_Law0_61 rfl rfl (by decide) (by first | exact Nat.one_pos | assumption | omega) (by first | decide | omega) (Nat.le_of_ble_eq_true rfl) (p_near hXX hMM hR _ ?_)
  intro v m1 hM
  refine z_aload_n hX (D_Law0_5 (i := 26) rfl) rfl ?_
  refine z_aload_n hX (D_Law0_5 (i := 27) rfl) rfl ?_
  refine z_iload_n hX (D_Law0_5 (i := 28) rfl) rfl ?_
  refine z_iconst (v := 1) hX (D_Law0_5 (i := 29) rfl) (by decide) ?_
  refine z_iadd hX (D_Law0_5 (i := 30) rfl) ?_
  rw [show nI i + 1 = nI (i + 1) from nI_add i 1]
  refine z_sld hX hs (D_Law0_5 (i := 31) rfl) rfl (by omega) ?_
  refine z_cV1 hX (D_Law0_5 (i := 32) rfl) mi_Model_near l_Law0_64 rfl rfl (by decide) (by first | exact Nat.one_pos | assumption | omega) (by first | decide | omega) (Nat.le_of_ble_eq_true rfl) (hM _ ?_)
  intro m2 hR2
  refine z_icmp_eq (tgt := 1198) hX (D_Law0_5 (i := 33) rfl) (by decide) (fun _ => ?_) (fun hcc => absurd (rfl) hcc)
  exact nx m2 hR2
theorem lc_build (hX : zG ι M_Law0_law X 100 (pX ++ pM)) (hXX : zHas ι pX) (hMM : zHas ι pM) (hs : zScr ι X L xs) {i : Nat} (hi : i + 6 ≤ L) (hL : L ≤ 384) {mem : zM} (hR : RR mem) (nx : ∀ m, RR m → zW ι M_Law0_law X 1198 [some (zP 99 0), some (zP 0 0), some (zP 40 0), some (zI (nI i))] [] m) : zW ι M_Law0_law X 520 [some (zP 99 0), some (zP 0 0), some (zP 40 0), some (zI (nI i))] [] mem := by
  refine z_aload_n hX (D_Law0_5 (i := 36) rfl) rfl ?_
  refine z_aload_n hX (D_Law0_5 (i := 37) rfl) rfl ?_
  refine z_iload_n hX (D_Law0_5 (i := 38) rfl) rfl ?_
  refine z_iconst (v := 1) hX (D_Law0_5 (i := 39) rfl) (by decide) ?_
  refine z_iadd hX (D_Law0_5 (i := 40) rfl) ?_
  rw [show nI i + 1 = nI (i + 1) from nI_add i 1]
  refine z_sld hX hs (D_Law0_5 (i := 41) rfl) rfl (by omega) ?_
  refine z_aload_n hX (D_Law0_5 (i := 42) rfl) rfl ?_
  refine z_iload_n hX (D_Law0_5 (i := 43) rfl) rfl ?_
  refine z_iconst (v := 2) hX (D_Law0_5 (i := 44) rfl) (by decide) ?_
  refine z_iadd hX (D_Law0_5 (i := 45) rfl) ?_
  rw [show nI i + 2 = nI (i + 2) from nI_add i 2]
  refine z_sld hX hs (D_Law0_5 (i := 46) rfl) rfl (by omega) ?_
  refine z_cV2 hX (D_Law0_5 (i := 47) rfl) mi_Four_build l_Law0_65 rfl rfl (by decide) (by first | exact Nat.one_pos | assumption | omega) (by first | decide | omega) (Nat.le_of_ble_eq_true rfl) (p_build hXX hMM hR _ ?_)
  intro v m1 hM
  refine z_aload_n hX (D_Law0_5 (i := 48) rfl) rfl ?_
  refine z_aload_n hX (D_Law0_5 (i := 49) rfl) rfl ?_
  refine z_iload_n hX (D_Law0_6 (i := 0) rfl) rfl ?_
  refine z_iconst (v := 1) hX (D_Law0_6 (i := 1) rfl) (by decide) ?_
  refine z_iadd hX (D_Law0_6 (i := 2) rfl) ?_
  rw [show nI i + 1 = nI (i + 1) from nI_add i 1]
  refine z_sld hX hs (D_Law0_6 (i := 3) rfl) rfl (by omega) ?_
  refine z_aload_n hX (D_Law0_6 (i := 4) rfl) rfl ?_
  refine z_iload_n hX (D_Law0_6 (i := 5) rfl) rfl ?_
  refine z_iconst (v := 2) hX (D_Law0_6 (i := 6) rfl) (by decide) ?_
  refine z_iadd hX (D_Law0_6 (i := 7) rfl) ?_
  rw [show nI i + 2 = nI (i + 2) from nI_add i 2]
  refine z_sld hX hs (D_Law0_6 (i := 8) rfl) rfl (by omega) ?_
  refine z_cV2 hX (D_Law0_6 (i := 9) rfl) mi_Model_build l_Law0_68 rfl rfl (by decide) (by first | exact Nat.one_pos | assumption | omega) (by first | decide | omega) (Nat.le_of_ble_eq_true rfl) (hM _ ?_)
  intro m2 hR2
  refine z_icmp_eq (tgt := 1198) hX (D_Law0_6 (i := 10) rfl) (by decide) (fun _ => ?_) (fun hcc => absurd (rfl) hcc)
  exact nx m2 hR2
theorem lc_mend (hX : zG ι M_Law0_law X 100 (pX ++ pM)) (hXX : zHas ι pX) (hMM : zHas ι pM) (hs : zScr ι X L xs) {i : Nat} (hi : i + 6 ≤ L) (hL : L ≤ 384) {mem : zM} (hR : RR mem) (nx : ∀ m, RR m → zW ι M_Law0_law X 1198 [some (zP 99 0), some (zP 0 0), some (zP 40 0), some (zI (nI i))] [] m) : zW ι M_Law0_law X 553 [some (zP 99 0), some (zP 0 0), some (zP 40 0), some (zI (nI i))] [] mem := by
  refine z_aload_n hX (D_Law0_6 (i := 13) rfl) rfl ?_
  refine z_aload_n hX (D_Law0_6 (i := 14) rfl) rfl ?_
  refine z_iload_n hX (D_Law0_6 (i := 15) rfl) rfl ?_
  refine z_iconst (v := 1) hX (D_Law0_6 (i := 16) rfl) (by decide) ?_
  refine z_iadd hX (D_Law0_6 (i := 17) rfl) ?_
  rw [show nI i + 1 = nI (i + 1) from nI_add i 1]
  refine z_sld hX hs (D_Law0_6 (i := 18) rfl) rfl (by omega) ?_
  refine z_cV1 hX (D_Law0_6 (i := 19) rfl) mi_Four_mend l_Law0_69 rfl rfl (by decide) (by first | exact Nat.one_pos | assumption | omega) (by first | decide | omega) (Nat.le_of_ble_eq_true rfl) (p_mend hXX hMM hR _ ?_)
  intro v m1 hM
  refine z_aload_n hX (D_Law0_6 (i := 20) rfl) rfl ?_
  refine z_aload_n hX (D_Law0_6 (i := 21) rfl) rfl ?_
  refine z_iload_n hX (D_Law0_6 (i := 22) rfl) rfl ?_
  refine z_iconst (v := 1) hX (D_Law0_6 (i := 23) rfl) (by decide) ?_
  refine z_iadd hX (D_Law0_6 (i := 24) rfl) ?_
  rw [show nI i + 1 = nI (i + 1) from nI_add i 1]
  refine z_sld hX hs (D_Law0_6 (i := 25) rfl) rfl (by omega) ?_
  refine z_cV1 hX (D_Law0_6 (i := 26) rfl) mi_Model_mend l_Law0_72 rfl rfl (by decide) (by first | exact Nat.one_pos | assumption | omega) (by first | decide | omega) (Nat.le_of_ble_eq_true rfl) (hM _ ?_)
  intro m2 hR2
  refine z_icmp_eq (tgt := 1198) hX (D_Law0_6 (i := 27) rfl) (by decide) (fun _ => ?_) (fun hcc => absurd (rfl) hcc)
  exact nx m2 hR2
theorem lc_open (hX : zG ι M_Law0_law X 100 (pX ++ pM)) (hXX : zHas ι pX) (hMM : zHas ι pM) (hs : zScr ι X L xs) {i : Nat} (hi : i + 6 ≤ L) (hL : L ≤ 384) {mem : zM} (hR : RR mem) (nx : ∀ m, RR m → zW ι M_Law0_law X 1198 [some (zP 99 0), some (zP 0 0), some (zP 40 0), some (zI (nI i))] [] m) : zW ι M_Law0_law X 576 [some (zP 99 0), some (zP 0 0), some (zP 40 0), some (zI (nI i))] [] mem := by
  refine z_aload_n hX (D_Law0_6 (i := 30) rfl) rfl ?_
  refine z_aload_n hX (D_Law0_6 (i := 31) rfl) rfl ?_
  refine z_iload_n hX (D_Law0_6 (i := 32) rfl) rfl ?_
  refine z_iconst (v := 1) hX (D_Law0_6 (i := 33) rfl) (by decide) ?_
  refine z_iadd hX (D_Law0_6 (i := 34) rfl) ?_
  rw [show nI i + 1 = nI (i + 1) from nI_add i 1]
  refine z_sld hX hs (D_Law0_6 (i := 35) rfl) rfl (by omega) ?_
  refine z_cV1 hX (D_Law0_6 (i := 36) rfl) mi_Four_open l_Law0_73 rfl rfl (by decide) (by first | exact Nat.one_pos | assumption | omega) (by first | decide | omega) (Nat.le_of_ble_eq_true rfl) (p_open hXX hMM hR _ ?_)
  intro v m1 hM
  refine z_aload_n hX (D_Law0_6 (i := 37) rfl) rfl ?_
  refine z_aload_n hX (D_Law0_6 (i := 38) rfl) rfl ?_
  refine z_iload_n hX (D_Law0_6 (i := 39) rfl) rfl ?_
  refine z_iconst (v := 1) hX (D_Law0_6 (i := 40) rfl) (by decide) ?_
  refine z_iadd hX (D_Law0_6 (i := 41) rfl) ?_
  rw [show nI i + 1 = nI (i + 1) from nI_add i 1]
  refine z_sld hX hs (D_Law0_6 (i := 42) rfl) rfl (by omega) ?_
  refine z_cV1 hX (D_Law0_6 (i := 43) rfl) mi_Model_open l_Law0_76 rfl rfl (by decide) (by first | exact Nat.one_pos | assumption | omega) (by first | decide | omega) (Nat.le_of_ble_eq_true rfl) (hM _ ?_)
  intro m2 hR2
  refine z_icmp_eq (tgt := 1198) hX (D_Law0_6 (i := 44) rfl) (by decide) (fun _ => ?_) (fun hcc => absurd (rfl) hcc)
  exact nx m2 hR2
theorem lc_swap (hX : zG ι M_Law0_law X 100 (pX ++ pM)) (hXX : zHas ι pX) (hMM : zHas ι pM) (hs : zScr ι X L xs) {i : Nat} (hi : i + 6 ≤ L) (hL : L ≤ 384) {mem : zM} (hR : RR mem) (nx : ∀ m, RR m → zW ι M_Law0_law X 1198 [some (zP 99 0), some (zP 0 0), some (zP 40 0), some (zI (nI i))] [] m) : zW ι M_Law0_law X 599 [some (zP 99 0), some (zP 0 0), some (zP 40 0), some (zI (nI i))] [] mem := by
  refine z_aload_n hX (D_Law0_6 (i := 47) rfl) rfl ?_
  refine z_aload_n hX (D_Law0_6 (i := 48) rfl) rfl ?_
  refine z_iload_n hX (D_Law0_6 (i := 49) rfl) rfl ?_
  refine z_iconst (v := 1) hX (D_Law0_7 (i := 0) rfl) (by decide) ?_
  refine z_iadd hX (D_Law0_7 (i := 1) rfl) ?_
  rw [show nI i + 1 = nI (i + 1) from nI_add i 1]
  refine z_sld hX hs (D_Law0_7 (i := 2) rfl) rfl (by omega) ?_
  refine z_cV1 hX (D_Law0_7 (i := 3) rfl) mi_Four_swap l_Law0_77 rfl rfl (by decide) (by first | exact Nat.one_pos | assumption | omega) (by first | decide | omega) (Nat.le_of_ble_eq_true rfl) (p_swap hXX hMM hR _ ?_)
  intro v m1 hM
  refine z_aload_n hX (D_Law0_7 (i := 4) rfl) rfl ?_
  refine z_aload_n hX (D_Law0_7 (i := 5) rfl) rfl ?_
  refine z_iload_n hX (D_Law0_7 (i := 6) rfl) rfl ?_
  refine z_iconst (v := 1) hX (D_Law0_7 (i := 7) rfl) (by decide) ?_
  refine z_iadd hX (D_Law0_7 (i := 8) rfl) ?_
  rw [show nI i + 1 = nI (i + 1) from nI_add i 1]
  refine z_sld hX hs (D_Law0_7 (i := 9) rfl) rfl (by omega) ?_
  refine z_cV1 hX (D_Law0_7 (i := 10) rfl) mi_Model_swap l_Law0_80 rfl rfl (by decide) (by first | exact Nat.one_pos | assumption | omega) (by first | decide | omega) (Nat.le_of_ble_eq_true rfl) (hM _ ?_)
  intro m2 hR2
  refine z_icmp_eq (tgt := 1198) hX (D_Law0_7 (i := 11) rfl) (by decide) (fun _ => ?_) (fun hcc => absurd (rfl) hcc)
  exact nx m2 hR2
theorem lc_rings (hX : zG ι M_Law0_law X 100 (pX ++ pM)) (hXX : zHas ι pX) (hMM : zHas ι pM) (hs : zScr ι X L xs) {i : Nat} (hi : i + 6 ≤ L) (hL : L ≤ 384) {mem : zM} (hR : RR mem) (nx : ∀ m, RR m → zW ι M_Law0_law X 1198 [some (zP 99 0), some (zP 0 0), some (zP 40 0), some (zI (nI i))] [] m) : zW ι M_Law0_law X 622 [some (zP 99 0), some (zP 0 0), some (zP 40 0), some (zI (nI i))] [] mem := by
  refine z_aload_n hX (D_Law0_7 (i := 14) rfl) rfl ?_
  refine z_aload_n hX (D_Law0_7 (i := 15) rfl) rfl ?_
  refine z_iload_n hX (D_Law0_7 (i := 16) rfl) rfl ?_
  refine z_iconst (v := 1) hX (D_Law0_7 (i := 17) rfl) (by decide) ?_
  refine z_iadd hX (D_Law0_7 (i := 18) rfl) ?_
  rw [show nI i + 1 = nI (i + 1) from nI_add i 1]
  refine z_sld hX hs (D_Law0_7 (i := 19) rfl) rfl (by omega) ?_
  refine z_cV1 hX (D_Law0_7 (i := 20) rfl) mi_Four_rings l_Law0_81 rfl rfl (by decide) (by first | exact Nat.one_pos | assumption | omega) (by first | decide | omega) (Nat.le_of_ble_eq_true rfl) (p_rings hXX hMM hR _ ?_)
  intro v m1 hM
  refine z_aload_n hX (D_Law0_7 (i := 21) rfl) rfl ?_
  refine z_aload_n hX (D_Law0_7 (i := 22) rfl) rfl ?_
  refine z_iload_n hX (D_Law0_7 (i := 23) rfl) rfl ?_
  refine z_iconst (v := 1) hX (D_Law0_7 (i := 24) rfl) (by decide) ?_
  refine z_iadd hX (D_Law0_7 (i := 25) rfl) ?_
  rw [show nI i + 1 = nI (i + 1) from nI_add i 1]
  refine z_sld hX hs (D_Law0_7 (i := 26) rfl) rfl (by omega) ?_
  refine z_cV1 hX (D_Law0_7 (i := 27) rfl) mi_Model_rings l_Law0_84 rfl rfl (by decide) (by first | exact Nat.one_pos | assumption | omega) (by first | decide | omega) (Nat.le_of_ble_eq_true rfl) (hM _ ?_)
  intro m2 hR2
  refine z_icmp_eq (tgt := 1198) hX (D_Law0_7 (i := 28) rfl) (by decide) (fun _ => ?_) (fun hcc => absurd (rfl) hcc)
  exact nx m2 hR2
theorem lc_alike (hX : zG ι M_Law0_law X 100 (pX ++ pM)) (hXX : zHas ι pX) (hMM : zHas ι pM) (hs : zScr ι X L xs) {i : Nat} (hi : i + 6 ≤ L) (hL : L ≤ 384) {mem : zM} (hR : RR mem) (nx : ∀ m, RR m → zW ι M_Law0_law X 1198 [some (zP 99 0), some (zP 0 0), some (zP 40 0), some (zI (nI i))] [] m) : zW ι M_Law0_law X 645 [some (zP 99 0), some (zP 0 0), some (zP 40 0), some (zI (nI i))] [] mem := by
  refine z_aload_n hX (D_Law0_7 (i := 31) rfl) rfl ?_
  refine z_aload_n hX (D_Law0_7 (i := 32) rfl) rfl ?_
  refine z_iload_n hX (D_Law0_7 (i := 33) rfl) rfl ?_
  refine z_iconst (v := 1) hX (D_Law0_7 (i := 34) rfl) (by decide) ?_
  refine z_iadd hX (D_Law0_7 (i := 35) rfl) ?_
  rw [show nI i + 1 = nI (i + 1) from nI_add i 1]
  refine z_sld hX hs (D_Law0_7 (i := 36) rfl) rfl (by omega) ?_
  refine z_cV1 hX (D_Law0_7 (i := 37) rfl) mi_Four_alike l_Law0_85 rfl rfl (by decide) (by first | exact Nat.one_pos | assumption | omega) (by first | decide | omega) (Nat.le_of_ble_eq_true rfl) (p_alike hXX hMM hR _ ?_)
  intro v m1 hM
  refine z_aload_n hX (D_Law0_7 (i := 38) rfl) rfl ?_
  refine z_aload_n hX (D_Law0_7 (i := 39) rfl) rfl ?_
  refine z_iload_n hX (D_Law0_7 (i := 40) rfl) rfl ?_
  refine z_iconst (v := 1) hX (D_Law0_7 (i := 41) rfl) (by decide) ?_
  refine z_iadd hX (D_Law0_7 (i := 42) rfl) ?_
  rw [show nI i + 1 = nI (i + 1) from nI_add i 1]
  refine z_sld hX hs (D_Law0_7 (i := 43) rfl) rfl (by omega) ?_
  refine z_cV1 hX (D_Law0_7 (i := 44) rfl) mi_Model_alike l_Law0_88 rfl rfl (by decide) (by first | exact Nat.one_pos | assumption | omega) (by first | decide | omega) (Nat.le_of_ble_eq_true rfl) (hM _ ?_)
  intro m2 hR2
  refine z_icmp_eq (tgt := 1198) hX (D_Law0_7 (i := 45) rfl) (by decide) (fun _ => ?_) (fun hcc => absurd (rfl) hcc)
  exact nx m2 hR2
theorem lc_many (hX : zG ι M_Law0_law X 100 (pX ++ pM)) (hXX : zHas ι pX) (hMM : zHas ι pM) (hs : zScr ι X L xs) {i : Nat} (hi : i + 6 ≤ L) (hL : L ≤ 384) {mem : zM} (hR : RR mem) (nx : ∀ m, RR m → zW ι M_Law0_law X 1198 [some (zP 99 0), some (zP 0 0), some (zP 40 0), some (zI (nI i))] [] m) : zW ι M_Law0_law X 668 [some (zP 99 0), some (zP 0 0), some (zP 40 0), some (zI (nI i))] [] mem := by
  refine z_aload_n hX (D_Law0_7 (i := 48) rfl) rfl ?_
  refine z_aload_n hX (D_Law0_7 (i := 49) rfl) rfl ?_
  refine z_iload_n hX (D_Law0_8 (i := 0) rfl) rfl ?_
  refine z_iconst (v := 1) hX (D_Law0_8 (i := 1) rfl) (by decide) ?_
  refine z_iadd hX (D_Law0_8 (i := 2) rfl) ?_
  rw [show nI i + 1 = nI (i + 1) from nI_add i 1]
  refine z_sld hX hs (D_Law0_8 (i := 3) rfl) rfl (by omega) ?_
  refine z_aload_n hX (D_Law0_8 (i := 4) rfl) rfl ?_
  refine z_iload_n hX (D_Law0_8 (i := 5) rfl) rfl ?_
  refine z_iconst (v := 2) hX (D_Law0_8 (i := 6) rfl) (by decide) ?_
  refine z_iadd hX (D_Law0_8 (i := 7) rfl) ?_
  rw [show nI i + 2 = nI (i + 2) from nI_add i 2]
  refine z_sld hX hs (D_Law0_8 (i := 8) rfl) rfl (by omega) ?_
  refine z_cV2 hX (D_Law0_8 (i := 9) rfl) mi_Four_many l_Law0_89 rfl rfl (by decide) (by first | exact Nat.one_pos | assumption | omega) (by first | decide | omega) (Nat.le_of_ble_eq_true rfl) (p_many hXX hMM hR _ ?_)
  intro v m1 hM
  refine z_aload_n hX (D_Law0_8 (i := 10) rfl) rfl ?_
  refine z_aload_n hX (D_Law0_8 (i := 11) rfl) rfl ?_
  refine z_iload_n hX (D_Law0_8 (i := 12) rfl) rfl ?_
  refine z_iconst (v := 1) hX (D_Law0_8 (i := 13) rfl) (by decide) ?_
  refine z_iadd hX (D_Law0_8 (i := 14) rfl) ?_
  rw [show nI i + 1 = nI (i + 1) from nI_add i 1]
  refine z_sld hX hs (D_Law0_8 (i := 15) rfl) rfl (by omega) ?_
  refine z_aload_n hX (D_Law0_8 (i := 16) rfl) rfl ?_
  refine z_iload_n hX (D_Law0_8 (i := 17) rfl) rfl ?_
  refine z_iconst (v := 2) hX (D_Law0_8 (i := 18) rfl) (by decide) ?_
  refine z_iadd hX (D_Law0_8 (i := 19) rfl) ?_
  rw [show nI i + 2 = nI (i + 2) from nI_add i 2]
  refine z_sld hX hs (D_Law0_8 (i := 20) rfl) rfl (by omega) ?_
  refine z_cV2 hX (D_Law0_8 (i := 21) rfl) mi_Model_many l_Law0_93 rfl rfl (by decide) (by first | exact Nat.one_pos | assumption | omega) (by first | decide | omega) (Nat.le_of_ble_eq_true rfl) (hM _ ?_)
  intro m2 hR2
  refine z_lcmp hX (D_Law0_8 (i := 22) rfl) ?_
  rw [lg_self]
  refine z_if_eq (tgt := 1198) hX (D_Law0_8 (i := 23) rfl) (by decide) (fun _ => ?_) (fun hcc => absurd (rfl) hcc)
  exact nx m2 hR2
theorem lc_sight (hX : zG ι M_Law0_law X 100 (pX ++ pM)) (hXX : zHas ι pX) (hMM : zHas ι pM) (hs : zScr ι X L xs) {i : Nat} (hi : i + 6 ≤ L) (hL : L ≤ 384) {mem : zM} (hR : RR mem) (nx : ∀ m, RR m → zW ι M_Law0_law X 1198 [some (zP 99 0), some (zP 0 0), some (zP 40 0), some (zI (nI i))] [] m) : zW ι M_Law0_law X 702 [some (zP 99 0), some (zP 0 0), some (zP 40 0), some (zI (nI i))] [] mem := by
  refine z_aload_n hX (D_Law0_8 (i := 26) rfl) rfl ?_
  refine z_aload_n hX (D_Law0_8 (i := 27) rfl) rfl ?_
  refine z_iload_n hX (D_Law0_8 (i := 28) rfl) rfl ?_
  refine z_iconst (v := 1) hX (D_Law0_8 (i := 29) rfl) (by decide) ?_
  refine z_iadd hX (D_Law0_8 (i := 30) rfl) ?_
  rw [show nI i + 1 = nI (i + 1) from nI_add i 1]
  refine z_sld hX hs (D_Law0_8 (i := 31) rfl) rfl (by omega) ?_
  refine z_aload_n hX (D_Law0_8 (i := 32) rfl) rfl ?_
  refine z_iload_n hX (D_Law0_8 (i := 33) rfl) rfl ?_
  refine z_iconst (v := 2) hX (D_Law0_8 (i := 34) rfl) (by decide) ?_
  refine z_iadd hX (D_Law0_8 (i := 35) rfl) ?_
  rw [show nI i + 2 = nI (i + 2) from nI_add i 2]
  refine z_sld hX hs (D_Law0_8 (i := 36) rfl) rfl (by omega) ?_
  refine z_cV2 hX (D_Law0_8 (i := 37) rfl) mi_Four_sight l_Law0_94 rfl rfl (by decide) (by first | exact Nat.one_pos | assumption | omega) (by first | decide | omega) (Nat.le_of_ble_eq_true rfl) (p_sight hXX hMM hR _ ?_)
  intro v m1 hM
  refine z_aload_n hX (D_Law0_8 (i := 38) rfl) rfl ?_
  refine z_aload_n hX (D_Law0_8 (i := 39) rfl) rfl ?_
  refine z_iload_n hX (D_Law0_8 (i := 40) rfl) rfl ?_
  refine z_iconst (v := 1) hX (D_Law0_8 (i := 41) rfl) (by decide) ?_
  refine z_iadd hX (D_Law0_8 (i := 42) rfl) ?_
  rw [show nI i + 1 = nI (i + 1) from nI_add i 1]
  refine z_sld hX hs (D_Law0_8 (i := 43) rfl) rfl (by omega) ?_
  refine z_aload_n hX (D_Law0_8 (i := 44) rfl) rfl ?_
  refine z_iload_n hX (D_Law0_8 (i := 45) rfl) rfl ?_
  refine z_iconst (v := 2) hX (D_Law0_8 (i := 46) rfl) (by decide) ?_
  refine z_iadd hX (D_Law0_8 (i := 47) rfl) ?_
  rw [show nI i + 2 = nI (i + 2) from nI_add i 2]
  refine z_sld hX hs (D_Law0_8 (i := 48) rfl) rfl (by omega) ?_
  refine z_cV2 hX (D_Law0_8 (i := 49) rfl) mi_Model_sight l_Law0_97 rfl rfl (by decide) (by first | exact Nat.one_pos | assumption | omega) (by first | decide | omega) (Nat.le_of_ble_eq_true rfl) (hM _ ?_)
  intro m2 hR2
  refine z_icmp_eq (tgt := 1198) hX (D_Law0_9 (i := 0) rfl) (by decide) (fun _ => ?_) (fun hcc => absurd (rfl) hcc)
  exact nx m2 hR2
theorem lc_wall (hX : zG ι M_Law0_law X 100 (pX ++ pM)) (hXX : zHas ι pX) (hMM : zHas ι pM) (hs : zScr ι X L xs) {i : Nat} (hi : i + 6 ≤ L) (hL : L ≤ 384) {mem : zM} (hR : RR mem) (nx : ∀ m, RR m → zW ι M_Law0_law X 1198 [some (zP 99 0), some (zP 0 0), some (zP 40 0), some (zI (nI i))] [] m) : zW ι M_Law0_law X 735 [some (zP 99 0), some (zP 0 0), some (zP 40 0), some (zI (nI i))] [] mem := by
  refine z_aload_n hX (D_Law0_9 (i := 3) rfl) rfl ?_
  refine z_aload_n hX (D_Law0_9 (i := 4) rfl) rfl ?_
  refine z_iload_n hX (D_Law0_9 (i := 5) rfl) rfl ?_
  refine z_iconst (v := 1) hX (D_Law0_9 (i := 6) rfl) (by decide) ?_
  refine z_iadd hX (D_Law0_9 (i := 7) rfl) ?_
  rw [show nI i + 1 = nI (i + 1) from nI_add i 1]
  refine z_sld hX hs (D_Law0_9 (i := 8) rfl) rfl (by omega) ?_
  refine z_cV1 hX (D_Law0_9 (i := 9) rfl) mi_Four_wall l_Law0_98 rfl rfl (by decide) (by first | exact Nat.one_pos | assumption | omega) (by first | decide | omega) (Nat.le_of_ble_eq_true rfl) (p_wall hXX hMM hR _ ?_)
  intro v m1 hM
  refine z_aload_n hX (D_Law0_9 (i := 10) rfl) rfl ?_
  refine z_aload_n hX (D_Law0_9 (i := 11) rfl) rfl ?_
  refine z_iload_n hX (D_Law0_9 (i := 12) rfl) rfl ?_
  refine z_iconst (v := 1) hX (D_Law0_9 (i := 13) rfl) (by decide) ?_
  refine z_iadd hX (D_Law0_9 (i := 14) rfl) ?_
  rw [show nI i + 1 = nI (i + 1) from nI_add i 1]
  refine z_sld hX hs (D_Law0_9 (i := 15) rfl) rfl (by omega) ?_
  refine z_cV1 hX (D_Law0_9 (i := 16) rfl) mi_Model_wall l_Law0_101 rfl rfl (by decide) (by first | exact Nat.one_pos | assumption | omega) (by first | decide | omega) (Nat.le_of_ble_eq_true rfl) (hM _ ?_)
  intro m2 hR2
  refine z_icmp_eq (tgt := 1198) hX (D_Law0_9 (i := 17) rfl) (by decide) (fun _ => ?_) (fun hcc => absurd (rfl) hcc)
  exact nx m2 hR2
theorem lc_great (hX : zG ι M_Law0_law X 100 (pX ++ pM)) (hXX : zHas ι pX) (hMM : zHas ι pM) (hs : zScr ι X L xs) {i : Nat} (hi : i + 6 ≤ L) (hL : L ≤ 384) {mem : zM} (hR : RR mem) (nx : ∀ m, RR m → zW ι M_Law0_law X 1198 [some (zP 99 0), some (zP 0 0), some (zP 40 0), some (zI (nI i))] [] m) : zW ι M_Law0_law X 758 [some (zP 99 0), some (zP 0 0), some (zP 40 0), some (zI (nI i))] [] mem := by
  refine z_aload_n hX (D_Law0_9 (i := 20) rfl) rfl ?_
  refine z_aload_n hX (D_Law0_9 (i := 21) rfl) rfl ?_
  refine z_iload_n hX (D_Law0_9 (i := 22) rfl) rfl ?_
  refine z_iconst (v := 1) hX (D_Law0_9 (i := 23) rfl) (by decide) ?_
  refine z_iadd hX (D_Law0_9 (i := 24) rfl) ?_
  rw [show nI i + 1 = nI (i + 1) from nI_add i 1]
  refine z_sld hX hs (D_Law0_9 (i := 25) rfl) rfl (by omega) ?_
  refine z_cV1 hX (D_Law0_9 (i := 26) rfl) mi_Four_great l_Law0_102 rfl rfl (by decide) (by first | exact Nat.one_pos | assumption | omega) (by first | decide | omega) (Nat.le_of_ble_eq_true rfl) (p_great hXX hMM hR _ ?_)
  intro v m1 hM
  refine z_aload_n hX (D_Law0_9 (i := 27) rfl) rfl ?_
  refine z_aload_n hX (D_Law0_9 (i := 28) rfl) rfl ?_
  refine z_iload_n hX (D_Law0_9 (i := 29) rfl) rfl ?_
  refine z_iconst (v := 1) hX (D_Law0_9 (i := 30) rfl) (by decide) ?_
  refine z_iadd hX (D_Law0_9 (i := 31) rfl) ?_
  rw [show nI i + 1 = nI (i + 1) from nI_add i 1]
  refine z_sld hX hs (D_Law0_9 (i := 32) rfl) rfl (by omega) ?_
  refine z_cV1 hX (D_Law0_9 (i := 33) rfl) mi_Model_great l_Law0_105 rfl rfl (by decide) (by first | exact Nat.one_pos | assumption | omega) (by first | decide | omega) (Nat.le_of_ble_eq_true rfl) (hM _ ?_)
  intro m2 hR2
  refine z_icmp_eq (tgt := 1198) hX (D_Law0_9 (i := 34) rfl) (by decide) (fun _ => ?_) (fun hcc => absurd (rfl) hcc)
  exact nx m2 hR2
theorem lc_undo (hX : zG ι M_Law0_law X 100 (pX ++ pM)) (hXX : zHas ι pX) (hMM : zHas ι pM) (hs : zScr ι X L xs) {i : Nat} (hi : i + 6 ≤ L) (hL : L ≤ 384) {mem : zM} (hR : RR mem) (nx : ∀ m, RR m → zW ι M_Law0_law X 1198 [some (zP 99 0), some (zP 0 0), some (zP 40 0), some (zI (nI i))] [] m) : zW ι M_Law0_law X 781 [some (zP 99 0), some (zP 0 0), some (zP 40 0), some (zI (nI i))] [] mem := by
  refine z_aload_n hX (D_Law0_9 (i := 37) rfl) rfl ?_
  refine z_cV0 hX (D_Law0_9 (i := 38) rfl) mi_Four_undo l_Law0_106 rfl rfl (by decide) (by first | exact Nat.one_pos | assumption | omega) (by first | decide | omega) (Nat.le_of_ble_eq_true rfl) (p_undo hXX hMM hR _ ?_)
  intro v m1 hM
  refine z_aload_n hX (D_Law0_9 (i := 39) rfl) rfl ?_
  refine z_cV0 hX (D_Law0_9 (i := 40) rfl) mi_Model_undo l_Law0_109 rfl rfl (by decide) (by first | exact Nat.one_pos | assumption | omega) (by first | decide | omega) (Nat.le_of_ble_eq_true rfl) (hM _ ?_)
  intro m2 hR2
  refine z_icmp_eq (tgt := 1198) hX (D_Law0_9 (i := 41) rfl) (by decide) (fun _ => ?_) (fun hcc => absurd (rfl) hcc)
  exact nx m2 hR2
theorem lc_redo (hX : zG ι M_Law0_law X 100 (pX ++ pM)) (hXX : zHas ι pX) (hMM : zHas ι pM) (hs : zScr ι X L xs) {i : Nat} (hi : i + 6 ≤ L) (hL : L ≤ 384) {mem : zM} (hR : RR mem) (nx : ∀ m, RR m → zW ι M_Law0_law X 1198 [some (zP 99 0), some (zP 0 0), some (zP 40 0), some (zI (nI i))] [] m) : zW ι M_Law0_law X 794 [some (zP 99 0), some (zP 0 0), some (zP 40 0), some (zI (nI i))] [] mem := by
  refine z_aload_n hX (D_Law0_9 (i := 44) rfl) rfl ?_
  refine z_cV0 hX (D_Law0_9 (i := 45) rfl) mi_Four_redo l_Law0_110 rfl rfl (by decide) (by first | exact Nat.one_pos | assumption | omega) (by first | decide | omega) (Nat.le_of_ble_eq_true rfl) (p_redo hXX hMM hR _ ?_)
  intro v m1 hM
  refine z_aload_n hX (D_Law0_9 (i := 46) rfl) rfl ?_
  refine z_cV0 hX (D_Law0_9 (i := 47) rfl) mi_Model_redo l_Law0_113 rfl rfl (by decide) (by first | exact Nat.one_pos | assumption | omega) (by first | decide | omega) (Nat.le_of_ble_eq_true rfl) (hM _ ?_)
  intro m2 hR2
  refine z_icmp_eq (tgt := 1198) hX (D_Law0_9 (i := 48) rfl) (by decide) (fun _ => ?_) (fun hcc => absurd (rfl) hcc)
  exact nx m2 hR2
theorem lc_body (hX : zG ι M_Law0_law X 100 (pX ++ pM)) (hXX : zHas ι pX) (hMM : zHas ι pM) (hs : zScr ι X L xs) {i : Nat} (hi : i + 6 ≤ L) (hL : L ≤ 384) {mem : zM} (hR : RR mem) (nx : ∀ m, RR m → zW ι M_Law0_law X 1198 [some (zP 99 0), some (zP 0 0), some (zP 40 0), some (zI (nI i))] [] m) : zW ι M_Law0_law X 807 [some (zP 99 0), some (zP 0 0), some (zP 40 0), some (zI (nI i))] [] mem := by
  refine z_aload_n hX (D_Law0_10 (i := 1) rfl) rfl ?_
  refine z_aload_n hX (D_Law0_10 (i := 2) rfl) rfl ?_
  refine z_iload_n hX (D_Law0_10 (i := 3) rfl) rfl ?_
  refine z_iconst (v := 1) hX (D_Law0_10 (i := 4) rfl) (by decide) ?_
  refine z_iadd hX (D_Law0_10 (i := 5) rfl) ?_
  rw [show nI i + 1 = nI (i + 1) from nI_add i 1]
  refine z_sld hX hs (D_Law0_10 (i := 6) rfl) rfl (by omega) ?_
  refine z_cV1 hX (D_Law0_10 (i := 7) rfl) mi_Four_body l_Law0_114 rfl rfl (by decide) (by first | exact Nat.one_pos | assumption | omega) (by first | decide | omega) (Nat.le_of_ble_eq_true rfl) (p_body hXX hMM hR _ ?_)
  intro v m1 hM
  refine z_aload_n hX (D_Law0_10 (i := 8) rfl) rfl ?_
  refine z_aload_n hX (D_Law0_10 (i := 9) rfl) rfl ?_
  refine z_iload_n hX (D_Law0_10 (i := 10) rfl) rfl ?_
  refine z_iconst (v := 1) hX (D_Law0_10 (i := 11) rfl) (by decide) ?_
  refine z_iadd hX (D_Law0_10 (i := 12) rfl) ?_
  rw [show nI i + 1 = nI (i + 1) from nI_add i 1]
  refine z_sld hX hs (D_Law0_10 (i := 13) rfl) rfl (by omega) ?_
  refine z_cV1 hX (D_Law0_10 (i := 14) rfl) mi_Model_body l_Law0_117 rfl rfl (by decide) (by first | exact Nat.one_pos | assumption | omega) (by first | decide | omega) (Nat.le_of_ble_eq_true rfl) (hM _ ?_)
  intro m2 hR2
  refine z_icmp_eq (tgt := 1198) hX (D_Law0_10 (i := 15) rfl) (by decide) (fun _ => ?_) (fun hcc => absurd (rfl) hcc)
  exact nx m2 hR2
theorem lc_act (hX : zG ι M_Law0_law X 100 (pX ++ pM)) (hXX : zHas ι pX) (hMM : zHas ι pM) (hs : zScr ι X L xs) {i : Nat} (hi : i + 6 ≤ L) (hL : L ≤ 384) {mem : zM} (hR : RR mem) (nx : ∀ m, RR m → zW ι M_Law0_law X 1198 [some (zP 99 0), some (zP 0 0), some (zP 40 0), some (zI (nI i))] [] m) : zW ι M_Law0_law X 830 [some (zP 99 0), some (zP 0 0), some (zP 40 0), some (zI (nI i))] [] mem := by
  refine z_aload_n hX (D_Law0_10 (i := 18) rfl) rfl ?_
  refine z_aload_n hX (D_Law0_10 (i := 19) rfl) rfl ?_
  refine z_iload_n hX (D_Law0_10 (i := 20) rfl) rfl ?_
  refine z_iconst (v := 1) hX (D_Law0_10 (i := 21) rfl) (by decide) ?_
  refine z_iadd hX (D_Law0_10 (i := 22) rfl) ?_
  rw [show nI i + 1 = nI (i + 1) from nI_add i 1]
  refine z_sld hX hs (D_Law0_10 (i := 23) rfl) rfl (by omega) ?_
  refine z_aload_n hX (D_Law0_10 (i := 24) rfl) rfl ?_
  refine z_iload_n hX (D_Law0_10 (i := 25) rfl) rfl ?_
  refine z_iconst (v := 2) hX (D_Law0_10 (i := 26) rfl) (by decide) ?_
  refine z_iadd hX (D_Law0_10 (i := 27) rfl) ?_
  rw [show nI i + 2 = nI (i + 2) from nI_add i 2]
  refine z_sld hX hs (D_Law0_10 (i := 28) rfl) rfl (by omega) ?_
  refine z_aload_n hX (D_Law0_10 (i := 29) rfl) rfl ?_
  refine z_iload_n hX (D_Law0_10 (i := 30) rfl) rfl ?_
  refine z_iconst (v := 3) hX (D_Law0_10 (i := 31) rfl) (by decide) ?_
  refine z_iadd hX (D_Law0_10 (i := 32) rfl) ?_
  rw [show nI i + 3 = nI (i + 3) from nI_add i 3]
  refine z_sld hX hs (D_Law0_10 (i := 33) rfl) rfl (by omega) ?_
  refine z_cV3 hX (D_Law0_10 (i := 34) rfl) mi_Four_act l_Law0_118 rfl rfl (by decide) (by first | exact Nat.one_pos | assumption | omega) (by first | decide | omega) (Nat.le_of_ble_eq_true rfl) (p_act hXX hMM hR _ ?_)
  intro v m1 hM
  refine z_aload_n hX (D_Law0_10 (i := 35) rfl) rfl ?_
  refine z_aload_n hX (D_Law0_10 (i := 36) rfl) rfl ?_
  refine z_iload_n hX (D_Law0_10 (i := 37) rfl) rfl ?_
  refine z_iconst (v := 1) hX (D_Law0_10 (i := 38) rfl) (by decide) ?_
  refine z_iadd hX (D_Law0_10 (i := 39) rfl) ?_
  rw [show nI i + 1 = nI (i + 1) from nI_add i 1]
  refine z_sld hX hs (D_Law0_10 (i := 40) rfl) rfl (by omega) ?_
  refine z_aload_n hX (D_Law0_10 (i := 41) rfl) rfl ?_
  refine z_iload_n hX (D_Law0_10 (i := 42) rfl) rfl ?_
  refine z_iconst (v := 2) hX (D_Law0_10 (i := 43) rfl) (by decide) ?_
  refine z_iadd hX (D_Law0_10 (i := 44) rfl) ?_
  rw [show nI i + 2 = nI (i + 2) from nI_add i 2]
  refine z_sld hX hs (D_Law0_10 (i := 45) rfl) rfl (by omega) ?_
  refine z_aload_n hX (D_Law0_10 (i := 46) rfl) rfl ?_
  refine z_iload_n hX (D_Law0_10 (i := 47) rfl) rfl ?_
  refine z_iconst (v := 3) hX (D_Law0_10 (i := 48) rfl) (by decide) ?_
  refine z_iadd hX (D_Law0_10 (i := 49) rfl) ?_
  rw [show nI i + 3 = nI (i + 3) from nI_add i 3]
  refine z_sld hX hs (D_Law0_11 (i := 0) rfl) rfl (by omega) ?_
  refine z_cV3 hX (D_Law0_11 (i := 1) rfl) mi_Model_act l_Law0_121 rfl rfl (by decide) (by first | exact Nat.one_pos | assumption | omega) (by first | decide | omega) (Nat.le_of_ble_eq_true rfl) (hM _ ?_)
  intro m2 hR2
  refine z_icmp_eq (tgt := 1198) hX (D_Law0_11 (i := 2) rfl) (by decide) (fun _ => ?_) (fun hcc => absurd (rfl) hcc)
  exact nx m2 hR2
theorem lc_trace (hX : zG ι M_Law0_law X 100 (pX ++ pM)) (hXX : zHas ι pX) (hMM : zHas ι pM) (hs : zScr ι X L xs) {i : Nat} (hi : i + 6 ≤ L) (hL : L ≤ 384) {mem : zM} (hR : RR mem) (nx : ∀ m, RR m → zW ι M_Law0_law X 1198 [some (zP 99 0), some (zP 0 0), some (zP 40 0), some (zI (nI i))] [] m) : zW ι M_Law0_law X 873 [some (zP 99 0), some (zP 0 0), some (zP 40 0), some (zI (nI i))] [] mem := by
  refine z_aload_n hX (D_Law0_11 (i := 5) rfl) rfl ?_
  refine z_aload_n hX (D_Law0_11 (i := 6) rfl) rfl ?_
  refine z_iload_n hX (D_Law0_11 (i := 7) rfl) rfl ?_
  refine z_iconst (v := 1) hX (D_Law0_11 (i := 8) rfl) (by decide) ?_
  refine z_iadd hX (D_Law0_11 (i := 9) rfl) ?_
  rw [show nI i + 1 = nI (i + 1) from nI_add i 1]
  refine z_sld hX hs (D_Law0_11 (i := 10) rfl) rfl (by omega) ?_
  refine z_cV1 hX (D_Law0_11 (i := 11) rfl) mi_Four_trace l_Law0_122 rfl rfl (by decide) (by first | exact Nat.one_pos | assumption | omega) (by first | decide | omega) (Nat.le_of_ble_eq_true rfl) (p_trace hXX hMM hR _ ?_)
  intro v m1 hM
  refine z_aload_n hX (D_Law0_11 (i := 12) rfl) rfl ?_
  refine z_aload_n hX (D_Law0_11 (i := 13) rfl) rfl ?_
  refine z_iload_n hX (D_Law0_11 (i := 14) rfl) rfl ?_
  refine z_iconst (v := 1) hX (D_Law0_11 (i := 15) rfl) (by decide) ?_
  refine z_iadd hX (D_Law0_11 (i := 16) rfl) ?_
  rw [show nI i + 1 = nI (i + 1) from nI_add i 1]
  refine z_sld hX hs (D_Law0_11 (i := 17) rfl) rfl (by omega) ?_
  refine z_cV1 hX (D_Law0_11 (i := 18) rfl) mi_Model_trace l_Law0_125 rfl rfl (by decide) (by first | exact Nat.one_pos | assumption | omega) (by first | decide | omega) (Nat.le_of_ble_eq_true rfl) (hM _ ?_)
  intro m2 hR2
  refine z_icmp_eq (tgt := 1198) hX (D_Law0_11 (i := 19) rfl) (by decide) (fun _ => ?_) (fun hcc => absurd (rfl) hcc)
  exact nx m2 hR2
theorem lc_keep (hX : zG ι M_Law0_law X 100 (pX ++ pM)) (hXX : zHas ι pX) (hMM : zHas ι pM) (hs : zScr ι X L xs) {i : Nat} (hi : i + 6 ≤ L) (hL : L ≤ 384) {mem : zM} (hR : RR mem) (nx : ∀ m, RR m → zW ι M_Law0_law X 1198 [some (zP 99 0), some (zP 0 0), some (zP 40 0), some (zI (nI i))] [] m) : zW ι M_Law0_law X 896 [some (zP 99 0), some (zP 0 0), some (zP 40 0), some (zI (nI i))] [] mem := by
  refine z_aload_n hX (D_Law0_11 (i := 22) rfl) rfl ?_
  refine z_aload_n hX (D_Law0_11 (i := 23) rfl) rfl ?_
  refine z_iload_n hX (D_Law0_11 (i := 24) rfl) rfl ?_
  refine z_iconst (v := 1) hX (D_Law0_11 (i := 25) rfl) (by decide) ?_
  refine z_iadd hX (D_Law0_11 (i := 26) rfl) ?_
  rw [show nI i + 1 = nI (i + 1) from nI_add i 1]
  refine z_sld hX hs (D_Law0_11 (i := 27) rfl) rfl (by omega) ?_
  refine z_aload_n hX (D_Law0_11 (i := 28) rfl) rfl ?_
  refine z_iload_n hX (D_Law0_11 (i := 29) rfl) rfl ?_
  refine z_iconst (v := 2) hX (D_Law0_11 (i := 30) rfl) (by decide) ?_
  refine z_iadd hX (D_Law0_11 (i := 31) rfl) ?_
  rw [show nI i + 2 = nI (i + 2) from nI_add i 2]
  refine z_sld hX hs (D_Law0_11 (i := 32) rfl) rfl (by omega) ?_
  refine z_cV2 hX (D_Law0_11 (i := 33) rfl) mi_Four_keep l_Law0_126 rfl rfl (by decide) (by first | exact Nat.one_pos | assumption | omega) (by first | decide | omega) (Nat.le_of_ble_eq_true rfl) (p_keep hXX hMM hR _ ?_)
  intro v m1 hM
  refine z_aload_n hX (D_Law0_11 (i := 34) rfl) rfl ?_
  refine z_aload_n hX (D_Law0_11 (i := 35) rfl) rfl ?_
  refine z_iload_n hX (D_Law0_11 (i := 36) rfl) rfl ?_
  refine z_iconst (v := 1) hX (D_Law0_11 (i := 37) rfl) (by decide) ?_
  refine z_iadd hX (D_Law0_11 (i := 38) rfl) ?_
  rw [show nI i + 1 = nI (i + 1) from nI_add i 1]
  refine z_sld hX hs (D_Law0_11 (i := 39) rfl) rfl (by omega) ?_
  refine z_aload_n hX (D_Law0_11 (i := 40) rfl) rfl ?_
  refine z_iload_n hX (D_Law0_11 (i := 41) rfl) rfl ?_
  refine z_iconst (v := 2) hX (D_Law0_11 (i := 42) rfl) (by decide) ?_
  refine z_iadd hX (D_Law0_11 (i := 43) rfl) ?_
  rw [show nI i + 2 = nI (i + 2) from nI_add i 2]
  refine z_sld hX hs (D_Law0_11 (i := 44) rfl) rfl (by omega) ?_
  refine z_cV2 hX (D_Law0_11 (i := 45) rfl) mi_Model_keep l_Law0_129 rfl rfl (by decide) (by first | exact Nat.one_pos | assumption | omega) (by first | decide | omega) (Nat.le_of_ble_eq_true rfl) (hM _ ?_)
  intro m2 hR2
  refine z_icmp_eq (tgt := 1198) hX (D_Law0_11 (i := 46) rfl) (by decide) (fun _ => ?_) (fun hcc => absurd (rfl) hcc)
  exact nx m2 hR2
theorem lc_row (hX : zG ι M_Law0_law X 100 (pX ++ pM)) (hXX : zHas ι pX) (hMM : zHas ι pM) (hs : zScr ι X L xs) {i : Nat} (hi : i + 6 ≤ L) (hL : L ≤ 384) {mem : zM} (hR : RR mem) (nx : ∀ m, RR m → zW ι M_Law0_law X 1198 [some (zP 99 0), some (zP 0 0), some (zP 40 0), some (zI (nI i))] [] m) : zW ι M_Law0_law X 929 [some (zP 99 0), some (zP 0 0), some (zP 40 0), some (zI (nI i))] [] mem := by
  refine z_aload_n hX (D_Law0_11 (i := 49) rfl) rfl ?_
  refine z_aload_n hX (D_Law0_12 (i := 0) rfl) rfl ?_
  refine z_iload_n hX (D_Law0_12 (i := 1) rfl) rfl ?_
  refine z_iconst (v := 1) hX (D_Law0_12 (i := 2) rfl) (by decide) ?_
  refine z_iadd hX (D_Law0_12 (i := 3) rfl) ?_
  rw [show nI i + 1 = nI (i + 1) from nI_add i 1]
  refine z_sld hX hs (D_Law0_12 (i := 4) rfl) rfl (by omega) ?_
  refine z_aload_n hX (D_Law0_12 (i := 5) rfl) rfl ?_
  refine z_iload_n hX (D_Law0_12 (i := 6) rfl) rfl ?_
  refine z_iconst (v := 2) hX (D_Law0_12 (i := 7) rfl) (by decide) ?_
  refine z_iadd hX (D_Law0_12 (i := 8) rfl) ?_
  rw [show nI i + 2 = nI (i + 2) from nI_add i 2]
  refine z_sld hX hs (D_Law0_12 (i := 9) rfl) rfl (by omega) ?_
  refine z_aload_n hX (D_Law0_12 (i := 10) rfl) rfl ?_
  refine z_iload_n hX (D_Law0_12 (i := 11) rfl) rfl ?_
  refine z_iconst (v := 3) hX (D_Law0_12 (i := 12) rfl) (by decide) ?_
  refine z_iadd hX (D_Law0_12 (i := 13) rfl) ?_
  rw [show nI i + 3 = nI (i + 3) from nI_add i 3]
  refine z_sld hX hs (D_Law0_12 (i := 14) rfl) rfl (by omega) ?_
  refine z_cV3 hX (D_Law0_12 (i := 15) rfl) mi_Four_row l_Law0_130 rfl rfl (by decide) (by first | exact Nat.one_pos | assumption | omega) (by first | decide | omega) (Nat.le_of_ble_eq_true rfl) (p_row hXX hMM hR _ ?_)
  intro v m1 hM
  refine z_aload_n hX (D_Law0_12 (i := 16) rfl) rfl ?_
  refine z_aload_n hX (D_Law0_12 (i := 17) rfl) rfl ?_
  refine z_iload_n hX (D_Law0_12 (i := 18) rfl) rfl ?_
  refine z_iconst (v := 1) hX (D_Law0_12 (i := 19) rfl) (by decide) ?_
  refine z_iadd hX (D_Law0_12 (i := 20) rfl) ?_
  rw [show nI i + 1 = nI (i + 1) from nI_add i 1]
  refine z_sld hX hs (D_Law0_12 (i := 21) rfl) rfl (by omega) ?_
  refine z_aload_n hX (D_Law0_12 (i := 22) rfl) rfl ?_
  refine z_iload_n hX (D_Law0_12 (i := 23) rfl) rfl ?_
  refine z_iconst (v := 2) hX (D_Law0_12 (i := 24) rfl) (by decide) ?_
  refine z_iadd hX (D_Law0_12 (i := 25) rfl) ?_
  rw [show nI i + 2 = nI (i + 2) from nI_add i 2]
  refine z_sld hX hs (D_Law0_12 (i := 26) rfl) rfl (by omega) ?_
  refine z_aload_n hX (D_Law0_12 (i := 27) rfl) rfl ?_
  refine z_iload_n hX (D_Law0_12 (i := 28) rfl) rfl ?_
  refine z_iconst (v := 3) hX (D_Law0_12 (i := 29) rfl) (by decide) ?_
  refine z_iadd hX (D_Law0_12 (i := 30) rfl) ?_
  rw [show nI i + 3 = nI (i + 3) from nI_add i 3]
  refine z_sld hX hs (D_Law0_12 (i := 31) rfl) rfl (by omega) ?_
  refine z_cV3 hX (D_Law0_12 (i := 32) rfl) mi_Model_row l_Law0_133 rfl rfl (by decide) (by first | exact Nat.one_pos | assumption | omega) (by first | decide | omega) (Nat.le_of_ble_eq_true rfl) (hM _ ?_)
  intro m2 hR2
  refine z_icmp_eq (tgt := 1198) hX (D_Law0_12 (i := 33) rfl) (by decide) (fun _ => ?_) (fun hcc => absurd (rfl) hcc)
  exact nx m2 hR2
theorem lc_put (hX : zG ι M_Law0_law X 100 (pX ++ pM)) (hXX : zHas ι pX) (hMM : zHas ι pM) (hs : zScr ι X L xs) {i : Nat} (hi : i + 6 ≤ L) (hL : L ≤ 384) {mem : zM} (hR : RR mem) (nx : ∀ m, RR m → zW ι M_Law0_law X 1198 [some (zP 99 0), some (zP 0 0), some (zP 40 0), some (zI (nI i))] [] m) : zW ι M_Law0_law X 972 [some (zP 99 0), some (zP 0 0), some (zP 40 0), some (zI (nI i))] [] mem := by
  refine z_aload_n hX (D_Law0_12 (i := 36) rfl) rfl ?_
  refine z_aload_n hX (D_Law0_12 (i := 37) rfl) rfl ?_
  refine z_iload_n hX (D_Law0_12 (i := 38) rfl) rfl ?_
  refine z_iconst (v := 1) hX (D_Law0_12 (i := 39) rfl) (by decide) ?_
  refine z_iadd hX (D_Law0_12 (i := 40) rfl) ?_
  rw [show nI i + 1 = nI (i + 1) from nI_add i 1]
  refine z_sld hX hs (D_Law0_12 (i := 41) rfl) rfl (by omega) ?_
  refine z_aload_n hX (D_Law0_12 (i := 42) rfl) rfl ?_
  refine z_iload_n hX (D_Law0_12 (i := 43) rfl) rfl ?_
  refine z_iconst (v := 2) hX (D_Law0_12 (i := 44) rfl) (by decide) ?_
  refine z_iadd hX (D_Law0_12 (i := 45) rfl) ?_
  rw [show nI i + 2 = nI (i + 2) from nI_add i 2]
  refine z_sld hX hs (D_Law0_12 (i := 46) rfl) rfl (by omega) ?_
  refine z_aload_n hX (D_Law0_12 (i := 47) rfl) rfl ?_
  refine z_iload_n hX (D_Law0_12 (i := 48) rfl) rfl ?_
  refine z_iconst (v := 3) hX (D_Law0_12 (i := 49) rfl) (by decide) ?_
  refine z_iadd hX (D_Law0_13 (i := 0) rfl) ?_
  rw [show nI i + 3 = nI (i + 3) from nI_add i 3]
  refine z_sld hX hs (D_Law0_13 (i := 1) rfl) rfl (by omega) ?_
  refine z_i2l hX (D_Law0_13 (i := 2) rfl) ?_
  refine z_bipush (v := 32) hX (D_Law0_13 (i := 3) rfl) (by decide) ?_
  refine z_lshl hX (D_Law0_13 (i := 4) rfl) ?_
  refine z_aload_n hX (D_Law0_13 (i := 5) rfl) rfl ?_
  refine z_iload_n hX (D_Law0_13 (i := 6) rfl) rfl ?_
  refine z_iconst (v := 4) hX (D_Law0_13 (i := 7) rfl) (by decide) ?_
  refine z_iadd hX (D_Law0_13 (i := 8) rfl) ?_
  rw [show nI i + 4 = nI (i + 4) from nI_add i 4]
  refine z_sld hX hs (D_Law0_13 (i := 9) rfl) rfl (by omega) ?_
  refine z_i2l hX (D_Law0_13 (i := 10) rfl) ?_
  refine z_ldc2 (v := 4294967295) hX (D_Law0_13 (i := 11) rfl) k_Law0_134 ?_
  refine z_land hX (D_Law0_13 (i := 12) rfl) ?_
  refine z_lor hX (D_Law0_13 (i := 13) rfl) ?_
  refine z_cV3 hX (D_Law0_13 (i := 14) rfl) mi_Four_put l_Law0_136 rfl rfl (by decide) (by first | exact Nat.one_pos | assumption | omega) (by first | decide | omega) (Nat.le_of_ble_eq_true rfl) (p_put hXX hMM hR _ ?_)
  intro v m1 hM
  refine z_aload_n hX (D_Law0_13 (i := 15) rfl) rfl ?_
  refine z_aload_n hX (D_Law0_13 (i := 16) rfl) rfl ?_
  refine z_iload_n hX (D_Law0_13 (i := 17) rfl) rfl ?_
  refine z_iconst (v := 1) hX (D_Law0_13 (i := 18) rfl) (by decide) ?_
  refine z_iadd hX (D_Law0_13 (i := 19) rfl) ?_
  rw [show nI i + 1 = nI (i + 1) from nI_add i 1]
  refine z_sld hX hs (D_Law0_13 (i := 20) rfl) rfl (by omega) ?_
  refine z_aload_n hX (D_Law0_13 (i := 21) rfl) rfl ?_
  refine z_iload_n hX (D_Law0_13 (i := 22) rfl) rfl ?_
  refine z_iconst (v := 2) hX (D_Law0_13 (i := 23) rfl) (by decide) ?_
  refine z_iadd hX (D_Law0_13 (i := 24) rfl) ?_
  rw [show nI i + 2 = nI (i + 2) from nI_add i 2]
  refine z_sld hX hs (D_Law0_13 (i := 25) rfl) rfl (by omega) ?_
  refine z_aload_n hX (D_Law0_13 (i := 26) rfl) rfl ?_
  refine z_iload_n hX (D_Law0_13 (i := 27) rfl) rfl ?_
  refine z_iconst (v := 3) hX (D_Law0_13 (i := 28) rfl) (by decide) ?_
  refine z_iadd hX (D_Law0_13 (i := 29) rfl) ?_
  rw [show nI i + 3 = nI (i + 3) from nI_add i 3]
  refine z_sld hX hs (D_Law0_13 (i := 30) rfl) rfl (by omega) ?_
  refine z_i2l hX (D_Law0_13 (i := 31) rfl) ?_
  refine z_bipush (v := 32) hX (D_Law0_13 (i := 32) rfl) (by decide) ?_
  refine z_lshl hX (D_Law0_13 (i := 33) rfl) ?_
  refine z_aload_n hX (D_Law0_13 (i := 34) rfl) rfl ?_
  refine z_iload_n hX (D_Law0_13 (i := 35) rfl) rfl ?_
  refine z_iconst (v := 4) hX (D_Law0_13 (i := 36) rfl) (by decide) ?_
  refine z_iadd hX (D_Law0_13 (i := 37) rfl) ?_
  rw [show nI i + 4 = nI (i + 4) from nI_add i 4]
  refine z_sld hX hs (D_Law0_13 (i := 38) rfl) rfl (by omega) ?_
  refine z_i2l hX (D_Law0_13 (i := 39) rfl) ?_
  refine z_ldc2 (v := 4294967295) hX (D_Law0_13 (i := 40) rfl) k_Law0_134 ?_
  refine z_land hX (D_Law0_13 (i := 41) rfl) ?_
  refine z_lor hX (D_Law0_13 (i := 42) rfl) ?_
  refine z_cV3 hX (D_Law0_13 (i := 43) rfl) mi_Model_put l_Law0_140 rfl rfl (by decide) (by first | exact Nat.one_pos | assumption | omega) (by first | decide | omega) (Nat.le_of_ble_eq_true rfl) (hM _ ?_)
  intro m2 hR2
  refine z_icmp_eq (tgt := 1198) hX (D_Law0_13 (i := 44) rfl) (by decide) (fun _ => ?_) (fun hcc => absurd (rfl) hcc)
  exact nx m2 hR2
theorem lc_element (hX : zG ι M_Law0_law X 100 (pX ++ pM)) (hXX : zHas ι pX) (hMM : zHas ι pM) (hs : zScr ι X L xs) {i : Nat} (hi : i + 6 ≤ L) (hL : L ≤ 384) {mem : zM} (hR : RR mem) (nx : ∀ m, RR m → zW ι M_Law0_law X 1198 [some (zP 99 0), some (zP 0 0), some (zP 40 0), some (zI (nI i))] [] m) : zW ι M_Law0_law X 1045 [some (zP 99 0), some (zP 0 0), some (zP 40 0), some (zI (nI i))] [] mem := by
  refine z_aload_n hX (D_Law0_13 (i := 47) rfl) rfl ?_
  refine z_aload_n hX (D_Law0_13 (i := 48) rfl) rfl ?_
  refine z_iload_n hX (D_Law0_13 (i := 49) rfl) rfl ?_
  refine z_iconst (v := 1) hX (D_Law0_14 (i := 0) rfl) (by decide) ?_
  refine z_iadd hX (D_Law0_14 (i := 1) rfl) ?_
  rw [show nI i + 1 = nI (i + 1) from nI_add i 1]
  refine z_sld hX hs (D_Law0_14 (i := 2) rfl) rfl (by omega) ?_
  refine z_aload_n hX (D_Law0_14 (i := 3) rfl) rfl ?_
  refine z_iload_n hX (D_Law0_14 (i := 4) rfl) rfl ?_
  refine z_iconst (v := 2) hX (D_Law0_14 (i := 5) rfl) (by decide) ?_
  refine z_iadd hX (D_Law0_14 (i := 6) rfl) ?_
  rw [show nI i + 2 = nI (i + 2) from nI_add i 2]
  refine z_sld hX hs (D_Law0_14 (i := 7) rfl) rfl (by omega) ?_
  refine z_cV2 hX (D_Law0_14 (i := 8) rfl) mi_Four_element l_Law0_141 rfl rfl (by decide) (by first | exact Nat.one_pos | assumption | omega) (by first | decide | omega) (Nat.le_of_ble_eq_true rfl) (p_element hXX hMM hR _ ?_)
  intro v m1 hM
  refine z_aload_n hX (D_Law0_14 (i := 9) rfl) rfl ?_
  refine z_aload_n hX (D_Law0_14 (i := 10) rfl) rfl ?_
  refine z_iload_n hX (D_Law0_14 (i := 11) rfl) rfl ?_
  refine z_iconst (v := 1) hX (D_Law0_14 (i := 12) rfl) (by decide) ?_
  refine z_iadd hX (D_Law0_14 (i := 13) rfl) ?_
  rw [show nI i + 1 = nI (i + 1) from nI_add i 1]
  refine z_sld hX hs (D_Law0_14 (i := 14) rfl) rfl (by omega) ?_
  refine z_aload_n hX (D_Law0_14 (i := 15) rfl) rfl ?_
  refine z_iload_n hX (D_Law0_14 (i := 16) rfl) rfl ?_
  refine z_iconst (v := 2) hX (D_Law0_14 (i := 17) rfl) (by decide) ?_
  refine z_iadd hX (D_Law0_14 (i := 18) rfl) ?_
  rw [show nI i + 2 = nI (i + 2) from nI_add i 2]
  refine z_sld hX hs (D_Law0_14 (i := 19) rfl) rfl (by omega) ?_
  refine z_cV2 hX (D_Law0_14 (i := 20) rfl) mi_Model_element l_Law0_144 rfl rfl (by decide) (by first | exact Nat.one_pos | assumption | omega) (by first | decide | omega) (Nat.le_of_ble_eq_true rfl) (hM _ ?_)
  intro m2 hR2
  refine z_lcmp hX (D_Law0_14 (i := 21) rfl) ?_
  rw [lg_self]
  refine z_if_eq (tgt := 1198) hX (D_Law0_14 (i := 22) rfl) (by decide) (fun _ => ?_) (fun hcc => absurd (rfl) hcc)
  exact nx m2 hR2
theorem lc_shift (hX : zG ι M_Law0_law X 100 (pX ++ pM)) (hXX : zHas ι pX) (hMM : zHas ι pM) (hs : zScr ι X L xs) {i : Nat} (hi : i + 6 ≤ L) (hL : L ≤ 384) {mem : zM} (hR : RR mem) (nx : ∀ m, RR m → zW ι M_Law0_law X 1198 [some (zP 99 0), some (zP 0 0), some (zP 40 0), some (zI (nI i))] [] m) : zW ι M_Law0_law X 1079 [some (zP 99 0), some (zP 0 0), some (zP 40 0), some (zI (nI i))] [] mem := by
  refine z_aload_n hX (D_Law0_14 (i := 25) rfl) rfl ?_
  refine z_aload_n hX (D_Law0_14 (i := 26) rfl) rfl ?_
  refine z_iload_n hX (D_Law0_14 (i := 27) rfl) rfl ?_
  refine z_iconst (v := 1) hX (D_Law0_14 (i := 28) rfl) (by decide) ?_
  refine z_iadd hX (D_Law0_14 (i := 29) rfl) ?_
  rw [show nI i + 1 = nI (i + 1) from nI_add i 1]
  refine z_sld hX hs (D_Law0_14 (i := 30) rfl) rfl (by omega) ?_
  refine z_aload_n hX (D_Law0_14 (i := 31) rfl) rfl ?_
  refine z_iload_n hX (D_Law0_14 (i := 32) rfl) rfl ?_
  refine z_iconst (v := 2) hX (D_Law0_14 (i := 33) rfl) (by decide) ?_
  refine z_iadd hX (D_Law0_14 (i := 34) rfl) ?_
  rw [show nI i + 2 = nI (i + 2) from nI_add i 2]
  refine z_sld hX hs (D_Law0_14 (i := 35) rfl) rfl (by omega) ?_
  refine z_aload_n hX (D_Law0_14 (i := 36) rfl) rfl ?_
  refine z_iload_n hX (D_Law0_14 (i := 37) rfl) rfl ?_
  refine z_iconst (v := 3) hX (D_Law0_14 (i := 38) rfl) (by decide) ?_
  refine z_iadd hX (D_Law0_14 (i := 39) rfl) ?_
  rw [show nI i + 3 = nI (i + 3) from nI_add i 3]
  refine z_sld hX hs (D_Law0_14 (i := 40) rfl) rfl (by omega) ?_
  refine z_aload_n hX (D_Law0_14 (i := 41) rfl) rfl ?_
  refine z_iload_n hX (D_Law0_14 (i := 42) rfl) rfl ?_
  refine z_iconst (v := 4) hX (D_Law0_14 (i := 43) rfl) (by decide) ?_
  refine z_iadd hX (D_Law0_14 (i := 44) rfl) ?_
  rw [show nI i + 4 = nI (i + 4) from nI_add i 4]
  refine z_sld hX hs (D_Law0_14 (i := 45) rfl) rfl (by omega) ?_
  refine z_aload_n hX (D_Law0_14 (i := 46) rfl) rfl ?_
  refine z_iload_n hX (D_Law0_14 (i := 47) rfl) rfl ?_
  refine z_iconst (v := 5) hX (D_Law0_14 (i := 48) rfl) (by decide) ?_
  refine z_iadd hX (D_Law0_14 (i := 49) rfl) ?_
  rw [show nI i + 5 = nI (i + 5) from nI_add i 5]
  refine z_sld hX hs (D_Law0_15 (i := 0) rfl) rfl (by omega) ?_
  refine z_cV5 hX (D_Law0_15 (i := 1) rfl) mi_Four_shift l_Law0_145 rfl rfl (by decide) (by first | exact Nat.one_pos | assumption | omega) (by first | decide | omega) (Nat.le_of_ble_eq_true rfl) (p_shift hXX hMM hR _ ?_)
  intro v m1 hM
  refine z_aload_n hX (D_Law0_15 (i := 2) rfl) rfl ?_
  refine z_aload_n hX (D_Law0_15 (i := 3) rfl) rfl ?_
  refine z_iload_n hX (D_Law0_15 (i := 4) rfl) rfl ?_
  refine z_iconst (v := 1) hX (D_Law0_15 (i := 5) rfl) (by decide) ?_
  refine z_iadd hX (D_Law0_15 (i := 6) rfl) ?_
  rw [show nI i + 1 = nI (i + 1) from nI_add i 1]
  refine z_sld hX hs (D_Law0_15 (i := 7) rfl) rfl (by omega) ?_
  refine z_aload_n hX (D_Law0_15 (i := 8) rfl) rfl ?_
  refine z_iload_n hX (D_Law0_15 (i := 9) rfl) rfl ?_
  refine z_iconst (v := 2) hX (D_Law0_15 (i := 10) rfl) (by decide) ?_
  refine z_iadd hX (D_Law0_15 (i := 11) rfl) ?_
  rw [show nI i + 2 = nI (i + 2) from nI_add i 2]
  refine z_sld hX hs (D_Law0_15 (i := 12) rfl) rfl (by omega) ?_
  refine z_aload_n hX (D_Law0_15 (i := 13) rfl) rfl ?_
  refine z_iload_n hX (D_Law0_15 (i := 14) rfl) rfl ?_
  refine z_iconst (v := 3) hX (D_Law0_15 (i := 15) rfl) (by decide) ?_
  refine z_iadd hX (D_Law0_15 (i := 16) rfl) ?_
  rw [show nI i + 3 = nI (i + 3) from nI_add i 3]
  refine z_sld hX hs (D_Law0_15 (i := 17) rfl) rfl (by omega) ?_
  refine z_aload_n hX (D_Law0_15 (i := 18) rfl) rfl ?_
  refine z_iload_n hX (D_Law0_15 (i := 19) rfl) rfl ?_
  refine z_iconst (v := 4) hX (D_Law0_15 (i := 20) rfl) (by decide) ?_
  refine z_iadd hX (D_Law0_15 (i := 21) rfl) ?_
  rw [show nI i + 4 = nI (i + 4) from nI_add i 4]
  refine z_sld hX hs (D_Law0_15 (i := 22) rfl) rfl (by omega) ?_
  refine z_aload_n hX (D_Law0_15 (i := 23) rfl) rfl ?_
  refine z_iload_n hX (D_Law0_15 (i := 24) rfl) rfl ?_
  refine z_iconst (v := 5) hX (D_Law0_15 (i := 25) rfl) (by decide) ?_
  refine z_iadd hX (D_Law0_15 (i := 26) rfl) ?_
  rw [show nI i + 5 = nI (i + 5) from nI_add i 5]
  refine z_sld hX hs (D_Law0_15 (i := 27) rfl) rfl (by omega) ?_
  refine z_cV5 hX (D_Law0_15 (i := 28) rfl) mi_Model_shift l_Law0_149 rfl rfl (by decide) (by first | exact Nat.one_pos | assumption | omega) (by first | decide | omega) (Nat.le_of_ble_eq_true rfl) (hM _ ?_)
  intro m2 hR2
  refine z_icmp_eq (tgt := 1198) hX (D_Law0_15 (i := 29) rfl) (by decide) (fun _ => ?_) (fun hcc => absurd (rfl) hcc)
  exact nx m2 hR2
theorem lc_taken (hX : zG ι M_Law0_law X 100 (pX ++ pM)) (hXX : zHas ι pX) (hMM : zHas ι pM) (hs : zScr ι X L xs) {i : Nat} (hi : i + 6 ≤ L) (hL : L ≤ 384) {mem : zM} (hR : RR mem) (nx : ∀ m, RR m → zW ι M_Law0_law X 1198 [some (zP 99 0), some (zP 0 0), some (zP 40 0), some (zI (nI i))] [] m) : zW ι M_Law0_law X 1142 [some (zP 99 0), some (zP 0 0), some (zP 40 0), some (zI (nI i))] [] mem := by
  refine z_aload_n hX (D_Law0_15 (i := 32) rfl) rfl ?_
  refine z_aload_n hX (D_Law0_15 (i := 33) rfl) rfl ?_
  refine z_iload_n hX (D_Law0_15 (i := 34) rfl) rfl ?_
  refine z_iconst (v := 1) hX (D_Law0_15 (i := 35) rfl) (by decide) ?_
  refine z_iadd hX (D_Law0_15 (i := 36) rfl) ?_
  rw [show nI i + 1 = nI (i + 1) from nI_add i 1]
  refine z_sld hX hs (D_Law0_15 (i := 37) rfl) rfl (by omega) ?_
  refine z_aload_n hX (D_Law0_15 (i := 38) rfl) rfl ?_
  refine z_iload_n hX (D_Law0_15 (i := 39) rfl) rfl ?_
  refine z_iconst (v := 2) hX (D_Law0_15 (i := 40) rfl) (by decide) ?_
  refine z_iadd hX (D_Law0_15 (i := 41) rfl) ?_
  rw [show nI i + 2 = nI (i + 2) from nI_add i 2]
  refine z_sld hX hs (D_Law0_15 (i := 42) rfl) rfl (by omega) ?_
  refine z_cV2 hX (D_Law0_15 (i := 43) rfl) mi_Four_taken l_Law0_150 rfl rfl (by decide) (by first | exact Nat.one_pos | assumption | omega) (by first | decide | omega) (Nat.le_of_ble_eq_true rfl) (p_taken hXX hMM hR _ ?_)
  intro v m1 hM
  refine z_aload_n hX (D_Law0_15 (i := 44) rfl) rfl ?_
  refine z_aload_n hX (D_Law0_15 (i := 45) rfl) rfl ?_
  refine z_iload_n hX (D_Law0_15 (i := 46) rfl) rfl ?_
  refine z_iconst (v := 1) hX (D_Law0_15 (i := 47) rfl) (by decide) ?_
  refine z_iadd hX (D_Law0_15 (i := 48) rfl) ?_
  rw [show nI i + 1 = nI (i + 1) from nI_add i 1]
  refine z_sld hX hs (D_Law0_15 (i := 49) rfl) rfl (by omega) ?_
  refine z_aload_n hX (D_Law0_16 (i := 0) rfl) rfl ?_
  refine z_iload_n hX (D_Law0_16 (i := 1) rfl) rfl ?_
  refine z_iconst (v := 2) hX (D_Law0_16 (i := 2) rfl) (by decide) ?_
  refine z_iadd hX (D_Law0_16 (i := 3) rfl) ?_
  rw [show nI i + 2 = nI (i + 2) from nI_add i 2]
  refine z_sld hX hs (D_Law0_16 (i := 4) rfl) rfl (by omega) ?_
  refine z_cV2 hX (D_Law0_16 (i := 5) rfl) mi_Model_taken l_Law0_153 rfl rfl (by decide) (by first | exact Nat.one_pos | assumption | omega) (by first | decide | omega) (Nat.le_of_ble_eq_true rfl) (hM _ ?_)
  intro m2 hR2
  refine z_icmp_eq (tgt := 1198) hX (D_Law0_16 (i := 6) rfl) (by decide) (fun _ => ?_) (fun hcc => absurd (rfl) hcc)
  exact nx m2 hR2
theorem lc_count (hX : zG ι M_Law0_law X 100 (pX ++ pM)) (hXX : zHas ι pX) (hMM : zHas ι pM) (hs : zScr ι X L xs) {i : Nat} (hi : i + 6 ≤ L) (hL : L ≤ 384) {mem : zM} (hR : RR mem) (nx : ∀ m, RR m → zW ι M_Law0_law X 1198 [some (zP 99 0), some (zP 0 0), some (zP 40 0), some (zI (nI i))] [] m) : zW ι M_Law0_law X 1175 [some (zP 99 0), some (zP 0 0), some (zP 40 0), some (zI (nI i))] [] mem := by
  refine z_aload_n hX (D_Law0_16 (i := 9) rfl) rfl ?_
  refine z_aload_n hX (D_Law0_16 (i := 10) rfl) rfl ?_
  refine z_iload_n hX (D_Law0_16 (i := 11) rfl) rfl ?_
  refine z_iconst (v := 1) hX (D_Law0_16 (i := 12) rfl) (by decide) ?_
  refine z_iadd hX (D_Law0_16 (i := 13) rfl) ?_
  rw [show nI i + 1 = nI (i + 1) from nI_add i 1]
  refine z_sld hX hs (D_Law0_16 (i := 14) rfl) rfl (by omega) ?_
  refine z_cV1 hX (D_Law0_16 (i := 15) rfl) mi_Four_count l_Law0_154 rfl rfl (by decide) (by first | exact Nat.one_pos | assumption | omega) (by first | decide | omega) (Nat.le_of_ble_eq_true rfl) (p_count hXX hMM hR _ ?_)
  intro v m1 hM
  refine z_aload_n hX (D_Law0_16 (i := 16) rfl) rfl ?_
  refine z_aload_n hX (D_Law0_16 (i := 17) rfl) rfl ?_
  refine z_iload_n hX (D_Law0_16 (i := 18) rfl) rfl ?_
  refine z_iconst (v := 1) hX (D_Law0_16 (i := 19) rfl) (by decide) ?_
  refine z_iadd hX (D_Law0_16 (i := 20) rfl) ?_
  rw [show nI i + 1 = nI (i + 1) from nI_add i 1]
  refine z_sld hX hs (D_Law0_16 (i := 21) rfl) rfl (by omega) ?_
  refine z_cV1 hX (D_Law0_16 (i := 22) rfl) mi_Model_count l_Law0_157 rfl rfl (by decide) (by first | exact Nat.one_pos | assumption | omega) (by first | decide | omega) (Nat.le_of_ble_eq_true rfl) (hM _ ?_)
  intro m2 hR2
  refine z_icmp_eq (tgt := 1198) hX (D_Law0_16 (i := 23) rfl) (by decide) (fun _ => ?_) (fun hcc => absurd (rfl) hcc)
  exact nx m2 hR2
theorem law_loop (hX : zG ι M_Law0_law X 100 (pX ++ pM)) (hXX : zHas ι pX) (hMM : zHas ι pM) (hs : zScr ι X L xs) (hL : L ≤ 384) (fin : ∀ (lv : List (Option zV)) (m : zM), zW ι M_Law0_law X 1204 lv [] m) : ∀ (d i : Nat) (mem : zM), i + 6 * d ≥ L → i ≤ 400 → RR mem → zW ι M_Law0_law X 18 [some (zP 99 0), some (zP 0 0), some (zP 40 0), some (zI (nI i))] [] mem := by
  intro d
  induction d with
  | zero =>
    intro i mem hd hi hR
    refine z_iload_n hX (D_Law0_0 (i := 10) rfl) rfl ?_
    refine z_aload_n hX (D_Law0_0 (i := 11) rfl) rfl ?_
    refine z_slen hX hs (D_Law0_0 (i := 12) rfl) ?_
    refine z_bipush (v := 6) hX (D_Law0_0 (i := 13) rfl) (by decide) ?_
    refine z_isub hX (D_Law0_0 (i := 14) rfl) ?_
    have e6 : (nI L - 6).toInt = (L : Int) - 6 := pk_sub_toInt (b := 6) (by omega) (by decide)
    refine z_icmp_gt (tgt := 1204) hX (D_Law0_0 (i := 15) rfl) (by decide) (fun _ => ?_) (fun hcc => absurd (Int32.lt_iff_toInt_lt.mpr (by rw [e6, nI_toInt (by omega)]; omega)) hcc)
    exact fin _ _
  | succ d ih =>
    intro i mem hd hi hR
    refine z_iload_n hX (D_Law0_0 (i := 10) rfl) rfl ?_
    refine z_aload_n hX (D_Law0_0 (i := 11) rfl) rfl ?_
    refine z_slen hX hs (D_Law0_0 (i := 12) rfl) ?_
    refine z_bipush (v := 6) hX (D_Law0_0 (i := 13) rfl) (by decide) ?_
    refine z_isub hX (D_Law0_0 (i := 14) rfl) ?_
    have e6 : (nI L - 6).toInt = (L : Int) - 6 := pk_sub_toInt (b := 6) (by omega) (by decide)
    refine z_icmp_gt (tgt := 1204) hX (D_Law0_0 (i := 15) rfl) (by decide) (fun h1 => ?_) (fun h1 => ?_)
    · exact fin _ _
    · have hin : i + 6 ≤ L := by
        have := Int32.le_iff_toInt_le.mp (Int32.not_lt.mp h1)
        rw [e6, nI_toInt (by omega)] at this
        omega
      have nx : ∀ m, RR m → zW ι M_Law0_law X 1198 [some (zP 99 0), some (zP 0 0), some (zP 40 0), some (zI (nI i))] [] m := by
        intro m hm
        refine z_iinc (v := nI (i + 6)) hX (D_Law0_16 (i := 26) rfl) rfl (nI_add i 6) (by decide) rfl ?_
        refine z_goto (tgt := 18) hX (D_Law0_16 (i := 27) rfl) (by decide) ?_
        exact ih (i + 6) m (by omega) (by omega) hm
      refine z_aload_n hX (D_Law0_0 (i := 16) rfl) rfl ?_
      refine z_iload_n hX (D_Law0_0 (i := 17) rfl) rfl ?_
      refine z_sld (j := i) hX hs (D_Law0_0 (i := 18) rfl) rfl (by omega) ?_
      refine z_bipush (v := 63) hX (D_Law0_0 (i := 19) rfl) (by decide) ?_
      refine z_iand hX (D_Law0_0 (i := 20) rfl) ?_
      obtain ⟨j, hj, ej⟩ := pk_andE (xs i) (m := 63) 6 (by decide)
      rw [ej]
      have hc : j = 0 ∨ j = 1 ∨ j = 2 ∨ j = 3 ∨ j = 4 ∨ j = 5 ∨ j = 6 ∨ j = 7 ∨ j = 8 ∨ j = 9 ∨ j = 10 ∨ j = 11 ∨ j = 12 ∨ j = 13 ∨ j = 14 ∨ j = 15 ∨ j = 16 ∨ j = 17 ∨ j = 18 ∨ j = 19 ∨ j = 20 ∨ j = 21 ∨ j = 22 ∨ j = 23 ∨ j = 24 ∨ j = 25 ∨ j = 26 ∨ j = 27 ∨ j = 28 ∨ j = 29 ∨ j = 30 ∨ j = 31 ∨ j = 32 ∨ j = 33 ∨ 34 ≤ j := by omega
      rcases hc with rfl | rfl | rfl | rfl | rfl | rfl | rfl | rfl | rfl | rfl | rfl | rfl | rfl | rfl | rfl | rfl | rfl | rfl | rfl | rfl | rfl | rfl | rfl | rfl | rfl | rfl | rfl | rfl | rfl | rfl | rfl | rfl | rfl | rfl | hj2
      · refine z_tabIn (off := 151) (tgt := 184) hX (D_Law0_0 (i := 21) rfl) (by decide) (by decide) (by decide) (by decide) ?_
        exact lc_cube hX hXX hMM hs hin hL hR nx
      · refine z_tabIn (off := 174) (tgt := 207) hX (D_Law0_0 (i := 21) rfl) (by decide) (by decide) (by decide) (by decide) ?_
        exact lc_cubes hX hXX hMM hs hin hL hR nx
      · refine z_tabIn (off := 217) (tgt := 250) hX (D_Law0_0 (i := 21) rfl) (by decide) (by decide) (by decide) (by decide) ?_
        exact lc_paint hX hXX hMM hs hin hL hR nx
      · refine z_tabIn (off := 250) (tgt := 283) hX (D_Law0_0 (i := 21) rfl) (by decide) (by decide) (by decide) (by decide) ?_
        exact lc_of hX hXX hMM hs hin hL hR nx
      · refine z_tabIn (off := 283) (tgt := 316) hX (D_Law0_0 (i := 21) rfl) (by decide) (by decide) (by decide) (by decide) ?_
        exact lc_box hX hXX hMM hs hin hL hR nx
      · refine z_tabIn (off := 306) (tgt := 339) hX (D_Law0_0 (i := 21) rfl) (by decide) (by decide) (by decide) (by decide) ?_
        exact lc_feed hX hXX hMM hs hin hL hR nx
      · refine z_tabIn (off := 329) (tgt := 362) hX (D_Law0_0 (i := 21) rfl) (by decide) (by decide) (by decide) (by decide) ?_
        exact lc_law hX hXX hMM hs hin hL hR nx
      · refine z_tabIn (off := 342) (tgt := 375) hX (D_Law0_0 (i := 21) rfl) (by decide) (by decide) (by decide) (by decide) ?_
        exact lc_turn hX hXX hMM hs hin hL hR nx
      · refine z_tabIn (off := 375) (tgt := 408) hX (D_Law0_0 (i := 21) rfl) (by decide) (by decide) (by decide) (by decide) ?_
        exact lc_shows hX hXX hMM hs hin hL hR nx
      · refine z_tabIn (off := 418) (tgt := 451) hX (D_Law0_0 (i := 21) rfl) (by decide) (by decide) (by decide) (by decide) ?_
        exact lc_judge hX hXX hMM hs hin hL hR nx
      · refine z_tabIn (off := 431) (tgt := 464) hX (D_Law0_0 (i := 21) rfl) (by decide) (by decide) (by decide) (by decide) ?_
        exact lc_ways hX hXX hMM hs hin hL hR nx
      · refine z_tabIn (off := 464) (tgt := 497) hX (D_Law0_0 (i := 21) rfl) (by decide) (by decide) (by decide) (by decide) ?_
        exact lc_near hX hXX hMM hs hin hL hR nx
      · refine z_tabIn (off := 487) (tgt := 520) hX (D_Law0_0 (i := 21) rfl) (by decide) (by decide) (by decide) (by decide) ?_
        exact lc_build hX hXX hMM hs hin hL hR nx
      · refine z_tabIn (off := 520) (tgt := 553) hX (D_Law0_0 (i := 21) rfl) (by decide) (by decide) (by decide) (by decide) ?_
        exact lc_mend hX hXX hMM hs hin hL hR nx
      · refine z_tabIn (off := 543) (tgt := 576) hX (D_Law0_0 (i := 21) rfl) (by decide) (by decide) (by decide) (by decide) ?_
        exact lc_open hX hXX hMM hs hin hL hR nx
      · refine z_tabIn (off := 566) (tgt := 599) hX (D_Law0_0 (i := 21) rfl) (by decide) (by decide) (by decide) (by decide) ?_
        exact lc_swap hX hXX hMM hs hin hL hR nx
      · refine z_tabIn (off := 589) (tgt := 622) hX (D_Law0_0 (i := 21) rfl) (by decide) (by decide) (by decide) (by decide) ?_
        exact lc_rings hX hXX hMM hs hin hL hR nx
      · refine z_tabIn (off := 612) (tgt := 645) hX (D_Law0_0 (i := 21) rfl) (by decide) (by decide) (by decide) (by decide) ?_
        exact lc_alike hX hXX hMM hs hin hL hR nx
      · refine z_tabIn (off := 635) (tgt := 668) hX (D_Law0_0 (i := 21) rfl) (by decide) (by decide) (by decide) (by decide) ?_
        exact lc_many hX hXX hMM hs hin hL hR nx
      · refine z_tabIn (off := 669) (tgt := 702) hX (D_Law0_0 (i := 21) rfl) (by decide) (by decide) (by decide) (by decide) ?_
        exact lc_sight hX hXX hMM hs hin hL hR nx
      · refine z_tabIn (off := 702) (tgt := 735) hX (D_Law0_0 (i := 21) rfl) (by decide) (by decide) (by decide) (by decide) ?_
        exact lc_wall hX hXX hMM hs hin hL hR nx
      · refine z_tabIn (off := 725) (tgt := 758) hX (D_Law0_0 (i := 21) rfl) (by decide) (by decide) (by decide) (by decide) ?_
        exact lc_great hX hXX hMM hs hin hL hR nx
      · refine z_tabIn (off := 748) (tgt := 781) hX (D_Law0_0 (i := 21) rfl) (by decide) (by decide) (by decide) (by decide) ?_
        exact lc_undo hX hXX hMM hs hin hL hR nx
      · refine z_tabIn (off := 761) (tgt := 794) hX (D_Law0_0 (i := 21) rfl) (by decide) (by decide) (by decide) (by decide) ?_
        exact lc_redo hX hXX hMM hs hin hL hR nx
      · refine z_tabIn (off := 774) (tgt := 807) hX (D_Law0_0 (i := 21) rfl) (by decide) (by decide) (by decide) (by decide) ?_
        exact lc_body hX hXX hMM hs hin hL hR nx
      · refine z_tabIn (off := 797) (tgt := 830) hX (D_Law0_0 (i := 21) rfl) (by decide) (by decide) (by decide) (by decide) ?_
        exact lc_act hX hXX hMM hs hin hL hR nx
      · refine z_tabIn (off := 840) (tgt := 873) hX (D_Law0_0 (i := 21) rfl) (by decide) (by decide) (by decide) (by decide) ?_
        exact lc_trace hX hXX hMM hs hin hL hR nx
      · refine z_tabIn (off := 863) (tgt := 896) hX (D_Law0_0 (i := 21) rfl) (by decide) (by decide) (by decide) (by decide) ?_
        exact lc_keep hX hXX hMM hs hin hL hR nx
      · refine z_tabIn (off := 896) (tgt := 929) hX (D_Law0_0 (i := 21) rfl) (by decide) (by decide) (by decide) (by decide) ?_
        exact lc_row hX hXX hMM hs hin hL hR nx
      · refine z_tabIn (off := 939) (tgt := 972) hX (D_Law0_0 (i := 21) rfl) (by decide) (by decide) (by decide) (by decide) ?_
        exact lc_put hX hXX hMM hs hin hL hR nx
      · refine z_tabIn (off := 1012) (tgt := 1045) hX (D_Law0_0 (i := 21) rfl) (by decide) (by decide) (by decide) (by decide) ?_
        exact lc_element hX hXX hMM hs hin hL hR nx
      · refine z_tabIn (off := 1046) (tgt := 1079) hX (D_Law0_0 (i := 21) rfl) (by decide) (by decide) (by decide) (by decide) ?_
        exact lc_shift hX hXX hMM hs hin hL hR nx
      · refine z_tabIn (off := 1109) (tgt := 1142) hX (D_Law0_0 (i := 21) rfl) (by decide) (by decide) (by decide) (by decide) ?_
        exact lc_taken hX hXX hMM hs hin hL hR nx
      · refine z_tabIn (off := 1142) (tgt := 1175) hX (D_Law0_0 (i := 21) rfl) (by decide) (by decide) (by decide) (by decide) ?_
        exact lc_count hX hXX hMM hs hin hL hR nx
      · refine z_tabOut (tgt := 1198) hX (D_Law0_0 (i := 21) rfl) (Or.inr (by rw [nI_toInt (by omega)]; omega)) (by decide) ?_
        exact nx mem hR
end LL
