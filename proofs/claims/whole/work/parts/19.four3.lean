/-! taken, count, feed, shift, undo, redo, paint -/
section F7
variable {l : Launch} {ι : zE} {mem : zM} {Post : Option zV → zM → Prop} {x y z : Int32} {sz nb : Nat}
theorem c_Four_taken (hH : zHas ι pX) (hn : mem.1 27 0 1 = nI nb) (h50 : nb ≤ 50) (hk : ∀ b, b < nb → ∃ κ, κ < 8 ∧ mem.1 28 0 b = nI κ) (hbd : ∀ k, k < 6 → mem.1 31 k 0 = 0 ∨ mem.1 31 k 0 = 2 ∨ (mem.1 31 k 0 = 1 ∧ ∃ b, b < nb ∧ mem.1 31 k 1 = nI b)) (hno : (inN x 6 && inN y 8) = false → Post (some (zI (-1))) mem) (hbare : ∀ k, k < 6 → x = nI k → inN y 8 = true → mem.1 31 k 0 = 0 → Post (some (zI (-11))) mem) (hrow : ∀ k, k < 6 → x = nI k → inN y 8 = true → mem.1 31 k 0 = 2 → Post (some (zI (-12))) mem) (hok : ∀ k t b κ, k < 6 → t < 8 → b < nb → κ < 8 → x = nI k → y = nI t → mem.1 31 k 0 = 1 → mem.1 31 k 1 = nI b → mem.1 28 0 b = nI κ → Post (some (zI (if unN 8 κ t = true then nI κ else -12))) mem) : zC l ι M_Four_taken 2 [zP 0 0, zI x, zI y] mem Post := by
  refine z_enter hH (by decide) (by simp [z_ent, M_Four_taken]) (fun X hXl hX hR => ?_)
  refine z_iload_n hX (D_Four_taken (i := 0) rfl) rfl ?_
  refine z_cS1 hX (D_Four_taken (i := 1) rfl) ms_Four_isShelf l_Four_75 (by first | decide | omega) (Nat.le_of_ble_eq_true rfl) (c_Four_isShelf ?_)
  refine z_if_eq (tgt := 14) hX (D_Four_taken (i := 2) rfl) (by decide) (fun h1 => ?_) (fun h1 => ?_)
  · refine z_iconst (v := -1) hX (D_Four_taken (i := 6) rfl) (by decide) ?_
    exact z_iret hX hR (D_Four_taken (i := 7) rfl) rfl (hno (by rw [bI_0.mp h1]; rfl))
  · refine z_iload_n hX (D_Four_taken (i := 3) rfl) rfl ?_
    refine z_cS1 hX (D_Four_taken (i := 4) rfl) ms_Four_isKind l_Four_247 (by first | decide | omega) (Nat.le_of_ble_eq_true rfl) (c_Four_isKind ?_)
    refine z_if_ne (tgt := 16) hX (D_Four_taken (i := 5) rfl) (by decide) (fun h2 => ?_) (fun h2 => ?_)
    · skip
      obtain ⟨k, hk6, rfl⟩ := inN_ex (bI_n.mp h1) (by omega)
      refine z_aload_n hX (D_Four_taken (i := 8) rfl) rfl ?_
      refine z_getc hX (D_Four_taken (i := 9) rfl) f_Four_58 rfl (by decide) (by first | exact Nat.one_pos | assumption | omega) rfl ?_
      refine z_iload_n hX (D_Four_taken (i := 10) rfl) rfl ?_
      refine z_aldShelfc (j := k) hX (D_Four_taken (i := 11) rfl) rfl (by decide) (by first | exact Nat.one_pos | assumption | omega) (by decide) rfl hk6 ?_
      refine z_astore_n hX (D_Four_taken (i := 12) rfl) (by decide) rfl ?_
      refine z_aload_n hX (D_Four_taken (i := 13) rfl) rfl ?_
      refine z_cV0 hX (D_Four_taken (i := 14) rfl) mi_Shelf_isBare l_Four_78 rfl rfl (by decide) (by first | exact Nat.one_pos | assumption | omega) (by first | decide | omega) (Nat.le_of_ble_eq_true rfl) (c_Shelf_isBare hH hk6 ?_)
      refine z_if_eq (tgt := 33) hX (D_Four_taken (i := 15) rfl) (by decide) (fun h3 => ?_) (fun h3 => ?_)
      · refine z_aload_n hX (D_Four_taken (i := 18) rfl) rfl ?_
        have n3 := of_decide_eq_false (bI_0.mp h3)
        refine z_cV0 hX (D_Four_taken (i := 19) rfl) mi_Shelf_isRow l_Four_82 rfl rfl (by decide) (by first | exact Nat.one_pos | assumption | omega) (by first | decide | omega) (Nat.le_of_ble_eq_true rfl) (c_Shelf_isRow hH hk6 ?_)
        refine z_if_ne (tgt := 58) hX (D_Four_taken (i := 20) rfl) (by decide) (fun h4 => ?_) (fun h4 => ?_)
        · refine z_bipush (v := -12) hX (D_Four_taken (i := 29) rfl) (by decide) ?_
          exact z_iret hX hR (D_Four_taken (i := 30) rfl) rfl (hrow k hk6 rfl (bI_n.mp h2) (of_decide_eq_true (bI_n.mp h4)))
        · skip
          have n4 := of_decide_eq_false (bI_0.mp h4)
          rcases hbd k hk6 with e | e | ⟨e, b, hb, e1⟩
          · exact absurd e n3
          · exact absurd e n4
          · obtain ⟨κ, h8, e2⟩ := hk b hb
            obtain ⟨t, ht, rfl⟩ := inN_ex (bI_n.mp h2) (by omega)
            have hh := hok k t b κ hk6 ht hb h8 rfl rfl e e1 e2
            refine z_aload_n hX (D_Four_taken (i := 21) rfl) rfl ?_
            refine z_getc hX (D_Four_taken (i := 22) rfl) f_Four_52 rfl (by decide) (by first | exact Nat.one_pos | assumption | omega) rfl ?_
            refine z_aload_n hX (D_Four_taken (i := 23) rfl) rfl ?_
            refine z_geti hX (D_Four_taken (i := 24) rfl) f_Four_292 rfl (by decide) (by first | exact Nat.one_pos | assumption | omega) rfl ?_
            rw [e1]
            refine z_cV1 hX (D_Four_taken (i := 25) rfl) mi_Bodies_kindOf l_Four_295 rfl rfl (by decide) (by first | exact Nat.one_pos | assumption | omega) (by first | decide | omega) (Nat.le_of_ble_eq_true rfl) (c_Bodies_kindOf hH hn h50 hb ?_)
            rw [e2]
            refine z_iload_n hX (D_Four_taken (i := 26) rfl) rfl ?_
            refine z_cS2 hX (D_Four_taken (i := 27) rfl) ms_Bodies_isUnder l_Four_298 (by first | decide | omega) (Nat.le_of_ble_eq_true rfl) (c_Bodies_isUnder h8 ht ?_)
            refine z_if_ne (tgt := 61) hX (D_Four_taken (i := 28) rfl) (by decide) (fun h5 => ?_) (fun h5 => ?_)
            · refine z_aload_n hX (D_Four_taken (i := 31) rfl) rfl ?_
              refine z_getc hX (D_Four_taken (i := 32) rfl) f_Four_52 rfl (by decide) (by first | exact Nat.one_pos | assumption | omega) rfl ?_
              refine z_aload_n hX (D_Four_taken (i := 33) rfl) rfl ?_
              refine z_geti hX (D_Four_taken (i := 34) rfl) f_Four_292 rfl (by decide) (by first | exact Nat.one_pos | assumption | omega) rfl ?_
              rw [if_pos (bI_n.mp h5)] at hh
              rw [e1]
              refine z_cV1 hX (D_Four_taken (i := 35) rfl) mi_Bodies_kindOf l_Four_295 rfl rfl (by decide) (by first | exact Nat.one_pos | assumption | omega) (by first | decide | omega) (Nat.le_of_ble_eq_true rfl) (c_Bodies_kindOf hH hn h50 hb ?_)
              rw [e2]
              exact z_iret hX hR (D_Four_taken (i := 36) rfl) rfl hh
            · refine z_bipush (v := -12) hX (D_Four_taken (i := 29) rfl) (by decide) ?_
              rw [if_neg (by rw [bI_0.mp h5]; decide)] at hh
              exact z_iret hX hR (D_Four_taken (i := 30) rfl) rfl hh
      · refine z_bipush (v := -11) hX (D_Four_taken (i := 16) rfl) (by decide) ?_
        exact z_iret hX hR (D_Four_taken (i := 17) rfl) rfl (hbare k hk6 rfl (bI_n.mp h2) (of_decide_eq_true (bI_n.mp h3)))
    · refine z_iconst (v := -1) hX (D_Four_taken (i := 6) rfl) (by decide) ?_
      exact z_iret hX hR (D_Four_taken (i := 7) rfl) rfl (hno (by rw [bI_0.mp h2]; simp))
theorem c_Four_count (hH : zHas ι pX) (hno : inN x 6 = false → Post (some (zI (-1))) mem) (h0 : x = 0 → Post (some (zI (mem.1 0 0 1))) mem) (h1 : x = 1 → Post (some (zI (mem.1 0 0 2))) mem) (h2 : x = 2 → Post (some (zI (mem.1 4 0 1))) mem) (h3 : x = 3 → Post (some (zI (mem.1 23 0 3))) mem) (h4 : x = 4 → Post (some (zI (mem.1 27 0 1))) mem) (h5 : x = 5 → Post (some (zI (mem.1 27 0 3))) mem) : zC l ι M_Four_count 0 [zP 0 0, zI x] mem Post := by
  refine z_enter hH (by decide) (by simp [z_ent, M_Four_count]) (fun X hXl hX hR => ?_)
  refine z_iload_n hX (D_Four_count (i := 0) rfl) rfl ?_
  cases hb : inN x 6 with
  | false =>
    have hb2 := of_decide_eq_false hb
    refine z_tabOut (tgt := 82) hX (D_Four_count (i := 1) rfl) (by omega) (by decide) ?_
    refine z_iconst (v := -1) hX (D_Four_count (i := 24) rfl) (by decide) ?_
    exact z_iret hX hR (D_Four_count (i := 25) rfl) rfl (hno hb)
  | true =>
    obtain ⟨k, hk, rfl⟩ := inN_ex hb (by omega)
    match k, hk, h0, h1, h2, h3, h4, h5 with
    | 0, _, h0, h1, h2, h3, h4, h5 =>
      refine z_tabIn (off := 39) (tgt := 40) hX (D_Four_count (i := 1) rfl) (by decide) (by decide) (by decide) (by decide) ?_
      refine z_aload_n hX (D_Four_count (i := 2) rfl) rfl ?_
      refine z_geti hX (D_Four_count (i := 3) rfl) f_Four_67 rfl (by decide) (by first | exact Nat.one_pos | assumption | omega) rfl ?_
      exact z_iret hX hR (D_Four_count (i := 4) rfl) rfl (h0 rfl)
    | 1, _, h0, h1, h2, h3, h4, h5 =>
      refine z_tabIn (off := 44) (tgt := 45) hX (D_Four_count (i := 1) rfl) (by decide) (by decide) (by decide) (by decide) ?_
      refine z_aload_n hX (D_Four_count (i := 5) rfl) rfl ?_
      refine z_geti hX (D_Four_count (i := 6) rfl) f_Four_127 rfl (by decide) (by first | exact Nat.one_pos | assumption | omega) rfl ?_
      exact z_iret hX hR (D_Four_count (i := 7) rfl) rfl (h1 rfl)
    | 2, _, h0, h1, h2, h3, h4, h5 =>
      refine z_tabIn (off := 49) (tgt := 50) hX (D_Four_count (i := 1) rfl) (by decide) (by decide) (by decide) (by decide) ?_
      refine z_aload_n hX (D_Four_count (i := 8) rfl) rfl ?_
      refine z_getc hX (D_Four_count (i := 9) rfl) f_Four_19 rfl (by decide) (by first | exact Nat.one_pos | assumption | omega) rfl ?_
      refine z_geti hX (D_Four_count (i := 10) rfl) f_Four_301 rfl (by decide) (by first | exact Nat.one_pos | assumption | omega) rfl ?_
      exact z_iret hX hR (D_Four_count (i := 11) rfl) rfl (h2 rfl)
    | 3, _, h0, h1, h2, h3, h4, h5 =>
      refine z_tabIn (off := 57) (tgt := 58) hX (D_Four_count (i := 1) rfl) (by decide) (by decide) (by decide) (by decide) ?_
      refine z_aload_n hX (D_Four_count (i := 12) rfl) rfl ?_
      refine z_getc hX (D_Four_count (i := 13) rfl) f_Four_45 rfl (by decide) (by first | exact Nat.one_pos | assumption | omega) rfl ?_
      refine z_geti hX (D_Four_count (i := 14) rfl) f_Four_234 rfl (by decide) (by first | exact Nat.one_pos | assumption | omega) rfl ?_
      exact z_iret hX hR (D_Four_count (i := 15) rfl) rfl (h3 rfl)
    | 4, _, h0, h1, h2, h3, h4, h5 =>
      refine z_tabIn (off := 65) (tgt := 66) hX (D_Four_count (i := 1) rfl) (by decide) (by decide) (by decide) (by decide) ?_
      refine z_aload_n hX (D_Four_count (i := 16) rfl) rfl ?_
      refine z_getc hX (D_Four_count (i := 17) rfl) f_Four_52 rfl (by decide) (by first | exact Nat.one_pos | assumption | omega) rfl ?_
      refine z_geti hX (D_Four_count (i := 18) rfl) f_Four_262 rfl (by decide) (by first | exact Nat.one_pos | assumption | omega) rfl ?_
      exact z_iret hX hR (D_Four_count (i := 19) rfl) rfl (h4 rfl)
    | 5, _, h0, h1, h2, h3, h4, h5 =>
      refine z_tabIn (off := 73) (tgt := 74) hX (D_Four_count (i := 1) rfl) (by decide) (by decide) (by decide) (by decide) ?_
      refine z_aload_n hX (D_Four_count (i := 20) rfl) rfl ?_
      refine z_getc hX (D_Four_count (i := 21) rfl) f_Four_52 rfl (by decide) (by first | exact Nat.one_pos | assumption | omega) rfl ?_
      refine z_geti hX (D_Four_count (i := 22) rfl) f_Four_304 rfl (by decide) (by first | exact Nat.one_pos | assumption | omega) rfl ?_
      exact z_iret hX hR (D_Four_count (i := 23) rfl) rfl (h5 rfl)
theorem c_Law_takeByte (hH : zHas ι pL) {f : Nat} (hf : mem.1 4 0 1 = nI f) (h120 : f < 120) (h : Post (some (zI (nI (f + 1)))) (upI (upI mem 5 0 f x) 4 0 1 (nI (f + 1)))) : zC l ι M_Law_takeByte 0 [zP 4 0, zI x] mem Post := by
  refine z_enter hH (by decide) (by simp [z_ent, M_Law_takeByte]) (fun X hXl hX hR => ?_)
  refine z_aload_n hX (D_Law_takeByte (i := 0) rfl) rfl ?_
  refine z_geti hX (D_Law_takeByte (i := 1) rfl) f_Law_28 rfl (by decide) (by first | exact Nat.one_pos | assumption | omega) rfl ?_
  refine z_bipush (v := 120) hX (D_Law_takeByte (i := 2) rfl) (by decide) ?_
  rw [hf]
  refine z_icmp_lt (tgt := 12) hX (D_Law_takeByte (i := 3) rfl) (by decide) (fun _ => ?_) (fun hcc => absurd (nI_lt (b := 120) h120 (by decide)) hcc)
  refine z_aload_n hX (D_Law_takeByte (i := 6) rfl) rfl ?_
  refine z_getc hX (D_Law_takeByte (i := 7) rfl) f_Law_11 rfl (by decide) (by first | exact Nat.one_pos | assumption | omega) rfl ?_
  refine z_aload_n hX (D_Law_takeByte (i := 8) rfl) rfl ?_
  refine z_geti hX (D_Law_takeByte (i := 9) rfl) f_Law_28 rfl (by decide) (by first | exact Nat.one_pos | assumption | omega) rfl ?_
  refine z_iload_n hX (D_Law_takeByte (i := 10) rfl) rfl ?_
  rw [hf]
  refine z_iast (j := f) hX (D_Law_takeByte (i := 11) rfl) rfl (by decide) (by first | exact Nat.one_pos | assumption | omega) (by decide) rfl h120 ?_
  refine z_aload_n hX (D_Law_takeByte (i := 12) rfl) rfl ?_
  refine z_dupP hX (D_Law_takeByte (i := 13) rfl) ?_
  refine z_geti hX (D_Law_takeByte (i := 14) rfl) f_Law_28 rfl (by decide) (by first | exact Nat.one_pos | assumption | omega) rfl ?_
  refine z_iconst (v := 1) hX (D_Law_takeByte (i := 15) rfl) (by decide) ?_
  rw [show (upI mem 5 0 f x).1 4 0 1 = nI f by simp [upI_get, hf]]
  refine z_iadd hX (D_Law_takeByte (i := 16) rfl) ?_
  rw [nlit, nI_add]
  refine z_puti hX (D_Law_takeByte (i := 17) rfl) g_Law_28 rfl (by decide) (by first | exact Nat.one_pos | assumption | omega) rfl ?_
  refine z_aload_n hX (D_Law_takeByte (i := 18) rfl) rfl ?_
  refine z_geti hX (D_Law_takeByte (i := 19) rfl) f_Law_28 rfl (by decide) (by first | exact Nat.one_pos | assumption | omega) rfl ?_
  rw [show (upI (upI mem 5 0 f x) 4 0 1 (nI (f + 1))).1 4 0 1 = nI (f + 1) by simp [upI_get]]
  exact z_iret hX hR (D_Law_takeByte (i := 20) rfl) rfl (by assumption)
theorem c_Law_takeByte_full (hH : zHas ι pL) (hf : mem.1 4 0 1 = nI 120) (h : Post (some (zI (-3))) mem) : zC l ι M_Law_takeByte 0 [zP 4 0, zI x] mem Post := by
  refine z_enter hH (by decide) (by simp [z_ent, M_Law_takeByte]) (fun X hXl hX hR => ?_)
  refine z_aload_n hX (D_Law_takeByte (i := 0) rfl) rfl ?_
  refine z_geti hX (D_Law_takeByte (i := 1) rfl) f_Law_28 rfl (by decide) (by first | exact Nat.one_pos | assumption | omega) rfl ?_
  refine z_bipush (v := 120) hX (D_Law_takeByte (i := 2) rfl) (by decide) ?_
  rw [hf]
  refine z_icmp_lt (tgt := 12) hX (D_Law_takeByte (i := 3) rfl) (by decide) (fun hcc => absurd hcc (by decide)) (fun _ => ?_)
  refine z_bipush (v := -3) hX (D_Law_takeByte (i := 4) rfl) (by decide) ?_
  exact z_iret hX hR (D_Law_takeByte (i := 5) rfl) rfl (by assumption)
theorem c_Four_feed (hH : zHas ι pX) {f : Nat} (hf : mem.1 4 0 1 = nI f) (h120 : f ≤ 120) (hno : inN x 256 = false → Post (some (zI (-1))) mem) (hfull : inN x 256 = true → f = 120 → Post (some (zI (-3))) mem) (hok : inN x 256 = true → f < 120 → Post (some (zI (nI (f + 1)))) (upI (upI mem 5 0 f x) 4 0 1 (nI (f + 1)))) : zC l ι M_Four_feed 1 [zP 0 0, zI x] mem Post := by
  refine z_enter hH (by decide) (by simp [z_ent, M_Four_feed]) (fun X hXl hX hR => ?_)
  refine z_iload_n hX (D_Four_feed (i := 0) rfl) rfl ?_
  refine z_if_lt (tgt := 11) hX (D_Four_feed (i := 1) rfl) (by decide) (fun h1 => ?_) (fun h1 => ?_)
  · refine z_iconst (v := -1) hX (D_Four_feed (i := 5) rfl) (by decide) ?_
    exact z_iret hX hR (D_Four_feed (i := 6) rfl) rfl (hno (inN_lo h1))
  · refine z_iload_n hX (D_Four_feed (i := 2) rfl) rfl ?_
    refine z_sipush (v := 255) hX (D_Four_feed (i := 3) rfl) (by decide) ?_
    refine z_icmp_le (tgt := 13) hX (D_Four_feed (i := 4) rfl) (by decide) (fun h2 => ?_) (fun h2 => ?_)
    · skip
      have hb := inN_in (n := 256) h1 ((leT (n := 255) (by decide)).mp h2) (by decide)
      refine z_aload_n hX (D_Four_feed (i := 7) rfl) rfl ?_
      refine z_getc hX (D_Four_feed (i := 8) rfl) f_Four_19 rfl (by decide) (by first | exact Nat.one_pos | assumption | omega) rfl ?_
      refine z_iload_n hX (D_Four_feed (i := 9) rfl) rfl ?_
      by_cases h3 : f < 120
      · refine z_cV1 hX (D_Four_feed (i := 10) rfl) mi_Law_takeByte l_Four_130 rfl rfl (by decide) (by first | exact Nat.one_pos | assumption | omega) (by first | decide | omega) (Nat.le_of_ble_eq_true rfl) (c_Law_takeByte hH.L hf h3 ?_)
        exact z_iret hX hR (D_Four_feed (i := 11) rfl) rfl (hok hb h3)
      · obtain rfl : f = 120 := by omega
        refine z_cV1 hX (D_Four_feed (i := 10) rfl) mi_Law_takeByte l_Four_130 rfl rfl (by decide) (by first | exact Nat.one_pos | assumption | omega) (by first | decide | omega) (Nat.le_of_ble_eq_true rfl) (c_Law_takeByte_full hH.L hf ?_)
        exact z_iret hX hR (D_Four_feed (i := 11) rfl) rfl (hfull hb rfl)
    · refine z_iconst (v := -1) hX (D_Four_feed (i := 5) rfl) (by decide) ?_
      exact z_iret hX hR (D_Four_feed (i := 6) rfl) rfl (hno (inN_hi (n := 256) (Classical.byContradiction (fun w => h2 ((leT (n := 255) (by decide)).mpr w))) (by decide)))
variable {xi xj xn : Int32}
theorem c_Four_shift (hH : zHas ι pX) (hS : ShOK mem) (hno : (inN x 6 && inN y 6) = false → Post (some (zI (-1))) mem) (hbare : ∀ k o, k < 6 → o < 6 → x = nI k → y = nI o → (mem.1 31 k 0 = 0 ∨ mem.1 31 o 0 = 0) → Post (some (zI (-11))) mem) (hkind : ∀ k o, k < 6 → o < 6 → x = nI k → y = nI o → ¬ mem.1 31 k 0 = 0 → ¬ mem.1 31 o 0 = 0 → (¬ mem.1 31 k 0 = 2 ∨ ¬ mem.1 31 o 0 = 2 ∨ ¬ mem.1 31 k 2 = mem.1 31 o 2) → Post (some (zI (-12))) mem) (hpl : ∀ k o L L2, k < 6 → o < 6 → x = nI k → y = nI o → mem.1 31 k 0 = 2 → mem.1 31 o 0 = 2 → mem.1 31 k 2 = mem.1 31 o 2 → mem.1 31 k 3 = nI L → mem.1 31 o 3 = nI L2 → (hsB L xi xn && hsB L2 xj xn) = false → Post (some (zI (-13))) mem) (hok : ∀ k o L L2 i j n, k < 6 → o < 6 → x = nI k → y = nI o → mem.1 31 k 0 = 2 → mem.1 31 o 0 = 2 → mem.1 31 k 2 = mem.1 31 o 2 → mem.1 31 k 3 = nI L → mem.1 31 o 3 = nI L2 → L ≤ 60 → L2 ≤ 60 → i + n ≤ L → j + n ≤ L2 → xi = nI i → xj = nI j → xn = nI n → Post (some (zI (nI n))) (cpJ mem 32 k o i j n)) : zC l ι M_Four_shift 2 [zP 0 0, zI x, zI xi, zI y, zI xj, zI xn] mem Post := by
  refine z_enter hH (by decide) (by simp [z_ent, M_Four_shift]) (fun X hXl hX hR => ?_)
  refine z_iload_n hX (D_Four_shift (i := 0) rfl) rfl ?_
  refine z_cS1 hX (D_Four_shift (i := 1) rfl) ms_Four_isShelf l_Four_75 (by first | decide | omega) (Nat.le_of_ble_eq_true rfl) (c_Four_isShelf ?_)
  refine z_if_eq (tgt := 14) hX (D_Four_shift (i := 2) rfl) (by decide) (fun h1 => ?_) (fun h1 => ?_)
  · refine z_iconst (v := -1) hX (D_Four_shift (i := 6) rfl) (by decide) ?_
    exact z_iret hX hR (D_Four_shift (i := 7) rfl) rfl (hno (by rw [bI_0.mp h1]; rfl))
  · refine z_iload_n hX (D_Four_shift (i := 3) rfl) rfl ?_
    refine z_cS1 hX (D_Four_shift (i := 4) rfl) ms_Four_isShelf l_Four_75 (by first | decide | omega) (Nat.le_of_ble_eq_true rfl) (c_Four_isShelf ?_)
    refine z_if_ne (tgt := 16) hX (D_Four_shift (i := 5) rfl) (by decide) (fun h2 => ?_) (fun h2 => ?_)
    · skip
      obtain ⟨k, hk, rfl⟩ := inN_ex (bI_n.mp h1) (by omega)
      obtain ⟨o, ho, rfl⟩ := inN_ex (bI_n.mp h2) (by omega)
      obtain ⟨L, s, hL, h5, e3, e2⟩ := hS k hk
      obtain ⟨L2, s2, hL2, h52, e32, e22⟩ := hS o ho
      refine z_aload_n hX (D_Four_shift (i := 8) rfl) rfl ?_
      refine z_getc hX (D_Four_shift (i := 9) rfl) f_Four_58 rfl (by decide) (by first | exact Nat.one_pos | assumption | omega) rfl ?_
      refine z_iload_n hX (D_Four_shift (i := 10) rfl) rfl ?_
      refine z_aldShelfc (j := k) hX (D_Four_shift (i := 11) rfl) rfl (by decide) (by first | exact Nat.one_pos | assumption | omega) (by decide) rfl hk ?_
      refine z_astore hX (D_Four_shift (i := 12) rfl) (by decide) rfl ?_
      refine z_aload_n hX (D_Four_shift (i := 13) rfl) rfl ?_
      refine z_getc hX (D_Four_shift (i := 14) rfl) f_Four_58 rfl (by decide) (by first | exact Nat.one_pos | assumption | omega) rfl ?_
      refine z_iload_n hX (D_Four_shift (i := 15) rfl) rfl ?_
      refine z_aldShelfc (j := o) hX (D_Four_shift (i := 16) rfl) rfl (by decide) (by first | exact Nat.one_pos | assumption | omega) (by decide) rfl ho ?_
      refine z_astore hX (D_Four_shift (i := 17) rfl) (by decide) rfl ?_
      refine z_aload hX (D_Four_shift (i := 18) rfl) rfl ?_
      refine z_cV0 hX (D_Four_shift (i := 19) rfl) mi_Shelf_isBare l_Four_78 rfl rfl (by decide) (by first | exact Nat.one_pos | assumption | omega) (by first | decide | omega) (Nat.le_of_ble_eq_true rfl) (c_Shelf_isBare hH hk ?_)
      refine z_if_ne (tgt := 48) hX (D_Four_shift (i := 20) rfl) (by decide) (fun h3 => ?_) (fun h3 => ?_)
      · refine z_bipush (v := -11) hX (D_Four_shift (i := 24) rfl) (by decide) ?_
        exact z_iret hX hR (D_Four_shift (i := 25) rfl) rfl (hbare k o hk ho rfl rfl (Or.inl (of_decide_eq_true (bI_n.mp h3))))
      · refine z_aload hX (D_Four_shift (i := 21) rfl) rfl ?_
        have n3 := of_decide_eq_false (bI_0.mp h3)
        refine z_cV0 hX (D_Four_shift (i := 22) rfl) mi_Shelf_isBare l_Four_78 rfl rfl (by decide) (by first | exact Nat.one_pos | assumption | omega) (by first | decide | omega) (Nat.le_of_ble_eq_true rfl) (c_Shelf_isBare hH ho ?_)
        refine z_if_eq (tgt := 51) hX (D_Four_shift (i := 23) rfl) (by decide) (fun h4 => ?_) (fun h4 => ?_)
        · refine z_aload hX (D_Four_shift (i := 26) rfl) rfl ?_
          have n4 := of_decide_eq_false (bI_0.mp h4)
          refine z_cV0 hX (D_Four_shift (i := 27) rfl) mi_Shelf_isRow l_Four_82 rfl rfl (by decide) (by first | exact Nat.one_pos | assumption | omega) (by first | decide | omega) (Nat.le_of_ble_eq_true rfl) (c_Shelf_isRow hH hk ?_)
          refine z_if_eq (tgt := 80) hX (D_Four_shift (i := 28) rfl) (by decide) (fun h6 => ?_) (fun h6 => ?_)
          · refine z_bipush (v := -12) hX (D_Four_shift (i := 37) rfl) (by decide) ?_
            exact z_iret hX hR (D_Four_shift (i := 38) rfl) rfl (hkind k o hk ho rfl rfl n3 n4 (Or.inl (of_decide_eq_false (bI_0.mp h6))))
          · refine z_aload hX (D_Four_shift (i := 29) rfl) rfl ?_
            have n6 := of_decide_eq_true (bI_n.mp h6)
            refine z_cV0 hX (D_Four_shift (i := 30) rfl) mi_Shelf_isRow l_Four_82 rfl rfl (by decide) (by first | exact Nat.one_pos | assumption | omega) (by first | decide | omega) (Nat.le_of_ble_eq_true rfl) (c_Shelf_isRow hH ho ?_)
            refine z_if_eq (tgt := 80) hX (D_Four_shift (i := 31) rfl) (by decide) (fun h7 => ?_) (fun h7 => ?_)
            · refine z_bipush (v := -12) hX (D_Four_shift (i := 37) rfl) (by decide) ?_
              exact z_iret hX hR (D_Four_shift (i := 38) rfl) rfl (hkind k o hk ho rfl rfl n3 n4 (Or.inr (Or.inl (of_decide_eq_false (bI_0.mp h7)))))
            · refine z_aload hX (D_Four_shift (i := 32) rfl) rfl ?_
              refine z_geti hX (D_Four_shift (i := 33) rfl) f_Four_85 rfl (by decide) (by first | exact Nat.one_pos | assumption | omega) rfl ?_
              refine z_aload hX (D_Four_shift (i := 34) rfl) rfl ?_
              refine z_geti hX (D_Four_shift (i := 35) rfl) f_Four_85 rfl (by decide) (by first | exact Nat.one_pos | assumption | omega) rfl ?_
              have n7 := of_decide_eq_true (bI_n.mp h7)
              refine z_icmp_eq (tgt := 83) hX (D_Four_shift (i := 36) rfl) (by decide) (fun h8 => ?_) (fun h8 => ?_)
              · refine z_aload hX (D_Four_shift (i := 39) rfl) rfl ?_
                refine z_iload_n hX (D_Four_shift (i := 40) rfl) rfl ?_
                refine z_iload hX (D_Four_shift (i := 41) rfl) rfl ?_
                refine z_cV2 hX (D_Four_shift (i := 42) rfl) mi_Shelf_hasStretch l_Four_283 rfl rfl (by decide) (by first | exact Nat.one_pos | assumption | omega) (by first | decide | omega) (Nat.le_of_ble_eq_true rfl) (c_Shelf_hasStretch hH hk e3 hL ?_)
                refine z_if_eq (tgt := 106) hX (D_Four_shift (i := 43) rfl) (by decide) (fun h9 => ?_) (fun h9 => ?_)
                · refine z_bipush (v := -13) hX (D_Four_shift (i := 49) rfl) (by decide) ?_
                  exact z_iret hX hR (D_Four_shift (i := 50) rfl) rfl (hpl k o L L2 hk ho rfl rfl n6 n7 h8 e3 e32 (by rw [bI_0.mp h9]; rfl))
                · refine z_aload hX (D_Four_shift (i := 44) rfl) rfl ?_
                  refine z_iload hX (D_Four_shift (i := 45) rfl) rfl ?_
                  refine z_iload hX (D_Four_shift (i := 46) rfl) rfl ?_
                  refine z_cV2 hX (D_Four_shift (i := 47) rfl) mi_Shelf_hasStretch l_Four_283 rfl rfl (by decide) (by first | exact Nat.one_pos | assumption | omega) (by first | decide | omega) (Nat.le_of_ble_eq_true rfl) (c_Shelf_hasStretch hH ho e32 hL2 ?_)
                  refine z_if_ne (tgt := 109) hX (D_Four_shift (i := 48) rfl) (by decide) (fun h10 => ?_) (fun h10 => ?_)
                  · skip
                    have a1 := of_decide_eq_true (bI_n.mp h9)
                    have a2 := of_decide_eq_true (bI_n.mp h10)
                    obtain ⟨i, hi, rfl⟩ : ∃ i : Nat, i ≤ 60 ∧ xi = nI i := ⟨xi.toInt.toNat, by omega, Int32.toInt_inj.mp (by rw [nI_toInt (by omega)]; omega)⟩
                    obtain ⟨j, hj, rfl⟩ : ∃ j : Nat, j ≤ 60 ∧ xj = nI j := ⟨xj.toInt.toNat, by omega, Int32.toInt_inj.mp (by rw [nI_toInt (by omega)]; omega)⟩
                    obtain ⟨n, hn, rfl⟩ : ∃ n : Nat, n ≤ 60 ∧ xn = nI n := ⟨xn.toInt.toNat, by omega, Int32.toInt_inj.mp (by rw [nI_toInt (by omega)]; omega)⟩
                    rw [nI_toInt (by omega), nI_toInt (by omega)] at a1 a2
                    refine z_aload hX (D_Four_shift (i := 51) rfl) rfl ?_
                    refine z_getc hX (D_Four_shift (i := 52) rfl) f_Four_91 rfl (by decide) (by first | exact Nat.one_pos | assumption | omega) rfl ?_
                    refine z_iload_n hX (D_Four_shift (i := 53) rfl) rfl ?_
                    refine z_aload hX (D_Four_shift (i := 54) rfl) rfl ?_
                    refine z_getc hX (D_Four_shift (i := 55) rfl) f_Four_91 rfl (by decide) (by first | exact Nat.one_pos | assumption | omega) rfl ?_
                    refine z_iload hX (D_Four_shift (i := 56) rfl) rfl ?_
                    refine z_iload hX (D_Four_shift (i := 57) rfl) rfl ?_
                    refine z_copyl hX (D_Four_shift (i := 58) rfl) w_copy_link (by decide) (Nat.le_of_ble_eq_true rfl) rfl (by decide) hk ho (by decide) (by omega) (by omega) ?_
                    refine z_iload hX (D_Four_shift (i := 59) rfl) rfl ?_
                    exact z_iret hX hR (D_Four_shift (i := 60) rfl) rfl (hok k o L L2 i j n hk ho rfl rfl n6 n7 h8 e3 e32 hL hL2 (by omega) (by omega) rfl rfl rfl)
                  · refine z_bipush (v := -13) hX (D_Four_shift (i := 49) rfl) (by decide) ?_
                    exact z_iret hX hR (D_Four_shift (i := 50) rfl) rfl (hpl k o L L2 hk ho rfl rfl n6 n7 h8 e3 e32 (by rw [bI_0.mp h10]; simp))
              · refine z_bipush (v := -12) hX (D_Four_shift (i := 37) rfl) (by decide) ?_
                exact z_iret hX hR (D_Four_shift (i := 38) rfl) rfl (hkind k o hk ho rfl rfl n3 n4 (Or.inr (Or.inr h8)))
        · refine z_bipush (v := -11) hX (D_Four_shift (i := 24) rfl) (by decide) ?_
          exact z_iret hX hR (D_Four_shift (i := 25) rfl) rfl (hbare k o hk ho rfl rfl (Or.inr (of_decide_eq_true (bI_n.mp h4))))
    · refine z_iconst (v := -1) hX (D_Four_shift (i := 6) rfl) (by decide) ?_
      exact z_iret hX hR (D_Four_shift (i := 7) rfl) rfl (hno (by rw [bI_0.mp h2]; simp))
/-- what is kept of changes: each of a face that there is -/
def PaOK (mem : zM) (sz d e : Nat) : Prop := mem.1 23 0 3 = nI d ∧ mem.1 23 0 4 = nI e ∧ d ≤ e ∧ e ≤ 40 ∧ ∀ i, i < e → ∃ k f b a : Nat, k < sz ∧ f < 6 ∧ b ≤ 6 ∧ a ≤ 6 ∧ mem.1 24 0 i = nI (10 * k + f) ∧ mem.1 25 0 i = nI b ∧ mem.1 26 0 i = nI a
theorem c_Four_undo (hH : zHas ι pX) (h8 : sz ≤ 8) {d e : Nat} (hP : PaOK mem sz d e) (hno : d = 0 → Post (some (zI (-5))) mem) (hok : ∀ k f, k < sz → f < 6 → 0 < d → mem.1 24 0 (d - 1) = nI (10 * k + f) → Post (some (zI (nI (d - 1)))) (upI (upI mem 23 0 3 (nI (d - 1))) 3 k f (mem.1 25 0 (d - 1)))) : zC l ι M_Four_undo 1 [zP 0 0] mem Post := by
  obtain ⟨p1, p2, p3, p4, p5⟩ := hP
  refine z_enter hH (by decide) (by simp [z_ent, M_Four_undo]) (fun X hXl hX hR => ?_)
  refine z_aload_n hX (D_Four_undo (i := 0) rfl) rfl ?_
  refine z_getc hX (D_Four_undo (i := 1) rfl) f_Four_45 rfl (by decide) (by first | exact Nat.one_pos | assumption | omega) rfl ?_
  refine z_geti hX (D_Four_undo (i := 2) rfl) f_Four_234 rfl (by decide) (by first | exact Nat.one_pos | assumption | omega) rfl ?_
  rw [p1]
  by_cases hd : d = 0
  · subst hd
    refine z_if_gt (tgt := 13) hX (D_Four_undo (i := 3) rfl) (by decide) (fun hcc => absurd hcc (by decide)) (fun _ => ?_)
    refine z_bipush (v := -5) hX (D_Four_undo (i := 4) rfl) (by decide) ?_
    exact z_iret hX hR (D_Four_undo (i := 5) rfl) rfl (hno rfl)
  · obtain ⟨k, f, b, a, hk, hf, hb, ha, e1, e2, e3⟩ := p5 (d - 1) (by omega)
    have hh := hok k f hk hf (by omega) e1
    have hk8 : k < 8 := by omega
    refine z_if_gt (tgt := 13) hX (D_Four_undo (i := 3) rfl) (by decide) (fun _ => ?_) (fun hcc => absurd ((Int32.not_le.mp (nI_nle (by omega) (by omega)))) hcc)
    refine z_aload_n hX (D_Four_undo (i := 6) rfl) rfl ?_
    refine z_getc hX (D_Four_undo (i := 7) rfl) f_Four_45 rfl (by decide) (by first | exact Nat.one_pos | assumption | omega) rfl ?_
    refine z_dupP hX (D_Four_undo (i := 8) rfl) ?_
    refine z_geti hX (D_Four_undo (i := 9) rfl) f_Four_234 rfl (by decide) (by first | exact Nat.one_pos | assumption | omega) rfl ?_
    rw [p1]
    refine z_iconst (v := 1) hX (D_Four_undo (i := 10) rfl) (by decide) ?_
    refine z_isub hX (D_Four_undo (i := 11) rfl) ?_
    rw [nlit, pk_sub (by omega)]
    refine z_puti hX (D_Four_undo (i := 12) rfl) g_Four_234 rfl (by decide) (by first | exact Nat.one_pos | assumption | omega) rfl ?_
    refine z_aload_n hX (D_Four_undo (i := 13) rfl) rfl ?_
    refine z_aload_n hX (D_Four_undo (i := 14) rfl) rfl ?_
    refine z_getc hX (D_Four_undo (i := 15) rfl) f_Four_45 rfl (by decide) (by first | exact Nat.one_pos | assumption | omega) rfl ?_
    refine z_getc hX (D_Four_undo (i := 16) rfl) f_Four_237 rfl (by decide) (by first | exact Nat.one_pos | assumption | omega) rfl ?_
    refine z_aload_n hX (D_Four_undo (i := 17) rfl) rfl ?_
    refine z_getc hX (D_Four_undo (i := 18) rfl) f_Four_45 rfl (by decide) (by first | exact Nat.one_pos | assumption | omega) rfl ?_
    refine z_geti hX (D_Four_undo (i := 19) rfl) f_Four_234 rfl (by decide) (by first | exact Nat.one_pos | assumption | omega) rfl ?_
    have q1 : (upI mem 23 0 3 (nI (d - 1))).1 23 0 3 = nI (d - 1) := by simp [upI_get]
    rw [q1]
    refine z_iald (j := d - 1) hX (D_Four_undo (i := 20) rfl) rfl (by decide) (by first | exact Nat.one_pos | assumption | omega) (by decide) rfl (by omega) ?_
    rw [show (upI mem 23 0 3 (nI (d - 1))).1 24 0 (d - 1) = nI (10 * k + f) by simp [upI_get, e1]]
    refine z_aload_n hX (D_Four_undo (i := 21) rfl) rfl ?_
    refine z_getc hX (D_Four_undo (i := 22) rfl) f_Four_45 rfl (by decide) (by first | exact Nat.one_pos | assumption | omega) rfl ?_
    refine z_getc hX (D_Four_undo (i := 23) rfl) f_Four_238 rfl (by decide) (by first | exact Nat.one_pos | assumption | omega) rfl ?_
    refine z_aload_n hX (D_Four_undo (i := 24) rfl) rfl ?_
    refine z_getc hX (D_Four_undo (i := 25) rfl) f_Four_45 rfl (by decide) (by first | exact Nat.one_pos | assumption | omega) rfl ?_
    refine z_geti hX (D_Four_undo (i := 26) rfl) f_Four_234 rfl (by decide) (by first | exact Nat.one_pos | assumption | omega) rfl ?_
    rw [q1]
    refine z_iald (j := d - 1) hX (D_Four_undo (i := 27) rfl) rfl (by decide) (by first | exact Nat.one_pos | assumption | omega) (by decide) rfl (by omega) ?_
    rw [show (upI mem 23 0 3 (nI (d - 1))).1 25 0 (d - 1) = mem.1 25 0 (d - 1) by simp [upI_get]]
    refine z_cV2 hX (D_Four_undo (i := 28) rfl) mi_Four_setColour l_Four_106 rfl rfl (by decide) (by first | exact Nat.one_pos | assumption | omega) (by first | decide | omega) (Nat.le_of_ble_eq_true rfl) (c_Four_setColour hH hk8 hf ?_)
    refine z_aload_n hX (D_Four_undo (i := 29) rfl) rfl ?_
    refine z_getc hX (D_Four_undo (i := 30) rfl) f_Four_45 rfl (by decide) (by first | exact Nat.one_pos | assumption | omega) rfl ?_
    refine z_geti hX (D_Four_undo (i := 31) rfl) f_Four_234 rfl (by decide) (by first | exact Nat.one_pos | assumption | omega) rfl ?_
    rw [show (upI (upI mem 23 0 3 (nI (d - 1))) 3 k f (mem.1 25 0 (d - 1))).1 23 0 3 = nI (d - 1) by simp [upI_get]]
    exact z_iret hX hR (D_Four_undo (i := 32) rfl) rfl hh
theorem c_Four_redo (hH : zHas ι pX) (h8 : sz ≤ 8) {d e : Nat} (hP : PaOK mem sz d e) (hno : d = e → Post (some (zI (-5))) mem) (hok : ∀ k f, k < sz → f < 6 → d < e → mem.1 24 0 d = nI (10 * k + f) → Post (some (zI (nI (e - (d + 1))))) (upI (upI mem 3 k f (mem.1 26 0 d)) 23 0 3 (nI (d + 1)))) : zC l ι M_Four_redo 1 [zP 0 0] mem Post := by
  obtain ⟨p1, p2, p3, p4, p5⟩ := hP
  refine z_enter hH (by decide) (by simp [z_ent, M_Four_redo]) (fun X hXl hX hR => ?_)
  refine z_aload_n hX (D_Four_redo (i := 0) rfl) rfl ?_
  refine z_getc hX (D_Four_redo (i := 1) rfl) f_Four_45 rfl (by decide) (by first | exact Nat.one_pos | assumption | omega) rfl ?_
  refine z_geti hX (D_Four_redo (i := 2) rfl) f_Four_234 rfl (by decide) (by first | exact Nat.one_pos | assumption | omega) rfl ?_
  refine z_aload_n hX (D_Four_redo (i := 3) rfl) rfl ?_
  refine z_getc hX (D_Four_redo (i := 4) rfl) f_Four_45 rfl (by decide) (by first | exact Nat.one_pos | assumption | omega) rfl ?_
  refine z_geti hX (D_Four_redo (i := 5) rfl) f_Four_241 rfl (by decide) (by first | exact Nat.one_pos | assumption | omega) rfl ?_
  rw [p1, p2]
  by_cases hd : d = e
  · subst hd
    refine z_icmp_lt (tgt := 20) hX (D_Four_redo (i := 6) rfl) (by decide) (fun hcc => absurd hcc (nI_nlt (Nat.le_refl d) (by omega))) (fun _ => ?_)
    refine z_bipush (v := -5) hX (D_Four_redo (i := 7) rfl) (by decide) ?_
    exact z_iret hX hR (D_Four_redo (i := 8) rfl) rfl (hno rfl)
  · obtain ⟨k, f, b, a, hk, hf, hb, ha, e1, e2, e3⟩ := p5 d (by omega)
    have hh := hok k f hk hf (by omega) e1
    have hk8 : k < 8 := by omega
    refine z_icmp_lt (tgt := 20) hX (D_Four_redo (i := 6) rfl) (by decide) (fun _ => ?_) (fun hcc => absurd (nI_lt (by omega) (by omega)) hcc)
    refine z_aload_n hX (D_Four_redo (i := 9) rfl) rfl ?_
    refine z_aload_n hX (D_Four_redo (i := 10) rfl) rfl ?_
    refine z_getc hX (D_Four_redo (i := 11) rfl) f_Four_45 rfl (by decide) (by first | exact Nat.one_pos | assumption | omega) rfl ?_
    refine z_getc hX (D_Four_redo (i := 12) rfl) f_Four_237 rfl (by decide) (by first | exact Nat.one_pos | assumption | omega) rfl ?_
    refine z_aload_n hX (D_Four_redo (i := 13) rfl) rfl ?_
    refine z_getc hX (D_Four_redo (i := 14) rfl) f_Four_45 rfl (by decide) (by first | exact Nat.one_pos | assumption | omega) rfl ?_
    refine z_geti hX (D_Four_redo (i := 15) rfl) f_Four_234 rfl (by decide) (by first | exact Nat.one_pos | assumption | omega) rfl ?_
    rw [p1]
    refine z_iald (j := d) hX (D_Four_redo (i := 16) rfl) rfl (by decide) (by first | exact Nat.one_pos | assumption | omega) (by decide) rfl (by omega) ?_
    rw [e1]
    refine z_aload_n hX (D_Four_redo (i := 17) rfl) rfl ?_
    refine z_getc hX (D_Four_redo (i := 18) rfl) f_Four_45 rfl (by decide) (by first | exact Nat.one_pos | assumption | omega) rfl ?_
    refine z_getc hX (D_Four_redo (i := 19) rfl) f_Four_244 rfl (by decide) (by first | exact Nat.one_pos | assumption | omega) rfl ?_
    refine z_aload_n hX (D_Four_redo (i := 20) rfl) rfl ?_
    refine z_getc hX (D_Four_redo (i := 21) rfl) f_Four_45 rfl (by decide) (by first | exact Nat.one_pos | assumption | omega) rfl ?_
    refine z_geti hX (D_Four_redo (i := 22) rfl) f_Four_234 rfl (by decide) (by first | exact Nat.one_pos | assumption | omega) rfl ?_
    rw [p1]
    refine z_iald (j := d) hX (D_Four_redo (i := 23) rfl) rfl (by decide) (by first | exact Nat.one_pos | assumption | omega) (by decide) rfl (by omega) ?_
    refine z_cV2 hX (D_Four_redo (i := 24) rfl) mi_Four_setColour l_Four_106 rfl rfl (by decide) (by first | exact Nat.one_pos | assumption | omega) (by first | decide | omega) (Nat.le_of_ble_eq_true rfl) (c_Four_setColour hH hk8 hf ?_)
    refine z_aload_n hX (D_Four_redo (i := 25) rfl) rfl ?_
    refine z_getc hX (D_Four_redo (i := 26) rfl) f_Four_45 rfl (by decide) (by first | exact Nat.one_pos | assumption | omega) rfl ?_
    refine z_dupP hX (D_Four_redo (i := 27) rfl) ?_
    refine z_geti hX (D_Four_redo (i := 28) rfl) f_Four_234 rfl (by decide) (by first | exact Nat.one_pos | assumption | omega) rfl ?_
    rw [show (upI mem 3 k f (mem.1 26 0 d)).1 23 0 3 = nI d by simp [upI_get, p1]]
    refine z_iconst (v := 1) hX (D_Four_redo (i := 29) rfl) (by decide) ?_
    refine z_iadd hX (D_Four_redo (i := 30) rfl) ?_
    rw [nlit, nI_add]
    refine z_puti hX (D_Four_redo (i := 31) rfl) g_Four_234 rfl (by decide) (by first | exact Nat.one_pos | assumption | omega) rfl ?_
    refine z_aload_n hX (D_Four_redo (i := 32) rfl) rfl ?_
    refine z_getc hX (D_Four_redo (i := 33) rfl) f_Four_45 rfl (by decide) (by first | exact Nat.one_pos | assumption | omega) rfl ?_
    refine z_geti hX (D_Four_redo (i := 34) rfl) f_Four_241 rfl (by decide) (by first | exact Nat.one_pos | assumption | omega) rfl ?_
    refine z_aload_n hX (D_Four_redo (i := 35) rfl) rfl ?_
    refine z_getc hX (D_Four_redo (i := 36) rfl) f_Four_45 rfl (by decide) (by first | exact Nat.one_pos | assumption | omega) rfl ?_
    refine z_geti hX (D_Four_redo (i := 37) rfl) f_Four_234 rfl (by decide) (by first | exact Nat.one_pos | assumption | omega) rfl ?_
    rw [show (upI (upI mem 3 k f (mem.1 26 0 d)) 23 0 3 (nI (d + 1))).1 23 0 4 = nI e by simp [upI_get, p2], show (upI (upI mem 3 k f (mem.1 26 0 d)) 23 0 3 (nI (d + 1))).1 23 0 3 = nI (d + 1) by simp [upI_get]]
    refine z_isub hX (D_Four_redo (i := 38) rfl) ?_
    rw [pk_sub (by omega)]
    exact z_iret hX hR (D_Four_redo (i := 39) rfl) rfl hh
theorem c_Four_paint (hH : zHas ι pX) (hs : mem.1 0 0 1 = nI sz) (h8 : sz ≤ 8) {d : Nat} (hd : mem.1 23 0 3 = nI d) (h40 : d ≤ 40) (hno : (fcB x sz && inN y 7) = false → Post (some (zI (-1))) mem) (hsame : ∀ k f, k < sz → f < 6 → x = nI (10 * k + f) → inN y 7 = true → y = mem.1 3 k f → Post (some (zI (mem.1 3 k f))) mem) (hok : ∀ k f, k < sz → f < 6 → x = nI (10 * k + f) → inN y 7 = true → ¬ y = mem.1 3 k f → d < 40 → Post (some (zI (mem.1 3 k f))) (upI (adM mem d x (mem.1 3 k f) y) 3 k f y)) (hfull : ∀ k f, k < sz → f < 6 → x = nI (10 * k + f) → inN y 7 = true → ¬ y = mem.1 3 k f → d = 40 → Post (some (zI (mem.1 3 k f))) (upI (adM (upI (fgM mem 40) 23 0 3 (nI 39)) 39 x (mem.1 3 k f) y) 3 k f y)) : zC l ι M_Four_paint 2 [zP 0 0, zI x, zI y] mem Post := by
  refine z_enter hH (by decide) (by simp [z_ent, M_Four_paint]) (fun X hXl hX hR => ?_)
  refine z_aload_n hX (D_Four_paint (i := 0) rfl) rfl ?_
  refine z_iload_n hX (D_Four_paint (i := 1) rfl) rfl ?_
  refine z_cV1 hX (D_Four_paint (i := 2) rfl) mi_Four_isFace l_Four_95 rfl rfl (by decide) (by first | exact Nat.one_pos | assumption | omega) (by first | decide | omega) (Nat.le_of_ble_eq_true rfl) (c_Four_isFace hH hs h8 ?_)
  refine z_if_eq (tgt := 18) hX (D_Four_paint (i := 3) rfl) (by decide) (fun h1 => ?_) (fun h1 => ?_)
  · refine z_iconst (v := -1) hX (D_Four_paint (i := 9) rfl) (by decide) ?_
    exact z_iret hX hR (D_Four_paint (i := 10) rfl) rfl (hno (by rw [bI_0.mp h1]; rfl))
  · refine z_iload_n hX (D_Four_paint (i := 4) rfl) rfl ?_
    refine z_if_lt (tgt := 18) hX (D_Four_paint (i := 5) rfl) (by decide) (fun h2 => ?_) (fun h2 => ?_)
    · refine z_iconst (v := -1) hX (D_Four_paint (i := 9) rfl) (by decide) ?_
      exact z_iret hX hR (D_Four_paint (i := 10) rfl) rfl (hno (by rw [inN_lo h2]; simp))
    · refine z_iload_n hX (D_Four_paint (i := 6) rfl) rfl ?_
      refine z_bipush (v := 6) hX (D_Four_paint (i := 7) rfl) (by decide) ?_
      refine z_icmp_le (tgt := 20) hX (D_Four_paint (i := 8) rfl) (by decide) (fun h3 => ?_) (fun h3 => ?_)
      · skip
        obtain ⟨k, f, hk, hf, rfl⟩ := fcB_ex (bI_n.mp h1)
        have hk8 : k < 8 := by omega
        have hy := inN_in (n := 7) h2 ((leT (n := 6) (by decide)).mp h3) (by decide)
        refine z_aload_n hX (D_Four_paint (i := 11) rfl) rfl ?_
        refine z_iload_n hX (D_Four_paint (i := 12) rfl) rfl ?_
        refine z_cV1 hX (D_Four_paint (i := 13) rfl) mi_Four_colourAt l_Four_98 rfl rfl (by decide) (by first | exact Nat.one_pos | assumption | omega) (by first | decide | omega) (Nat.le_of_ble_eq_true rfl) (c_Four_colourAt hH hk8 hf ?_)
        refine z_istore_n hX (D_Four_paint (i := 14) rfl) (by decide) rfl ?_
        refine z_iload_n hX (D_Four_paint (i := 15) rfl) rfl ?_
        refine z_iload_n hX (D_Four_paint (i := 16) rfl) rfl ?_
        refine z_icmp_eq (tgt := 47) hX (D_Four_paint (i := 17) rfl) (by decide) (fun h4 => ?_) (fun h4 => ?_)
        · refine z_iload_n hX (D_Four_paint (i := 28) rfl) rfl ?_
          exact z_iret hX hR (D_Four_paint (i := 29) rfl) rfl (hsame k f hk hf rfl hy h4)
        · refine z_aload_n hX (D_Four_paint (i := 18) rfl) rfl ?_
          refine z_getc hX (D_Four_paint (i := 19) rfl) f_Four_45 rfl (by decide) (by first | exact Nat.one_pos | assumption | omega) rfl ?_
          refine z_iload_n hX (D_Four_paint (i := 20) rfl) rfl ?_
          refine z_iload_n hX (D_Four_paint (i := 21) rfl) rfl ?_
          refine z_iload_n hX (D_Four_paint (i := 22) rfl) rfl ?_
          by_cases h5 : d < 40
          · refine z_cV3 hX (D_Four_paint (i := 23) rfl) mi_Past_add l_Four_102 rfl rfl (by decide) (by first | exact Nat.one_pos | assumption | omega) (by first | decide | omega) (Nat.le_of_ble_eq_true rfl) (c_Past_add hH h5 hd ?_)
            refine z_aload_n hX (D_Four_paint (i := 24) rfl) rfl ?_
            refine z_iload_n hX (D_Four_paint (i := 25) rfl) rfl ?_
            refine z_iload_n hX (D_Four_paint (i := 26) rfl) rfl ?_
            refine z_cV2 hX (D_Four_paint (i := 27) rfl) mi_Four_setColour l_Four_106 rfl rfl (by decide) (by first | exact Nat.one_pos | assumption | omega) (by first | decide | omega) (Nat.le_of_ble_eq_true rfl) (c_Four_setColour hH hk8 hf ?_)
            refine z_iload_n hX (D_Four_paint (i := 28) rfl) rfl ?_
            exact z_iret hX hR (D_Four_paint (i := 29) rfl) rfl (hok k f hk hf rfl hy h4 h5)
          · obtain rfl : d = 40 := by omega
            refine z_cV3 hX (D_Four_paint (i := 23) rfl) mi_Past_add l_Four_102 rfl rfl (by decide) (by first | exact Nat.one_pos | assumption | omega) (by first | decide | omega) (Nat.le_of_ble_eq_true rfl) (c_Past_add_full hH hd ?_)
            refine z_aload_n hX (D_Four_paint (i := 24) rfl) rfl ?_
            refine z_iload_n hX (D_Four_paint (i := 25) rfl) rfl ?_
            refine z_iload_n hX (D_Four_paint (i := 26) rfl) rfl ?_
            refine z_cV2 hX (D_Four_paint (i := 27) rfl) mi_Four_setColour l_Four_106 rfl rfl (by decide) (by first | exact Nat.one_pos | assumption | omega) (by first | decide | omega) (Nat.le_of_ble_eq_true rfl) (c_Four_setColour hH hk8 hf ?_)
            refine z_iload_n hX (D_Four_paint (i := 28) rfl) rfl ?_
            exact z_iret hX hR (D_Four_paint (i := 29) rfl) rfl (hfull k f hk hf rfl hy h4 rfl)
      · refine z_iconst (v := -1) hX (D_Four_paint (i := 9) rfl) (by decide) ?_
        exact z_iret hX hR (D_Four_paint (i := 10) rfl) rfl (hno (by rw [inN_hi (n := 7) (Classical.byContradiction (fun w => h3 ((leT (n := 6) (by decide)).mpr w))) (by decide)]; simp))
end F7
