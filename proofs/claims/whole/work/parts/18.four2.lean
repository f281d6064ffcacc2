/-! more calls -/
section F6
variable {l : Launch} {ι : zE} {mem : zM} {Post : Option zV → zM → Prop} {x y z : Int32} {sz : Nat}
def siB (j : Nat) : Bool := decide (j / 100 < 6 ∧ j / 10 % 10 < 6 ∧ j % 10 < 6)
theorem c_Four_sight (hH : zHas ι pX) (hs : mem.1 0 0 1 = nI sz) (h8 : sz ≤ 8) (hno : (x < 0 ∨ (∃ j : Nat, j < 2 ^ 31 ∧ x = nI j ∧ siB j = false) ∨ (inN y sz = false ∧ ¬ y = -1)) → Post (some (zI (-1))) mem) (hok : ∀ j k, j < 2 ^ 31 → x = nI j → siB j = true → k < sz → y = nI k → Post (some (zI (mkI (tsC mem k (nI j)) 24))) mem) (hall : ∀ j, j < 2 ^ 31 → x = nI j → siB j = true → y = -1 → Post (some (zI (mkI (fun k => decide (¬ mkI (tsC mem k (nI j)) 24 = 0)) sz))) mem) : zC l ι M_Four_sight 3 [zP 0 0, zI x, zI y] mem Post := by
  refine z_enter hH (by decide) (by simp [z_ent, M_Four_sight]) (fun X hXl hX hR => ?_)
  refine z_iload_n hX (D_Four_sight (i := 0) rfl) rfl ?_
  refine z_if_lt (tgt := 34) hX (D_Four_sight (i := 1) rfl) (by decide) (fun h1 => ?_) (fun h1 => ?_)
  · refine z_iconst (v := -1) hX (D_Four_sight (i := 19) rfl) (by decide) ?_
    exact z_iret hX hR (D_Four_sight (i := 20) rfl) rfl (hno (Or.inl h1))
  · skip
    obtain ⟨j, hj, rfl⟩ := nI_of h1
    have bad : siB j = false → zW ι M_Four_sight X 34 [some (zP 0 0), some (zI (nI j)), some (zI y), none, none] [] mem := by
      intro hb
      refine z_iconst (v := -1) hX (D_Four_sight (i := 19) rfl) (by decide) ?_
      exact z_iret hX hR (D_Four_sight (i := 20) rfl) rfl (hno (Or.inr (Or.inl ⟨j, hj, rfl, hb⟩)))
    refine z_iload_n hX (D_Four_sight (i := 2) rfl) rfl ?_
    refine z_bipush (v := 100) hX (D_Four_sight (i := 3) rfl) (by decide) ?_
    refine z_idiv hX (D_Four_sight (i := 4) rfl) (by decide) ?_
    rw [nlit, pk_div hj (by decide) (by decide)]
    refine z_bipush (v := 6) hX (D_Four_sight (i := 5) rfl) (by decide) ?_
    refine z_icmp_ge (tgt := 34) hX (D_Four_sight (i := 6) rfl) (by decide) (fun h2 => ?_) (fun h2 => ?_)
    · skip
      exact bad (decide_eq_false (fun z => absurd h2 (nI_ge (b := 6) z.1 (by decide))))
    · refine z_iload_n hX (D_Four_sight (i := 7) rfl) rfl ?_
      refine z_bipush (v := 10) hX (D_Four_sight (i := 8) rfl) (by decide) ?_
      refine z_idiv hX (D_Four_sight (i := 9) rfl) (by decide) ?_
      rw [nlit, pk_div hj (by decide) (by decide)]
      refine z_bipush (v := 10) hX (D_Four_sight (i := 10) rfl) (by decide) ?_
      refine z_irem hX (D_Four_sight (i := 11) rfl) (by decide) ?_
      rw [nlit, pk_rem (by omega) (by decide) (by decide)]
      refine z_bipush (v := 6) hX (D_Four_sight (i := 12) rfl) (by decide) ?_
      refine z_icmp_ge (tgt := 34) hX (D_Four_sight (i := 13) rfl) (by decide) (fun h3 => ?_) (fun h3 => ?_)
      · skip
        exact bad (decide_eq_false (fun z => absurd h3 (nI_ge (b := 6) z.2.1 (by decide))))
      · refine z_iload_n hX (D_Four_sight (i := 14) rfl) rfl ?_
        refine z_bipush (v := 10) hX (D_Four_sight (i := 15) rfl) (by decide) ?_
        refine z_irem hX (D_Four_sight (i := 16) rfl) (by decide) ?_
        rw [nlit, pk_rem hj (by decide) (by decide)]
        refine z_bipush (v := 6) hX (D_Four_sight (i := 17) rfl) (by decide) ?_
        refine z_icmp_lt (tgt := 36) hX (D_Four_sight (i := 18) rfl) (by decide) (fun h4 => ?_) (fun h4 => ?_)
        · skip
          have ok : siB j = true := by
            have a4 := (nI_ltI (b := 6) (by omega) (by decide)).mp h4
            have a2 := fun z => h2 ((nI_leI (a := 6) (by decide) (by omega)).mpr z)
            have a3 := fun z => h3 ((nI_leI (a := 6) (by decide) (by omega)).mpr z)
            exact decide_eq_true ⟨Nat.not_le.mp a2, Nat.not_le.mp a3, a4⟩
          refine z_aload_n hX (D_Four_sight (i := 21) rfl) rfl ?_
          refine z_iload_n hX (D_Four_sight (i := 22) rfl) rfl ?_
          refine z_cV1 hX (D_Four_sight (i := 23) rfl) mi_Four_isCube l_Four_110 rfl rfl (by decide) (by first | exact Nat.one_pos | assumption | omega) (by first | decide | omega) (Nat.le_of_ble_eq_true rfl) (c_Four_isCube hH hs h8 ?_)
          refine z_if_eq (tgt := 55) hX (D_Four_sight (i := 24) rfl) (by decide) (fun h5 => ?_) (fun h5 => ?_)
          · refine z_iload_n hX (D_Four_sight (i := 32) rfl) rfl ?_
            refine z_iconst (v := -1) hX (D_Four_sight (i := 33) rfl) (by decide) ?_
            refine z_icmp_eq (tgt := 62) hX (D_Four_sight (i := 34) rfl) (by decide) (fun h6 => ?_) (fun h6 => ?_)
            · skip
              have hh := hall j hj rfl ok h6
              refine z_iconst (v := 0) hX (D_Four_sight (i := 37) rfl) (by decide) ?_
              refine z_istore_n hX (D_Four_sight (i := 38) rfl) (by decide) rfl ?_
              refine z_iconst (v := 0) hX (D_Four_sight (i := 39) rfl) (by decide) ?_
              refine z_istore hX (D_Four_sight (i := 40) rfl) (by decide) rfl ?_
              suffices H : ∀ (d i : Nat), i + d = sz → zW ι M_Four_sight X 67 [some (zP 0 0), some (zI (nI j)), some (zI y), some (zI (mkI (fun k => decide (¬ mkI (tsC mem k (nI j)) 24 = 0)) i)), some (zI (nI i))] [] mem from H sz 0 (by omega)
              intro d
              induction d with
              | zero =>
                intro i hi
                obtain rfl : i = sz := by omega
                refine z_iload hX (D_Four_sight (i := 41) rfl) rfl ?_
                refine z_aload_n hX (D_Four_sight (i := 42) rfl) rfl ?_
                refine z_geti hX (D_Four_sight (i := 43) rfl) f_Four_67 rfl (by decide) (by first | exact Nat.one_pos | assumption | omega) rfl ?_
                rw [hs]
                refine z_icmp_ge (tgt := 103) hX (D_Four_sight (i := 44) rfl) (by decide) (fun _ => ?_) (fun hcc => absurd (Int32.le_refl _) hcc)
                refine z_iload_n hX (D_Four_sight (i := 60) rfl) rfl ?_
                exact z_iret hX hR (D_Four_sight (i := 61) rfl) rfl hh
              | succ d ih =>
                intro i hi
                have hi8 : i < 8 := by omega
                refine z_iload hX (D_Four_sight (i := 41) rfl) rfl ?_
                refine z_aload_n hX (D_Four_sight (i := 42) rfl) rfl ?_
                refine z_geti hX (D_Four_sight (i := 43) rfl) f_Four_67 rfl (by decide) (by first | exact Nat.one_pos | assumption | omega) rfl ?_
                rw [hs]
                refine z_icmp_ge (tgt := 103) hX (D_Four_sight (i := 44) rfl) (by decide) (fun hcc => absurd hcc (nI_ge (by omega) (by omega))) (fun _ => ?_)
                refine z_aload_n hX (D_Four_sight (i := 45) rfl) rfl ?_
                refine z_getc hX (D_Four_sight (i := 46) rfl) f_Four_11 rfl (by decide) (by first | exact Nat.one_pos | assumption | omega) rfl ?_
                refine z_iload hX (D_Four_sight (i := 47) rfl) rfl ?_
                refine z_aldCubec (j := i) hX (D_Four_sight (i := 48) rfl) rfl (by decide) (by first | exact Nat.one_pos | assumption | omega) (by decide) rfl hi8 ?_
                refine z_iload_n hX (D_Four_sight (i := 49) rfl) rfl ?_
                refine z_cV1 hX (D_Four_sight (i := 50) rfl) mi_Cube_turningsThatShow l_Four_225 rfl rfl (by decide) (by first | exact Nat.one_pos | assumption | omega) (by first | decide | omega) (Nat.le_of_ble_eq_true rfl) (c_Cube_turningsThatShow hH hi8 ?_)
                refine z_if_eq (tgt := 97) hX (D_Four_sight (i := 51) rfl) (by decide) (fun h7 => ?_) (fun h7 => ?_)
                · first | refine z_inc1 hX (D_Four_sight (i := 58) rfl) rfl (by decide) rfl ?_ | refine z_iinc hX (D_Four_sight (i := 58) rfl) rfl rfl (by decide) rfl ?_
                  refine z_goto (tgt := 67) hX (D_Four_sight (i := 59) rfl) (by decide) ?_
                  have e : mkI (fun k => decide (¬ mkI (tsC mem k (nI j)) 24 = 0)) (i + 1) = mkI (fun k => decide (¬ mkI (tsC mem k (nI j)) 24 = 0)) i := by
                    rw [mkI, if_neg]
                    simpa using h7
                  rw [← e]
                  exact ih (i + 1) (by omega)
                · refine z_iload_n hX (D_Four_sight (i := 52) rfl) rfl ?_
                  refine z_iconst (v := 1) hX (D_Four_sight (i := 53) rfl) (by decide) ?_
                  refine z_iload hX (D_Four_sight (i := 54) rfl) rfl ?_
                  refine z_ishl hX (D_Four_sight (i := 55) rfl) ?_
                  refine z_ior hX (D_Four_sight (i := 56) rfl) ?_
                  refine z_istore_n hX (D_Four_sight (i := 57) rfl) (by decide) rfl ?_
                  first | refine z_inc1 hX (D_Four_sight (i := 58) rfl) rfl (by decide) rfl ?_ | refine z_iinc hX (D_Four_sight (i := 58) rfl) rfl rfl (by decide) rfl ?_
                  refine z_goto (tgt := 67) hX (D_Four_sight (i := 59) rfl) (by decide) ?_
                  have e : mkI (fun k => decide (¬ mkI (tsC mem k (nI j)) 24 = 0)) (i + 1) = mkI (fun k => decide (¬ mkI (tsC mem k (nI j)) 24 = 0)) i ||| ((1 : Int32) <<< (nI i &&& 31)) := by
                    rw [mkI, if_pos (decide_eq_true h7)]
                  rw [← e]
                  exact ih (i + 1) (by omega)
            · refine z_iconst (v := -1) hX (D_Four_sight (i := 35) rfl) (by decide) ?_
              exact z_iret hX hR (D_Four_sight (i := 36) rfl) rfl (hno (Or.inr (Or.inr ⟨bI_0.mp h5, h6⟩)))
          · skip
            obtain ⟨k, hk, rfl⟩ := inN_ex (bI_n.mp h5) (by omega)
            have hk8 : k < 8 := by omega
            refine z_aload_n hX (D_Four_sight (i := 25) rfl) rfl ?_
            refine z_getc hX (D_Four_sight (i := 26) rfl) f_Four_11 rfl (by decide) (by first | exact Nat.one_pos | assumption | omega) rfl ?_
            refine z_iload_n hX (D_Four_sight (i := 27) rfl) rfl ?_
            refine z_aldCubec (j := k) hX (D_Four_sight (i := 28) rfl) rfl (by decide) (by first | exact Nat.one_pos | assumption | omega) (by decide) rfl hk8 ?_
            refine z_iload_n hX (D_Four_sight (i := 29) rfl) rfl ?_
            refine z_cV1 hX (D_Four_sight (i := 30) rfl) mi_Cube_turningsThatShow l_Four_225 rfl rfl (by decide) (by first | exact Nat.one_pos | assumption | omega) (by first | decide | omega) (Nat.le_of_ble_eq_true rfl) (c_Cube_turningsThatShow hH hk8 ?_)
            exact z_iret hX hR (D_Four_sight (i := 31) rfl) rfl (hok j k hj rfl ok hk rfl)
        · skip
          exact bad (decide_eq_false (fun z => absurd (nI_lt (b := 6) z.2.2 (by decide)) h4))
variable {nb : Nat}
theorem c_Four_body (hH : zHas ι pX) (hn : mem.1 27 0 1 = nI nb) (h50 : nb ≤ 50) (hno : inN x 8 = false → Post (some (zI (-1))) mem) (hfull : inN x 8 = true → nb = 50 → Post (some (zI (-3))) mem) (hok : inN x 8 = true → nb < 50 → Post (some (zI (nI nb))) (upI (upI mem 28 0 nb x) 27 0 1 (nI (nb + 1)))) : zC l ι M_Four_body 1 [zP 0 0, zI x] mem Post := by
  refine z_enter hH (by decide) (by simp [z_ent, M_Four_body]) (fun X hXl hX hR => ?_)
  refine z_iload_n hX (D_Four_body (i := 0) rfl) rfl ?_
  refine z_cS1 hX (D_Four_body (i := 1) rfl) ms_Four_isKind l_Four_247 (by first | decide | omega) (Nat.le_of_ble_eq_true rfl) (c_Four_isKind ?_)
  refine z_if_ne (tgt := 9) hX (D_Four_body (i := 2) rfl) (by decide) (fun h1 => ?_) (fun h1 => ?_)
  · refine z_aload_n hX (D_Four_body (i := 5) rfl) rfl ?_
    refine z_getc hX (D_Four_body (i := 6) rfl) f_Four_52 rfl (by decide) (by first | exact Nat.one_pos | assumption | omega) rfl ?_
    refine z_iload_n hX (D_Four_body (i := 7) rfl) rfl ?_
    by_cases hb : nb < 50
    · refine z_cV1 hX (D_Four_body (i := 8) rfl) mi_Bodies_add l_Four_250 rfl rfl (by decide) (by first | exact Nat.one_pos | assumption | omega) (by first | decide | omega) (Nat.le_of_ble_eq_true rfl) (c_Bodies_add hH hn hb ?_)
      exact z_iret hX hR (D_Four_body (i := 9) rfl) rfl (hok (bI_n.mp h1) hb)
    · obtain rfl : nb = 50 := by omega
      refine z_cV1 hX (D_Four_body (i := 8) rfl) mi_Bodies_add l_Four_250 rfl rfl (by decide) (by first | exact Nat.one_pos | assumption | omega) (by first | decide | omega) (Nat.le_of_ble_eq_true rfl) (c_Bodies_add_full hH hn ?_)
      exact z_iret hX hR (D_Four_body (i := 9) rfl) rfl (hfull (bI_n.mp h1) rfl)
  · refine z_iconst (v := -1) hX (D_Four_body (i := 3) rfl) (by decide) ?_
    exact z_iret hX hR (D_Four_body (i := 4) rfl) rfl (hno (bI_0.mp h1))
theorem c_Four_act (hH : zHas ι pX) (hn : mem.1 27 0 1 = nI nb) (h50 : nb ≤ 50) (hk : ∀ b, b < nb → ∃ κ, κ < 8 ∧ mem.1 28 0 b = nI κ) (hlen : ∀ (κ : Nat), κ < 8 → ∀ d, d < 4 → ∀ s w : Int32, (rfP 20 κ s κ d w).2.length < 1000000) (hno : (inN x nb && inN y 4) = false → Post (some (zI 0)) (upI mem 27 0 3 0)) (hok : ∀ b d κ, b < nb → d < 4 → κ < 8 → x = nI b → y = nI d → mem.1 28 0 b = nI κ → Post (some (zI (rfP 20 κ (nI b) κ d z).1)) (trM (upI (upI mem 27 0 3 0) 27 0 4 (nI b)) 0 (rfP 20 κ (nI b) κ d z).2)) : zC l ι M_Four_act 43 [zP 0 0, zI x, zI y, zI z] mem Post := by
  refine z_enter hH (by decide) (by simp [z_ent, M_Four_act]) (fun X hXl hX hR => ?_)
  refine z_aload_n hX (D_Four_act (i := 0) rfl) rfl ?_
  refine z_getc hX (D_Four_act (i := 1) rfl) f_Four_52 rfl (by decide) (by first | exact Nat.one_pos | assumption | omega) rfl ?_
  refine z_iload_n hX (D_Four_act (i := 2) rfl) rfl ?_
  refine z_iload_n hX (D_Four_act (i := 3) rfl) rfl ?_
  refine z_iload_n hX (D_Four_act (i := 4) rfl) rfl ?_
  cases hb : inN x nb && inN y 4 with
  | false =>
    refine z_cV3 hX (D_Four_act (i := 5) rfl) mi_Bodies_perform l_Four_252 rfl rfl (by decide) (by first | exact Nat.one_pos | assumption | omega) (by first | decide | omega) (Nat.le_of_ble_eq_true rfl) (c_Bodies_perform_no hH hn h50 hb ?_)
    exact z_iret hX hR (D_Four_act (i := 6) rfl) rfl (hno hb)
  | true =>
    rw [Bool.and_eq_true] at hb
    obtain ⟨b, hb1, rfl⟩ := inN_ex hb.1 (by omega)
    obtain ⟨d, hd, rfl⟩ := inN_ex hb.2 (by omega)
    obtain ⟨κ, h8, e⟩ := hk b hb1
    refine z_cV3 hX (D_Four_act (i := 5) rfl) mi_Bodies_perform l_Four_252 rfl rfl (by decide) (by first | exact Nat.one_pos | assumption | omega) (by first | decide | omega) (Nat.le_of_ble_eq_true rfl) (c_Bodies_perform hH hn h50 hb1 hd e h8 (hlen κ h8 d hd _ _) ?_)
    exact z_iret hX hR (D_Four_act (i := 6) rfl) rfl (hok b d κ hb1 hd h8 rfl rfl e)
theorem c_Four_trace (hH : zHas ι pX) {r : Nat} (hr : mem.1 27 0 3 = nI r) (h3 : r < 2 ^ 31) (hno : inN x (if 24 < r then 24 else r) = false → Post (some (zI (-1))) mem) (hok : ∀ i, i < (if 24 < r then 24 else r) → x = nI i → Post (some (zI (mem.1 29 0 i))) mem) : zC l ι M_Four_trace 2 [zP 0 0, zI x] mem Post := by
  have h24 : (if 24 < r then 24 else r) ≤ 24 := by split <;> omega
  refine z_enter hH (by decide) (by simp [z_ent, M_Four_trace]) (fun X hXl hX hR => ?_)
  refine z_iload_n hX (D_Four_trace (i := 0) rfl) rfl ?_
  refine z_if_lt (tgt := 15) hX (D_Four_trace (i := 1) rfl) (by decide) (fun h1 => ?_) (fun h1 => ?_)
  · refine z_iconst (v := -1) hX (D_Four_trace (i := 7) rfl) (by decide) ?_
    refine z_goto (tgt := 28) hX (D_Four_trace (i := 8) rfl) (by decide) ?_
    exact z_iret hX hR (D_Four_trace (i := 14) rfl) rfl (hno (inN_lo h1))
  · refine z_iload_n hX (D_Four_trace (i := 2) rfl) rfl ?_
    refine z_aload_n hX (D_Four_trace (i := 3) rfl) rfl ?_
    refine z_getc hX (D_Four_trace (i := 4) rfl) f_Four_52 rfl (by decide) (by first | exact Nat.one_pos | assumption | omega) rfl ?_
    refine z_cV0 hX (D_Four_trace (i := 5) rfl) mi_Bodies_traced l_Four_256 rfl rfl (by decide) (by first | exact Nat.one_pos | assumption | omega) (by first | decide | omega) (Nat.le_of_ble_eq_true rfl) (c_Bodies_traced hH hr h3 ?_)
    refine z_icmp_lt (tgt := 19) hX (D_Four_trace (i := 6) rfl) (by decide) (fun h2 => ?_) (fun h2 => ?_)
    · skip
      obtain ⟨i, hi, rfl⟩ := inN_ex (inN_in h1 (ltT.mp h2) (by omega)) (by omega)
      refine z_aload_n hX (D_Four_trace (i := 9) rfl) rfl ?_
      refine z_getc hX (D_Four_trace (i := 10) rfl) f_Four_52 rfl (by decide) (by first | exact Nat.one_pos | assumption | omega) rfl ?_
      refine z_getc hX (D_Four_trace (i := 11) rfl) f_Four_259 rfl (by decide) (by first | exact Nat.one_pos | assumption | omega) rfl ?_
      refine z_iload_n hX (D_Four_trace (i := 12) rfl) rfl ?_
      refine z_iald (j := i) hX (D_Four_trace (i := 13) rfl) rfl (by decide) (by first | exact Nat.one_pos | assumption | omega) (by decide) rfl (by omega) ?_
      exact z_iret hX hR (D_Four_trace (i := 14) rfl) rfl (hok i hi rfl)
    · refine z_iconst (v := -1) hX (D_Four_trace (i := 7) rfl) (by decide) ?_
      refine z_goto (tgt := 28) hX (D_Four_trace (i := 8) rfl) (by decide) ?_
      exact z_iret hX hR (D_Four_trace (i := 14) rfl) rfl (hno (inN_hi (Int32.not_lt.mp h2) (by omega)))
theorem c_Four_keep (hH : zHas ι pX) (hn : mem.1 27 0 1 = nI nb) (h50 : nb ≤ 50) (hno : (inN x 6 = false ∨ (¬ y = -1 ∧ inN y nb = false)) → Post (some (zI (-1))) mem) (hclr : ∀ k, k < 6 → x = nI k → y = -1 → Post (some (zI 1)) (upI mem 31 k 0 0)) (hok : ∀ k b, k < 6 → b < nb → x = nI k → y = nI b → Post (some (zI 1)) (upI (upI mem 31 k 0 1) 31 k 1 (nI b))) : zC l ι M_Four_keep 1 [zP 0 0, zI x, zI y] mem Post := by
  refine z_enter hH (by decide) (by simp [z_ent, M_Four_keep]) (fun X hXl hX hR => ?_)
  refine z_iload_n hX (D_Four_keep (i := 0) rfl) rfl ?_
  refine z_cS1 hX (D_Four_keep (i := 1) rfl) ms_Four_isShelf l_Four_75 (by first | decide | omega) (Nat.le_of_ble_eq_true rfl) (c_Four_isShelf ?_)
  refine z_if_eq (tgt := 23) hX (D_Four_keep (i := 2) rfl) (by decide) (fun h1 => ?_) (fun h1 => ?_)
  · refine z_iconst (v := -1) hX (D_Four_keep (i := 11) rfl) (by decide) ?_
    exact z_iret hX hR (D_Four_keep (i := 12) rfl) rfl (hno (Or.inl (bI_0.mp h1)))
  · skip
    obtain ⟨k, hk, rfl⟩ := inN_ex (bI_n.mp h1) (by omega)
    refine z_iload_n hX (D_Four_keep (i := 3) rfl) rfl ?_
    refine z_iconst (v := -1) hX (D_Four_keep (i := 4) rfl) (by decide) ?_
    refine z_icmp_lt (tgt := 23) hX (D_Four_keep (i := 5) rfl) (by decide) (fun h2 => ?_) (fun h2 => ?_)
    · refine z_iconst (v := -1) hX (D_Four_keep (i := 11) rfl) (by decide) ?_
      refine z_iret hX hR (D_Four_keep (i := 12) rfl) rfl (hno (Or.inr ⟨fun e => ?_, inN_lo ?_⟩))
      · rw [e] at h2; exact absurd h2 (by decide)
      · have a1 := Int32.lt_iff_toInt_lt.mp h2
        have a2 : (-1 : Int32).toInt = -1 := rfl
        exact Int32.lt_iff_toInt_lt.mpr (by rw [i32_0]; omega)
    · refine z_iload_n hX (D_Four_keep (i := 6) rfl) rfl ?_
      refine z_aload_n hX (D_Four_keep (i := 7) rfl) rfl ?_
      refine z_getc hX (D_Four_keep (i := 8) rfl) f_Four_52 rfl (by decide) (by first | exact Nat.one_pos | assumption | omega) rfl ?_
      refine z_geti hX (D_Four_keep (i := 9) rfl) f_Four_262 rfl (by decide) (by first | exact Nat.one_pos | assumption | omega) rfl ?_
      rw [hn]
      refine z_icmp_lt (tgt := 25) hX (D_Four_keep (i := 10) rfl) (by decide) (fun h3 => ?_) (fun h3 => ?_)
      · refine z_iload_n hX (D_Four_keep (i := 13) rfl) rfl ?_
        refine z_if_ge (tgt := 41) hX (D_Four_keep (i := 14) rfl) (by decide) (fun h4 => ?_) (fun h4 => ?_)
        · skip
          obtain ⟨b, hb, rfl⟩ := inN_ex (inN_in (fun w => absurd h4 (Int32.not_le.mpr w)) (ltT.mp h3) (by omega)) (by omega)
          refine z_aload_n hX (D_Four_keep (i := 21) rfl) rfl ?_
          refine z_getc hX (D_Four_keep (i := 22) rfl) f_Four_58 rfl (by decide) (by first | exact Nat.one_pos | assumption | omega) rfl ?_
          refine z_iload_n hX (D_Four_keep (i := 23) rfl) rfl ?_
          refine z_aldShelfc (j := k) hX (D_Four_keep (i := 24) rfl) rfl (by decide) (by first | exact Nat.one_pos | assumption | omega) (by decide) rfl hk ?_
          refine z_iload_n hX (D_Four_keep (i := 25) rfl) rfl ?_
          refine z_cV1 hX (D_Four_keep (i := 26) rfl) mi_Shelf_holdBody l_Four_266 rfl rfl (by decide) (by first | exact Nat.one_pos | assumption | omega) (by first | decide | omega) (Nat.le_of_ble_eq_true rfl) (c_Shelf_holdBody hH hk ?_)
          refine z_iconst (v := 1) hX (D_Four_keep (i := 27) rfl) (by decide) ?_
          exact z_iret hX hR (D_Four_keep (i := 28) rfl) rfl (hok k b hk hb rfl rfl)
        · skip
          have e : y = -1 := by
            have a1 : ¬ y.toInt < (-1 : Int32).toInt := fun w => h2 (Int32.lt_iff_toInt_lt.mpr w)
            have a2 : ¬ (0 : Int32).toInt ≤ y.toInt := fun w => h4 (Int32.le_iff_toInt_le.mpr w)
            have a3 : (-1 : Int32).toInt = -1 := rfl
            rw [i32_0] at a2
            refine Int32.toInt_inj.mp ?_
            omega
          refine z_aload_n hX (D_Four_keep (i := 15) rfl) rfl ?_
          refine z_getc hX (D_Four_keep (i := 16) rfl) f_Four_58 rfl (by decide) (by first | exact Nat.one_pos | assumption | omega) rfl ?_
          refine z_iload_n hX (D_Four_keep (i := 17) rfl) rfl ?_
          refine z_aldShelfc (j := k) hX (D_Four_keep (i := 18) rfl) rfl (by decide) (by first | exact Nat.one_pos | assumption | omega) (by decide) rfl hk ?_
          refine z_cV0 hX (D_Four_keep (i := 19) rfl) mi_Shelf_clear l_Four_263 rfl rfl (by decide) (by first | exact Nat.one_pos | assumption | omega) (by first | decide | omega) (Nat.le_of_ble_eq_true rfl) (c_Shelf_clear hH hk ?_)
          refine z_goto (tgt := 51) hX (D_Four_keep (i := 20) rfl) (by decide) ?_
          refine z_iconst (v := 1) hX (D_Four_keep (i := 27) rfl) (by decide) ?_
          exact z_iret hX hR (D_Four_keep (i := 28) rfl) rfl (hclr k hk rfl e)
      · refine z_iconst (v := -1) hX (D_Four_keep (i := 11) rfl) (by decide) ?_
        have a1 := Int32.not_lt.mp h3
        refine z_iret hX hR (D_Four_keep (i := 12) rfl) rfl (hno (Or.inr ⟨fun e => ?_, inN_hi a1 (by omega)⟩))
        rw [e] at a1
        have a2 := Int32.le_iff_toInt_le.mp a1
        rw [nI_toInt (by omega)] at a2
        have a3 : (-1 : Int32).toInt = -1 := rfl
        omega
theorem c_Four_row (hH : zHas ι pX) (hno : (inN x 6 = false ∨ inN y 5 = false ∨ nI 61 ≤ z) → Post (some (zI (-1))) mem) (hneg : inN x 6 = true → inN y 5 = true → z < 0 → Post (some (zI (-14))) mem) (hok : ∀ k s n, k < 6 → s < 5 → n ≤ 60 → x = nI k → y = nI s → z = nI n → Post (some (zI 1)) (flJ (upI (upI (upI mem 31 k 0 2) 31 k 2 (nI s)) 31 k 3 (nI n)) 32 k 60 0)) : zC l ι M_Four_row 2 [zP 0 0, zI x, zI y, zI z] mem Post := by
  refine z_enter hH (by decide) (by simp [z_ent, M_Four_row]) (fun X hXl hX hR => ?_)
  refine z_iload_n hX (D_Four_row (i := 0) rfl) rfl ?_
  refine z_cS1 hX (D_Four_row (i := 1) rfl) ms_Four_isShelf l_Four_75 (by first | decide | omega) (Nat.le_of_ble_eq_true rfl) (c_Four_isShelf ?_)
  refine z_if_eq (tgt := 22) hX (D_Four_row (i := 2) rfl) (by decide) (fun h1 => ?_) (fun h1 => ?_)
  · refine z_iconst (v := -1) hX (D_Four_row (i := 11) rfl) (by decide) ?_
    exact z_iret hX hR (D_Four_row (i := 12) rfl) rfl (hno (Or.inl (bI_0.mp h1)))
  · refine z_iload_n hX (D_Four_row (i := 3) rfl) rfl ?_
    refine z_if_lt (tgt := 22) hX (D_Four_row (i := 4) rfl) (by decide) (fun h2 => ?_) (fun h2 => ?_)
    · refine z_iconst (v := -1) hX (D_Four_row (i := 11) rfl) (by decide) ?_
      exact z_iret hX hR (D_Four_row (i := 12) rfl) rfl (hno (Or.inr (Or.inl (inN_lo h2))))
    · refine z_iload_n hX (D_Four_row (i := 5) rfl) rfl ?_
      refine z_iconst (v := 5) hX (D_Four_row (i := 6) rfl) (by decide) ?_
      refine z_icmp_ge (tgt := 22) hX (D_Four_row (i := 7) rfl) (by decide) (fun h3 => ?_) (fun h3 => ?_)
      · refine z_iconst (v := -1) hX (D_Four_row (i := 11) rfl) (by decide) ?_
        exact z_iret hX hR (D_Four_row (i := 12) rfl) rfl (hno (Or.inr (Or.inl (inN_hi (n := 5) h3 (by decide)))))
      · refine z_iload_n hX (D_Four_row (i := 8) rfl) rfl ?_
        refine z_bipush (v := 60) hX (D_Four_row (i := 9) rfl) (by decide) ?_
        refine z_icmp_le (tgt := 24) hX (D_Four_row (i := 10) rfl) (by decide) (fun h4 => ?_) (fun h4 => ?_)
        · refine z_iload_n hX (D_Four_row (i := 13) rfl) rfl ?_
          have h5 := leT (n := 60) (by decide) |>.mp h4
          refine z_if_ge (tgt := 31) hX (D_Four_row (i := 14) rfl) (by decide) (fun h6 => ?_) (fun h6 => ?_)
          · skip
            obtain ⟨k, hk, rfl⟩ := inN_ex (bI_n.mp h1) (by omega)
            obtain ⟨s, hs, rfl⟩ := inN_ex (inN_in (n := 5) h2 h3 (by decide)) (by omega)
            obtain ⟨n, hn, rfl⟩ := inN_ex (inN_in (n := 61) (fun w => absurd h6 (Int32.not_le.mpr w)) h5 (by decide)) (by omega)
            refine z_aload_n hX (D_Four_row (i := 17) rfl) rfl ?_
            refine z_getc hX (D_Four_row (i := 18) rfl) f_Four_58 rfl (by decide) (by first | exact Nat.one_pos | assumption | omega) rfl ?_
            refine z_iload_n hX (D_Four_row (i := 19) rfl) rfl ?_
            refine z_aldShelfc (j := k) hX (D_Four_row (i := 20) rfl) rfl (by decide) (by first | exact Nat.one_pos | assumption | omega) (by decide) rfl hk ?_
            refine z_iload_n hX (D_Four_row (i := 21) rfl) rfl ?_
            refine z_iload_n hX (D_Four_row (i := 22) rfl) rfl ?_
            refine z_cV2 hX (D_Four_row (i := 23) rfl) mi_Shelf_holdRow l_Four_269 rfl rfl (by decide) (by first | exact Nat.one_pos | assumption | omega) (by first | decide | omega) (Nat.le_of_ble_eq_true rfl) (c_Shelf_holdRow hH hk ?_)
            refine z_iconst (v := 1) hX (D_Four_row (i := 24) rfl) (by decide) ?_
            exact z_iret hX hR (D_Four_row (i := 25) rfl) rfl (hok k s n hk hs (by omega) rfl rfl rfl)
          · refine z_bipush (v := -14) hX (D_Four_row (i := 15) rfl) (by decide) ?_
            exact z_iret hX hR (D_Four_row (i := 16) rfl) rfl (hneg (bI_n.mp h1) (inN_in (n := 5) h2 h3 (by decide)) (Int32.not_le.mp h6))
        · refine z_iconst (v := -1) hX (D_Four_row (i := 11) rfl) (by decide) ?_
          refine z_iret hX hR (D_Four_row (i := 12) rfl) rfl (hno (Or.inr (Or.inr (Classical.byContradiction (fun w => h4 (leT (n := 60) (by decide) |>.mpr w))))))
def rfV (mem : zM) (x i : Int32) : Int32 := if inN x 6 = true then (if mem.1 31 x.toNatClampNeg 0 = 0 then -11 else if ¬ mem.1 31 x.toNatClampNeg 0 = 2 then -12 else if inN i (mem.1 31 x.toNatClampNeg 3).toNatClampNeg = true then 0 else -13) else -1
theorem c_Four_refusalOf (hH : zHas ι pX) (hS : ShOK mem) (h : Post (some (zI (rfV mem x y))) mem) : zC l ι M_Four_refusalOf 1 [zP 0 0, zI x, zI y] mem Post := by
  unfold rfV at h
  refine z_enter hH (by decide) (by simp [z_ent, M_Four_refusalOf]) (fun X hXl hX hR => ?_)
  refine z_iload_n hX (D_Four_refusalOf (i := 0) rfl) rfl ?_
  refine z_cS1 hX (D_Four_refusalOf (i := 1) rfl) ms_Four_isShelf l_Four_75 (by first | decide | omega) (Nat.le_of_ble_eq_true rfl) (c_Four_isShelf ?_)
  refine z_if_ne (tgt := 9) hX (D_Four_refusalOf (i := 2) rfl) (by decide) (fun h1 => ?_) (fun h1 => ?_)
  · skip
    rw [if_pos (bI_n.mp h1)] at h
    obtain ⟨k, hk, rfl⟩ := inN_ex (bI_n.mp h1) (by omega)
    rw [nI_clamp (by omega)] at h
    obtain ⟨L, s, hL, h5, e3, e2⟩ := hS k hk
    rw [e3, nI_clamp (by omega)] at h
    refine z_aload_n hX (D_Four_refusalOf (i := 5) rfl) rfl ?_
    refine z_getc hX (D_Four_refusalOf (i := 6) rfl) f_Four_58 rfl (by decide) (by first | exact Nat.one_pos | assumption | omega) rfl ?_
    refine z_iload_n hX (D_Four_refusalOf (i := 7) rfl) rfl ?_
    refine z_aldShelfc (j := k) hX (D_Four_refusalOf (i := 8) rfl) rfl (by decide) (by first | exact Nat.one_pos | assumption | omega) (by decide) rfl hk ?_
    refine z_astore_n hX (D_Four_refusalOf (i := 9) rfl) (by decide) rfl ?_
    refine z_aload_n hX (D_Four_refusalOf (i := 10) rfl) rfl ?_
    refine z_cV0 hX (D_Four_refusalOf (i := 11) rfl) mi_Shelf_isBare l_Four_78 rfl rfl (by decide) (by first | exact Nat.one_pos | assumption | omega) (by first | decide | omega) (Nat.le_of_ble_eq_true rfl) (c_Shelf_isBare hH hk ?_)
    refine z_if_eq (tgt := 26) hX (D_Four_refusalOf (i := 12) rfl) (by decide) (fun h2 => ?_) (fun h2 => ?_)
    · refine z_aload_n hX (D_Four_refusalOf (i := 15) rfl) rfl ?_
      rw [if_neg (of_decide_eq_false (bI_0.mp h2))] at h
      refine z_cV0 hX (D_Four_refusalOf (i := 16) rfl) mi_Shelf_isRow l_Four_82 rfl rfl (by decide) (by first | exact Nat.one_pos | assumption | omega) (by first | decide | omega) (Nat.le_of_ble_eq_true rfl) (c_Shelf_isRow hH hk ?_)
      refine z_if_ne (tgt := 36) hX (D_Four_refusalOf (i := 17) rfl) (by decide) (fun h3 => ?_) (fun h3 => ?_)
      · refine z_iload_n hX (D_Four_refusalOf (i := 20) rfl) rfl ?_
        rw [if_neg (fun w => w (of_decide_eq_true (bI_n.mp h3)))] at h
        refine z_if_lt (tgt := 48) hX (D_Four_refusalOf (i := 21) rfl) (by decide) (fun h4 => ?_) (fun h4 => ?_)
        · refine z_bipush (v := -13) hX (D_Four_refusalOf (i := 26) rfl) (by decide) ?_
          refine z_goto (tgt := 54) hX (D_Four_refusalOf (i := 27) rfl) (by decide) ?_
          rw [if_neg (by rw [inN_lo h4]; decide)] at h
          exact z_iret hX hR (D_Four_refusalOf (i := 29) rfl) rfl (by assumption)
        · refine z_iload_n hX (D_Four_refusalOf (i := 22) rfl) rfl ?_
          refine z_aload_n hX (D_Four_refusalOf (i := 23) rfl) rfl ?_
          refine z_geti hX (D_Four_refusalOf (i := 24) rfl) f_Four_312 rfl (by decide) (by first | exact Nat.one_pos | assumption | omega) rfl ?_
          rw [e3]
          refine z_icmp_lt (tgt := 53) hX (D_Four_refusalOf (i := 25) rfl) (by decide) (fun h6 => ?_) (fun h6 => ?_)
          · refine z_iconst (v := 0) hX (D_Four_refusalOf (i := 28) rfl) (by decide) ?_
            rw [if_pos (inN_in h4 (ltT.mp h6) (by omega))] at h
            exact z_iret hX hR (D_Four_refusalOf (i := 29) rfl) rfl (by assumption)
          · refine z_bipush (v := -13) hX (D_Four_refusalOf (i := 26) rfl) (by decide) ?_
            refine z_goto (tgt := 54) hX (D_Four_refusalOf (i := 27) rfl) (by decide) ?_
            rw [if_neg (by rw [inN_hi (Int32.not_lt.mp h6) (by omega)]; decide)] at h
            exact z_iret hX hR (D_Four_refusalOf (i := 29) rfl) rfl (by assumption)
      · refine z_bipush (v := -12) hX (D_Four_refusalOf (i := 18) rfl) (by decide) ?_
        rw [if_pos (of_decide_eq_false (bI_0.mp h3))] at h
        exact z_iret hX hR (D_Four_refusalOf (i := 19) rfl) rfl (by assumption)
    · refine z_bipush (v := -11) hX (D_Four_refusalOf (i := 13) rfl) (by decide) ?_
      rw [if_pos (of_decide_eq_true (bI_n.mp h2))] at h
      exact z_iret hX hR (D_Four_refusalOf (i := 14) rfl) rfl (by assumption)
  · refine z_iconst (v := -1) hX (D_Four_refusalOf (i := 3) rfl) (by decide) ?_
    rw [if_neg (by rw [bI_0.mp h1]; decide)] at h
    exact z_iret hX hR (D_Four_refusalOf (i := 4) rfl) rfl (by assumption)
theorem rfV_0 {mem : zM} {x i : Int32} (hS : ShOK mem) (h : rfV mem x i = 0) : ∃ k j L s : Nat, k < 6 ∧ x = nI k ∧ j < L ∧ L ≤ 60 ∧ s < 5 ∧ i = nI j ∧ mem.1 31 k 0 = 2 ∧ mem.1 31 k 3 = nI L ∧ mem.1 31 k 2 = nI s := by
  unfold rfV at h
  split at h
  · next h1 =>
    obtain ⟨k, hk, rfl⟩ := inN_ex h1 (by omega)
    rw [nI_clamp (by omega)] at h
    obtain ⟨L, s, hL, h5, e3, e2⟩ := hS k hk
    rw [e3, nI_clamp (by omega)] at h
    split at h
    · exact absurd h (by decide)
    · split at h
      · exact absurd h (by decide)
      · next h3 =>
        split at h
        · next h4 =>
          obtain ⟨j, hj, rfl⟩ := inN_ex h4 (by omega)
          exact ⟨k, j, L, s, hk, rfl, hj, hL, h5, rfl, Classical.not_not.mp h3, e3, e2⟩
        · exact absurd h (by decide)
  · exact absurd h (by decide)
theorem c_Four_put (hH : zHas ι pX) (hS : ShOK mem) {v : Int64} (hno : ¬ rfV mem x y = 0 → Post (some (zI (rfV mem x y))) mem) (hok : ∀ k j s, k < 6 → j < 60 → s < 5 → x = nI k → y = nI j → mem.1 31 k 2 = nI s → rfV mem x y = 0 → Post (some (zI 1)) (upJ mem 32 k j (snJ s v))) : zC l ι M_Four_put 2 [zP 0 0, zI x, zI y, zJ v] mem Post := by
  refine z_enter hH (by decide) (by simp [z_ent, M_Four_put]) (fun X hXl hX hR => ?_)
  refine z_aload_n hX (D_Four_put (i := 0) rfl) rfl ?_
  refine z_iload_n hX (D_Four_put (i := 1) rfl) rfl ?_
  refine z_iload_n hX (D_Four_put (i := 2) rfl) rfl ?_
  refine z_cV2 hX (D_Four_put (i := 3) rfl) mi_Four_refusalOf l_Four_272 rfl rfl (by decide) (by first | exact Nat.one_pos | assumption | omega) (by first | decide | omega) (Nat.le_of_ble_eq_true rfl) (c_Four_refusalOf hH hS ?_)
  refine z_istore hX (D_Four_put (i := 4) rfl) (by decide) rfl ?_
  refine z_iload hX (D_Four_put (i := 5) rfl) rfl ?_
  refine z_if_eq (tgt := 16) hX (D_Four_put (i := 6) rfl) (by decide) (fun h1 => ?_) (fun h1 => ?_)
  · skip
    obtain ⟨k, j, L, s, hk, rfl, hj, hL, h5, rfl, e0, e3, e2⟩ := rfV_0 hS h1
    refine z_aload_n hX (D_Four_put (i := 9) rfl) rfl ?_
    refine z_getc hX (D_Four_put (i := 10) rfl) f_Four_58 rfl (by decide) (by first | exact Nat.one_pos | assumption | omega) rfl ?_
    refine z_iload_n hX (D_Four_put (i := 11) rfl) rfl ?_
    refine z_aldShelfc (j := k) hX (D_Four_put (i := 12) rfl) rfl (by decide) (by first | exact Nat.one_pos | assumption | omega) (by decide) rfl hk ?_
    refine z_iload_n hX (D_Four_put (i := 13) rfl) rfl ?_
    refine z_lload_n hX (D_Four_put (i := 14) rfl) rfl ?_
    refine z_cV2 hX (D_Four_put (i := 15) rfl) mi_Shelf_store l_Four_275 rfl rfl (by decide) (by first | exact Nat.one_pos | assumption | omega) (by first | decide | omega) (Nat.le_of_ble_eq_true rfl) (c_Shelf_store hH hk (by omega) e2 h5 ?_)
    refine z_iconst (v := 1) hX (D_Four_put (i := 16) rfl) (by decide) ?_
    exact z_iret hX hR (D_Four_put (i := 17) rfl) rfl (hok k j s hk (by omega) h5 rfl rfl e2 h1)
  · refine z_iload hX (D_Four_put (i := 7) rfl) rfl ?_
    exact z_iret hX hR (D_Four_put (i := 8) rfl) rfl (hno h1)
theorem c_Four_element (hH : zHas ι pX) (hS : ShOK mem) (hno : ¬ rfV mem x y = 0 → Post (some (zJ (-9223372036854775808))) mem) (hok : ∀ k j, k < 6 → j < 60 → x = nI k → y = nI j → rfV mem x y = 0 → Post (some (zJ (mem.2.1 32 k j))) mem) : zC l ι M_Four_element 2 [zP 0 0, zI x, zI y] mem Post := by
  refine z_enter hH (by decide) (by simp [z_ent, M_Four_element]) (fun X hXl hX hR => ?_)
  refine z_aload_n hX (D_Four_element (i := 0) rfl) rfl ?_
  refine z_iload_n hX (D_Four_element (i := 1) rfl) rfl ?_
  refine z_iload_n hX (D_Four_element (i := 2) rfl) rfl ?_
  refine z_cV2 hX (D_Four_element (i := 3) rfl) mi_Four_refusalOf l_Four_272 rfl rfl (by decide) (by first | exact Nat.one_pos | assumption | omega) (by first | decide | omega) (Nat.le_of_ble_eq_true rfl) (c_Four_refusalOf hH hS ?_)
  refine z_if_eq (tgt := 15) hX (D_Four_element (i := 4) rfl) (by decide) (fun h1 => ?_) (fun h1 => ?_)
  · skip
    obtain ⟨k, j, L, s, hk, rfl, hj, hL, h5, rfl, e0, e3, e2⟩ := rfV_0 hS h1
    refine z_aload_n hX (D_Four_element (i := 7) rfl) rfl ?_
    refine z_getc hX (D_Four_element (i := 8) rfl) f_Four_58 rfl (by decide) (by first | exact Nat.one_pos | assumption | omega) rfl ?_
    refine z_iload_n hX (D_Four_element (i := 9) rfl) rfl ?_
    refine z_aldShelfc (j := k) hX (D_Four_element (i := 10) rfl) rfl (by decide) (by first | exact Nat.one_pos | assumption | omega) (by decide) rfl hk ?_
    refine z_getc hX (D_Four_element (i := 11) rfl) f_Four_91 rfl (by decide) (by first | exact Nat.one_pos | assumption | omega) rfl ?_
    refine z_iload_n hX (D_Four_element (i := 12) rfl) rfl ?_
    refine z_lald (j := j) hX (D_Four_element (i := 13) rfl) rfl (by decide) (by first | exact Nat.one_pos | assumption | omega) (by decide) rfl (by omega) ?_
    exact z_lret hX hR (D_Four_element (i := 14) rfl) rfl (hok k j hk (by omega) rfl rfl h1)
  · refine z_ldc2 (v := -9223372036854775808) hX (D_Four_element (i := 5) rfl) k_Four_281 ?_
    refine z_goto (tgt := 26) hX (D_Four_element (i := 6) rfl) (by decide) ?_
    exact z_lret hX hR (D_Four_element (i := 14) rfl) rfl (hno h1)
end F6
