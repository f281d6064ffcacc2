/-! the reference reads an operand -/
section D3
variable {ι : zE} {mem : zM} {n : Nat} {K : Nat → Nat}
theorem nuR_no {p : Nat} (h : isDg (K p) = false) : nuR K 4 p 0 = (p, 0) := by
  unfold nuR
  rw [if_neg (by rw [h]; decide)]
theorem d_operand_step (hH : zHas ι pM) (hT : MT mem n K) {r o : Nat} (hor : o + r = 6) (ih : ∀ r', r = r' + 1 → MR ι mem n K M_Model_operand (6 * r' + 2) (o + 1) (opR K r')) : MR ι mem n K M_Model_operand (6 * r + 2) o (opR K r) := by
  have h120 := hT.2.1
  intro l p st Post hp ho hs hn
  have hk9 := hT.K9 p
  have P : ∀ c, c < 128 → (mkV (K p) = nI c ↔ K p = c) := fun c hc => mkV_is hk9 hc
  refine z_enter hH (by decide) (by simp [z_ent, M_Model_operand]) (fun X hXl hX hR => ?_)
  refine z_aload_n hX (D_Model_operand (i := 0) rfl) rfl ?_
  refine z_cV0 hX (D_Model_operand (i := 1) rfl) mi_Model_look l_Model_168 rfl rfl (by decide) (by first | exact Nat.one_pos | assumption | omega) (by first | decide | omega) (Nat.le_of_ble_eq_true rfl) (d_look hH hT hp ?_)
  refine z_istore_n hX (D_Model_operand (i := 2) rfl) (by decide) rfl ?_
  refine z_iload_n hX (D_Model_operand (i := 3) rfl) rfl ?_
  refine z_cS1 hX (D_Model_operand (i := 4) rfl) ms_Model_nameOf l_Model_176 (by first | decide | omega) (Nat.le_of_ble_eq_true rfl) (d_nameOf hk9 ?_)
  by_cases hnm : isNm (K p) = true
  · have hb := of_decide_eq_true hnm
    have hnd : isDg (K p) = false := decide_eq_false (by omega)
    have hpn := isNm_lt hT.2.2.1 hnm
    have e : nmV (K p) = nI (if K p = 97 then 0 else if K p = 98 then 1 else if K p = 115 then 2 else if K p = 105 then 3 else 4) := if_pos hnm
    have hix : (if K p = 97 then 0 else if K p = 98 then 1 else if K p = 115 then 2 else if K p = 105 then 3 else 4) < 2 ^ 31 := by
      repeat' split
      all_goals decide
    rw [e]
    refine z_if_lt (tgt := 34) hX (D_Model_operand (i := 5) rfl) (by decide) (fun hcc => absurd hcc ((fun q => absurd ((nI_ltI (b := 0) hix (by decide)).mp q) (Nat.not_lt_zero _)))) (fun _ => ?_)
    refine z_aload_n hX (D_Model_operand (i := 6) rfl) rfl ?_
    refine z_iconst (v := 2) hX (D_Model_operand (i := 7) rfl) (by decide) ?_
    refine z_iload_n hX (D_Model_operand (i := 8) rfl) rfl ?_
    refine z_cS1 hX (D_Model_operand (i := 9) rfl) ms_Model_nameOf l_Model_176 (by first | decide | omega) (Nat.le_of_ble_eq_true rfl) (d_nameOf hk9 ?_)
    refine z_cV2 hX (D_Model_operand (i := 10) rfl) mi_Model_addStep l_Model_172 rfl rfl (by decide) (by first | exact Nat.one_pos | assumption | omega) (by first | decide | omega) (Nat.le_of_ble_eq_true rfl) (d_addStep hH (by decide) (by omega) ?_)
    refine z_aload_n hX (D_Model_operand (i := 11) rfl) rfl ?_
    refine z_dupP hX (D_Model_operand (i := 12) rfl) ?_
    refine z_geti hX (D_Model_operand (i := 13) rfl) f_Model_153 rfl (by decide) (by first | exact Nat.one_pos | assumption | omega) rfl ?_
    refine z_iconst (v := 1) hX (D_Model_operand (i := 14) rfl) (by decide) ?_
    refine z_iadd hX (D_Model_operand (i := 15) rfl) ?_
    rw [pmM_14, show nI p + 1 = nI (p + 1) from nI_add p 1]
    refine z_puti hX (D_Model_operand (i := 16) rfl) g_Model_153 rfl (by decide) (by first | exact Nat.one_pos | assumption | omega) rfl ?_
    rw [pmM_p, e]
    refine z_goto (tgt := 154) hX (D_Model_operand (i := 17) rfl) (by decide) ?_
    exact z_ret hX hR (D_Model_operand (i := 81) rfl) rfl (hs (p + 1) _ (opR_nm hnd hnm))
  · have hnm := Bool.eq_false_iff.mpr hnm
    rw [show nmV (K p) = -1 from if_neg (by rw [hnm]; decide)]
    refine z_if_lt (tgt := 34) hX (D_Model_operand (i := 5) rfl) (by decide) (fun _ => ?_) (fun hcc => absurd (by decide) hcc)
    have un : K p = 33 ∨ K p = 45 → zW ι M_Model_operand X 46 [some (zP 40 0), some (zI (mkV (K p)))] [] (pmM mem p (-1) (nI o) st) := by
      intro hc
      have hnd : isDg (K p) = false := decide_eq_false (by omega)
      have hpn := K_lt hT.2.2.1 (p := p) (by omega)
      have hsv : mkV (K p) = nI (K p) := (mkV_is hk9 (by omega)).mpr rfl
      rw [hsv]
      refine z_aload_n hX (D_Model_operand (i := 24) rfl) rfl ?_
      cases r with
      | zero =>
        obtain rfl : o = 6 := by omega
        refine z_cV0 hX (D_Model_operand (i := 25) rfl) mi_Model_opens l_Model_179 rfl rfl (by decide) (by first | exact Nat.one_pos | assumption | omega) (by first | decide | omega) (Nat.le_of_ble_eq_true rfl) (d_opens_no hH ?_)
        refine z_if_ne (tgt := 54) hX (D_Model_operand (i := 26) rfl) (by decide) (fun hcc => absurd (rfl) hcc) (fun _ => ?_)
        exact z_ret hX hR (D_Model_operand (i := 27) rfl) rfl (hn p _ st (Or.inl (opR_z hnd hnm)) (by omega))
      | succ r =>
        rw [opR_un hc] at hs hn
        have hok := opR_ok hT.2.2.1 r (p + 1) hpn
        refine z_cV0 hX (D_Model_operand (i := 25) rfl) mi_Model_opens l_Model_179 rfl rfl (by decide) (by first | exact Nat.one_pos | assumption | omega) (by first | decide | omega) (Nat.le_of_ble_eq_true rfl) (d_opens hH (by omega) ?_)
        refine z_if_ne (tgt := 54) hX (D_Model_operand (i := 26) rfl) (by decide) (fun _ => ?_) (fun hcc => absurd hcc (by decide))
        refine z_aload_n hX (D_Model_operand (i := 28) rfl) rfl ?_
        refine z_cV0 hX (D_Model_operand (i := 29) rfl) mi_Model_operand l_Model_183 rfl rfl (by decide) (by first | exact Nat.one_pos | assumption | omega) (by first | decide | omega) (Nat.le_of_ble_eq_true rfl) (ih r rfl _ (p + 1) st _ hpn (by omega) ?_ ?_)
        · intro u e he
          unfold unR at hs
          rw [he] at hs hok
          obtain ⟨a1, a2, a3⟩ := hok
          have hs := hs u _ rfl
          rw [mdC_app, ← List.append_assoc, mdC_1] at hs
          refine z_aload_n hX (D_Model_operand (i := 30) rfl) rfl ?_
          refine z_dupP hX (D_Model_operand (i := 31) rfl) ?_
          refine z_geti hX (D_Model_operand (i := 32) rfl) f_Model_162 rfl (by decide) (by first | exact Nat.one_pos | assumption | omega) rfl ?_
          refine z_iconst (v := 1) hX (D_Model_operand (i := 33) rfl) (by decide) ?_
          refine z_isub hX (D_Model_operand (i := 34) rfl) ?_
          rw [pmM_16, show nI (o + 1) - 1 = nI o from pk_sub (a := o + 1) (b := 1) (by omega)]
          refine z_puti hX (D_Model_operand (i := 35) rfl) g_Model_162 rfl (by decide) (by first | exact Nat.one_pos | assumption | omega) rfl ?_
          rw [pmM_o]
          refine z_aload_n hX (D_Model_operand (i := 36) rfl) rfl ?_
          refine z_iload_n hX (D_Model_operand (i := 37) rfl) rfl ?_
          refine z_bipush (v := 33) hX (D_Model_operand (i := 38) rfl) (by decide) ?_
          rcases hc with hc | hc
          · rw [hc] at hs ⊢
            refine z_icmp_ne (tgt := 79) hX (D_Model_operand (i := 39) rfl) (by decide) (fun hcc => absurd (rfl) hcc) (fun _ => ?_)
            refine z_iconst (v := 3) hX (D_Model_operand (i := 40) rfl) (by decide) ?_
            refine z_goto (tgt := 80) hX (D_Model_operand (i := 41) rfl) (by decide) ?_
            refine z_iconst (v := 0) hX (D_Model_operand (i := 43) rfl) (by decide) ?_
            refine z_cV2 hX (D_Model_operand (i := 44) rfl) mi_Model_addStep l_Model_172 rfl rfl (by decide) (by first | exact Nat.one_pos | assumption | omega) (by first | decide | omega) (Nat.le_of_ble_eq_true rfl) (d_addStep hH (by decide) (by simp only [List.length_append, mdC_len]; omega) ?_)
            refine z_goto (tgt := 154) hX (D_Model_operand (i := 45) rfl) (by decide) ?_
            exact z_ret hX hR (D_Model_operand (i := 81) rfl) rfl hs
          · rw [hc] at hs ⊢
            refine z_icmp_ne (tgt := 79) hX (D_Model_operand (i := 39) rfl) (by decide) (fun _ => ?_) (fun hcc => absurd hcc (by decide))
            refine z_iconst (v := 4) hX (D_Model_operand (i := 42) rfl) (by decide) ?_
            refine z_iconst (v := 0) hX (D_Model_operand (i := 43) rfl) (by decide) ?_
            refine z_cV2 hX (D_Model_operand (i := 44) rfl) mi_Model_addStep l_Model_172 rfl rfl (by decide) (by first | exact Nat.one_pos | assumption | omega) (by first | decide | omega) (Nat.le_of_ble_eq_true rfl) (d_addStep hH (by decide) (by simp only [List.length_append, mdC_len]; omega) ?_)
            refine z_goto (tgt := 154) hX (D_Model_operand (i := 45) rfl) (by decide) ?_
            exact z_ret hX hR (D_Model_operand (i := 81) rfl) rfl hs
        · intro u o' st' hfl hlen
          have hle := lfl_le hok hfl
          have hn := fun (x : Int32) => hn u (o' - 1) (st' ++ [(x, 0)]) (by
            unfold unR
            rcases hfl with hfl | ⟨⟨e', hfl⟩, hd⟩
            · rw [hfl]; exact Or.inl rfl
            · rw [hfl]; exact Or.inr ⟨⟨_, rfl⟩, hd⟩) (by rw [List.length_append, List.length_cons, List.length_nil]; omega)
          refine z_aload_n hX (D_Model_operand (i := 30) rfl) rfl ?_
          refine z_dupP hX (D_Model_operand (i := 31) rfl) ?_
          refine z_geti hX (D_Model_operand (i := 32) rfl) f_Model_162 rfl (by decide) (by first | exact Nat.one_pos | assumption | omega) rfl ?_
          refine z_iconst (v := 1) hX (D_Model_operand (i := 33) rfl) (by decide) ?_
          refine z_isub hX (D_Model_operand (i := 34) rfl) ?_
          refine z_puti hX (D_Model_operand (i := 35) rfl) g_Model_162 rfl (by decide) (by first | exact Nat.one_pos | assumption | omega) rfl ?_
          rw [pmM_16, pmM_o]
          refine z_aload_n hX (D_Model_operand (i := 36) rfl) rfl ?_
          refine z_iload_n hX (D_Model_operand (i := 37) rfl) rfl ?_
          refine z_bipush (v := 33) hX (D_Model_operand (i := 38) rfl) (by decide) ?_
          rcases hc with hc | hc
          · rw [hc]
            refine z_icmp_ne (tgt := 79) hX (D_Model_operand (i := 39) rfl) (by decide) (fun hcc => absurd (rfl) hcc) (fun _ => ?_)
            refine z_iconst (v := 3) hX (D_Model_operand (i := 40) rfl) (by decide) ?_
            refine z_goto (tgt := 80) hX (D_Model_operand (i := 41) rfl) (by decide) ?_
            refine z_iconst (v := 0) hX (D_Model_operand (i := 43) rfl) (by decide) ?_
            refine z_cV2 hX (D_Model_operand (i := 44) rfl) mi_Model_addStep l_Model_172 rfl rfl (by decide) (by first | exact Nat.one_pos | assumption | omega) (by first | decide | omega) (Nat.le_of_ble_eq_true rfl) (d_addStep hH (by decide) (by omega) ?_)
            refine z_goto (tgt := 154) hX (D_Model_operand (i := 45) rfl) (by decide) ?_
            exact z_ret hX hR (D_Model_operand (i := 81) rfl) rfl (hn 3)
          · rw [hc]
            refine z_icmp_ne (tgt := 79) hX (D_Model_operand (i := 39) rfl) (by decide) (fun _ => ?_) (fun hcc => absurd hcc (by decide))
            refine z_iconst (v := 4) hX (D_Model_operand (i := 42) rfl) (by decide) ?_
            refine z_iconst (v := 0) hX (D_Model_operand (i := 43) rfl) (by decide) ?_
            refine z_cV2 hX (D_Model_operand (i := 44) rfl) mi_Model_addStep l_Model_172 rfl rfl (by decide) (by first | exact Nat.one_pos | assumption | omega) (by first | decide | omega) (Nat.le_of_ble_eq_true rfl) (d_addStep hH (by decide) (by omega) ?_)
            refine z_goto (tgt := 154) hX (D_Model_operand (i := 45) rfl) (by decide) ?_
            exact z_ret hX hR (D_Model_operand (i := 81) rfl) rfl (hn 4)
    have paren : K p = 40 → zW ι M_Model_operand X 93 [some (zP 40 0), some (zI (mkV (K p)))] [] (pmM mem p (-1) (nI o) st) := by
      intro hc
      have hnd : isDg (K p) = false := decide_eq_false (by omega)
      have hpn := K_lt hT.2.2.1 (p := p) (by omega)
      refine z_aload_n hX (D_Model_operand (i := 49) rfl) rfl ?_
      cases r with
      | zero =>
        obtain rfl : o = 6 := by omega
        refine z_cV0 hX (D_Model_operand (i := 50) rfl) mi_Model_opens l_Model_179 rfl rfl (by decide) (by first | exact Nat.one_pos | assumption | omega) (by first | decide | omega) (Nat.le_of_ble_eq_true rfl) (d_opens_no hH ?_)
        refine z_if_ne (tgt := 101) hX (D_Model_operand (i := 51) rfl) (by decide) (fun hcc => absurd (rfl) hcc) (fun _ => ?_)
        exact z_ret hX hR (D_Model_operand (i := 52) rfl) rfl (hn p _ st (Or.inl (opR_z hnd hnm)) (by omega))
      | succ r =>
        rw [opR_in hc] at hs hn
        have hop := opR_ok hT.2.2.1 r
        have hok := lvR_ok hT.2.2.1 hop 5 (p + 1) hpn
        have IH0 : MR ι mem n K M_Model_operand (6 * r + 2) (o + 1) (lvR K (opR K r) 0) := ih r rfl
        have IH := d_either hH hT hop (d_both hH hT hop (d_compared hH hT hop (d_sum hH hT hop (d_product hH hT hop IH0))))
        refine z_cV0 hX (D_Model_operand (i := 50) rfl) mi_Model_opens l_Model_179 rfl rfl (by decide) (by first | exact Nat.one_pos | assumption | omega) (by first | decide | omega) (Nat.le_of_ble_eq_true rfl) (d_opens hH (by omega) ?_)
        refine z_if_ne (tgt := 101) hX (D_Model_operand (i := 51) rfl) (by decide) (fun _ => ?_) (fun hcc => absurd hcc (by decide))
        refine z_aload_n hX (D_Model_operand (i := 53) rfl) rfl ?_
        refine z_cV0 hX (D_Model_operand (i := 54) rfl) mi_Model_either l_Model_186 rfl rfl (by decide) (by first | exact Nat.one_pos | assumption | omega) (by first | decide | omega) (Nat.le_of_ble_eq_true rfl) (IH _ (p + 1) st _ hpn (by omega) ?_ ?_)
        · intro u e he
          unfold inR at hs hn
          rw [he] at hs hn hok
          simp only [] at hs hn
          obtain ⟨a1, a2, a3⟩ := hok
          have Q := mkV_is (c := 41) (hT.K9 u) (by decide)
          refine z_aload_n hX (D_Model_operand (i := 55) rfl) rfl ?_
          refine z_geti hX (D_Model_operand (i := 56) rfl) f_Model_156 rfl (by decide) (by first | exact Nat.one_pos | assumption | omega) rfl ?_
          rw [pmM_15]
          refine z_if_lt (tgt := 113) hX (D_Model_operand (i := 57) rfl) (by decide) (fun _ => ?_) (fun hcc => absurd (by decide) hcc)
          refine z_aload_n hX (D_Model_operand (i := 59) rfl) rfl ?_
          refine z_cV0 hX (D_Model_operand (i := 60) rfl) mi_Model_look l_Model_168 rfl rfl (by decide) (by first | exact Nat.one_pos | assumption | omega) (by first | decide | omega) (Nat.le_of_ble_eq_true rfl) (d_look hH hT a2 ?_)
          refine z_bipush (v := 41) hX (D_Model_operand (i := 61) rfl) (by decide) ?_
          refine z_icmp_eq (tgt := 127) hX (D_Model_operand (i := 62) rfl) (by decide) (fun h1 => ?_) (fun h1 => ?_)
          · refine z_aload_n hX (D_Model_operand (i := 66) rfl) rfl ?_
            refine z_dupP hX (D_Model_operand (i := 67) rfl) ?_
            refine z_geti hX (D_Model_operand (i := 68) rfl) f_Model_153 rfl (by decide) (by first | exact Nat.one_pos | assumption | omega) rfl ?_
            refine z_iconst (v := 1) hX (D_Model_operand (i := 69) rfl) (by decide) ?_
            refine z_iadd hX (D_Model_operand (i := 70) rfl) ?_
            rw [pmM_14, show nI u + 1 = nI (u + 1) from nI_add u 1]
            refine z_puti hX (D_Model_operand (i := 71) rfl) g_Model_153 rfl (by decide) (by first | exact Nat.one_pos | assumption | omega) rfl ?_
            rw [pmM_p]
            refine z_aload_n hX (D_Model_operand (i := 72) rfl) rfl ?_
            refine z_dupP hX (D_Model_operand (i := 73) rfl) ?_
            refine z_geti hX (D_Model_operand (i := 74) rfl) f_Model_162 rfl (by decide) (by first | exact Nat.one_pos | assumption | omega) rfl ?_
            refine z_iconst (v := 1) hX (D_Model_operand (i := 75) rfl) (by decide) ?_
            refine z_isub hX (D_Model_operand (i := 76) rfl) ?_
            rw [pmM_16, show nI (o + 1) - 1 = nI o from pk_sub (a := o + 1) (b := 1) (by omega)]
            refine z_puti hX (D_Model_operand (i := 77) rfl) g_Model_162 rfl (by decide) (by first | exact Nat.one_pos | assumption | omega) rfl ?_
            rw [pmM_o]
            refine z_goto (tgt := 154) hX (D_Model_operand (i := 78) rfl) (by decide) ?_
            exact z_ret hX hR (D_Model_operand (i := 81) rfl) rfl (hs (u + 1) e (if_pos (Q.mp h1)))
          · refine z_aload_n hX (D_Model_operand (i := 63) rfl) rfl ?_
            refine z_cV0 hX (D_Model_operand (i := 64) rfl) mi_Model_faulty l_Model_165 rfl rfl (by decide) (by first | exact Nat.one_pos | assumption | omega) (by first | decide | omega) (Nat.le_of_ble_eq_true rfl) (d_faulty hH ?_)
            exact z_ret hX hR (D_Model_operand (i := 65) rfl) rfl (hn u _ _ (Or.inl (if_neg (fun w => h1 (Q.mpr w)))) (by simp only [List.length_append, mdC_len]; omega))
        · intro u o' st' hfl hlen
          have hle := lfl_le hok hfl
          have hn := hn u o' st' (by
            unfold inR
            rcases hfl with hfl | ⟨⟨e', hfl⟩, hd⟩
            · rw [hfl]; exact Or.inl rfl
            · rw [hfl]
              refine Or.inl (if_neg (fun w => ?_))
              rw [w] at hd
              exact absurd hd (by decide)) (by omega)
          refine z_aload_n hX (D_Model_operand (i := 55) rfl) rfl ?_
          refine z_geti hX (D_Model_operand (i := 56) rfl) f_Model_156 rfl (by decide) (by first | exact Nat.one_pos | assumption | omega) rfl ?_
          rw [pmM_15]
          refine z_if_lt (tgt := 113) hX (D_Model_operand (i := 57) rfl) (by decide) (fun hcc => absurd hcc ((fun q => absurd ((nI_ltI (a := u) (b := 0) (by omega) (by decide)).mp q) (Nat.not_lt_zero _)))) (fun _ => ?_)
          exact z_ret hX hR (D_Model_operand (i := 58) rfl) rfl hn
    refine z_iload_n hX (D_Model_operand (i := 18) rfl) rfl ?_
    refine z_bipush (v := 33) hX (D_Model_operand (i := 19) rfl) (by decide) ?_
    refine z_icmp_eq (tgt := 46) hX (D_Model_operand (i := 20) rfl) (by decide) (fun h1 => ?_) (fun h1 => ?_)
    · skip
      exact un (Or.inl ((P 33 (by decide)).mp h1))
    · refine z_iload_n hX (D_Model_operand (i := 21) rfl) rfl ?_
      refine z_bipush (v := 45) hX (D_Model_operand (i := 22) rfl) (by decide) ?_
      refine z_icmp_ne (tgt := 87) hX (D_Model_operand (i := 23) rfl) (by decide) (fun h2 => ?_) (fun h2 => ?_)
      · refine z_iload_n hX (D_Model_operand (i := 46) rfl) rfl ?_
        refine z_bipush (v := 40) hX (D_Model_operand (i := 47) rfl) (by decide) ?_
        refine z_icmp_ne (tgt := 150) hX (D_Model_operand (i := 48) rfl) (by decide) (fun h3 => ?_) (fun h3 => ?_)
        · refine z_aload_n hX (D_Model_operand (i := 79) rfl) rfl ?_
          have g1 : ¬ K p = 33 := fun w => h1 ((P 33 (by decide)).mpr w)
          have g2 : ¬ K p = 45 := fun w => h2 ((P 45 (by decide)).mpr w)
          have g3 : ¬ K p = 40 := fun w => h3 ((P 40 (by decide)).mpr w)
          refine z_cV0 hX (D_Model_operand (i := 80) rfl) mi_Model_figure l_Model_189 rfl rfl (by decide) (by first | exact Nat.one_pos | assumption | omega) (by first | decide | omega) (Nat.le_of_ble_eq_true rfl) (d_figure hH hT hp (by omega) ?_ ?_)
          · intro q1 q2
            exact z_ret hX hR (D_Model_operand (i := 81) rfl) rfl (hs _ _ (opR_dg q1))
          · intro q
            have hn := hn (nuR K 4 p 0).1 (nI o) (st ++ [(1, nI (nuR K 4 p 0).2)]) (by
              by_cases hd : isDg (K p) = true
              · rcases q with q | q
                · rw [hd] at q; cases q
                · exact Or.inr ⟨⟨_, opR_dg hd⟩, q⟩
              · have hd := Bool.eq_false_iff.mpr hd
                rw [nuR_no hd]
                exact Or.inl (opR_no hd hnm g3 g1 g2)) (by rw [List.length_append, List.length_cons, List.length_nil]; omega)
            exact z_ret hX hR (D_Model_operand (i := 81) rfl) rfl hn
        · skip
          exact paren ((P 40 (by decide)).mp h3)
      · skip
        exact un (Or.inr ((P 45 (by decide)).mp h2))
theorem d_operand (hH : zHas ι pM) (hT : MT mem n K) : ∀ r o, o + r = 6 → MR ι mem n K M_Model_operand (6 * r + 2) o (opR K r) := by
  intro r
  induction r with
  | zero => exact fun o h => d_operand_step hH hT h (fun r' w => absurd w (by omega))
  | succ r ih =>
    intro o h
    refine d_operand_step hH hT h (fun r' w => ?_)
    obtain rfl : r = r' := by omega
    exact ih (o + 1) (by omega)
theorem d_either_top (hH : zHas ι pM) (hT : MT mem n K) : MR ι mem n K M_Model_either 43 0 (exR K) := by
  have hop := opR_ok hT.2.2.1 6
  have IH0 : MR ι mem n K M_Model_operand (6 * 6 + 2) 0 (lvR K (opR K 6) 0) := d_operand hH hT 6 0 rfl
  exact d_either hH hT hop (d_both hH hT hop (d_compared hH hT hop (d_sum hH hT hop (d_product hH hT hop IH0))))
end D3
