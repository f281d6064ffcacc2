/-! the reference's rings and wall -/
section M6
variable {l : Launch} {ι : zE} {mem : zM} {S : Nat → Nat → Int32} {sz : Nat} {Λ : Option (List lLn)} {C : Nat → Nat → Nat} {T : List Nat} {τ : Nat → Nat} {Post : Option zV → zM → Prop}
theorem d_rings (hH : zHas ι pM) {x : Int32} {bx : Nat} (hS : MS mem sz bx C τ Λ) (hno : (x < 0 ∨ ¬ x ≤ 1) → Post (some (zI (-1))) mem) (hst : ¬ x < 0 → x ≤ 1 → bx = 0 → Post (some (zI (-5))) mem) (h0 : ∀ S', x = 0 → bx ≠ 0 → Post (some (zI (nI (rgM C (bxL bx 8) (3 ^ (bxL bx 8).length)).length))) (tm mem S')) (h1 : ∀ S', ¬ x < 0 → x ≤ 1 → ¬ x = 0 → bx ≠ 0 → Post (some (zI (nI (prC (fun i j => apB (bxL bx 8).length ((rgM C (bxL bx 8) (3 ^ (bxL bx 8).length)).getD i 0) ((rgM C (bxL bx 8) (3 ^ (bxL bx 8).length)).getD j 0)) (rgM C (bxL bx 8) (3 ^ (bxL bx 8).length)).length)))) (tm mem S')) : zC l ι M_Model_rings 2 [zP 40 0, zI x] mem Post := by
  have h8 := hS.2.1
  have hb := hS.b
  have hlen := hS.len
  rw [← bxL_8 hS.2.2.2.1 h8] at h0 h1
  have p3 : ∀ n, n ≤ 4 → 3 ^ n ≤ 81 := by decide
  refine z_enter hH (by decide) (by simp [z_ent, M_Model_rings]) (fun X hXl hX hR => ?_)
  refine z_iload_n hX (D_Model_rings (i := 0) rfl) rfl ?_
  refine z_iconst (v := 0) hX (D_Model_rings (i := 1) rfl) (by decide) ?_
  refine z_iconst (v := 1) hX (D_Model_rings (i := 2) rfl) (by decide) ?_
  refine z_cS3 hX (D_Model_rings (i := 3) rfl) ms_Model_in l_Model_102 (by first | decide | omega) (Nat.le_of_ble_eq_true rfl) (d_in ?_)
  refine z_if_ne (tgt := 11) hX (D_Model_rings (i := 4) rfl) (by decide) (fun g1 => ?_) (fun g1 => ?_)
  · refine z_aload_n hX (D_Model_rings (i := 7) rfl) rfl ?_
    refine z_geti hX (D_Model_rings (i := 8) rfl) f_Model_147 rfl (by decide) (by first | exact Nat.one_pos | assumption | omega) rfl ?_
    obtain ⟨x1, x2⟩ := d01.mp (bI_n.mp g1)
    rw [hS.2.2.1]
    refine z_if_ne (tgt := 21) hX (D_Model_rings (i := 9) rfl) (by decide) (fun g2 => ?_) (fun g2 => ?_)
    · skip
      have hne : bx ≠ 0 := fun w => g2 (by rw [w]; rfl)
      obtain ⟨S, eS⟩ := tm_ex mem
      rw [← eS]
      refine z_aload_n hX (D_Model_rings (i := 12) rfl) rfl ?_
      refine z_aload_n hX (D_Model_rings (i := 13) rfl) rfl ?_
      refine z_geti hX (D_Model_rings (i := 14) rfl) f_Model_147 rfl (by decide) (by first | exact Nat.one_pos | assumption | omega) rfl ?_
      rw [show (tm mem S).1 40 0 4 = nI bx from hS.2.2.1]
      refine z_cV1 hX (D_Model_rings (i := 15) rfl) mi_Model_findTower l_Model_243 rfl rfl (by decide) (by first | exact Nat.one_pos | assumption | omega) (by first | decide | omega) (Nat.le_of_ble_eq_true rfl) (d_findTower hH hS.1 h8 hb hlen ?_)
      intro S1 f1 hT
      generalize hTT : bxL bx sz = T at *
      have h81 := p3 _ hlen
      refine z_iconst (v := 1) hX (D_Model_rings (i := 16) rfl) (by decide) ?_
      refine z_istore_n hX (D_Model_rings (i := 17) rfl) (by decide) rfl ?_
      refine z_iconst (v := 0) hX (D_Model_rings (i := 18) rfl) (by decide) ?_
      refine z_istore_n hX (D_Model_rings (i := 19) rfl) (by decide) rfl ?_
      suffices L1 : ∀ (d j : Nat), j + d = T.length → zW ι M_Model_rings X 33 [some (zP 40 0), some (zI x), some (zI (nI (3 ^ j))), some (zI (nI j)), none, none, none] [] (tm mem S1) from L1 T.length 0 (Nat.zero_add _)
      intro d
      induction d with
      | succ d ih =>
        intro j hj
        refine z_iload_n hX (D_Model_rings (i := 20) rfl) rfl ?_
        refine z_aload_n hX (D_Model_rings (i := 21) rfl) rfl ?_
        refine z_geti hX (D_Model_rings (i := 22) rfl) f_Model_237 rfl (by decide) (by first | exact Nat.one_pos | assumption | omega) rfl ?_
        rw [show (tm mem S1).1 40 0 28 = nI T.length from hT.1]
        refine z_icmp_ge (tgt := 51) hX (D_Model_rings (i := 23) rfl) (by decide) (fun hcc => absurd hcc (nI_ge (by omega) (by omega))) (fun _ => ?_)
        refine z_iload_n hX (D_Model_rings (i := 24) rfl) rfl ?_
        refine z_iconst (v := 3) hX (D_Model_rings (i := 25) rfl) (by decide) ?_
        refine z_imul hX (D_Model_rings (i := 26) rfl) ?_
        rw [show nI (3 ^ j) * 3 = nI (3 ^ (j + 1)) by rw [nlit, pk_mul, Nat.pow_succ]]
        refine z_istore_n hX (D_Model_rings (i := 27) rfl) (by decide) rfl ?_
        first | refine z_inc1 hX (D_Model_rings (i := 28) rfl) rfl (by decide) rfl ?_ | refine z_iinc hX (D_Model_rings (i := 28) rfl) rfl rfl (by decide) rfl ?_
        refine z_goto (tgt := 33) hX (D_Model_rings (i := 29) rfl) (by decide) ?_
        exact ih (j + 1) (by omega)
      | zero =>
        intro j hj
        obtain rfl : j = T.length := hj
        refine z_iload_n hX (D_Model_rings (i := 20) rfl) rfl ?_
        refine z_aload_n hX (D_Model_rings (i := 21) rfl) rfl ?_
        refine z_geti hX (D_Model_rings (i := 22) rfl) f_Model_237 rfl (by decide) (by first | exact Nat.one_pos | assumption | omega) rfl ?_
        rw [show (tm mem S1).1 40 0 28 = nI T.length from hT.1]
        refine z_icmp_ge (tgt := 51) hX (D_Model_rings (i := 23) rfl) (by decide) (fun _ => ?_) (fun hcc => absurd (Int32.le_refl _) hcc)
        refine z_iconst (v := 0) hX (D_Model_rings (i := 30) rfl) (by decide) ?_
        refine z_istore_n hX (D_Model_rings (i := 31) rfl) (by decide) rfl ?_
        refine z_iconst (v := 0) hX (D_Model_rings (i := 32) rfl) (by decide) ?_
        refine z_istore hX (D_Model_rings (i := 33) rfl) (by decide) rfl ?_
        suffices L2 : ∀ (e v : Nat) (S2 : Nat → Nat → Int32), v + e = 3 ^ T.length → TM S2 T sz → (∀ i, i < (rgM C T v).length → S2 61 i = nI ((rgM C T v).getD i 0)) → zW ι M_Model_rings X 56 [some (zP 40 0), some (zI x), some (zI (nI (3 ^ T.length))), some (zI (nI (rgM C T v).length)), some (zI (nI v)), none, none] [] (tm mem S2) from L2 _ 0 S1 (Nat.zero_add _) hT (fun i hi => absurd hi (Nat.not_lt_zero _))
        intro e
        induction e with
        | succ e ihe =>
          intro v S2 hv hT2 h61
          have hle := rgM_le C T v
          have es := rgM_s C T v
          refine z_iload hX (D_Model_rings (i := 34) rfl) rfl ?_
          refine z_iload_n hX (D_Model_rings (i := 35) rfl) rfl ?_
          refine z_icmp_ge (tgt := 91) hX (D_Model_rings (i := 36) rfl) (by decide) (fun hcc => absurd hcc (nI_ge (by omega) (by omega))) (fun _ => ?_)
          refine z_aload_n hX (D_Model_rings (i := 37) rfl) rfl ?_
          refine z_iload hX (D_Model_rings (i := 38) rfl) rfl ?_
          refine z_cV1 hX (D_Model_rings (i := 39) rfl) mi_Model_isRing l_Model_288 rfl rfl (by decide) (by first | exact Nat.one_pos | assumption | omega) (by first | decide | omega) (Nat.le_of_ble_eq_true rfl) (d_isRing hH hT2 h8 hS.2.2.2.2.2.1 (by omega) ?_)
          intro S3 f3
          have hT3 : TM S3 T sz := ⟨(f3 40 28 (by decide)).trans hT2.1, hT2.2.1, fun i hi => ⟨(f3 57 i (by decide)).trans (hT2.2.2 i hi).1, (hT2.2.2 i hi).2⟩⟩
          cases hr : rgB C T (d3 v) with
          | false =>
            rw [hr] at es
            have es : rgM C T (v + 1) = rgM C T v := es
            refine z_if_ne (tgt := 74) hX (D_Model_rings (i := 40) rfl) (by decide) (fun hcc => absurd (rfl) hcc) (fun _ => ?_)
            refine z_goto (tgt := 85) hX (D_Model_rings (i := 41) rfl) (by decide) ?_
            first | refine z_inc1 hX (D_Model_rings (i := 48) rfl) rfl (by decide) rfl ?_ | refine z_iinc hX (D_Model_rings (i := 48) rfl) rfl rfl (by decide) rfl ?_
            refine z_goto (tgt := 56) hX (D_Model_rings (i := 49) rfl) (by decide) ?_
            have := ihe (v + 1) S3 (by omega) hT3 (by rw [es]; exact fun i hi => (f3 61 i (by decide)).trans (h61 i hi))
            rw [es] at this
            exact this
          | true =>
            rw [hr] at es
            have es : rgM C T (v + 1) = rgM C T v ++ [v] := es
            refine z_if_ne (tgt := 74) hX (D_Model_rings (i := 40) rfl) (by decide) (fun _ => ?_) (fun hcc => absurd hcc (by decide))
            refine z_aload_n hX (D_Model_rings (i := 42) rfl) rfl ?_
            refine z_getc hX (D_Model_rings (i := 43) rfl) f_Model_73 rfl (by decide) (by first | exact Nat.one_pos | assumption | omega) rfl ?_
            refine z_iload_n hX (D_Model_rings (i := 44) rfl) rfl ?_
            refine z_iload hX (D_Model_rings (i := 45) rfl) rfl ?_
            refine z_iast (j := (rgM C T v).length) hX (D_Model_rings (i := 46) rfl) rfl (by decide) (by first | exact Nat.one_pos | assumption | omega) (by decide) rfl (by omega) ?_
            rw [tm_up rfl]
            first | refine z_inc1 hX (D_Model_rings (i := 47) rfl) rfl (by decide) rfl ?_ | refine z_iinc hX (D_Model_rings (i := 47) rfl) rfl rfl (by decide) rfl ?_
            first | refine z_inc1 hX (D_Model_rings (i := 48) rfl) rfl (by decide) rfl ?_ | refine z_iinc hX (D_Model_rings (i := 48) rfl) rfl rfl (by decide) rfl ?_
            refine z_goto (tgt := 56) hX (D_Model_rings (i := 49) rfl) (by decide) ?_
            have := ihe (v + 1) (sU S3 61 (rgM C T v).length (nI v)) (by omega) ⟨(sU_ne (by omega)).trans hT3.1, hT3.2.1, fun i hi => ⟨(sU_ne (by omega)).trans (hT3.2.2 i hi).1, (hT3.2.2 i hi).2⟩⟩ (by
              intro i hi
              rw [es, List.length_append, List.length_singleton] at hi
              rw [es, getD_app]
              by_cases e : i = (rgM C T v).length
              · rw [if_pos e, e, sU_at]
              · rw [if_neg e, sU_ne (Or.inr e), f3 61 i (by decide)]; exact h61 i (by omega))
            rw [es, List.length_append] at this
            exact this
        | zero =>
          intro v S2 hv hT2 h61
          have hv : v = 3 ^ T.length := hv
          rw [hv] at h61 ⊢
          have hle := rgM_le C T (3 ^ T.length)
          have hel : ∀ i, i < (rgM C T (3 ^ T.length)).length → (rgM C T (3 ^ T.length)).getD i 0 < 2 ^ 31 := by
            intro i hi
            have h1 := getD_mem (d := 0) hi
            have h2 := List.mem_range.mp (List.mem_filter.mp h1).1
            omega
          refine z_iload hX (D_Model_rings (i := 34) rfl) rfl ?_
          refine z_iload_n hX (D_Model_rings (i := 35) rfl) rfl ?_
          refine z_icmp_ge (tgt := 91) hX (D_Model_rings (i := 36) rfl) (by decide) (fun _ => ?_) (fun hcc => absurd (Int32.le_refl _) hcc)
          refine z_iload_n hX (D_Model_rings (i := 50) rfl) rfl ?_
          refine z_if_ne (tgt := 97) hX (D_Model_rings (i := 51) rfl) (by decide) (fun g3 => ?_) (fun g3 => ?_)
          · refine z_iconst (v := 0) hX (D_Model_rings (i := 54) rfl) (by decide) ?_
            refine z_istore hX (D_Model_rings (i := 55) rfl) (by decide) rfl ?_
            refine z_iconst (v := 0) hX (D_Model_rings (i := 56) rfl) (by decide) ?_
            refine z_istore hX (D_Model_rings (i := 57) rfl) (by decide) rfl ?_
            have hh := h1 S2 x1 x2 g3 hne
            generalize rgM C T (3 ^ T.length) = R at *
            suffices LI : ∀ (d i : Nat) (v6 : Option zV), i + d = R.length → zW ι M_Model_rings X 103 [some (zP 40 0), some (zI x), some (zI (nI (3 ^ T.length))), some (zI (nI R.length)), some (zI (nI (sumI (fun i => sumI (fun k => if apB T.length (R.getD i 0) (R.getD (i + 1 + k) 0) = true then 1 else 0) (R.length - (i + 1))) i))), some (zI (nI i)), v6] [] (tm mem S2) from LI _ 0 none (Nat.zero_add _)
            intro d
            induction d with
            | zero =>
              intro i v6 hi
              obtain rfl : i = R.length := hi
              refine z_iload hX (D_Model_rings (i := 58) rfl) rfl ?_
              refine z_iload_n hX (D_Model_rings (i := 59) rfl) rfl ?_
              refine z_icmp_ge (tgt := 157) hX (D_Model_rings (i := 60) rfl) (by decide) (fun _ => ?_) (fun hcc => absurd (Int32.le_refl _) hcc)
              refine z_iload hX (D_Model_rings (i := 84) rfl) rfl ?_
              exact z_iret hX hR (D_Model_rings (i := 85) rfl) rfl hh
            | succ d ih =>
              intro i v6 hi
              have hin : i < R.length := by omega
              refine z_iload hX (D_Model_rings (i := 58) rfl) rfl ?_
              refine z_iload_n hX (D_Model_rings (i := 59) rfl) rfl ?_
              refine z_icmp_ge (tgt := 157) hX (D_Model_rings (i := 60) rfl) (by decide) (fun hcc => absurd hcc (nI_ge hin (by omega))) (fun _ => ?_)
              refine z_iload hX (D_Model_rings (i := 61) rfl) rfl ?_
              refine z_iconst (v := 1) hX (D_Model_rings (i := 62) rfl) (by decide) ?_
              refine z_iadd hX (D_Model_rings (i := 63) rfl) ?_
              rw [show nI i + 1 = nI (i + 1) from nI_add i 1]
              refine z_istore hX (D_Model_rings (i := 64) rfl) (by decide) rfl ?_
              suffices LJ : ∀ (e k : Nat), k + e = R.length - (i + 1) → zW ι M_Model_rings X 115 [some (zP 40 0), some (zI x), some (zI (nI (3 ^ T.length))), some (zI (nI R.length)), some (zI (nI (sumI (fun i => sumI (fun k => if apB T.length (R.getD i 0) (R.getD (i + 1 + k) 0) = true then 1 else 0) (R.length - (i + 1))) i + sumI (fun k => if apB T.length (R.getD i 0) (R.getD (i + 1 + k) 0) = true then 1 else 0) k))), some (zI (nI i)), some (zI (nI (i + 1 + k)))] [] (tm mem S2) from LJ _ 0 (Nat.zero_add _)
              intro e
              induction e with
              | zero =>
                intro k hk
                obtain rfl : k = R.length - (i + 1) := hk
                refine z_iload hX (D_Model_rings (i := 65) rfl) rfl ?_
                refine z_iload_n hX (D_Model_rings (i := 66) rfl) rfl ?_
                refine z_icmp_ge (tgt := 151) hX (D_Model_rings (i := 67) rfl) (by decide) (fun _ => ?_) (fun hcc => absurd (nI_le (by omega) (by omega)) hcc)
                first | refine z_inc1 hX (D_Model_rings (i := 82) rfl) rfl (by decide) rfl ?_ | refine z_iinc hX (D_Model_rings (i := 82) rfl) rfl rfl (by decide) rfl ?_
                refine z_goto (tgt := 103) hX (D_Model_rings (i := 83) rfl) (by decide) ?_
                exact ih (i + 1) _ (by omega)
              | succ e ihe =>
                intro k hk
                have hjn : i + 1 + k < R.length := by omega
                refine z_iload hX (D_Model_rings (i := 65) rfl) rfl ?_
                refine z_iload_n hX (D_Model_rings (i := 66) rfl) rfl ?_
                refine z_icmp_ge (tgt := 151) hX (D_Model_rings (i := 67) rfl) (by decide) (fun hcc => absurd hcc (nI_ge hjn (by omega))) (fun _ => ?_)
                refine z_aload_n hX (D_Model_rings (i := 68) rfl) rfl ?_
                refine z_aload_n hX (D_Model_rings (i := 69) rfl) rfl ?_
                refine z_getc hX (D_Model_rings (i := 70) rfl) f_Model_73 rfl (by decide) (by first | exact Nat.one_pos | assumption | omega) rfl ?_
                refine z_iload hX (D_Model_rings (i := 71) rfl) rfl ?_
                refine z_iald (j := i) hX (D_Model_rings (i := 72) rfl) rfl (by decide) (by first | exact Nat.one_pos | assumption | omega) (by decide) rfl (by omega) ?_
                rw [show (tm mem S2).1 61 0 i = _ from h61 i hin]
                refine z_aload_n hX (D_Model_rings (i := 73) rfl) rfl ?_
                refine z_getc hX (D_Model_rings (i := 74) rfl) f_Model_73 rfl (by decide) (by first | exact Nat.one_pos | assumption | omega) rfl ?_
                refine z_iload hX (D_Model_rings (i := 75) rfl) rfl ?_
                refine z_iald (j := i + 1 + k) hX (D_Model_rings (i := 76) rfl) rfl (by decide) (by first | exact Nat.one_pos | assumption | omega) (by decide) rfl (by omega) ?_
                rw [show (tm mem S2).1 61 0 (i + 1 + k) = _ from h61 _ hjn]
                refine z_cV2 hX (D_Model_rings (i := 77) rfl) mi_Model_areParted l_Model_291 rfl rfl (by decide) (by first | exact Nat.one_pos | assumption | omega) (by first | decide | omega) (Nat.le_of_ble_eq_true rfl) (d_areParted hH hT2.2.1 hT2.1 (hel i hin) (hel _ hjn) ?_)
                cases hs : apB T.length (R.getD i 0) (R.getD (i + 1 + k) 0) with
                | false =>
                  refine z_if_eq (tgt := 145) hX (D_Model_rings (i := 78) rfl) (by decide) (fun _ => ?_) (fun hcc => absurd (rfl) hcc)
                  first | refine z_inc1 hX (D_Model_rings (i := 80) rfl) rfl (by decide) rfl ?_ | refine z_iinc hX (D_Model_rings (i := 80) rfl) rfl rfl (by decide) rfl ?_
                  refine z_goto (tgt := 115) hX (D_Model_rings (i := 81) rfl) (by decide) ?_
                  have := ihe (k + 1) (by omega)
                  rw [sumI, hs] at this
                  exact this
                | true =>
                  refine z_if_eq (tgt := 145) hX (D_Model_rings (i := 78) rfl) (by decide) (fun hcc => absurd hcc (by decide)) (fun _ => ?_)
                  first | refine z_inc1 hX (D_Model_rings (i := 79) rfl) rfl (by decide) rfl ?_ | refine z_iinc hX (D_Model_rings (i := 79) rfl) rfl rfl (by decide) rfl ?_
                  first | refine z_inc1 hX (D_Model_rings (i := 80) rfl) rfl (by decide) rfl ?_ | refine z_iinc hX (D_Model_rings (i := 80) rfl) rfl rfl (by decide) rfl ?_
                  refine z_goto (tgt := 115) hX (D_Model_rings (i := 81) rfl) (by decide) ?_
                  have := ihe (k + 1) (by omega)
                  rw [sumI, hs] at this
                  exact this
          · refine z_iload_n hX (D_Model_rings (i := 52) rfl) rfl ?_
            exact z_iret hX hR (D_Model_rings (i := 53) rfl) rfl (h0 S2 g3 hne)
    · refine z_bipush (v := -5) hX (D_Model_rings (i := 10) rfl) (by decide) ?_
      exact z_iret hX hR (D_Model_rings (i := 11) rfl) rfl (hst x1 x2 ((nI_eq (b := 0) (by omega) (by decide)).mp g2))
  · refine z_iconst (v := -1) hX (D_Model_rings (i := 5) rfl) (by decide) ?_
    refine z_iret hX hR (D_Model_rings (i := 6) rfl) rfl (hno (Classical.byContradiction (fun w => ?_)))
    have : decide ((0 : Int32) ≤ x ∧ x ≤ 1) = true := d01.mpr ⟨fun q => w (Or.inl q), Classical.byContradiction (fun q => w (Or.inr q))⟩
    rw [this] at g1
    exact absurd g1 (by decide)
theorem d_touch (hH : zHas ι pM) (hA : ArOK mem) (hC : COM mem C) (h8 : sz ≤ 8) (hT : TM S T sz) {i j w w2 ti tj : Nat} (hi : i < T.length) (hj : j < T.length) (hw : w < 6) (hw2 : w2 < 6) (h58 : S 58 i = nI ti) (hti : ti < 24) (htj : tj < 24) (h : Post (some (zI (bI (tcB (C (T.getD i 0) (stN ti w)) (C (T.getD j 0) (stN tj w2)))))) (tm mem S)) : zC l ι M_Model_touch 2 [zP 40 0, zI (nI i), zI (nI w), zI (nI j), zI (nI w2), zI (nI tj)] (tm mem S) Post := by
  have h4 := hT.2.1
  obtain ⟨a1, a2⟩ := hT.2.2 i hi
  obtain ⟨b1, b2⟩ := hT.2.2 j hj
  have c2 := (hC _ (Nat.lt_of_lt_of_le a2 h8) _ (st_ok ti hti w hw).2).2
  have d2 := (hC _ (Nat.lt_of_lt_of_le b2 h8) _ (st_ok tj htj w2 hw2).2).2
  refine z_enter hH (by decide) (by simp [z_ent, M_Model_touch]) (fun X hXl hX hR => ?_)
  refine z_aload_n hX (D_Model_touch (i := 0) rfl) rfl ?_
  refine z_aload_n hX (D_Model_touch (i := 1) rfl) rfl ?_
  refine z_getc hX (D_Model_touch (i := 2) rfl) f_Model_61 rfl (by decide) (by first | exact Nat.one_pos | assumption | omega) rfl ?_
  refine z_iload_n hX (D_Model_touch (i := 3) rfl) rfl ?_
  refine z_iald (j := i) hX (D_Model_touch (i := 4) rfl) rfl (by decide) (by first | exact Nat.one_pos | assumption | omega) (by decide) rfl (by omega) ?_
  rw [show (tm mem S).1 57 0 i = nI (T.getD i 0) from a1]
  refine z_aload_n hX (D_Model_touch (i := 5) rfl) rfl ?_
  refine z_getc hX (D_Model_touch (i := 6) rfl) f_Model_64 rfl (by decide) (by first | exact Nat.one_pos | assumption | omega) rfl ?_
  refine z_iload_n hX (D_Model_touch (i := 7) rfl) rfl ?_
  refine z_iald (j := i) hX (D_Model_touch (i := 8) rfl) rfl (by decide) (by first | exact Nat.one_pos | assumption | omega) (by decide) rfl (by omega) ?_
  rw [show (tm mem S).1 58 0 i = nI ti from h58]
  refine z_iload_n hX (D_Model_touch (i := 9) rfl) rfl ?_
  refine z_cV3 hX (D_Model_touch (i := 10) rfl) mi_Model_showsOf l_Model_223 rfl rfl (by decide) (by first | exact Nat.one_pos | assumption | omega) (by first | decide | omega) (Nat.le_of_ble_eq_true rfl) (d_sees hH hA hC (by omega) hti hw ?_)
  refine z_istore hX (D_Model_touch (i := 11) rfl) (by decide) rfl ?_
  refine z_aload_n hX (D_Model_touch (i := 12) rfl) rfl ?_
  refine z_aload_n hX (D_Model_touch (i := 13) rfl) rfl ?_
  refine z_getc hX (D_Model_touch (i := 14) rfl) f_Model_61 rfl (by decide) (by first | exact Nat.one_pos | assumption | omega) rfl ?_
  refine z_iload_n hX (D_Model_touch (i := 15) rfl) rfl ?_
  refine z_iald (j := j) hX (D_Model_touch (i := 16) rfl) rfl (by decide) (by first | exact Nat.one_pos | assumption | omega) (by decide) rfl (by omega) ?_
  rw [show (tm mem S).1 57 0 j = nI (T.getD j 0) from b1]
  refine z_iload hX (D_Model_touch (i := 17) rfl) rfl ?_
  refine z_iload hX (D_Model_touch (i := 18) rfl) rfl ?_
  refine z_cV3 hX (D_Model_touch (i := 19) rfl) mi_Model_showsOf l_Model_223 rfl rfl (by decide) (by first | exact Nat.one_pos | assumption | omega) (by first | decide | omega) (Nat.le_of_ble_eq_true rfl) (d_sees hH hA hC (by omega) htj hw2 ?_)
  generalize C (T.getD i 0) (stN ti w) = a at *
  generalize C (T.getD j 0) (stN tj w2) = b at *
  unfold tcB at h
  refine z_istore hX (D_Model_touch (i := 20) rfl) (by decide) rfl ?_
  refine z_iload hX (D_Model_touch (i := 21) rfl) rfl ?_
  refine z_bipush (v := 6) hX (D_Model_touch (i := 22) rfl) (by decide) ?_
  refine z_icmp_eq (tgt := 56) hX (D_Model_touch (i := 23) rfl) (by decide) (fun h1 => ?_) (fun h1 => ?_)
  · refine z_iconst (v := 1) hX (D_Model_touch (i := 30) rfl) (by decide) ?_
    refine z_goto (tgt := 61) hX (D_Model_touch (i := 31) rfl) (by decide) ?_
    rw [decide_eq_true (Or.inl ((nI_eq (b := 6) (by omega) (by decide)).mp h1))] at h
    exact z_zret hX hR (D_Model_touch (i := 33) rfl) rfl (by first | exact Or.inl rfl | exact Or.inr rfl | assumption) h
  · refine z_iload hX (D_Model_touch (i := 24) rfl) rfl ?_
    refine z_bipush (v := 6) hX (D_Model_touch (i := 25) rfl) (by decide) ?_
    have h1 : ¬ a = 6 := fun w => h1 (by rw [w]; rfl)
    refine z_icmp_eq (tgt := 56) hX (D_Model_touch (i := 26) rfl) (by decide) (fun h2 => ?_) (fun h2 => ?_)
    · refine z_iconst (v := 1) hX (D_Model_touch (i := 30) rfl) (by decide) ?_
      refine z_goto (tgt := 61) hX (D_Model_touch (i := 31) rfl) (by decide) ?_
      rw [decide_eq_true (Or.inr (Or.inl ((nI_eq (b := 6) (by omega) (by decide)).mp h2)))] at h
      exact z_zret hX hR (D_Model_touch (i := 33) rfl) rfl (by first | exact Or.inl rfl | exact Or.inr rfl | assumption) h
    · refine z_iload hX (D_Model_touch (i := 27) rfl) rfl ?_
      refine z_iload hX (D_Model_touch (i := 28) rfl) rfl ?_
      have h2 : ¬ b = 6 := fun w => h2 (by rw [w]; rfl)
      refine z_icmp_ne (tgt := 60) hX (D_Model_touch (i := 29) rfl) (by decide) (fun h3 => ?_) (fun h3 => ?_)
      · refine z_iconst (v := 0) hX (D_Model_touch (i := 32) rfl) (by decide) ?_
        rw [decide_eq_false (fun w => w.elim h1 (fun w => w.elim h2 (fun w => h3 (by rw [w]))))] at h
        exact z_zret hX hR (D_Model_touch (i := 33) rfl) rfl (by first | exact Or.inl rfl | exact Or.inr rfl | assumption) h
      · refine z_iconst (v := 1) hX (D_Model_touch (i := 30) rfl) (by decide) ?_
        refine z_goto (tgt := 61) hX (D_Model_touch (i := 31) rfl) (by decide) ?_
        rw [decide_eq_true (Or.inr (Or.inr ((nI_eq (by omega) (by omega)).mp h3)))] at h
        exact z_zret hX hR (D_Model_touch (i := 33) rfl) rfl (by first | exact Or.inl rfl | exact Or.inr rfl | assumption) h
theorem d_fitsWall (hH : zHas ι pM) (hA : ArOK mem) (hC : COM mem C) (h8 : sz ≤ 8) (hT : TM S T sz) (h4 : T.length = 4) {j t : Nat} {f : Nat → Nat} (hj : j < 4) (ht : t < 24) (hf : ∀ i, i < j → S 58 i = nI (f i) ∧ f i < 24) (h : Post (some (zI (bI (okS (fun _ _ => true) (fpV C T) j f t)))) (tm mem S)) : zC l ι M_Model_fitsWall 3 [zP 40 0, zI (nI j), zI (nI t)] (tm mem S) Post := by
  refine z_enter hH (by decide) (by simp [z_ent, M_Model_fitsWall]) (fun X hXl hX hR => ?_)
  refine z_iload_n hX (D_Model_fitsWall (i := 0) rfl) rfl ?_
  refine z_iconst (v := 1) hX (D_Model_fitsWall (i := 1) rfl) (by decide) ?_
  have hc : j = 0 ∨ j = 1 ∨ j = 2 ∨ j = 3 := by omega
  rcases hc with rfl | rfl | rfl | rfl
  · skip
    refine z_icmp_ne (tgt := 15) hX (D_Model_fitsWall (i := 2) rfl) (by decide) (fun _ => ?_) (fun hcc => absurd hcc (by decide))
    refine z_iload_n hX (D_Model_fitsWall (i := 11) rfl) rfl ?_
    refine z_iconst (v := 2) hX (D_Model_fitsWall (i := 12) rfl) (by decide) ?_
    refine z_icmp_ne (tgt := 30) hX (D_Model_fitsWall (i := 13) rfl) (by decide) (fun _ => ?_) (fun hcc => absurd hcc (by decide))
    refine z_iload_n hX (D_Model_fitsWall (i := 22) rfl) rfl ?_
    refine z_if_eq (tgt := 58) hX (D_Model_fitsWall (i := 23) rfl) (by decide) (fun _ => ?_) (fun hcc => absurd (rfl) hcc)
    refine z_iconst (v := 1) hX (D_Model_fitsWall (i := 40) rfl) (by decide) ?_
    refine z_goto (tgt := 63) hX (D_Model_fitsWall (i := 41) rfl) (by decide) ?_
    exact z_zret hX hR (D_Model_fitsWall (i := 43) rfl) rfl (by first | exact Or.inl rfl | exact Or.inr rfl | assumption) h
  · rw [show okS (fun _ _ => true) (fpV C T) 1 f t = tcB (C (T.getD 0 0) (stN (f 0) 1)) (C (T.getD 1 0) (stN t 3)) from Bool.true_and _ |>.trans (Bool.true_and _)] at h
    refine z_icmp_ne (tgt := 15) hX (D_Model_fitsWall (i := 2) rfl) (by decide) (fun hcc => absurd (rfl) hcc) (fun _ => ?_)
    refine z_aload_n hX (D_Model_fitsWall (i := 3) rfl) rfl ?_
    refine z_iconst (v := 0) hX (D_Model_fitsWall (i := 4) rfl) (by decide) ?_
    refine z_iconst (v := 1) hX (D_Model_fitsWall (i := 5) rfl) (by decide) ?_
    refine z_iconst (v := 1) hX (D_Model_fitsWall (i := 6) rfl) (by decide) ?_
    refine z_iconst (v := 3) hX (D_Model_fitsWall (i := 7) rfl) (by decide) ?_
    refine z_iload_n hX (D_Model_fitsWall (i := 8) rfl) rfl ?_
    refine z_cV5 hX (D_Model_fitsWall (i := 9) rfl) mi_Model_touch l_Model_330 rfl rfl (by decide) (by first | exact Nat.one_pos | assumption | omega) (by first | decide | omega) (Nat.le_of_ble_eq_true rfl) (d_touch (i := 0) (w := 1) (j := 1) (w2 := 3) hH hA hC h8 hT (by omega) (by omega) (by decide) (by decide) (hf 0 (by decide)).1 (hf 0 (by decide)).2 ht ?_)
    exact z_zret hX hR (D_Model_fitsWall (i := 10) rfl) rfl (bI_or _) h
  · have e : okS (fun _ _ => true) (fpV C T) 2 f t = tcB (C (T.getD 0 0) (stN (f 0) 4)) (C (T.getD 2 0) (stN t 5)) := by
      show (true && ((true && fpV C T 0 2 (f 0) t) && fpV C T 1 2 (f 1) t)) = _
      rw [show fpV C T 1 2 (f 1) t = true from rfl, Bool.and_true, Bool.true_and, Bool.true_and]; rfl
    rw [e] at h
    refine z_icmp_ne (tgt := 15) hX (D_Model_fitsWall (i := 2) rfl) (by decide) (fun _ => ?_) (fun hcc => absurd hcc (by decide))
    refine z_iload_n hX (D_Model_fitsWall (i := 11) rfl) rfl ?_
    refine z_iconst (v := 2) hX (D_Model_fitsWall (i := 12) rfl) (by decide) ?_
    refine z_icmp_ne (tgt := 30) hX (D_Model_fitsWall (i := 13) rfl) (by decide) (fun hcc => absurd (rfl) hcc) (fun _ => ?_)
    refine z_aload_n hX (D_Model_fitsWall (i := 14) rfl) rfl ?_
    refine z_iconst (v := 0) hX (D_Model_fitsWall (i := 15) rfl) (by decide) ?_
    refine z_iconst (v := 4) hX (D_Model_fitsWall (i := 16) rfl) (by decide) ?_
    refine z_iconst (v := 2) hX (D_Model_fitsWall (i := 17) rfl) (by decide) ?_
    refine z_iconst (v := 5) hX (D_Model_fitsWall (i := 18) rfl) (by decide) ?_
    refine z_iload_n hX (D_Model_fitsWall (i := 19) rfl) rfl ?_
    refine z_cV5 hX (D_Model_fitsWall (i := 20) rfl) mi_Model_touch l_Model_330 rfl rfl (by decide) (by first | exact Nat.one_pos | assumption | omega) (by first | decide | omega) (Nat.le_of_ble_eq_true rfl) (d_touch (i := 0) (w := 4) (j := 2) (w2 := 5) hH hA hC h8 hT (by omega) (by omega) (by decide) (by decide) (hf 0 (by decide)).1 (hf 0 (by decide)).2 ht ?_)
    exact z_zret hX hR (D_Model_fitsWall (i := 21) rfl) rfl (bI_or _) h
  · have e : okS (fun _ _ => true) (fpV C T) 3 f t = (tcB (C (T.getD 1 0) (stN (f 1) 4)) (C (T.getD 3 0) (stN t 5)) && tcB (C (T.getD 2 0) (stN (f 2) 1)) (C (T.getD 3 0) (stN t 3))) := by
      show (true && (((true && fpV C T 0 3 (f 0) t) && fpV C T 1 3 (f 1) t) && fpV C T 2 3 (f 2) t)) = _
      rw [show fpV C T 0 3 (f 0) t = true from rfl, Bool.and_true, Bool.true_and, Bool.true_and]; rfl
    rw [e] at h
    refine z_icmp_ne (tgt := 15) hX (D_Model_fitsWall (i := 2) rfl) (by decide) (fun _ => ?_) (fun hcc => absurd hcc (by decide))
    refine z_iload_n hX (D_Model_fitsWall (i := 11) rfl) rfl ?_
    refine z_iconst (v := 2) hX (D_Model_fitsWall (i := 12) rfl) (by decide) ?_
    refine z_icmp_ne (tgt := 30) hX (D_Model_fitsWall (i := 13) rfl) (by decide) (fun _ => ?_) (fun hcc => absurd hcc (by decide))
    refine z_iload_n hX (D_Model_fitsWall (i := 22) rfl) rfl ?_
    refine z_if_eq (tgt := 58) hX (D_Model_fitsWall (i := 23) rfl) (by decide) (fun hcc => absurd hcc (by decide)) (fun _ => ?_)
    refine z_aload_n hX (D_Model_fitsWall (i := 24) rfl) rfl ?_
    refine z_iconst (v := 1) hX (D_Model_fitsWall (i := 25) rfl) (by decide) ?_
    refine z_iconst (v := 4) hX (D_Model_fitsWall (i := 26) rfl) (by decide) ?_
    refine z_iconst (v := 3) hX (D_Model_fitsWall (i := 27) rfl) (by decide) ?_
    refine z_iconst (v := 5) hX (D_Model_fitsWall (i := 28) rfl) (by decide) ?_
    refine z_iload_n hX (D_Model_fitsWall (i := 29) rfl) rfl ?_
    refine z_cV5 hX (D_Model_fitsWall (i := 30) rfl) mi_Model_touch l_Model_330 rfl rfl (by decide) (by first | exact Nat.one_pos | assumption | omega) (by first | decide | omega) (Nat.le_of_ble_eq_true rfl) (d_touch (i := 1) (w := 4) (j := 3) (w2 := 5) hH hA hC h8 hT (by omega) (by omega) (by decide) (by decide) (hf 1 (by decide)).1 (hf 1 (by decide)).2 ht ?_)
    refine z_if_eq (tgt := 62) hX (D_Model_fitsWall (i := 31) rfl) (by decide) (fun h1 => ?_) (fun h1 => ?_)
    · refine z_iconst (v := 0) hX (D_Model_fitsWall (i := 42) rfl) (by decide) ?_
      rw [bI_0.mp h1] at h
      exact z_zret hX hR (D_Model_fitsWall (i := 43) rfl) rfl (by first | exact Or.inl rfl | exact Or.inr rfl | assumption) h
    · refine z_aload_n hX (D_Model_fitsWall (i := 32) rfl) rfl ?_
      refine z_iconst (v := 2) hX (D_Model_fitsWall (i := 33) rfl) (by decide) ?_
      refine z_iconst (v := 1) hX (D_Model_fitsWall (i := 34) rfl) (by decide) ?_
      refine z_iconst (v := 3) hX (D_Model_fitsWall (i := 35) rfl) (by decide) ?_
      refine z_iconst (v := 3) hX (D_Model_fitsWall (i := 36) rfl) (by decide) ?_
      refine z_iload_n hX (D_Model_fitsWall (i := 37) rfl) rfl ?_
      rw [bI_n.mp h1, Bool.true_and] at h
      refine z_cV5 hX (D_Model_fitsWall (i := 38) rfl) mi_Model_touch l_Model_330 rfl rfl (by decide) (by first | exact Nat.one_pos | assumption | omega) (by first | decide | omega) (Nat.le_of_ble_eq_true rfl) (d_touch (i := 2) (w := 1) (j := 3) (w2 := 3) hH hA hC h8 hT (by omega) (by omega) (by decide) (by decide) (hf 2 (by decide)).1 (hf 2 (by decide)).2 ht ?_)
      refine z_if_eq (tgt := 62) hX (D_Model_fitsWall (i := 39) rfl) (by decide) (fun h2 => ?_) (fun h2 => ?_)
      · refine z_iconst (v := 0) hX (D_Model_fitsWall (i := 42) rfl) (by decide) ?_
        rw [bI_0.mp h2] at h
        exact z_zret hX hR (D_Model_fitsWall (i := 43) rfl) rfl (by first | exact Or.inl rfl | exact Or.inr rfl | assumption) h
      · refine z_iconst (v := 1) hX (D_Model_fitsWall (i := 40) rfl) (by decide) ?_
        refine z_goto (tgt := 63) hX (D_Model_fitsWall (i := 41) rfl) (by decide) ?_
        rw [bI_n.mp h2] at h
        exact z_zret hX hR (D_Model_fitsWall (i := 43) rfl) rfl (by first | exact Or.inl rfl | exact Or.inr rfl | assumption) h
theorem frO.tm {S S' : Nat → Nat → Int32} (hf : frO S S') (hT : TM S T sz) : TM S' T sz := ⟨(hf 40 28 (by omega) (by decide) (by decide)).trans hT.1, hT.2.1, fun i hi => ⟨(hf 57 i (by omega) (by decide) (by decide)).trans (hT.2.2 i hi).1, (hT.2.2 i hi).2⟩⟩
theorem d_goWall_end {X : zX} {n : Nat} (hX : zG ι M_Model_goWall X n pM) (hR : zRt ι X Post) {w : Int32} (h31 : S 40 31 = w) (h : ∀ S', frO S S' → (∀ i, S' 58 i = S 58 i) → S' 40 31 = w + 1 → (w = 0 → ∀ i, i < 4 → S' 59 i = S 58 i) → Post none (tm mem S')) : zW ι M_Model_goWall X 5 [some (zP 40 0), some (zI (nI 4)), none] [] (tm mem S) := by
  have fin : ∀ (S1 : Nat → Nat → Int32) (v2 : Option zV), frO S S1 → (∀ i, S1 58 i = S 58 i) → S1 40 31 = w → (w = 0 → ∀ i, i < 4 → S1 59 i = S 58 i) → zW ι M_Model_goWall X 37 [some (zP 40 0), some (zI (nI 4)), v2] [] (tm mem S1) := by
    intro S1 v2 hf h58 h31 h59
    refine z_aload_n hX (D_Model_goWall (i := 21) rfl) rfl ?_
    refine z_dupP hX (D_Model_goWall (i := 22) rfl) ?_
    refine z_geti hX (D_Model_goWall (i := 23) rfl) f_Model_256 rfl (by decide) (by first | exact Nat.one_pos | assumption | omega) rfl ?_
    refine z_iconst (v := 1) hX (D_Model_goWall (i := 24) rfl) (by decide) ?_
    refine z_iadd hX (D_Model_goWall (i := 25) rfl) ?_
    rw [show (tm mem S1).1 40 0 31 = w from h31]
    refine z_puti hX (D_Model_goWall (i := 26) rfl) g_Model_256 rfl (by decide) (by first | exact Nat.one_pos | assumption | omega) rfl ?_
    rw [tm_up rfl]
    exact z_ret hX hR (D_Model_goWall (i := 27) rfl) rfl (h _ (hf.trans frO_31) (fun i => (sU_ne (by omega)).trans (h58 i)) sU_at (fun q i hi => (sU_ne (by omega)).trans (h59 q i hi)))
  refine z_aload_n hX (D_Model_goWall (i := 3) rfl) rfl ?_
  refine z_geti hX (D_Model_goWall (i := 4) rfl) f_Model_256 rfl (by decide) (by first | exact Nat.one_pos | assumption | omega) rfl ?_
  rw [show (tm mem S).1 40 0 31 = w from h31]
  refine z_if_ne (tgt := 37) hX (D_Model_goWall (i := 5) rfl) (by decide) (fun h1 => ?_) (fun h1 => ?_)
  · skip
    exact fin S _ (fun _ _ _ _ _ => rfl) (fun _ => rfl) h31 (fun q => absurd q h1)
  · refine z_iconst (v := 0) hX (D_Model_goWall (i := 6) rfl) (by decide) ?_
    refine z_istore_n hX (D_Model_goWall (i := 7) rfl) (by decide) rfl ?_
    suffices LP : ∀ (d k : Nat) (S1 : Nat → Nat → Int32), k + d = 4 → frO S S1 → (∀ i, S1 58 i = S 58 i) → S1 40 31 = w → (∀ i, i < k → S1 59 i = S 58 i) → zW ι M_Model_goWall X 14 [some (zP 40 0), some (zI (nI 4)), some (zI (nI k))] [] (tm mem S1) from LP 4 0 S rfl (fun _ _ _ _ _ => rfl) (fun _ => rfl) h31 (fun i hi => absurd hi (Nat.not_lt_zero _))
    intro d
    induction d with
    | zero =>
      intro k S1 hk hf h58 h31 h59
      obtain rfl : k = 4 := hk
      refine z_iload_n hX (D_Model_goWall (i := 8) rfl) rfl ?_
      refine z_iconst (v := 4) hX (D_Model_goWall (i := 9) rfl) (by decide) ?_
      refine z_icmp_ge (tgt := 37) hX (D_Model_goWall (i := 10) rfl) (by decide) (fun _ => ?_) (fun hcc => absurd (Int32.le_refl _) hcc)
      exact fin S1 _ hf h58 h31 (fun _ => h59)
    | succ d ih =>
      intro k S1 hk hf h58 h31 h59
      have hkn : k < 4 := by omega
      refine z_iload_n hX (D_Model_goWall (i := 8) rfl) rfl ?_
      refine z_iconst (v := 4) hX (D_Model_goWall (i := 9) rfl) (by decide) ?_
      refine z_icmp_ge (tgt := 37) hX (D_Model_goWall (i := 10) rfl) (by decide) (fun hcc => absurd hcc (nI_ge (b := 4) hkn (by decide))) (fun _ => ?_)
      refine z_aload_n hX (D_Model_goWall (i := 11) rfl) rfl ?_
      refine z_getc hX (D_Model_goWall (i := 12) rfl) f_Model_67 rfl (by decide) (by first | exact Nat.one_pos | assumption | omega) rfl ?_
      refine z_iload_n hX (D_Model_goWall (i := 13) rfl) rfl ?_
      refine z_aload_n hX (D_Model_goWall (i := 14) rfl) rfl ?_
      refine z_getc hX (D_Model_goWall (i := 15) rfl) f_Model_64 rfl (by decide) (by first | exact Nat.one_pos | assumption | omega) rfl ?_
      refine z_iload_n hX (D_Model_goWall (i := 16) rfl) rfl ?_
      refine z_iald (j := k) hX (D_Model_goWall (i := 17) rfl) rfl (by decide) (by first | exact Nat.one_pos | assumption | omega) (by decide) rfl (by omega) ?_
      rw [show (tm mem S1).1 58 0 k = S 58 k from h58 k]
      refine z_iast (j := k) hX (D_Model_goWall (i := 18) rfl) rfl (by decide) (by first | exact Nat.one_pos | assumption | omega) (by decide) rfl (by omega) ?_
      rw [tm_up rfl]
      first | refine z_inc1 hX (D_Model_goWall (i := 19) rfl) rfl (by decide) rfl ?_ | refine z_iinc hX (D_Model_goWall (i := 19) rfl) rfl rfl (by decide) rfl ?_
      refine z_goto (tgt := 14) hX (D_Model_goWall (i := 20) rfl) (by decide) ?_
      refine ih (k + 1) _ (by omega) (hf.trans frO_59) (fun i => (sU_ne (by omega)).trans (h58 i)) ((sU_ne (by omega)).trans h31) (fun i hi => ?_)
      by_cases e : i = k
      · rw [e, sU_at]
      · rw [sU_ne (Or.inr e)]; exact h59 i (by omega)
theorem d_goWall_n (hH : zHas ι pM) (hA : ArOK mem) (hC : COM mem C) (h8 : sz ≤ 8) (hT4 : T.length = 4) : ∀ (d j : Nat) (f : Nat → Nat) (S : Nat → Nat → Int32) (w : Nat) (Post : Option zV → zM → Prop), j + d = 4 → TM S T sz → S 40 33 = 0 → S 40 31 = nI w → (∀ i, i < j → S 58 i = nI (f i) ∧ f i < 24) → (∀ S', frO S S' → (∀ i, i < j → S' 58 i = S 58 i) → S' 40 31 = nI (w + cntS (fun _ _ => true) (fpV C T) d j f) → Post none (tm mem S')) → zC l ι M_Model_goWall (4 + d) [zP 40 0, zI (nI j)] (tm mem S) Post := by
  intro d
  induction d with
  | zero =>
    intro j f S w Post hj hT h33 h31 hf h
    obtain rfl : j = 4 := hj
    refine z_enter hH (by decide) (by simp [z_ent, M_Model_goWall]) (fun X hXl hX hR => ?_)
    refine z_iload_n hX (D_Model_goWall (i := 0) rfl) rfl ?_
    refine z_iconst (v := 4) hX (D_Model_goWall (i := 1) rfl) (by decide) ?_
    refine z_icmp_ne (tgt := 48) hX (D_Model_goWall (i := 2) rfl) (by decide) (fun hcc => absurd (rfl) hcc) (fun _ => ?_)
    exact d_goWall_end hX hR h31 (fun S' f1 h58 k31 _ => h S' f1 (fun i _ => h58 i) (by rw [k31]; exact nI_add w 1))
  | succ d ih =>
    intro j f S w Post hj hT h33 h31 hf h
    have hjn : j < 4 := by omega
    refine z_enter hH (by decide) (by simp [z_ent, M_Model_goWall]) (fun X hXl hX hR => ?_)
    subst hXl
    refine z_iload_n hX (D_Model_goWall (i := 0) rfl) rfl ?_
    refine z_iconst (v := 4) hX (D_Model_goWall (i := 1) rfl) (by decide) ?_
    refine z_icmp_ne (tgt := 48) hX (D_Model_goWall (i := 2) rfl) (by decide) (fun _ => ?_) (fun hcc => absurd hcc ((fun w => absurd ((nI_eq (b := 4) (by omega) (by decide)).mp w) (by omega))))
    refine z_iconst (v := 0) hX (D_Model_goWall (i := 28) rfl) (by decide) ?_
    refine z_istore_n hX (D_Model_goWall (i := 29) rfl) (by decide) rfl ?_
    suffices LP : ∀ (m t : Nat) (S1 : Nat → Nat → Int32), t + m = 24 → frO S S1 → (∀ i, i < j → S1 58 i = S 58 i) → S1 40 31 = nI (w + sumI (fun t => if okS (fun _ _ => true) (fpV C T) j f t = true then cntS (fun _ _ => true) (fpV C T) d (j + 1) (fN f j t) else 0) t) → zW ι M_Model_goWall X 50 [some (zP 40 0), some (zI (nI j)), some (zI (nI t))] [] (tm mem S1) from LP 24 0 S rfl (fun _ _ _ _ _ => rfl) (fun _ _ => rfl) h31
    intro m
    induction m with
    | zero =>
      intro t S1 ht hfr hsm k31
      obtain rfl : t = 24 := ht
      refine z_iload_n hX (D_Model_goWall (i := 30) rfl) rfl ?_
      refine z_bipush (v := 24) hX (D_Model_goWall (i := 31) rfl) (by decide) ?_
      refine z_icmp_ge (tgt := 103) hX (D_Model_goWall (i := 32) rfl) (by decide) (fun _ => ?_) (fun hcc => absurd (Int32.le_refl _) hcc)
      exact z_ret hX hR (D_Model_goWall (i := 58) rfl) rfl (h S1 hfr hsm k31)
    | succ m ihm =>
      intro t S1 ht hfr hsm k31
      have ht24 : t < 24 := by omega
      have g33 : S1 40 33 = 0 := (hfr 40 33 (by omega) (by decide) (by decide)).trans h33
      refine z_iload_n hX (D_Model_goWall (i := 30) rfl) rfl ?_
      refine z_bipush (v := 24) hX (D_Model_goWall (i := 31) rfl) (by decide) ?_
      refine z_icmp_ge (tgt := 103) hX (D_Model_goWall (i := 32) rfl) (by decide) (fun hcc => absurd hcc (nI_ge (b := 24) ht24 (by decide))) (fun _ => ?_)
      refine z_aload_n hX (D_Model_goWall (i := 33) rfl) rfl ?_
      refine z_geti hX (D_Model_goWall (i := 34) rfl) f_Model_259 rfl (by decide) (by first | exact Nat.one_pos | assumption | omega) rfl ?_
      rw [show (tm mem S1).1 40 0 33 = 0 from g33]
      refine z_if_eq (tgt := 71) hX (D_Model_goWall (i := 35) rfl) (by decide) (fun _ => ?_) (fun hcc => absurd (rfl) hcc)
      refine z_aload_n hX (D_Model_goWall (i := 40) rfl) rfl ?_
      refine z_iload_n hX (D_Model_goWall (i := 41) rfl) rfl ?_
      refine z_iload_n hX (D_Model_goWall (i := 42) rfl) rfl ?_
      refine z_cV2 hX (D_Model_goWall (i := 43) rfl) mi_Model_fitsWall l_Model_333 rfl rfl (by decide) (by first | exact Nat.one_pos | assumption | omega) (by first | decide | omega) (Nat.le_of_ble_eq_true rfl) (d_fitsWall (f := f) hH hA hC h8 (hfr.tm hT) hT4 hjn ht24 (fun i hi => by rw [hsm i hi]; exact hf i hi) ?_)
      cases hok : okS (fun _ _ => true) (fpV C T) j f t with
      | false =>
        refine z_if_ne (tgt := 83) hX (D_Model_goWall (i := 44) rfl) (by decide) (fun hcc => absurd (rfl) hcc) (fun _ => ?_)
        refine z_goto (tgt := 97) hX (D_Model_goWall (i := 45) rfl) (by decide) ?_
        first | refine z_inc1 hX (D_Model_goWall (i := 56) rfl) rfl (by decide) rfl ?_ | refine z_iinc hX (D_Model_goWall (i := 56) rfl) rfl rfl (by decide) rfl ?_
        refine z_goto (tgt := 50) hX (D_Model_goWall (i := 57) rfl) (by decide) ?_
        refine ihm (t + 1) S1 (by omega) hfr hsm ?_
        rw [sumI, hok]; exact k31
      | true =>
        refine z_if_ne (tgt := 83) hX (D_Model_goWall (i := 44) rfl) (by decide) (fun _ => ?_) (fun hcc => absurd hcc (by decide))
        refine z_aload_n hX (D_Model_goWall (i := 46) rfl) rfl ?_
        refine z_getc hX (D_Model_goWall (i := 47) rfl) f_Model_64 rfl (by decide) (by first | exact Nat.one_pos | assumption | omega) rfl ?_
        refine z_iload_n hX (D_Model_goWall (i := 48) rfl) rfl ?_
        refine z_iload_n hX (D_Model_goWall (i := 49) rfl) rfl ?_
        refine z_iast (j := j) hX (D_Model_goWall (i := 50) rfl) rfl (by decide) (by first | exact Nat.one_pos | assumption | omega) (by decide) rfl (by omega) ?_
        rw [tm_up rfl]
        refine z_aload_n hX (D_Model_goWall (i := 51) rfl) rfl ?_
        refine z_iload_n hX (D_Model_goWall (i := 52) rfl) rfl ?_
        refine z_iconst (v := 1) hX (D_Model_goWall (i := 53) rfl) (by decide) ?_
        refine z_iadd hX (D_Model_goWall (i := 54) rfl) ?_
        rw [show nI j + 1 = nI (j + 1) from nI_add j 1]
        refine z_cV1 hX (D_Model_goWall (i := 55) rfl) mi_Model_goWall l_Model_336 rfl rfl (by decide) (by first | exact Nat.one_pos | assumption | omega) (by first | decide | omega) (Nat.le_of_ble_eq_true rfl) (ih (j + 1) (fN f j t) _ _ _ (by omega) ((hfr.trans frO_58).tm hT) ((sU_ne (by omega)).trans g33) ((sU_ne (by omega)).trans k31) ?_ ?_)
        · intro i hi
          by_cases e : i = j
          · subst e
            rw [sU_at, fN_at]; exact ⟨rfl, ht24⟩
          · rw [sU_ne (Or.inr e), fN_ne e, hsm i (by omega)]; exact hf i (by omega)
        · intro S2 hf2 hs2 l31
          first | refine z_inc1 hX (D_Model_goWall (i := 56) rfl) rfl (by decide) rfl ?_ | refine z_iinc hX (D_Model_goWall (i := 56) rfl) rfl rfl (by decide) rfl ?_
          refine z_goto (tgt := 50) hX (D_Model_goWall (i := 57) rfl) (by decide) ?_
          refine ihm (t + 1) S2 (by omega) (hfr.trans (frO_58.trans hf2)) (fun i hi => by rw [hs2 i (by omega), sU_ne (Or.inr (by omega)), hsm i hi]) ?_
          rw [l31, sumI, if_pos hok, Nat.add_assoc]
theorem d_goWall_1 (hH : zHas ι pM) (hA : ArOK mem) (hC : COM mem C) (h8 : sz ≤ 8) (hT4 : T.length = 4) : ∀ (d j : Nat) (f : Nat → Nat) (S : Nat → Nat → Int32) (Post : Option zV → zM → Prop), j + d = 4 → TM S T sz → S 40 33 = 1 → S 40 31 = 0 → (∀ i, i < j → S 58 i = nI (f i) ∧ f i < 24) → (∀ S', frO S S' → (∀ i, i < j → S' 58 i = S 58 i) → S' 40 31 = 0 → fstS (fun _ _ => true) (fpV C T) d j f = none → Post none (tm mem S')) → (∀ S' g, frO S S' → S' 40 31 = 1 → fstS (fun _ _ => true) (fpV C T) d j f = some g → (∀ i, i < 4 → S' 59 i = nI (g i)) → Post none (tm mem S')) → zC l ι M_Model_goWall (4 + d) [zP 40 0, zI (nI j)] (tm mem S) Post := by
  intro d
  induction d with
  | zero =>
    intro j f S Post hj hT h33 h31 hf hn hs
    obtain rfl : j = 4 := hj
    refine z_enter hH (by decide) (by simp [z_ent, M_Model_goWall]) (fun X hXl hX hR => ?_)
    refine z_iload_n hX (D_Model_goWall (i := 0) rfl) rfl ?_
    refine z_iconst (v := 4) hX (D_Model_goWall (i := 1) rfl) (by decide) ?_
    refine z_icmp_ne (tgt := 48) hX (D_Model_goWall (i := 2) rfl) (by decide) (fun hcc => absurd (rfl) hcc) (fun _ => ?_)
    exact d_goWall_end hX hR h31 (fun S' f1 h58 k31 h59 => hs S' f f1 (by rw [k31]; rfl) rfl (fun i hi => by rw [h59 rfl i hi]; exact (hf i hi).1))
  | succ d ih =>
    intro j f S Post hj hT h33 h31 hf hn hs
    have hjn : j < 4 := by omega
    refine z_enter hH (by decide) (by simp [z_ent, M_Model_goWall]) (fun X hXl hX hR => ?_)
    subst hXl
    refine z_iload_n hX (D_Model_goWall (i := 0) rfl) rfl ?_
    refine z_iconst (v := 4) hX (D_Model_goWall (i := 1) rfl) (by decide) ?_
    refine z_icmp_ne (tgt := 48) hX (D_Model_goWall (i := 2) rfl) (by decide) (fun _ => ?_) (fun hcc => absurd hcc ((fun w => absurd ((nI_eq (b := 4) (by omega) (by decide)).mp w) (by omega))))
    refine z_iconst (v := 0) hX (D_Model_goWall (i := 28) rfl) (by decide) ?_
    refine z_istore_n hX (D_Model_goWall (i := 29) rfl) (by decide) rfl ?_
    suffices LP : ∀ (m t : Nat) (S1 : Nat → Nat → Int32), t + m = 24 → frO S S1 → (∀ i, i < j → S1 58 i = S 58 i) → S1 40 31 = 0 → fstS (fun _ _ => true) (fpV C T) (d + 1) j f = frI (fun t => if okS (fun _ _ => true) (fpV C T) j f t = true then fstS (fun _ _ => true) (fpV C T) d (j + 1) (fN f j t) else none) t m → zW ι M_Model_goWall X 50 [some (zP 40 0), some (zI (nI j)), some (zI (nI t))] [] (tm mem S1) from LP 24 0 S rfl (fun _ _ _ _ _ => rfl) (fun _ _ => rfl) h31 rfl
    intro m
    induction m with
    | zero =>
      intro t S1 ht hfr hsm k31 he
      obtain rfl : t = 24 := ht
      refine z_iload_n hX (D_Model_goWall (i := 30) rfl) rfl ?_
      refine z_bipush (v := 24) hX (D_Model_goWall (i := 31) rfl) (by decide) ?_
      refine z_icmp_ge (tgt := 103) hX (D_Model_goWall (i := 32) rfl) (by decide) (fun _ => ?_) (fun hcc => absurd (Int32.le_refl _) hcc)
      exact z_ret hX hR (D_Model_goWall (i := 58) rfl) rfl (hn S1 hfr hsm k31 he)
    | succ m ihm =>
      intro t S1 ht hfr hsm k31 he
      have ht24 : t < 24 := by omega
      have g33 : S1 40 33 = 1 := (hfr 40 33 (by omega) (by decide) (by decide)).trans h33
      refine z_iload_n hX (D_Model_goWall (i := 30) rfl) rfl ?_
      refine z_bipush (v := 24) hX (D_Model_goWall (i := 31) rfl) (by decide) ?_
      refine z_icmp_ge (tgt := 103) hX (D_Model_goWall (i := 32) rfl) (by decide) (fun hcc => absurd hcc (nI_ge (b := 24) ht24 (by decide))) (fun _ => ?_)
      refine z_aload_n hX (D_Model_goWall (i := 33) rfl) rfl ?_
      refine z_geti hX (D_Model_goWall (i := 34) rfl) f_Model_259 rfl (by decide) (by first | exact Nat.one_pos | assumption | omega) rfl ?_
      rw [show (tm mem S1).1 40 0 33 = 1 from g33]
      refine z_if_eq (tgt := 71) hX (D_Model_goWall (i := 35) rfl) (by decide) (fun hcc => absurd hcc (by decide)) (fun _ => ?_)
      refine z_aload_n hX (D_Model_goWall (i := 36) rfl) rfl ?_
      refine z_geti hX (D_Model_goWall (i := 37) rfl) f_Model_256 rfl (by decide) (by first | exact Nat.one_pos | assumption | omega) rfl ?_
      rw [show (tm mem S1).1 40 0 31 = 0 from k31]
      refine z_if_le (tgt := 71) hX (D_Model_goWall (i := 38) rfl) (by decide) (fun _ => ?_) (fun hcc => absurd (Int32.le_refl _) hcc)
      refine z_aload_n hX (D_Model_goWall (i := 40) rfl) rfl ?_
      refine z_iload_n hX (D_Model_goWall (i := 41) rfl) rfl ?_
      refine z_iload_n hX (D_Model_goWall (i := 42) rfl) rfl ?_
      refine z_cV2 hX (D_Model_goWall (i := 43) rfl) mi_Model_fitsWall l_Model_333 rfl rfl (by decide) (by first | exact Nat.one_pos | assumption | omega) (by first | decide | omega) (Nat.le_of_ble_eq_true rfl) (d_fitsWall (f := f) hH hA hC h8 (hfr.tm hT) hT4 hjn ht24 (fun i hi => by rw [hsm i hi]; exact hf i hi) ?_)
      cases hok : okS (fun _ _ => true) (fpV C T) j f t with
      | false =>
        refine z_if_ne (tgt := 83) hX (D_Model_goWall (i := 44) rfl) (by decide) (fun hcc => absurd (rfl) hcc) (fun _ => ?_)
        refine z_goto (tgt := 97) hX (D_Model_goWall (i := 45) rfl) (by decide) ?_
        first | refine z_inc1 hX (D_Model_goWall (i := 56) rfl) rfl (by decide) rfl ?_ | refine z_iinc hX (D_Model_goWall (i := 56) rfl) rfl rfl (by decide) rfl ?_
        refine z_goto (tgt := 50) hX (D_Model_goWall (i := 57) rfl) (by decide) ?_
        refine ihm (t + 1) S1 (by omega) hfr hsm k31 ?_
        rw [he, frI, hok]; rfl
      | true =>
        refine z_if_ne (tgt := 83) hX (D_Model_goWall (i := 44) rfl) (by decide) (fun _ => ?_) (fun hcc => absurd hcc (by decide))
        refine z_aload_n hX (D_Model_goWall (i := 46) rfl) rfl ?_
        refine z_getc hX (D_Model_goWall (i := 47) rfl) f_Model_64 rfl (by decide) (by first | exact Nat.one_pos | assumption | omega) rfl ?_
        refine z_iload_n hX (D_Model_goWall (i := 48) rfl) rfl ?_
        refine z_iload_n hX (D_Model_goWall (i := 49) rfl) rfl ?_
        refine z_iast (j := j) hX (D_Model_goWall (i := 50) rfl) rfl (by decide) (by first | exact Nat.one_pos | assumption | omega) (by decide) rfl (by omega) ?_
        rw [tm_up rfl]
        refine z_aload_n hX (D_Model_goWall (i := 51) rfl) rfl ?_
        refine z_iload_n hX (D_Model_goWall (i := 52) rfl) rfl ?_
        refine z_iconst (v := 1) hX (D_Model_goWall (i := 53) rfl) (by decide) ?_
        refine z_iadd hX (D_Model_goWall (i := 54) rfl) ?_
        rw [show nI j + 1 = nI (j + 1) from nI_add j 1]
        refine z_cV1 hX (D_Model_goWall (i := 55) rfl) mi_Model_goWall l_Model_336 rfl rfl (by decide) (by first | exact Nat.one_pos | assumption | omega) (by first | decide | omega) (Nat.le_of_ble_eq_true rfl) (ih (j + 1) (fN f j t) _ _ (by omega) ((hfr.trans frO_58).tm hT) ((sU_ne (by omega)).trans g33) ((sU_ne (by omega)).trans k31) ?_ ?_ ?_)
        · intro i hi
          by_cases e : i = j
          · subst e
            rw [sU_at, fN_at]; exact ⟨rfl, ht24⟩
          · rw [sU_ne (Or.inr e), fN_ne e, hsm i (by omega)]; exact hf i (by omega)
        · intro S2 hf2 hs2 l31 hno
          first | refine z_inc1 hX (D_Model_goWall (i := 56) rfl) rfl (by decide) rfl ?_ | refine z_iinc hX (D_Model_goWall (i := 56) rfl) rfl rfl (by decide) rfl ?_
          refine z_goto (tgt := 50) hX (D_Model_goWall (i := 57) rfl) (by decide) ?_
          refine ihm (t + 1) S2 (by omega) (hfr.trans (frO_58.trans hf2)) (fun i hi => by rw [hs2 i (by omega), sU_ne (Or.inr (by omega)), hsm i hi]) l31 ?_
          rw [he, frI, if_pos hok, hno]
        · intro S2 g hf2 l31 hyes h59
          have hp := hs S2 g (hfr.trans (frO_58.trans hf2)) l31 (by rw [he, frI, if_pos hok, hyes]) h59
          have l33 : S2 40 33 = 1 := (hf2 40 33 (by omega) (by decide) (by decide)).trans ((sU_ne (by omega)).trans g33)
          first | refine z_inc1 hX (D_Model_goWall (i := 56) rfl) rfl (by decide) rfl ?_ | refine z_iinc hX (D_Model_goWall (i := 56) rfl) rfl rfl (by decide) rfl ?_
          refine z_goto (tgt := 50) hX (D_Model_goWall (i := 57) rfl) (by decide) ?_
          refine z_iload_n hX (D_Model_goWall (i := 30) rfl) rfl ?_
          refine z_bipush (v := 24) hX (D_Model_goWall (i := 31) rfl) (by decide) ?_
          refine z_icmp_ge (tgt := 103) hX (D_Model_goWall (i := 32) rfl) (by decide) (fun h9 => ?_) (fun h9 => ?_)
          · skip
            exact z_ret hX hR (D_Model_goWall (i := 58) rfl) rfl hp
          · refine z_aload_n hX (D_Model_goWall (i := 33) rfl) rfl ?_
            refine z_geti hX (D_Model_goWall (i := 34) rfl) f_Model_259 rfl (by decide) (by first | exact Nat.one_pos | assumption | omega) rfl ?_
            rw [show (tm mem S2).1 40 0 33 = 1 from l33]
            refine z_if_eq (tgt := 71) hX (D_Model_goWall (i := 35) rfl) (by decide) (fun hcc => absurd hcc (by decide)) (fun _ => ?_)
            refine z_aload_n hX (D_Model_goWall (i := 36) rfl) rfl ?_
            refine z_geti hX (D_Model_goWall (i := 37) rfl) f_Model_256 rfl (by decide) (by first | exact Nat.one_pos | assumption | omega) rfl ?_
            rw [show (tm mem S2).1 40 0 31 = 1 from l31]
            refine z_if_le (tgt := 71) hX (D_Model_goWall (i := 38) rfl) (by decide) (fun hcc => absurd hcc (by decide)) (fun _ => ?_)
            exact z_ret hX hR (D_Model_goWall (i := 39) rfl) rfl hp
theorem d_wall (hH : zHas ι pM) {x : Int32} {bx : Nat} (hS : MS mem sz bx C τ Λ) (hno : (x < -1 ∨ 4 ≤ x) → Post (some (zI (-1))) mem) (hst : ¬ x < -1 → ¬ 4 ≤ x → (bxL bx 8).length < 4 → Post (some (zI (-5))) mem) (hn : ∀ S', x = -1 → (bxL bx 8).length = 4 → Post (some (zI (nI (cntS (fun _ _ => true) (fpV C (bxL bx 8)) 4 0 (fun _ => 0))))) (tm mem S')) (hk : ∀ k S', k < 4 → x = nI k → (bxL bx 8).length = 4 → Post (some (zI (match fstS (fun _ _ => true) (fpV C (bxL bx 8)) 4 0 (fun _ => 0) with | none => -2 | some g => nI (g k)))) (tm mem S')) : zC l ι M_Model_wall 9 [zP 40 0, zI x] mem Post := by
  have h8 := hS.2.1
  have hb := hS.b
  have hlen := hS.len
  have epc : pcN bx 8 = (bxL bx sz).length := by rw [bxL_8 hS.2.2.2.1 h8, bxL_len]
  rw [← bxL_8 hS.2.2.2.1 h8] at hst hn hk
  have ein : decide ((-1 : Int32) ≤ x ∧ x ≤ 3) = true ↔ ¬ (x < -1 ∨ 4 ≤ x) := by
    have e3 : (3 : Int32).toInt = 3 := by decide
    have e4 : (4 : Int32).toInt = 4 := by decide
    rw [decide_eq_true_iff, Int32.le_iff_toInt_le, Int32.le_iff_toInt_le, Int32.lt_iff_toInt_lt, Int32.le_iff_toInt_le, e3, e4]
    omega
  refine z_enter hH (by decide) (by simp [z_ent, M_Model_wall]) (fun X hXl hX hR => ?_)
  refine z_iload_n hX (D_Model_wall (i := 0) rfl) rfl ?_
  refine z_iconst (v := -1) hX (D_Model_wall (i := 1) rfl) (by decide) ?_
  refine z_iconst (v := 3) hX (D_Model_wall (i := 2) rfl) (by decide) ?_
  refine z_cS3 hX (D_Model_wall (i := 3) rfl) ms_Model_in l_Model_102 (by first | decide | omega) (Nat.le_of_ble_eq_true rfl) (d_in ?_)
  refine z_if_ne (tgt := 11) hX (D_Model_wall (i := 4) rfl) (by decide) (fun g1 => ?_) (fun g1 => ?_)
  · refine z_aload_n hX (D_Model_wall (i := 7) rfl) rfl ?_
    refine z_geti hX (D_Model_wall (i := 8) rfl) f_Model_147 rfl (by decide) (by first | exact Nat.one_pos | assumption | omega) rfl ?_
    have g2 := ein.mp (bI_n.mp g1)
    rw [hS.2.2.1]
    refine z_cS1 hX (D_Model_wall (i := 9) rfl) ms_Model_bitsOf l_Model_143 (by first | decide | omega) (Nat.le_of_ble_eq_true rfl) (d_bitsOf hb ?_)
    rw [epc]
    refine z_iconst (v := 4) hX (D_Model_wall (i := 10) rfl) (by decide) ?_
    refine z_icmp_ge (tgt := 25) hX (D_Model_wall (i := 11) rfl) (by decide) (fun g3 => ?_) (fun g3 => ?_)
    · skip
      have e4 : (bxL bx sz).length = 4 := by
        have := (nI_leI (a := 4) (by decide) (by omega)).mp g3
        omega
      obtain ⟨S, eS⟩ := tm_ex mem
      rw [← eS]
      refine z_aload_n hX (D_Model_wall (i := 14) rfl) rfl ?_
      refine z_aload_n hX (D_Model_wall (i := 15) rfl) rfl ?_
      refine z_geti hX (D_Model_wall (i := 16) rfl) f_Model_147 rfl (by decide) (by first | exact Nat.one_pos | assumption | omega) rfl ?_
      rw [show (tm mem S).1 40 0 4 = nI bx from hS.2.2.1]
      refine z_cV1 hX (D_Model_wall (i := 17) rfl) mi_Model_findTower l_Model_243 rfl rfl (by decide) (by first | exact Nat.one_pos | assumption | omega) (by first | decide | omega) (Nat.le_of_ble_eq_true rfl) (d_findTower hH hS.1 h8 hb hlen ?_)
      intro S1 f1 hT
      refine z_aload_n hX (D_Model_wall (i := 18) rfl) rfl ?_
      refine z_iconst (v := 0) hX (D_Model_wall (i := 19) rfl) (by decide) ?_
      refine z_puti hX (D_Model_wall (i := 20) rfl) g_Model_256 rfl (by decide) (by first | exact Nat.one_pos | assumption | omega) rfl ?_
      refine z_aload_n hX (D_Model_wall (i := 21) rfl) rfl ?_
      refine z_iload_n hX (D_Model_wall (i := 22) rfl) rfl ?_
      rw [tm_up rfl]
      have hA := hS.2.2.2.2.2.2.2.2
      have hC := hS.2.2.2.2.2.1
      have hT2 : ∀ v : Int32, TM (sU (sU S1 40 31 0) 40 33 v) (bxL bx sz) sz := fun v => ⟨(sU_ne (by omega)).trans ((sU_ne (by omega)).trans hT.1), hT.2.1, fun i hi => ⟨(sU_ne (by omega)).trans ((sU_ne (by omega)).trans (hT.2.2 i hi).1), (hT.2.2 i hi).2⟩⟩
      refine z_if_lt (tgt := 47) hX (D_Model_wall (i := 23) rfl) (by decide) (fun g4 => ?_) (fun g4 => ?_)
      · refine z_iconst (v := 0) hX (D_Model_wall (i := 26) rfl) (by decide) ?_
        refine z_putz hX (D_Model_wall (i := 27) rfl) g_Model_259 rfl (by decide) (by first | exact Nat.one_pos | assumption | omega) rfl (by first | exact Or.inl rfl | exact Or.inr rfl | assumption) ?_
        refine z_aload_n hX (D_Model_wall (i := 28) rfl) rfl ?_
        refine z_iconst (v := 0) hX (D_Model_wall (i := 29) rfl) (by decide) ?_
        have ey : x = -1 := by
          have a1 := Int32.lt_iff_toInt_lt.mp g4
          have a2 := Int32.le_iff_toInt_le.mp (Int32.not_lt.mp (fun w => g2 (Or.inl w)))
          have a3 : (-1 : Int32).toInt = -1 := by decide
          apply Int32.toInt_inj.mp
          rw [i32_0] at a1
          rw [a3] at a2 ⊢
          omega
        rw [tm_up rfl]
        refine z_cV1 hX (D_Model_wall (i := 30) rfl) mi_Model_goWall l_Model_336 rfl rfl (by decide) (by first | exact Nat.one_pos | assumption | omega) (by first | decide | omega) (Nat.le_of_ble_eq_true rfl) (d_goWall_n hH hA hC h8 e4 4 0 (fun _ => 0) _ 0 _ rfl (hT2 0) sU_at ((sU_ne (by omega)).trans sU_at) (fun i hi => absurd hi (Nat.not_lt_zero _)) ?_)
        intro S2 f2 _ k31
        rw [Nat.zero_add] at k31
        refine z_iload_n hX (D_Model_wall (i := 31) rfl) rfl ?_
        refine z_if_ge (tgt := 65) hX (D_Model_wall (i := 32) rfl) (by decide) (fun hcc => absurd hcc (Int32.not_le.mpr g4)) (fun _ => ?_)
        refine z_aload_n hX (D_Model_wall (i := 33) rfl) rfl ?_
        refine z_geti hX (D_Model_wall (i := 34) rfl) f_Model_256 rfl (by decide) (by first | exact Nat.one_pos | assumption | omega) rfl ?_
        rw [show (tm mem S2).1 40 0 31 = _ from k31]
        exact z_iret hX hR (D_Model_wall (i := 35) rfl) rfl (hn S2 ey e4)
      · refine z_iconst (v := 1) hX (D_Model_wall (i := 24) rfl) (by decide) ?_
        refine z_goto (tgt := 48) hX (D_Model_wall (i := 25) rfl) (by decide) ?_
        refine z_putz hX (D_Model_wall (i := 27) rfl) g_Model_259 rfl (by decide) (by first | exact Nat.one_pos | assumption | omega) rfl (by first | exact Or.inl rfl | exact Or.inr rfl | assumption) ?_
        refine z_aload_n hX (D_Model_wall (i := 28) rfl) rfl ?_
        refine z_iconst (v := 0) hX (D_Model_wall (i := 29) rfl) (by decide) ?_
        obtain ⟨k, k1, rfl⟩ := nI_of g4
        have hkn : k < 4 := Nat.lt_of_not_le (fun w => g2 (Or.inr (nI_le (a := 4) w k1)))
        rw [tm_up rfl]
        refine z_cV1 hX (D_Model_wall (i := 30) rfl) mi_Model_goWall l_Model_336 rfl rfl (by decide) (by first | exact Nat.one_pos | assumption | omega) (by first | decide | omega) (Nat.le_of_ble_eq_true rfl) (d_goWall_1 hH hA hC h8 e4 4 0 (fun _ => 0) _ _ rfl (hT2 1) sU_at ((sU_ne (by omega)).trans sU_at) (fun i hi => absurd hi (Nat.not_lt_zero _)) ?_ ?_)
        · intro S2 _ _ k31 hno2
          have := hk k S2 hkn rfl e4
          rw [hno2] at this
          refine z_iload_n hX (D_Model_wall (i := 31) rfl) rfl ?_
          refine z_if_ge (tgt := 65) hX (D_Model_wall (i := 32) rfl) (by decide) (fun _ => ?_) (fun hcc => absurd (nI_pos' k1) hcc)
          refine z_aload_n hX (D_Model_wall (i := 36) rfl) rfl ?_
          refine z_geti hX (D_Model_wall (i := 37) rfl) f_Model_256 rfl (by decide) (by first | exact Nat.one_pos | assumption | omega) rfl ?_
          rw [show (tm mem S2).1 40 0 31 = 0 from k31]
          refine z_if_ne (tgt := 77) hX (D_Model_wall (i := 38) rfl) (by decide) (fun hcc => absurd (rfl) hcc) (fun _ => ?_)
          refine z_bipush (v := -2) hX (D_Model_wall (i := 39) rfl) (by decide) ?_
          refine z_goto (tgt := 83) hX (D_Model_wall (i := 40) rfl) (by decide) ?_
          exact z_iret hX hR (D_Model_wall (i := 45) rfl) rfl this
        · intro S2 g _ k31 hyes h59
          have := hk k S2 hkn rfl e4
          rw [hyes] at this
          refine z_iload_n hX (D_Model_wall (i := 31) rfl) rfl ?_
          refine z_if_ge (tgt := 65) hX (D_Model_wall (i := 32) rfl) (by decide) (fun _ => ?_) (fun hcc => absurd (nI_pos' k1) hcc)
          refine z_aload_n hX (D_Model_wall (i := 36) rfl) rfl ?_
          refine z_geti hX (D_Model_wall (i := 37) rfl) f_Model_256 rfl (by decide) (by first | exact Nat.one_pos | assumption | omega) rfl ?_
          rw [show (tm mem S2).1 40 0 31 = 1 from k31]
          refine z_if_ne (tgt := 77) hX (D_Model_wall (i := 38) rfl) (by decide) (fun _ => ?_) (fun hcc => absurd hcc (by decide))
          refine z_aload_n hX (D_Model_wall (i := 41) rfl) rfl ?_
          refine z_getc hX (D_Model_wall (i := 42) rfl) f_Model_67 rfl (by decide) (by first | exact Nat.one_pos | assumption | omega) rfl ?_
          refine z_iload_n hX (D_Model_wall (i := 43) rfl) rfl ?_
          refine z_iald (j := k) hX (D_Model_wall (i := 44) rfl) rfl (by decide) (by first | exact Nat.one_pos | assumption | omega) (by decide) rfl (by omega) ?_
          rw [show (tm mem S2).1 59 0 k = nI (g k) from h59 k hkn]
          exact z_iret hX hR (D_Model_wall (i := 45) rfl) rfl this
    · refine z_bipush (v := -5) hX (D_Model_wall (i := 12) rfl) (by decide) ?_
      exact z_iret hX hR (D_Model_wall (i := 13) rfl) rfl (hst (fun w => g2 (Or.inl w)) (fun w => g2 (Or.inr w)) (Nat.lt_of_not_le (fun w => g3 (nI_le (a := 4) w (by omega)))))
  · refine z_iconst (v := -1) hX (D_Model_wall (i := 5) rfl) (by decide) ?_
    exact z_iret hX hR (D_Model_wall (i := 6) rfl) rfl (hno (Classical.byContradiction (fun w => by rw [ein.mpr w] at g1; exact absurd g1 (by decide))))
end M6
