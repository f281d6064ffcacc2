/-! the reference's swap, rings, wall -/
def d3 (v k : Nat) : Nat := v / 3 ^ k % 3
def rgM (C : Nat → Nat → Nat) (T : List Nat) (v : Nat) : List Nat := (List.range v).filter (fun v => rgB C T (d3 v))
theorem rgM_s (C : Nat → Nat → Nat) (T : List Nat) (v : Nat) : rgM C T (v + 1) = if rgB C T (d3 v) = true then rgM C T v ++ [v] else rgM C T v := by
  unfold rgM
  rw [List.range_succ, List.filter_append]
  cases h : rgB C T (d3 v)
  · simp [List.filter, h]
  · simp [List.filter, h]
theorem rgM_le (C : Nat → Nat → Nat) (T : List Nat) : ∀ v, (rgM C T v).length ≤ v
  | 0 => Nat.le_refl _
  | v + 1 => by
    have := rgM_le C T v
    rw [rgM_s]
    split
    · rw [List.length_append]; exact Nat.succ_le_succ this
    · omega
def apB (n v w : Nat) : Bool := alI (fun k => decide (d3 v k ≠ d3 w k)) n
section M5
variable {l : Launch} {ι : zE} {mem : zM} {S : Nat → Nat → Int32} {sz : Nat} {Λ : Option (List lLn)} {C : Nat → Nat → Nat} {T : List Nat} {τ : Nat → Nat} {Post : Option zV → zM → Prop}
theorem d_swap (hH : zHas ι pM) {x : Int32} {bx : Nat} (hS : MS mem sz bx C τ Λ) (hno : (x < 0 ∨ ¬ x ≤ 1) → Post (some (zI (-1))) mem) (hst : ¬ x < 0 → x ≤ 1 → 4 < sz - pcN bx 8 → Post (some (zI (-5))) mem) (hok : ∀ S', ¬ x < 0 → x ≤ 1 → sz - pcN bx 8 ≤ 4 → Post (some (zI (swV x (swO Λ C sz bx)))) (tm mem S')) : zC l ι M_Model_swap 11 [zP 40 0, zI x] mem Post := by
  have h8 := hS.2.1
  have h256 := p8 sz h8
  have hbx := hS.2.2.2.1
  have hb := hS.b
  obtain ⟨o1, o2, o3⟩ := ot_ok sz h8 bx hbx
  have e1 : (1 : Int32) <<< (nI sz &&& 31) - 1 = nI (2 ^ sz - 1) := by rw [sh8 sz h8]; exact pk_sub (b := 1) (Nat.one_le_two_pow)
  refine z_enter hH (by decide) (by simp [z_ent, M_Model_swap]) (fun X hXl hX hR => ?_)
  refine z_iload_n hX (D_Model_swap (i := 0) rfl) rfl ?_
  refine z_iconst (v := 0) hX (D_Model_swap (i := 1) rfl) (by decide) ?_
  refine z_iconst (v := 1) hX (D_Model_swap (i := 2) rfl) (by decide) ?_
  refine z_cS3 hX (D_Model_swap (i := 3) rfl) ms_Model_in l_Model_102 (by first | decide | omega) (Nat.le_of_ble_eq_true rfl) (d_in ?_)
  refine z_if_ne (tgt := 11) hX (D_Model_swap (i := 4) rfl) (by decide) (fun g1 => ?_) (fun g1 => ?_)
  · refine z_iconst (v := 1) hX (D_Model_swap (i := 7) rfl) (by decide) ?_
    refine z_aload_n hX (D_Model_swap (i := 8) rfl) rfl ?_
    refine z_geti hX (D_Model_swap (i := 9) rfl) f_Model_99 rfl (by decide) (by first | exact Nat.one_pos | assumption | omega) rfl ?_
    refine z_ishl hX (D_Model_swap (i := 10) rfl) ?_
    refine z_iconst (v := 1) hX (D_Model_swap (i := 11) rfl) (by decide) ?_
    refine z_isub hX (D_Model_swap (i := 12) rfl) ?_
    obtain ⟨x1, x2⟩ := d01.mp (bI_n.mp g1)
    rw [hS.1, e1]
    refine z_istore_n hX (D_Model_swap (i := 13) rfl) (by decide) rfl ?_
    refine z_aload_n hX (D_Model_swap (i := 14) rfl) rfl ?_
    refine z_geti hX (D_Model_swap (i := 15) rfl) f_Model_99 rfl (by decide) (by first | exact Nat.one_pos | assumption | omega) rfl ?_
    refine z_aload_n hX (D_Model_swap (i := 16) rfl) rfl ?_
    refine z_geti hX (D_Model_swap (i := 17) rfl) f_Model_147 rfl (by decide) (by first | exact Nat.one_pos | assumption | omega) rfl ?_
    rw [hS.1, hS.2.2.1]
    refine z_cS1 hX (D_Model_swap (i := 18) rfl) ms_Model_bitsOf l_Model_143 (by first | decide | omega) (Nat.le_of_ble_eq_true rfl) (d_bitsOf hb ?_)
    refine z_isub hX (D_Model_swap (i := 19) rfl) ?_
    refine z_iconst (v := 4) hX (D_Model_swap (i := 20) rfl) (by decide) ?_
    rw [pk_sub (a := sz) (b := pcN bx 8) (by omega)]
    refine z_icmp_le (tgt := 39) hX (D_Model_swap (i := 21) rfl) (by decide) (fun g2 => ?_) (fun g2 => ?_)
    · skip
      have hle : sz - pcN bx 8 ≤ 4 := (nI_leI (b := 4) (by omega) (by decide)).mp g2
      obtain ⟨S, eS⟩ := tm_ex mem
      rw [← eS]
      refine z_aload_n hX (D_Model_swap (i := 24) rfl) rfl ?_
      refine z_cV0 hX (D_Model_swap (i := 25) rfl) mi_Model_findMay l_Model_240 rfl rfl (by decide) (by first | exact Nat.one_pos | assumption | omega) (by first | decide | omega) (Nat.le_of_ble_eq_true rfl) (d_findMay hH hS.2.2.2.2.2.2.2.1 ?_)
      intro S1 f1 hM1
      refine z_iconst (v := 0) hX (D_Model_swap (i := 26) rfl) (by decide) ?_
      refine z_istore_n hX (D_Model_swap (i := 27) rfl) (by decide) rfl ?_
      suffices LA : ∀ (d a : Nat) (S2 : Nat → Nat → Int32) (v4 v5 : Option zV), z_isJ (some v4) = false → a + d = sz → MyM Λ S2 → swO Λ C sz bx = frI (fun a => frI (swI Λ C sz bx a) 0 sz) a d → zW ι M_Model_swap X 45 [some (zP 40 0), some (zI x), some (zI (nI (2 ^ sz - 1))), some (zI (nI a)), v4, v5] [] (tm mem S2) from LA sz 0 S1 none none rfl (Nat.zero_add _) hM1 rfl
      intro d
      induction d with
      | zero =>
        intro a S2 v4 v5 hJ ha hM2 he
        obtain rfl : a = sz := ha
        refine z_iload_n hX (D_Model_swap (i := 28) rfl) rfl ?_
        refine z_aload_n hX (D_Model_swap (i := 29) rfl) rfl ?_
        refine z_geti hX (D_Model_swap (i := 30) rfl) f_Model_99 rfl (by decide) (by first | exact Nat.one_pos | assumption | omega) rfl ?_
        rw [show (tm mem S2).1 40 0 1 = nI a from hS.1]
        refine z_icmp_ge (tgt := 155) hX (D_Model_swap (i := 31) rfl) (by decide) (fun _ => ?_) (fun hcc => absurd (Int32.le_refl _) hcc)
        refine z_bipush (v := -2) hX (D_Model_swap (i := 88) rfl) (by decide) ?_
        have := hok S2 x1 x2 hle
        rw [he] at this
        exact z_iret hX hR (D_Model_swap (i := 89) rfl) rfl this
      | succ d ih =>
        intro a S2 v4 v5 hJ ha hM2 he
        have has : a < sz := by omega
        refine z_iload_n hX (D_Model_swap (i := 28) rfl) rfl ?_
        refine z_aload_n hX (D_Model_swap (i := 29) rfl) rfl ?_
        refine z_geti hX (D_Model_swap (i := 30) rfl) f_Model_99 rfl (by decide) (by first | exact Nat.one_pos | assumption | omega) rfl ?_
        rw [show (tm mem S2).1 40 0 1 = nI sz from hS.1]
        refine z_icmp_ge (tgt := 155) hX (D_Model_swap (i := 31) rfl) (by decide) (fun hcc => absurd hcc (nI_ge has (by omega))) (fun _ => ?_)
        refine z_aload_n hX (D_Model_swap (i := 32) rfl) rfl ?_
        refine z_geti hX (D_Model_swap (i := 33) rfl) f_Model_147 rfl (by decide) (by first | exact Nat.one_pos | assumption | omega) rfl ?_
        refine z_iload_n hX (D_Model_swap (i := 34) rfl) rfl ?_
        refine z_ishr hX (D_Model_swap (i := 35) rfl) ?_
        refine z_iconst (v := 1) hX (D_Model_swap (i := 36) rfl) (by decide) ?_
        refine z_iand hX (D_Model_swap (i := 37) rfl) ?_
        rw [show (tm mem S2).1 40 0 4 = nI bx from hS.2.2.1, bit_nI (by omega) (by omega)]
        cases hba : bx.testBit a with
        | false =>
          refine z_if_ne (tgt := 67) hX (D_Model_swap (i := 38) rfl) (by decide) (fun hcc => absurd (rfl) hcc) (fun _ => ?_)
          refine z_goto (tgt := 149) hX (D_Model_swap (i := 39) rfl) (by decide) ?_
          first | refine z_inc1 hX (D_Model_swap (i := 86) rfl) rfl (by decide) rfl ?_ | refine z_iinc hX (D_Model_swap (i := 86) rfl) rfl rfl (by decide) rfl ?_
          refine z_goto (tgt := 45) hX (D_Model_swap (i := 87) rfl) (by decide) ?_
          refine ih (a + 1) S2 _ _ hJ (by omega) hM2 ?_
          rw [he, frI, frI_none (fun k _ _ => by unfold swI swB; rw [hba]; rfl)]
        | true =>
          refine z_if_ne (tgt := 67) hX (D_Model_swap (i := 38) rfl) (by decide) (fun _ => ?_) (fun hcc => absurd hcc (by decide))
          refine z_iconst (v := 0) hX (D_Model_swap (i := 40) rfl) (by decide) ?_
          refine z_istore hX (D_Model_swap (i := 41) rfl) (by decide) rfl ?_
          suffices LB : ∀ (e b : Nat) (S3 : Nat → Nat → Int32) (v5 : Option zV), b + e = sz → MyM Λ S3 → frI (swI Λ C sz bx a) 0 sz = frI (swI Λ C sz bx a) b e → zW ι M_Model_swap X 70 [some (zP 40 0), some (zI x), some (zI (nI (2 ^ sz - 1))), some (zI (nI a)), some (zI (nI b)), v5] [] (tm mem S3) from LB sz 0 S2 _ (Nat.zero_add _) hM2 rfl
          intro e
          induction e with
          | zero =>
            intro b S3 v5 hb' hM3 he2
            obtain rfl : b = sz := hb'
            refine z_iload hX (D_Model_swap (i := 42) rfl) rfl ?_
            refine z_aload_n hX (D_Model_swap (i := 43) rfl) rfl ?_
            refine z_geti hX (D_Model_swap (i := 44) rfl) f_Model_99 rfl (by decide) (by first | exact Nat.one_pos | assumption | omega) rfl ?_
            rw [show (tm mem S3).1 40 0 1 = nI b from hS.1]
            refine z_icmp_ge (tgt := 149) hX (D_Model_swap (i := 45) rfl) (by decide) (fun _ => ?_) (fun hcc => absurd (Int32.le_refl _) hcc)
            first | refine z_inc1 hX (D_Model_swap (i := 86) rfl) rfl (by decide) rfl ?_ | refine z_iinc hX (D_Model_swap (i := 86) rfl) rfl rfl (by decide) rfl ?_
            refine z_goto (tgt := 45) hX (D_Model_swap (i := 87) rfl) (by decide) ?_
            refine ih (a + 1) S3 _ _ rfl (by omega) hM3 ?_
            rw [he, frI, he2]; rfl
          | succ e ihe =>
            intro b S3 v5 hb' hM3 he2
            have hbs : b < sz := by omega
            have nx : ∀ (S4 : Nat → Nat → Int32) (v5 : Option zV), MyM Λ S4 → swB Λ C sz bx a b = false → zW ι M_Model_swap X 143 [some (zP 40 0), some (zI x), some (zI (nI (2 ^ sz - 1))), some (zI (nI a)), some (zI (nI b)), v5] [] (tm mem S4) := by
              intro S4 v5 hM4 hno
              first | refine z_inc1 hX (D_Model_swap (i := 84) rfl) rfl (by decide) rfl ?_ | refine z_iinc hX (D_Model_swap (i := 84) rfl) rfl rfl (by decide) rfl ?_
              refine z_goto (tgt := 70) hX (D_Model_swap (i := 85) rfl) (by decide) ?_
              refine ihe (b + 1) S4 _ (by omega) hM4 ?_
              rw [he2, frI, swI, hno]; rfl
            refine z_iload hX (D_Model_swap (i := 42) rfl) rfl ?_
            refine z_aload_n hX (D_Model_swap (i := 43) rfl) rfl ?_
            refine z_geti hX (D_Model_swap (i := 44) rfl) f_Model_99 rfl (by decide) (by first | exact Nat.one_pos | assumption | omega) rfl ?_
            rw [show (tm mem S3).1 40 0 1 = nI sz from hS.1]
            refine z_icmp_ge (tgt := 149) hX (D_Model_swap (i := 45) rfl) (by decide) (fun hcc => absurd hcc (nI_ge hbs (by omega))) (fun _ => ?_)
            refine z_aload_n hX (D_Model_swap (i := 46) rfl) rfl ?_
            refine z_geti hX (D_Model_swap (i := 47) rfl) f_Model_147 rfl (by decide) (by first | exact Nat.one_pos | assumption | omega) rfl ?_
            refine z_iload hX (D_Model_swap (i := 48) rfl) rfl ?_
            refine z_ishr hX (D_Model_swap (i := 49) rfl) ?_
            refine z_iconst (v := 1) hX (D_Model_swap (i := 50) rfl) (by decide) ?_
            refine z_iand hX (D_Model_swap (i := 51) rfl) ?_
            refine z_iconst (v := 1) hX (D_Model_swap (i := 52) rfl) (by decide) ?_
            rw [show (tm mem S3).1 40 0 4 = nI bx from hS.2.2.1, bit_nI (by omega) (by omega)]
            have hob := ot_bit sz h8 bx hbx b hbs
            cases hbb : bx.testBit b with
            | true =>
              rw [hbb] at hob
              refine z_icmp_ne (tgt := 95) hX (D_Model_swap (i := 53) rfl) (by decide) (fun hcc => absurd (rfl) hcc) (fun _ => ?_)
              refine z_goto (tgt := 143) hX (D_Model_swap (i := 54) rfl) (by decide) ?_
              exact nx S3 _ hM3 (by unfold swB; rw [hob, hba]; rfl)
            | false =>
              rw [hbb] at hob
              have hoa : (otN sz bx).testBit a = false := by rw [ot_bit sz h8 bx hbx a has, hba]; rfl
              have t1 := tw_ok a (by omega) b (by omega)
              have tlt : twN a b < 2 ^ sz := Nat.or_lt_two_pow (Nat.pow_lt_pow_right (by decide) has) (Nat.pow_lt_pow_right (by decide) hbs)
              have sl : bx ^^^ twN a b < 2 ^ sz := Nat.xor_lt_two_pow hbx tlt
              obtain ⟨r1, r2, r3⟩ := ot_ok sz h8 _ sl
              have eo : otN sz (bx ^^^ twN a b) = otN sz bx ^^^ twN a b := by unfold otN; rw [Nat.xor_assoc]
              have ee := ex_ok bx hb a (by omega) b (by omega) hba hbb
              rw [eo] at r1 r2 r3
              refine z_icmp_ne (tgt := 95) hX (D_Model_swap (i := 53) rfl) (by decide) (fun _ => ?_) (fun hcc => absurd hcc (by decide))
              refine z_aload_n hX (D_Model_swap (i := 55) rfl) rfl ?_
              refine z_geti hX (D_Model_swap (i := 56) rfl) f_Model_147 rfl (by decide) (by first | exact Nat.one_pos | assumption | omega) rfl ?_
              refine z_iconst (v := 1) hX (D_Model_swap (i := 57) rfl) (by decide) ?_
              refine z_iload_n hX (D_Model_swap (i := 58) rfl) rfl ?_
              refine z_ishl hX (D_Model_swap (i := 59) rfl) ?_
              refine z_iconst (v := 1) hX (D_Model_swap (i := 60) rfl) (by decide) ?_
              refine z_iload hX (D_Model_swap (i := 61) rfl) rfl ?_
              refine z_ishl hX (D_Model_swap (i := 62) rfl) ?_
              refine z_ior hX (D_Model_swap (i := 63) rfl) ?_
              refine z_ixor hX (D_Model_swap (i := 64) rfl) ?_
              rw [show (tm mem S3).1 40 0 4 = nI bx from hS.2.2.1, t1.1, nI_xor]
              refine z_istore hX (D_Model_swap (i := 65) rfl) (by decide) rfl ?_
              refine z_aload_n hX (D_Model_swap (i := 66) rfl) rfl ?_
              refine z_iload hX (D_Model_swap (i := 67) rfl) rfl ?_
              refine z_cV1 hX (D_Model_swap (i := 68) rfl) mi_Model_hasWay l_Model_285 rfl rfl (by decide) (by first | exact Nat.one_pos | assumption | omega) (by first | decide | omega) (Nat.le_of_ble_eq_true rfl) (d_hasWay (sz := sz) (τ := τ) hH hS.1 h8 hS.2.2.2.2.2.2.2.2 hS.2.2.2.2.2.1 hS.2.2.2.2.2.2.1 hM3 sl (by rw [bxL_len, ee]; exact hS.2.2.2.2.1) ?_)
              intro S4 hM4
              cases hw1 : hW Λ C (bxL (bx ^^^ twN a b) 8) with
              | false =>
                refine z_if_eq (tgt := 143) hX (D_Model_swap (i := 69) rfl) (by decide) (fun _ => ?_) (fun hcc => absurd (rfl) hcc)
                exact nx S4 _ hM4 (by unfold swB; rw [hw1, hob, hba]; rfl)
              | true =>
                refine z_if_eq (tgt := 143) hX (D_Model_swap (i := 69) rfl) (by decide) (fun hcc => absurd hcc (by decide)) (fun _ => ?_)
                refine z_aload_n hX (D_Model_swap (i := 70) rfl) rfl ?_
                refine z_iload_n hX (D_Model_swap (i := 71) rfl) rfl ?_
                refine z_iload hX (D_Model_swap (i := 72) rfl) rfl ?_
                refine z_iconst (v := -1) hX (D_Model_swap (i := 73) rfl) (by decide) ?_
                refine z_ixor hX (D_Model_swap (i := 74) rfl) ?_
                refine z_iand hX (D_Model_swap (i := 75) rfl) ?_
                rw [r1]
                refine z_cV1 hX (D_Model_swap (i := 76) rfl) mi_Model_hasWay l_Model_285 rfl rfl (by decide) (by first | exact Nat.one_pos | assumption | omega) (by first | decide | omega) (Nat.le_of_ble_eq_true rfl) (d_hasWay (sz := sz) (τ := τ) hH hS.1 h8 hS.2.2.2.2.2.2.2.2 hS.2.2.2.2.2.1 hS.2.2.2.2.2.2.1 hM4 r2 (by rw [bxL_len]; omega) ?_)
                intro S5 hM5
                cases hw2 : hW Λ C (bxL (otN sz bx ^^^ twN a b) 8) with
                | false =>
                  refine z_if_eq (tgt := 143) hX (D_Model_swap (i := 77) rfl) (by decide) (fun _ => ?_) (fun hcc => absurd (rfl) hcc)
                  exact nx S5 _ hM5 (by unfold swB; rw [hw2, hw1, hob, hba]; rfl)
                | true =>
                  have hs : swB Λ C sz bx a b = true := by unfold swB; rw [hw2, hw1, hob, hba]; rfl
                  have e3 : swO Λ C sz bx = some (a, b) := by
                    rw [he, frI, he2, frI, swI, hs]; rfl
                  have hh := hok S5 x1 x2 hle
                  rw [e3] at hh
                  have hh : Post (some (zI (if x = 0 then nI a else nI b))) (tm mem S5) := hh
                  refine z_if_eq (tgt := 143) hX (D_Model_swap (i := 77) rfl) (by decide) (fun hcc => absurd hcc (by decide)) (fun _ => ?_)
                  refine z_iload_n hX (D_Model_swap (i := 78) rfl) rfl ?_
                  refine z_if_ne (tgt := 140) hX (D_Model_swap (i := 79) rfl) (by decide) (fun g4 => ?_) (fun g4 => ?_)
                  · refine z_iload hX (D_Model_swap (i := 82) rfl) rfl ?_
                    rw [if_neg g4] at hh
                    exact z_iret hX hR (D_Model_swap (i := 83) rfl) rfl hh
                  · refine z_iload_n hX (D_Model_swap (i := 80) rfl) rfl ?_
                    refine z_goto (tgt := 142) hX (D_Model_swap (i := 81) rfl) (by decide) ?_
                    rw [if_pos g4] at hh
                    exact z_iret hX hR (D_Model_swap (i := 83) rfl) rfl hh
    · refine z_bipush (v := -5) hX (D_Model_swap (i := 22) rfl) (by decide) ?_
      exact z_iret hX hR (D_Model_swap (i := 23) rfl) rfl (hst x1 x2 (Nat.lt_of_not_le (fun w => g2 (nI_le (b := 4) w (by decide)))))
  · refine z_iconst (v := -1) hX (D_Model_swap (i := 5) rfl) (by decide) ?_
    refine z_iret hX hR (D_Model_swap (i := 6) rfl) rfl (hno (Classical.byContradiction (fun w => ?_)))
    have : decide ((0 : Int32) ≤ x ∧ x ≤ 1) = true := d01.mpr ⟨fun q => w (Or.inl q), Classical.byContradiction (fun q => w (Or.inr q))⟩
    rw [this] at g1
    exact absurd g1 (by decide)
def frQ (S S' : Nat → Nat → Int32) : Prop := ∀ p c, p ≠ 60 → S' p c = S p c
theorem d3_s (v k : Nat) : v / 3 ^ k / 3 = v / 3 ^ (k + 1) := by rw [Nat.div_div_eq_div_mul, Nat.pow_succ]
theorem d_isRing (hH : zHas ι pM) (hT : TM S T sz) (h8 : sz ≤ 8) (hC : COM mem C) {v : Nat} (hv : v < 2 ^ 31) (h : ∀ S', frQ S S' → Post (some (zI (bI (rgB C T (d3 v))))) (tm mem S')) : zC l ι M_Model_isRing 1 [zP 40 0, zI (nI v)] (tm mem S) Post := by
  have h4 := hT.2.1
  refine z_enter hH (by decide) (by simp [z_ent, M_Model_isRing]) (fun X hXl hX hR => ?_)
  refine z_iconst (v := 0) hX (D_Model_isRing (i := 0) rfl) (by decide) ?_
  refine z_istore_n hX (D_Model_isRing (i := 1) rfl) (by decide) rfl ?_
  -- empty first
  suffices L1 : ∀ S0, frQ S S0 → (∀ c, c < 7 → S0 60 c = nI 0) → zW ι M_Model_isRing X 21 [some (zP 40 0), some (zI (nI v)), some (zI (nI 7)), none, none] [] (tm mem S0) by
    suffices L0 : ∀ (d k : Nat) (S0 : Nat → Nat → Int32), k + d = 7 → frQ S S0 → (∀ c, c < k → S0 60 c = nI 0) → zW ι M_Model_isRing X 2 [some (zP 40 0), some (zI (nI v)), some (zI (nI k)), none, none] [] (tm mem S0) from L0 7 0 S rfl (fun _ _ _ => rfl) (fun c hc => absurd hc (Nat.not_lt_zero _))
    intro d
    induction d with
    | zero =>
      intro k S0 hk hf hz
      obtain rfl : k = 7 := hk
      refine z_iload_n hX (D_Model_isRing (i := 2) rfl) rfl ?_
      refine z_bipush (v := 6) hX (D_Model_isRing (i := 3) rfl) (by decide) ?_
      refine z_icmp_gt (tgt := 21) hX (D_Model_isRing (i := 4) rfl) (by decide) (fun _ => ?_) (fun hcc => absurd (by decide) hcc)
      exact L1 S0 hf hz
    | succ d ih =>
      intro k S0 hk hf hz
      have hk7 : k < 7 := by omega
      refine z_iload_n hX (D_Model_isRing (i := 2) rfl) rfl ?_
      refine z_bipush (v := 6) hX (D_Model_isRing (i := 3) rfl) (by decide) ?_
      refine z_icmp_gt (tgt := 21) hX (D_Model_isRing (i := 4) rfl) (by decide) (fun hcc => absurd hcc ((fun w => absurd ((nI_ltI (a := 6) (b := k) (by decide) (by omega)).mp w) (by omega)))) (fun _ => ?_)
      refine z_aload_n hX (D_Model_isRing (i := 5) rfl) rfl ?_
      refine z_getc hX (D_Model_isRing (i := 6) rfl) f_Model_70 rfl (by decide) (by first | exact Nat.one_pos | assumption | omega) rfl ?_
      refine z_iload_n hX (D_Model_isRing (i := 7) rfl) rfl ?_
      refine z_iconst (v := 0) hX (D_Model_isRing (i := 8) rfl) (by decide) ?_
      refine z_iast (j := k) hX (D_Model_isRing (i := 9) rfl) rfl (by decide) (by first | exact Nat.one_pos | assumption | omega) (by decide) rfl (by omega) ?_
      rw [tm_up rfl]
      first | refine z_inc1 hX (D_Model_isRing (i := 10) rfl) rfl (by decide) rfl ?_ | refine z_iinc hX (D_Model_isRing (i := 10) rfl) rfl rfl (by decide) rfl ?_
      refine z_goto (tgt := 2) hX (D_Model_isRing (i := 11) rfl) (by decide) ?_
      refine ih (k + 1) _ (by omega) (fun p c q => by rw [sU_ne (Or.inl q)]; exact hf p c q) (fun c hc => ?_)
      by_cases e : c = k
      · rw [e, sU_at]; rfl
      · rw [sU_ne (Or.inr e)]; exact hz c (by omega)
  intro S0 f0 z0
  refine z_iload_n hX (D_Model_isRing (i := 12) rfl) rfl ?_
  refine z_istore_n hX (D_Model_isRing (i := 13) rfl) (by decide) rfl ?_
  refine z_iconst (v := 0) hX (D_Model_isRing (i := 14) rfl) (by decide) ?_
  refine z_istore_n hX (D_Model_isRing (i := 15) rfl) (by decide) rfl ?_
  suffices L2 : ∀ (d k : Nat) (S1 : Nat → Nat → Int32) (v4 : Option zV), k + d = T.length → frQ S S1 → (∀ c, c < 7 → S1 60 c = nI (eN C T (d3 v) k c)) → zW ι M_Model_isRing X 25 [some (zP 40 0), some (zI (nI v)), some (zI (nI (v / 3 ^ k))), some (zI (nI k)), v4] [] (tm mem S1) by
    have := L2 _ 0 S0 none (Nat.zero_add _) f0 z0
    rw [Nat.pow_zero, Nat.div_one] at this
    exact this
  intro d
  induction d with
  | zero =>
    intro k S1 v4 hk hf hv1
    obtain rfl : k = T.length := hk
    have t28 : S1 40 28 = nI T.length := (hf 40 28 (by decide)).trans hT.1
    refine z_iload_n hX (D_Model_isRing (i := 16) rfl) rfl ?_
    refine z_aload_n hX (D_Model_isRing (i := 17) rfl) rfl ?_
    refine z_geti hX (D_Model_isRing (i := 18) rfl) f_Model_237 rfl (by decide) (by first | exact Nat.one_pos | assumption | omega) rfl ?_
    rw [show (tm mem S1).1 40 0 28 = nI T.length from t28]
    refine z_icmp_ge (tgt := 86) hX (D_Model_isRing (i := 19) rfl) (by decide) (fun _ => ?_) (fun hcc => absurd (Int32.le_refl _) hcc)
    refine z_iconst (v := 0) hX (D_Model_isRing (i := 56) rfl) (by decide) ?_
    refine z_istore_n hX (D_Model_isRing (i := 57) rfl) (by decide) rfl ?_
    suffices L3 : ∀ (e c : Nat), c + e = T.length → (∀ c', c' < c → decide (eN C T (d3 v) T.length c' = 2) = true) → zW ι M_Model_isRing X 88 [some (zP 40 0), some (zI (nI v)), some (zI (nI (v / 3 ^ T.length))), some (zI (nI c)), v4] [] (tm mem S1) from L3 _ 0 (Nat.zero_add _) (fun c' hc' => absurd hc' (Nat.not_lt_zero _))
    intro e
    induction e with
    | zero =>
      intro c hc hall
      obtain rfl : c = T.length := hc
      refine z_iload_n hX (D_Model_isRing (i := 58) rfl) rfl ?_
      refine z_aload_n hX (D_Model_isRing (i := 59) rfl) rfl ?_
      refine z_geti hX (D_Model_isRing (i := 60) rfl) f_Model_237 rfl (by decide) (by first | exact Nat.one_pos | assumption | omega) rfl ?_
      rw [show (tm mem S1).1 40 0 28 = nI T.length from t28]
      refine z_icmp_ge (tgt := 114) hX (D_Model_isRing (i := 61) rfl) (by decide) (fun _ => ?_) (fun hcc => absurd (Int32.le_refl _) hcc)
      refine z_iconst (v := 1) hX (D_Model_isRing (i := 72) rfl) (by decide) ?_
      have := h S1 hf
      rw [show rgB C T (d3 v) = true from alI_true.mpr hall] at this
      exact z_zret hX hR (D_Model_isRing (i := 73) rfl) rfl (by first | exact Or.inl rfl | exact Or.inr rfl | assumption) this
    | succ e ihe =>
      intro c hc hall
      have hcn : c < T.length := by omega
      have hle := eN_le C T (d3 v) c T.length
      refine z_iload_n hX (D_Model_isRing (i := 58) rfl) rfl ?_
      refine z_aload_n hX (D_Model_isRing (i := 59) rfl) rfl ?_
      refine z_geti hX (D_Model_isRing (i := 60) rfl) f_Model_237 rfl (by decide) (by first | exact Nat.one_pos | assumption | omega) rfl ?_
      rw [show (tm mem S1).1 40 0 28 = nI T.length from t28]
      refine z_icmp_ge (tgt := 114) hX (D_Model_isRing (i := 61) rfl) (by decide) (fun hcc => absurd hcc (nI_ge hcn (by omega))) (fun _ => ?_)
      refine z_aload_n hX (D_Model_isRing (i := 62) rfl) rfl ?_
      refine z_getc hX (D_Model_isRing (i := 63) rfl) f_Model_70 rfl (by decide) (by first | exact Nat.one_pos | assumption | omega) rfl ?_
      refine z_iload_n hX (D_Model_isRing (i := 64) rfl) rfl ?_
      refine z_iald (j := c) hX (D_Model_isRing (i := 65) rfl) rfl (by decide) (by first | exact Nat.one_pos | assumption | omega) (by decide) rfl (by omega) ?_
      rw [show (tm mem S1).1 60 0 c = nI (eN C T (d3 v) T.length c) from hv1 c (by omega)]
      refine z_iconst (v := 2) hX (D_Model_isRing (i := 66) rfl) (by decide) ?_
      refine z_icmp_eq (tgt := 108) hX (D_Model_isRing (i := 67) rfl) (by decide) (fun h2 => ?_) (fun h2 => ?_)
      · first | refine z_inc1 hX (D_Model_isRing (i := 70) rfl) rfl (by decide) rfl ?_ | refine z_iinc hX (D_Model_isRing (i := 70) rfl) rfl rfl (by decide) rfl ?_
        refine z_goto (tgt := 88) hX (D_Model_isRing (i := 71) rfl) (by decide) ?_
        refine ihe (c + 1) (by omega) (fun c' hc' => ?_)
        by_cases e2 : c' = c
        · rw [e2]; exact decide_eq_true ((nI_eq (b := 2) (by omega) (by decide)).mp h2)
        · exact hall c' (by omega)
      · refine z_iconst (v := 0) hX (D_Model_isRing (i := 68) rfl) (by decide) ?_
        have := h S1 hf
        rw [show rgB C T (d3 v) = false from alI_false hcn (decide_eq_false (fun w => h2 (by rw [w]; rfl)))] at this
        exact z_zret hX hR (D_Model_isRing (i := 69) rfl) rfl (by first | exact Or.inl rfl | exact Or.inr rfl | assumption) this
  | succ d ih =>
    intro k S1 v4 hk hf hv1
    have hkn : k < T.length := by omega
    have t28 : S1 40 28 = nI T.length := (hf 40 28 (by decide)).trans hT.1
    obtain ⟨t1, t2⟩ := hT.2.2 k hkn
    have hd : d3 v k < 3 := Nat.mod_lt _ (by decide)
    obtain ⟨o1, o2⟩ := ed_ok _ hd
    obtain ⟨c1, c2⟩ := hC _ (Nat.lt_of_lt_of_le t2 h8) _ o1
    obtain ⟨b1, b2⟩ := hC _ (Nat.lt_of_lt_of_le t2 h8) _ o2
    obtain ⟨l1, l2, l3⟩ := ln_dm c2 b2
    have hvk : v / 3 ^ k ≤ v := Nat.div_le_self _ _
    have hmn : lmn C T (d3 v) k < 7 := by unfold lmn; split <;> omega
    have hmx : lmx C T (d3 v) k < 7 := by unfold lmx; split <;> omega
    have e10 : nI (lnN (C (T.getD k 0) (edN (d3 v k))) (C (T.getD k 0) (opN (edN (d3 v k))))) / 10 = nI (lmn C T (d3 v) k) := by rw [show (10 : Int32) = nI 10 from rfl, pk_div (by omega) (by decide) (by decide), l1]; rfl
    have em : nI (lnN (C (T.getD k 0) (edN (d3 v k))) (C (T.getD k 0) (opN (edN (d3 v k))))) - nI (lnN (C (T.getD k 0) (edN (d3 v k))) (C (T.getD k 0) (opN (edN (d3 v k))))) / 10 * 10 = nI (lmx C T (d3 v) k) := by rw [show (10 : Int32) = nI 10 from rfl, pk_rem (by omega) (by decide) (by decide), l2]; rfl
    refine z_iload_n hX (D_Model_isRing (i := 16) rfl) rfl ?_
    refine z_aload_n hX (D_Model_isRing (i := 17) rfl) rfl ?_
    refine z_geti hX (D_Model_isRing (i := 18) rfl) f_Model_237 rfl (by decide) (by first | exact Nat.one_pos | assumption | omega) rfl ?_
    rw [show (tm mem S1).1 40 0 28 = nI T.length from t28]
    refine z_icmp_ge (tgt := 86) hX (D_Model_isRing (i := 19) rfl) (by decide) (fun hcc => absurd hcc (nI_ge hkn (by omega))) (fun _ => ?_)
    refine z_aload_n hX (D_Model_isRing (i := 20) rfl) rfl ?_
    refine z_aload_n hX (D_Model_isRing (i := 21) rfl) rfl ?_
    refine z_getc hX (D_Model_isRing (i := 22) rfl) f_Model_61 rfl (by decide) (by first | exact Nat.one_pos | assumption | omega) rfl ?_
    refine z_iload_n hX (D_Model_isRing (i := 23) rfl) rfl ?_
    refine z_iald (j := k) hX (D_Model_isRing (i := 24) rfl) rfl (by decide) (by first | exact Nat.one_pos | assumption | omega) (by decide) rfl (by omega) ?_
    rw [show (tm mem S1).1 57 0 k = nI (T.getD k 0) from (hf 57 k (by decide)).trans t1]
    refine z_iload_n hX (D_Model_isRing (i := 25) rfl) rfl ?_
    refine z_iconst (v := 3) hX (D_Model_isRing (i := 26) rfl) (by decide) ?_
    refine z_irem hX (D_Model_isRing (i := 27) rfl) (by decide) ?_
    rw [show nI (v / 3 ^ k) - nI (v / 3 ^ k) / 3 * 3 = nI (d3 v k) from pk_rem (d := 3) (by omega) (by decide) (by decide)]
    refine z_cV2 hX (D_Model_isRing (i := 28) rfl) mi_Model_lineOf l_Model_140 rfl rfl (by decide) (by first | exact Nat.one_pos | assumption | omega) (by first | decide | omega) (Nat.le_of_ble_eq_true rfl) (d_lineOf (mem := tm mem S1) hH (Nat.lt_of_lt_of_le t2 h8) hd c1 b1 c2 b2 ?_)
    refine z_istore hX (D_Model_isRing (i := 29) rfl) (by decide) rfl ?_
    refine z_iload_n hX (D_Model_isRing (i := 30) rfl) rfl ?_
    refine z_iconst (v := 3) hX (D_Model_isRing (i := 31) rfl) (by decide) ?_
    refine z_idiv hX (D_Model_isRing (i := 32) rfl) (by decide) ?_
    rw [show nI (v / 3 ^ k) / 3 = nI (v / 3 ^ k / 3) from pk_div (d := 3) (by omega) (by decide) (by decide), d3_s]
    refine z_istore_n hX (D_Model_isRing (i := 33) rfl) (by decide) rfl ?_
    refine z_aload_n hX (D_Model_isRing (i := 34) rfl) rfl ?_
    refine z_getc hX (D_Model_isRing (i := 35) rfl) f_Model_70 rfl (by decide) (by first | exact Nat.one_pos | assumption | omega) rfl ?_
    refine z_iload hX (D_Model_isRing (i := 36) rfl) rfl ?_
    refine z_bipush (v := 10) hX (D_Model_isRing (i := 37) rfl) (by decide) ?_
    refine z_idiv hX (D_Model_isRing (i := 38) rfl) (by decide) ?_
    rw [e10]
    refine z_dup2 hX (D_Model_isRing (i := 39) rfl) ?_
    refine z_iald (j := lmn C T (d3 v) k) hX (D_Model_isRing (i := 40) rfl) rfl (by decide) (by first | exact Nat.one_pos | assumption | omega) (by decide) rfl hmn ?_
    rw [show (tm mem S1).1 60 0 (lmn C T (d3 v) k) = _ from hv1 _ hmn]
    refine z_iconst (v := 1) hX (D_Model_isRing (i := 41) rfl) (by decide) ?_
    refine z_iadd hX (D_Model_isRing (i := 42) rfl) ?_
    rw [show nI (eN C T (d3 v) k (lmn C T (d3 v) k)) + 1 = nI (eN C T (d3 v) k (lmn C T (d3 v) k) + 1) from nI_add _ 1]
    refine z_iast (j := lmn C T (d3 v) k) hX (D_Model_isRing (i := 43) rfl) rfl (by decide) (by first | exact Nat.one_pos | assumption | omega) (by decide) rfl hmn ?_
    rw [tm_up rfl]
    have v2 : ∀ c, c < 7 → sU S1 60 (lmn C T (d3 v) k) (nI (eN C T (d3 v) k (lmn C T (d3 v) k) + 1)) 60 c = nI (eN C T (d3 v) k c + (if lmn C T (d3 v) k = c then 1 else 0)) := by
      intro c hc
      by_cases e : c = lmn C T (d3 v) k
      · rw [e, sU_at, if_pos rfl]
      · rw [sU_ne (Or.inr e), if_neg (fun w => e w.symm)]; exact hv1 c hc
    refine z_aload_n hX (D_Model_isRing (i := 44) rfl) rfl ?_
    refine z_getc hX (D_Model_isRing (i := 45) rfl) f_Model_70 rfl (by decide) (by first | exact Nat.one_pos | assumption | omega) rfl ?_
    refine z_iload hX (D_Model_isRing (i := 46) rfl) rfl ?_
    refine z_bipush (v := 10) hX (D_Model_isRing (i := 47) rfl) (by decide) ?_
    refine z_irem hX (D_Model_isRing (i := 48) rfl) (by decide) ?_
    rw [em]
    refine z_dup2 hX (D_Model_isRing (i := 49) rfl) ?_
    refine z_iald (j := lmx C T (d3 v) k) hX (D_Model_isRing (i := 50) rfl) rfl (by decide) (by first | exact Nat.one_pos | assumption | omega) (by decide) rfl hmx ?_
    rw [show (tm mem (sU S1 60 (lmn C T (d3 v) k) (nI (eN C T (d3 v) k (lmn C T (d3 v) k) + 1)))).1 60 0 (lmx C T (d3 v) k) = _ from v2 _ hmx]
    refine z_iconst (v := 1) hX (D_Model_isRing (i := 51) rfl) (by decide) ?_
    refine z_iadd hX (D_Model_isRing (i := 52) rfl) ?_
    rw [show ∀ a : Nat, nI a + 1 = nI (a + 1) from fun a => nI_add a 1]
    refine z_iast (j := lmx C T (d3 v) k) hX (D_Model_isRing (i := 53) rfl) rfl (by decide) (by first | exact Nat.one_pos | assumption | omega) (by decide) rfl hmx ?_
    rw [tm_up rfl]
    first | refine z_inc1 hX (D_Model_isRing (i := 54) rfl) rfl (by decide) rfl ?_ | refine z_iinc hX (D_Model_isRing (i := 54) rfl) rfl rfl (by decide) rfl ?_
    refine z_goto (tgt := 25) hX (D_Model_isRing (i := 55) rfl) (by decide) ?_
    refine ih (k + 1) _ _ (by omega) (fun p c r1 => by rw [sU_ne (Or.inl r1), sU_ne (Or.inl r1)]; exact hf p c r1) (fun c hc => ?_)
    rw [eN]
    by_cases e : c = lmx C T (d3 v) k
    · rw [e, sU_at, if_pos (rfl : lmx C T (d3 v) k = lmx C T (d3 v) k)]
    · rw [sU_ne (Or.inr e), v2 c hc, if_neg (show ¬ lmx C T (d3 v) k = c from fun w => e w.symm), Nat.add_zero]
theorem d_areParted (hH : zHas ι pM) {n v w : Nat} (hn : n ≤ 4) (h28 : S 40 28 = nI n) (hv : v < 2 ^ 31) (hw : w < 2 ^ 31) (h : Post (some (zI (bI (apB n v w)))) (tm mem S)) : zC l ι M_Model_areParted 0 [zP 40 0, zI (nI v), zI (nI w)] (tm mem S) Post := by
  refine z_enter hH (by decide) (by simp [z_ent, M_Model_areParted]) (fun X hXl hX hR => ?_)
  refine z_iload_n hX (D_Model_areParted (i := 0) rfl) rfl ?_
  refine z_istore_n hX (D_Model_areParted (i := 1) rfl) (by decide) rfl ?_
  refine z_iload_n hX (D_Model_areParted (i := 2) rfl) rfl ?_
  refine z_istore hX (D_Model_areParted (i := 3) rfl) (by decide) rfl ?_
  refine z_iconst (v := 0) hX (D_Model_areParted (i := 4) rfl) (by decide) ?_
  refine z_istore hX (D_Model_areParted (i := 5) rfl) (by decide) rfl ?_
  suffices LP : ∀ (d k : Nat), k + d = n → (∀ k', k' < k → decide (d3 v k' ≠ d3 w k') = true) → zW ι M_Model_areParted X 8 [some (zP 40 0), some (zI (nI v)), some (zI (nI w)), some (zI (nI (v / 3 ^ k))), some (zI (nI (w / 3 ^ k))), some (zI (nI k))] [] (tm mem S) by
    have := LP n 0 (Nat.zero_add _) (fun k' hk' => absurd hk' (Nat.not_lt_zero _))
    rw [Nat.pow_zero, Nat.div_one, Nat.div_one] at this
    exact this
  intro d
  induction d with
  | zero =>
    intro k hk hall
    obtain rfl : k = n := hk
    refine z_iload hX (D_Model_areParted (i := 6) rfl) rfl ?_
    refine z_aload_n hX (D_Model_areParted (i := 7) rfl) rfl ?_
    refine z_geti hX (D_Model_areParted (i := 8) rfl) f_Model_237 rfl (by decide) (by first | exact Nat.one_pos | assumption | omega) rfl ?_
    rw [show (tm mem S).1 40 0 28 = nI k from h28]
    refine z_icmp_ge (tgt := 45) hX (D_Model_areParted (i := 9) rfl) (by decide) (fun _ => ?_) (fun hcc => absurd (Int32.le_refl _) hcc)
    refine z_iconst (v := 1) hX (D_Model_areParted (i := 29) rfl) (by decide) ?_
    rw [show apB k v w = true from alI_true.mpr hall] at h
    exact z_zret hX hR (D_Model_areParted (i := 30) rfl) rfl (by first | exact Or.inl rfl | exact Or.inr rfl | assumption) h
  | succ d ih =>
    intro k hk hall
    have hkn : k < n := by omega
    have hvk : v / 3 ^ k ≤ v := Nat.div_le_self _ _
    have hwk : w / 3 ^ k ≤ w := Nat.div_le_self _ _
    refine z_iload hX (D_Model_areParted (i := 6) rfl) rfl ?_
    refine z_aload_n hX (D_Model_areParted (i := 7) rfl) rfl ?_
    refine z_geti hX (D_Model_areParted (i := 8) rfl) f_Model_237 rfl (by decide) (by first | exact Nat.one_pos | assumption | omega) rfl ?_
    rw [show (tm mem S).1 40 0 28 = nI n from h28]
    refine z_icmp_ge (tgt := 45) hX (D_Model_areParted (i := 9) rfl) (by decide) (fun hcc => absurd hcc (nI_ge hkn (by omega))) (fun _ => ?_)
    refine z_iload_n hX (D_Model_areParted (i := 10) rfl) rfl ?_
    refine z_iconst (v := 3) hX (D_Model_areParted (i := 11) rfl) (by decide) ?_
    refine z_irem hX (D_Model_areParted (i := 12) rfl) (by decide) ?_
    rw [show nI (v / 3 ^ k) - nI (v / 3 ^ k) / 3 * 3 = nI (d3 v k) from pk_rem (d := 3) (by omega) (by decide) (by decide)]
    refine z_iload hX (D_Model_areParted (i := 13) rfl) rfl ?_
    refine z_iconst (v := 3) hX (D_Model_areParted (i := 14) rfl) (by decide) ?_
    refine z_irem hX (D_Model_areParted (i := 15) rfl) (by decide) ?_
    rw [show nI (w / 3 ^ k) - nI (w / 3 ^ k) / 3 * 3 = nI (d3 w k) from pk_rem (d := 3) (by omega) (by decide) (by decide)]
    have l1 : d3 v k < 3 := Nat.mod_lt _ (by decide)
    have l2 : d3 w k < 3 := Nat.mod_lt _ (by decide)
    refine z_icmp_ne (tgt := 29) hX (D_Model_areParted (i := 16) rfl) (by decide) (fun h1 => ?_) (fun h1 => ?_)
    · refine z_iload_n hX (D_Model_areParted (i := 19) rfl) rfl ?_
      refine z_iconst (v := 3) hX (D_Model_areParted (i := 20) rfl) (by decide) ?_
      refine z_idiv hX (D_Model_areParted (i := 21) rfl) (by decide) ?_
      rw [show nI (v / 3 ^ k) / 3 = nI (v / 3 ^ k / 3) from pk_div (d := 3) (by omega) (by decide) (by decide), d3_s]
      refine z_istore_n hX (D_Model_areParted (i := 22) rfl) (by decide) rfl ?_
      refine z_iload hX (D_Model_areParted (i := 23) rfl) rfl ?_
      refine z_iconst (v := 3) hX (D_Model_areParted (i := 24) rfl) (by decide) ?_
      refine z_idiv hX (D_Model_areParted (i := 25) rfl) (by decide) ?_
      rw [show nI (w / 3 ^ k) / 3 = nI (w / 3 ^ k / 3) from pk_div (d := 3) (by omega) (by decide) (by decide), d3_s]
      refine z_istore hX (D_Model_areParted (i := 26) rfl) (by decide) rfl ?_
      first | refine z_inc1 hX (D_Model_areParted (i := 27) rfl) rfl (by decide) rfl ?_ | refine z_iinc hX (D_Model_areParted (i := 27) rfl) rfl rfl (by decide) rfl ?_
      refine z_goto (tgt := 8) hX (D_Model_areParted (i := 28) rfl) (by decide) ?_
      refine ih (k + 1) (by omega) (fun k' hk' => ?_)
      by_cases e : k' = k
      · rw [e]; exact decide_eq_true (fun q => h1 (by rw [q]))
      · exact hall k' (by omega)
    · refine z_iconst (v := 0) hX (D_Model_areParted (i := 17) rfl) (by decide) ?_
      have hq : d3 v k = d3 w k := (nI_eq (by omega) (by omega)).mp h1
      rw [show apB n v w = false from alI_false hkn (decide_eq_false (fun q => q hq))] at h
      exact z_zret hX hR (D_Model_areParted (i := 18) rfl) rfl (by first | exact Or.inl rfl | exact Or.inr rfl | assumption) h
end M5
