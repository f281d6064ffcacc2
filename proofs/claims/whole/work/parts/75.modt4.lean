/-! the reference's mend, open, swap -/
section E0
variable (Λ : Option (List lLn)) (C : Nat → Nat → Nat) (T : List Nat) (bx : Nat)
def gmB (κ e : Nat) : Bool := decide (C κ (e / 6) ≠ e % 6) && hW Λ (cU C κ (e / 6) (e % 6)) T
def mdM (K : Nat) : Bool := bx.testBit (K / 36) && gmB Λ C T (K / 36) (K % 36)
def mdQ (K : Nat) : Option Nat := if mdM Λ C T bx K = true then some (100 * (K / 36) + 10 * (K % 36 / 6) + K % 36 % 6) else none
end E0
theorem cnI_skip {f : Nat → Bool} {k : Nat} : ∀ {d : Nat}, (∀ i, k ≤ i → i < k + d → f i = false) → cnI f (k + d) = cnI f k
  | 0, _ => rfl
  | d + 1, h => by
    show cnI f (k + d) + (f (k + d)).toNat = _
    rw [cnI_skip (d := d) (fun i h1 h2 => h i h1 (by omega)), h (k + d) (by omega) (by omega)]; rfl
theorem frI_skip {α : Type} {g : Nat → Option α} : ∀ {d k m : Nat}, (∀ i, k ≤ i → i < k + d → g i = none) → frI g k (d + m) = frI g (k + d) m
  | 0, k, m, _ => by rw [Nat.zero_add]; rfl
  | d + 1, k, m, h => by
    rw [show d + 1 + m = (d + m) + 1 by omega, frI, h k (Nat.le_refl _) (by omega)]
    show frI g (k + 1) (d + m) = _
    rw [frI_skip (d := d) (k := k + 1) (fun i h1 h2 => h i (by omega) (by omega)), show k + 1 + d = k + (d + 1) by omega]
theorem upI_id {mem : zM} {p k j : Nat} {v : Int32} (h : mem.1 p k j = v) : upI mem p k j v = mem := by
  refine Prod.ext ?_ rfl
  funext a b c
  rw [upI_get]
  by_cases e : a = p ∧ b = k ∧ c = j
  · rw [if_pos e, e.1, e.2.1, e.2.2, h]
  · rw [if_neg e]
def foI (o : Option Nat) : Int32 := match o with
  | none => -1
  | some v => nI v
section M4
variable {l : Launch} {ι : zE} {mem : zM} {S : Nat → Nat → Int32} {sz : Nat} {Λ : Option (List lLn)} {C : Nat → Nat → Nat} {τ : Nat → Nat} {Post : Option zV → zM → Prop}
theorem COM.up {k f v : Nat} (hC : COM mem C) (hf : f < 6) (hv : v ≤ 6) : COM (upI mem 41 0 (6 * k + f) (nI v)) (cU C k f v) := by
  intro a ha b hb
  rw [upI_get]
  unfold cU
  by_cases e : a = k ∧ b = f
  · rw [if_pos ⟨rfl, rfl, by omega⟩, if_pos e]; exact ⟨rfl, hv⟩
  · rw [if_neg (fun w => e (by omega)), if_neg e]; exact hC a ha b hb
theorem d_mend (hH : zHas ι pM) {x : Int32} {bx : Nat} (hS : MS mem sz bx C τ Λ) (hno : (x < 0 ∨ ¬ x ≤ 3) → Post (some (zI (-1))) mem) (h0 : ∀ S', x = 0 → Post (some (zI (nI (cnI (mdM Λ C (bxL bx 8) bx) (36 * sz))))) (tm mem S')) (h1 : ∀ S', ¬ x < 0 → x ≤ 3 → ¬ x = 0 → Post (some (zI (mnV x (frI (mdQ Λ C (bxL bx 8) bx) 0 (36 * sz))))) (tm mem S')) : zC l ι M_Model_mend 11 [zP 40 0, zI x] mem Post := by
  have h8 := hS.2.1
  have hbx := hS.b
  have hlen : (bxL bx 8).length ≤ 4 := by rw [bxL_len]; exact hS.2.2.2.2.1
  have d03 : decide ((0 : Int32) ≤ x ∧ x ≤ 3) = true ↔ (¬ x < 0 ∧ x ≤ 3) := by rw [decide_eq_true_iff, Int32.not_lt]
  generalize hTT : bxL bx 8 = T at *
  refine z_enter hH (by decide) (by simp [z_ent, M_Model_mend]) (fun X hXl hX hR => ?_)
  refine z_iload_n hX (D_Model_mend (i := 0) rfl) rfl ?_
  refine z_iconst (v := 0) hX (D_Model_mend (i := 1) rfl) (by decide) ?_
  refine z_iconst (v := 3) hX (D_Model_mend (i := 2) rfl) (by decide) ?_
  refine z_cS3 hX (D_Model_mend (i := 3) rfl) ms_Model_in l_Model_102 (by first | decide | omega) (Nat.le_of_ble_eq_true rfl) (d_in ?_)
  refine z_if_ne (tgt := 11) hX (D_Model_mend (i := 4) rfl) (by decide) (fun g1 => ?_) (fun g1 => ?_)
  · skip
    obtain ⟨x1, x2⟩ := d03.mp (bI_n.mp g1)
    obtain ⟨S, eS⟩ := tm_ex mem
    rw [← eS]
    refine z_aload_n hX (D_Model_mend (i := 7) rfl) rfl ?_
    refine z_cV0 hX (D_Model_mend (i := 8) rfl) mi_Model_findMay l_Model_240 rfl rfl (by decide) (by first | exact Nat.one_pos | assumption | omega) (by first | decide | omega) (Nat.le_of_ble_eq_true rfl) (d_findMay hH hS.2.2.2.2.2.2.2.1 ?_)
    intro S1 f1 hM1
    refine z_iconst (v := 0) hX (D_Model_mend (i := 9) rfl) (by decide) ?_
    refine z_istore_n hX (D_Model_mend (i := 10) rfl) (by decide) rfl ?_
    refine z_iconst (v := -1) hX (D_Model_mend (i := 11) rfl) (by decide) ?_
    refine z_istore_n hX (D_Model_mend (i := 12) rfl) (by decide) rfl ?_
    refine z_iconst (v := 0) hX (D_Model_mend (i := 13) rfl) (by decide) ?_
    refine z_istore hX (D_Model_mend (i := 14) rfl) (by decide) rfl ?_
    suffices LA : ∀ (d at' : Nat) (fo : Option Nat) (S2 : Nat → Nat → Int32) (v5 v6 : Option zV), z_isJ (some v5) = false → at' + d = 6 * sz → MyM Λ S2 → (cnI (mdM Λ C T bx) (6 * at') = 0 ↔ fo = none) → (∀ v, fo = some v → v < 10000) → frI (mdQ Λ C T bx) 0 (36 * sz) = (match fo with | some v => some v | none => frI (mdQ Λ C T bx) (6 * at') (6 * d)) → zW ι M_Model_mend X 22 [some (zP 40 0), some (zI x), some (zI (nI (cnI (mdM Λ C T bx) (6 * at')))), some (zI (foI fo)), some (zI (nI at')), v5, v6] [] (tm mem S2) from LA (6 * sz) 0 none S1 none none rfl (Nat.zero_add _) hM1 ⟨fun _ => rfl, fun _ => rfl⟩ (fun v q => by cases q) (by rw [show 6 * (6 * sz) = 36 * sz by omega])
    intro d
    induction d with
    | zero =>
      intro at' fo S2 v5 v6 hJ ha hM2 hc hfo he
      obtain rfl : at' = 6 * sz := ha
      refine z_iload hX (D_Model_mend (i := 15) rfl) rfl ?_
      refine z_bipush (v := 6) hX (D_Model_mend (i := 16) rfl) (by decide) ?_
      refine z_aload_n hX (D_Model_mend (i := 17) rfl) rfl ?_
      refine z_geti hX (D_Model_mend (i := 18) rfl) f_Model_99 rfl (by decide) (by first | exact Nat.one_pos | assumption | omega) rfl ?_
      refine z_imul hX (D_Model_mend (i := 19) rfl) ?_
      rw [show (tm mem S2).1 40 0 1 = nI sz from hS.1, show (6 : Int32) * nI sz = nI (6 * sz) from pk_mul 6 sz]
      refine z_icmp_ge (tgt := 153) hX (D_Model_mend (i := 20) rfl) (by decide) (fun _ => ?_) (fun hcc => absurd (Int32.le_refl _) hcc)
      refine z_iload_n hX (D_Model_mend (i := 82) rfl) rfl ?_
      refine z_if_ne (tgt := 159) hX (D_Model_mend (i := 83) rfl) (by decide) (fun g2 => ?_) (fun g2 => ?_)
      · skip
        have hh := h1 S2 x1 x2 g2
        rw [he] at hh
        cases fo with
        | none =>
          refine z_iload_n hX (D_Model_mend (i := 86) rfl) rfl ?_
          refine z_if_ge (tgt := 166) hX (D_Model_mend (i := 87) rfl) (by decide) (fun hcc => absurd hcc (by decide)) (fun _ => ?_)
          refine z_bipush (v := -2) hX (D_Model_mend (i := 88) rfl) (by decide) ?_
          exact z_iret hX hR (D_Model_mend (i := 89) rfl) rfl hh
        | some v =>
          have hv := hfo v rfl
          have hh : Post (some (zI (if x = 1 then nI (v / 100) else if x = 2 then nI (v / 10 % 10) else nI (v % 10)))) (tm mem S2) := hh
          rw [show foI (some v) = nI v from rfl]
          refine z_iload_n hX (D_Model_mend (i := 86) rfl) rfl ?_
          refine z_if_ge (tgt := 166) hX (D_Model_mend (i := 87) rfl) (by decide) (fun _ => ?_) (fun hcc => absurd (nI_pos' (by omega)) hcc)
          refine z_iload_n hX (D_Model_mend (i := 90) rfl) rfl ?_
          refine z_iconst (v := 1) hX (D_Model_mend (i := 91) rfl) (by decide) ?_
          refine z_icmp_ne (tgt := 178) hX (D_Model_mend (i := 92) rfl) (by decide) (fun g3 => ?_) (fun g3 => ?_)
          · refine z_iload_n hX (D_Model_mend (i := 97) rfl) rfl ?_
            refine z_iconst (v := 2) hX (D_Model_mend (i := 98) rfl) (by decide) ?_
            refine z_icmp_ne (tgt := 193) hX (D_Model_mend (i := 99) rfl) (by decide) (fun g4 => ?_) (fun g4 => ?_)
            · refine z_iload_n hX (D_Model_mend (i := 106) rfl) rfl ?_
              refine z_bipush (v := 10) hX (D_Model_mend (i := 107) rfl) (by decide) ?_
              refine z_irem hX (D_Model_mend (i := 108) rfl) (by decide) ?_
              rw [show nI v - nI v / 10 * 10 = nI (v % 10) from pk_rem (d := 10) (by omega) (by decide) (by decide)]
              rw [if_neg g3, if_neg g4] at hh
              exact z_iret hX hR (D_Model_mend (i := 109) rfl) rfl hh
            · refine z_iload_n hX (D_Model_mend (i := 100) rfl) rfl ?_
              refine z_bipush (v := 10) hX (D_Model_mend (i := 101) rfl) (by decide) ?_
              refine z_idiv hX (D_Model_mend (i := 102) rfl) (by decide) ?_
              rw [show nI v / 10 = nI (v / 10) from pk_div (d := 10) (by omega) (by decide) (by decide)]
              refine z_bipush (v := 10) hX (D_Model_mend (i := 103) rfl) (by decide) ?_
              refine z_irem hX (D_Model_mend (i := 104) rfl) (by decide) ?_
              rw [show nI (v / 10) - nI (v / 10) / 10 * 10 = nI (v / 10 % 10) from pk_rem (d := 10) (by omega) (by decide) (by decide)]
              rw [if_neg g3, if_pos g4] at hh
              refine z_goto (tgt := 197) hX (D_Model_mend (i := 105) rfl) (by decide) ?_
              exact z_iret hX hR (D_Model_mend (i := 109) rfl) rfl hh
          · refine z_iload_n hX (D_Model_mend (i := 93) rfl) rfl ?_
            refine z_bipush (v := 100) hX (D_Model_mend (i := 94) rfl) (by decide) ?_
            refine z_idiv hX (D_Model_mend (i := 95) rfl) (by decide) ?_
            rw [show nI v / 100 = nI (v / 100) from pk_div (d := 100) (by omega) (by decide) (by decide)]
            rw [if_pos g3] at hh
            refine z_goto (tgt := 197) hX (D_Model_mend (i := 96) rfl) (by decide) ?_
            exact z_iret hX hR (D_Model_mend (i := 109) rfl) rfl hh
      · refine z_iload_n hX (D_Model_mend (i := 84) rfl) rfl ?_
        have hh := h0 S2 g2
        rw [show 36 * sz = 6 * (6 * sz) by omega] at hh
        exact z_iret hX hR (D_Model_mend (i := 85) rfl) rfl hh
    | succ d ih =>
      intro at' fo S2 v5 v6 hJ ha hM2 hc hfo he
      have hats : at' < 6 * sz := by omega
      have hk6 : at' / 6 < sz := by omega
      have ed : nI at' / 6 = nI (at' / 6) := pk_div (d := 6) (by omega) (by decide) (by decide)
      have er : nI at' - nI at' / 6 * 6 = nI (at' % 6) := pk_rem (d := 6) (by omega) (by decide) (by decide)
      have eat : 6 * (at' / 6) + at' % 6 = at' := by omega
      refine z_iload hX (D_Model_mend (i := 15) rfl) rfl ?_
      refine z_bipush (v := 6) hX (D_Model_mend (i := 16) rfl) (by decide) ?_
      refine z_aload_n hX (D_Model_mend (i := 17) rfl) rfl ?_
      refine z_geti hX (D_Model_mend (i := 18) rfl) f_Model_99 rfl (by decide) (by first | exact Nat.one_pos | assumption | omega) rfl ?_
      refine z_imul hX (D_Model_mend (i := 19) rfl) ?_
      rw [show (tm mem S2).1 40 0 1 = nI sz from hS.1, show (6 : Int32) * nI sz = nI (6 * sz) from pk_mul 6 sz]
      refine z_icmp_ge (tgt := 153) hX (D_Model_mend (i := 20) rfl) (by decide) (fun hcc => absurd hcc (nI_ge hats (by omega))) (fun _ => ?_)
      refine z_aload_n hX (D_Model_mend (i := 21) rfl) rfl ?_
      refine z_geti hX (D_Model_mend (i := 22) rfl) f_Model_147 rfl (by decide) (by first | exact Nat.one_pos | assumption | omega) rfl ?_
      refine z_iload hX (D_Model_mend (i := 23) rfl) rfl ?_
      refine z_bipush (v := 6) hX (D_Model_mend (i := 24) rfl) (by decide) ?_
      refine z_idiv hX (D_Model_mend (i := 25) rfl) (by decide) ?_
      rw [ed]
      refine z_ishr hX (D_Model_mend (i := 26) rfl) ?_
      refine z_iconst (v := 1) hX (D_Model_mend (i := 27) rfl) (by decide) ?_
      refine z_iand hX (D_Model_mend (i := 28) rfl) ?_
      rw [show (tm mem S2).1 40 0 4 = nI bx from hS.2.2.1, bit_nI (by omega) (by omega)]
      cases hbit : bx.testBit (at' / 6) with
      | false =>
        have hnil : ∀ i, 6 * at' ≤ i → i < 6 * at' + 6 → mdM Λ C T bx i = false := by
          intro i h1 h2
          unfold mdM
          rw [show i / 36 = at' / 6 by omega, hbit]; rfl
        refine z_if_ne (tgt := 52) hX (D_Model_mend (i := 29) rfl) (by decide) (fun hcc => absurd (rfl) hcc) (fun _ => ?_)
        refine z_goto (tgt := 147) hX (D_Model_mend (i := 30) rfl) (by decide) ?_
        first | refine z_inc1 hX (D_Model_mend (i := 80) rfl) rfl (by decide) rfl ?_ | refine z_iinc hX (D_Model_mend (i := 80) rfl) rfl rfl (by decide) rfl ?_
        refine z_goto (tgt := 22) hX (D_Model_mend (i := 81) rfl) (by decide) ?_
        have e6 : cnI (mdM Λ C T bx) (6 * (at' + 1)) = cnI (mdM Λ C T bx) (6 * at') := by
          rw [show 6 * (at' + 1) = 6 * at' + 6 by omega]; exact cnI_skip hnil
        have := ih (at' + 1) fo S2 v5 v6 hJ (by omega) hM2 (by rw [e6]; exact hc) hfo (by
          rw [he]
          cases fo with
          | some v => rfl
          | none =>
            show frI _ _ _ = frI _ _ _
            rw [show 6 * (d + 1) = 6 + 6 * d by omega, frI_skip (fun i h1 h2 => by unfold mdQ; rw [hnil i h1 h2]; rfl), show 6 * (at' + 1) = 6 * at' + 6 by omega])
        rw [e6] at this
        exact this
      | true =>
        obtain ⟨c1, c2⟩ := hS.2.2.2.2.2.1 (at' / 6) (by omega) (at' % 6) (by omega)
        rw [eat] at c1
        refine z_if_ne (tgt := 52) hX (D_Model_mend (i := 29) rfl) (by decide) (fun _ => ?_) (fun hcc => absurd hcc (by decide))
        refine z_aload_n hX (D_Model_mend (i := 31) rfl) rfl ?_
        refine z_getc hX (D_Model_mend (i := 32) rfl) f_Model_7 rfl (by decide) (by first | exact Nat.one_pos | assumption | omega) rfl ?_
        refine z_iload hX (D_Model_mend (i := 33) rfl) rfl ?_
        refine z_iald (j := at') hX (D_Model_mend (i := 34) rfl) rfl (by decide) (by first | exact Nat.one_pos | assumption | omega) (by decide) rfl (by omega) ?_
        rw [show (tm mem S2).1 41 0 at' = nI (C (at' / 6) (at' % 6)) from c1]
        refine z_istore hX (D_Model_mend (i := 35) rfl) (by decide) rfl ?_
        refine z_iconst (v := 0) hX (D_Model_mend (i := 36) rfl) (by decide) ?_
        refine z_istore hX (D_Model_mend (i := 37) rfl) (by decide) rfl ?_
        suffices LV : ∀ (e v c : Nat) (fo : Option Nat) (S3 : Nat → Nat → Int32), v + e = 6 → MyM Λ S3 → (cnI (mdM Λ C T bx) (6 * at' + v) = 0 ↔ fo = none) → (∀ v, fo = some v → v < 10000) → frI (mdQ Λ C T bx) 0 (36 * sz) = (match fo with | some v => some v | none => frI (mdQ Λ C T bx) (6 * at' + v) (e + 6 * d)) → zW ι M_Model_mend X 64 [some (zP 40 0), some (zI x), some (zI (nI (cnI (mdM Λ C T bx) (6 * at' + v)))), some (zI (foI fo)), some (zI (nI at')), some (zI (nI (C (at' / 6) (at' % 6)))), some (zI (nI v))] [] (tm (upI mem 41 0 at' (nI c)) S3) by
          have := LV 6 0 (C (at' / 6) (at' % 6)) fo S2 rfl hM2 hc hfo (by rw [he, show 6 * (d + 1) = 6 + 6 * d by omega]; rfl)
          rw [upI_id c1] at this
          exact this
        intro e
        induction e with
        | zero =>
          intro v c fo S3 hv hM3 hc3 hfo3 he3
          obtain rfl : v = 6 := hv
          refine z_iload hX (D_Model_mend (i := 38) rfl) rfl ?_
          refine z_bipush (v := 6) hX (D_Model_mend (i := 39) rfl) (by decide) ?_
          refine z_icmp_ge (tgt := 138) hX (D_Model_mend (i := 40) rfl) (by decide) (fun _ => ?_) (fun hcc => absurd (Int32.le_refl _) hcc)
          refine z_aload_n hX (D_Model_mend (i := 75) rfl) rfl ?_
          refine z_getc hX (D_Model_mend (i := 76) rfl) f_Model_7 rfl (by decide) (by first | exact Nat.one_pos | assumption | omega) rfl ?_
          refine z_iload hX (D_Model_mend (i := 77) rfl) rfl ?_
          refine z_iload hX (D_Model_mend (i := 78) rfl) rfl ?_
          refine z_iast (j := at') hX (D_Model_mend (i := 79) rfl) rfl (by decide) (by first | exact Nat.one_pos | assumption | omega) (by decide) rfl (by omega) ?_
          rw [tm_out (Or.inr rfl), upI_same, upI_id c1]
          first | refine z_inc1 hX (D_Model_mend (i := 80) rfl) rfl (by decide) rfl ?_ | refine z_iinc hX (D_Model_mend (i := 80) rfl) rfl rfl (by decide) rfl ?_
          refine z_goto (tgt := 22) hX (D_Model_mend (i := 81) rfl) (by decide) ?_
          have := ih (at' + 1) fo S3 (some (zI (nI (C (at' / 6) (at' % 6))))) (some (zI (nI 6))) rfl (by omega) hM3 (by rw [show 6 * (at' + 1) = 6 * at' + 6 by omega]; exact hc3) hfo3 (by rw [he3, show 6 * (at' + 1) = 6 * at' + 6 by omega, Nat.zero_add])
          rw [show 6 * (at' + 1) = 6 * at' + 6 by omega] at this
          exact this
        | succ e ihe =>
          intro v c fo S3 hv hM3 hc3 hfo3 he3
          have hv6 : v < 6 := by omega
          have q1 : (6 * at' + v) / 36 = at' / 6 := by omega
          have q2 : (6 * at' + v) % 36 / 6 = at' % 6 := by omega
          have q3 : (6 * at' + v) % 36 % 6 = v := by omega
          have hcn : cnI (mdM Λ C T bx) (6 * at' + v) ≤ 6 * at' + v := cnI_le _ _
          have emd : mdM Λ C T bx (6 * at' + v) = (decide (C (at' / 6) (at' % 6) ≠ v) && hW Λ (cU C (at' / 6) (at' % 6) v) T) := by
            unfold mdM gmB
            rw [q1, q2, q3, hbit]; rfl
          have nx : ∀ (c : Nat) (S4 : Nat → Nat → Int32), MyM Λ S4 → mdM Λ C T bx (6 * at' + v) = false → zW ι M_Model_mend X 132 [some (zP 40 0), some (zI x), some (zI (nI (cnI (mdM Λ C T bx) (6 * at' + v)))), some (zI (foI fo)), some (zI (nI at')), some (zI (nI (C (at' / 6) (at' % 6)))), some (zI (nI v))] [] (tm (upI mem 41 0 at' (nI c)) S4) := by
            intro c S4 hM4 hno
            first | refine z_inc1 hX (D_Model_mend (i := 73) rfl) rfl (by decide) rfl ?_ | refine z_iinc hX (D_Model_mend (i := 73) rfl) rfl rfl (by decide) rfl ?_
            refine z_goto (tgt := 64) hX (D_Model_mend (i := 74) rfl) (by decide) ?_
            have ecn : cnI (mdM Λ C T bx) (6 * at' + (v + 1)) = cnI (mdM Λ C T bx) (6 * at' + v) := by
              rw [← Nat.add_assoc, cnI, hno]; rfl
            have := ihe (v + 1) c fo S4 (by omega) hM4 (by rw [ecn]; exact hc3) hfo3 (by
              rw [he3]
              cases fo with
              | some v => rfl
              | none =>
                show frI _ _ _ = frI _ _ _
                rw [show e + 1 + 6 * d = (e + 6 * d) + 1 by omega, frI, mdQ, hno]; rfl)
            rw [ecn] at this
            exact this
          refine z_iload hX (D_Model_mend (i := 38) rfl) rfl ?_
          refine z_bipush (v := 6) hX (D_Model_mend (i := 39) rfl) (by decide) ?_
          refine z_icmp_ge (tgt := 138) hX (D_Model_mend (i := 40) rfl) (by decide) (fun hcc => absurd hcc (nI_ge (b := 6) hv6 (by decide))) (fun _ => ?_)
          refine z_iload hX (D_Model_mend (i := 41) rfl) rfl ?_
          refine z_iload hX (D_Model_mend (i := 42) rfl) rfl ?_
          refine z_icmp_ne (tgt := 81) hX (D_Model_mend (i := 43) rfl) (by decide) (fun g5 => ?_) (fun g5 => ?_)
          · refine z_aload_n hX (D_Model_mend (i := 45) rfl) rfl ?_
            refine z_getc hX (D_Model_mend (i := 46) rfl) f_Model_7 rfl (by decide) (by first | exact Nat.one_pos | assumption | omega) rfl ?_
            refine z_iload hX (D_Model_mend (i := 47) rfl) rfl ?_
            refine z_iload hX (D_Model_mend (i := 48) rfl) rfl ?_
            have hne : C (at' / 6) (at' % 6) ≠ v := fun w => g5 (by rw [w])
            refine z_iast (j := at') hX (D_Model_mend (i := 49) rfl) rfl (by decide) (by first | exact Nat.one_pos | assumption | omega) (by decide) rfl (by omega) ?_
            rw [tm_out (Or.inr rfl), upI_same]
            refine z_aload_n hX (D_Model_mend (i := 50) rfl) rfl ?_
            refine z_aload_n hX (D_Model_mend (i := 51) rfl) rfl ?_
            refine z_geti hX (D_Model_mend (i := 52) rfl) f_Model_147 rfl (by decide) (by first | exact Nat.one_pos | assumption | omega) rfl ?_
            rw [show (tm (upI mem 41 0 at' (nI v)) S3).1 40 0 4 = nI bx from hS.2.2.1]
            have hC2 : COM (upI mem 41 0 at' (nI v)) (cU C (at' / 6) (at' % 6) v) := by
              have := hS.2.2.2.2.2.1.up (k := at' / 6) (f := at' % 6) (v := v) (by omega) (by omega)
              rw [eat] at this
              exact this
            refine z_cV1 hX (D_Model_mend (i := 53) rfl) mi_Model_hasWay l_Model_285 rfl rfl (by decide) (by first | exact Nat.one_pos | assumption | omega) (by first | decide | omega) (Nat.le_of_ble_eq_true rfl) (d_hasWay (mem := upI mem 41 0 at' (nI v)) (sz := sz) (τ := τ) hH hS.1 h8 hS.2.2.2.2.2.2.2.2 hC2 hS.2.2.2.2.2.2.1 hM3 hS.2.2.2.1 (by rw [hTT]; exact hlen) ?_)
            intro S4 hM4
            rw [hTT]
            cases hw : hW Λ (cU C (at' / 6) (at' % 6) v) T with
            | false =>
              refine z_if_ne (tgt := 104) hX (D_Model_mend (i := 54) rfl) (by decide) (fun hcc => absurd (rfl) hcc) (fun _ => ?_)
              refine z_goto (tgt := 132) hX (D_Model_mend (i := 55) rfl) (by decide) ?_
              exact nx v S4 hM4 (by rw [emd, hw, Bool.and_false])
            | true =>
              have hyes : mdM Λ C T bx (6 * at' + v) = true := by rw [emd, hw, decide_eq_true hne]; rfl
              have ecn : cnI (mdM Λ C T bx) (6 * at' + (v + 1)) = cnI (mdM Λ C T bx) (6 * at' + v) + 1 := by
                rw [← Nat.add_assoc, cnI, hyes]; rfl
              have go : ∀ fo' : Option Nat, (fo' = none → False) → (∀ v, fo' = some v → v < 10000) → frI (mdQ Λ C T bx) 0 (36 * sz) = fo' → zW ι M_Model_mend X 132 [some (zP 40 0), some (zI x), some (zI (nI (cnI (mdM Λ C T bx) (6 * at' + v) + 1))), some (zI (foI fo')), some (zI (nI at')), some (zI (nI (C (at' / 6) (at' % 6)))), some (zI (nI v))] [] (tm (upI mem 41 0 at' (nI v)) S4) := by
                intro fo' n1 n2 n3
                first | refine z_inc1 hX (D_Model_mend (i := 73) rfl) rfl (by decide) rfl ?_ | refine z_iinc hX (D_Model_mend (i := 73) rfl) rfl rfl (by decide) rfl ?_
                refine z_goto (tgt := 64) hX (D_Model_mend (i := 74) rfl) (by decide) ?_
                have := ihe (v + 1) v fo' S4 (by omega) hM4 ⟨fun w => by rw [ecn] at w; omega, fun w => absurd w n1⟩ n2 (by
                  rw [n3]
                  cases fo' with
                  | some v => rfl
                  | none => exact absurd rfl n1)
                rw [ecn] at this
                exact this
              refine z_if_ne (tgt := 104) hX (D_Model_mend (i := 54) rfl) (by decide) (fun _ => ?_) (fun hcc => absurd hcc (by decide))
              first | refine z_inc1 hX (D_Model_mend (i := 56) rfl) rfl (by decide) rfl ?_ | refine z_iinc hX (D_Model_mend (i := 56) rfl) rfl rfl (by decide) rfl ?_
              refine z_iload_n hX (D_Model_mend (i := 57) rfl) rfl ?_
              cases hfo2 : fo with
              | some vv =>
                have hvv := hfo3 vv hfo2
                rw [show foI (some vv) = nI vv from rfl]
                refine z_if_ge (tgt := 132) hX (D_Model_mend (i := 58) rfl) (by decide) (fun _ => ?_) (fun hcc => absurd (nI_pos' (by omega)) hcc)
                have := go (some vv) (fun q => by cases q) (fun v q => by rw [← Option.some.inj q]; exact hvv) (by rw [he3, hfo2])
                exact this
              | none =>
                rw [show foI none = -1 from rfl]
                refine z_if_ge (tgt := 132) hX (D_Model_mend (i := 58) rfl) (by decide) (fun hcc => absurd hcc (by decide)) (fun _ => ?_)
                refine z_bipush (v := 100) hX (D_Model_mend (i := 59) rfl) (by decide) ?_
                refine z_iload hX (D_Model_mend (i := 60) rfl) rfl ?_
                refine z_bipush (v := 6) hX (D_Model_mend (i := 61) rfl) (by decide) ?_
                refine z_idiv hX (D_Model_mend (i := 62) rfl) (by decide) ?_
                rw [ed]
                refine z_imul hX (D_Model_mend (i := 63) rfl) ?_
                refine z_bipush (v := 10) hX (D_Model_mend (i := 64) rfl) (by decide) ?_
                refine z_iload hX (D_Model_mend (i := 65) rfl) rfl ?_
                refine z_bipush (v := 6) hX (D_Model_mend (i := 66) rfl) (by decide) ?_
                refine z_irem hX (D_Model_mend (i := 67) rfl) (by decide) ?_
                rw [er]
                refine z_imul hX (D_Model_mend (i := 68) rfl) ?_
                refine z_iadd hX (D_Model_mend (i := 69) rfl) ?_
                refine z_iload hX (D_Model_mend (i := 70) rfl) rfl ?_
                refine z_iadd hX (D_Model_mend (i := 71) rfl) ?_
                have ev : (100 : Int32) * nI (at' / 6) + (10 : Int32) * nI (at' % 6) + nI v = nI (100 * (at' / 6) + 10 * (at' % 6) + v) := by simp only [nlit, pk_mul, nI_add]
                rw [ev]
                refine z_istore_n hX (D_Model_mend (i := 72) rfl) (by decide) rfl ?_
                first | refine z_inc1 hX (D_Model_mend (i := 73) rfl) rfl (by decide) rfl ?_ | refine z_iinc hX (D_Model_mend (i := 73) rfl) rfl rfl (by decide) rfl ?_
                refine z_goto (tgt := 64) hX (D_Model_mend (i := 74) rfl) (by decide) ?_
                have ecn0 := hc3.mpr hfo2
                have hn := go (some (100 * (at' / 6) + 10 * (at' % 6) + v)) (fun q => by cases q) (fun v' q => by rw [← Option.some.inj q]; omega) (by
                  rw [he3, hfo2]
                  show frI _ _ _ = _
                  rw [show e + 1 + 6 * d = (e + 6 * d) + 1 by omega, frI, mdQ, hyes, q1, q2, q3]; rfl)
                have := ihe (v + 1) v (some (100 * (at' / 6) + 10 * (at' % 6) + v)) S4 (by omega) hM4 ⟨fun w => by rw [ecn] at w; omega, fun q => by cases q⟩ (fun v' q => by rw [← Option.some.inj q]; omega) (by
                  rw [he3, hfo2]
                  show frI _ _ _ = _
                  rw [show e + 1 + 6 * d = (e + 6 * d) + 1 by omega, frI, mdQ, hyes, q1, q2, q3]; rfl)
                rw [ecn] at this
                exact this
          · refine z_goto (tgt := 132) hX (D_Model_mend (i := 44) rfl) (by decide) ?_
            have heq : C (at' / 6) (at' % 6) = v := ((nI_eq (by omega) (by omega)).mp g5).symm
            exact nx c S3 hM3 (by rw [emd, decide_eq_false (fun q => q heq)]; rfl)
  · refine z_iconst (v := -1) hX (D_Model_mend (i := 5) rfl) (by decide) ?_
    refine z_iret hX hR (D_Model_mend (i := 6) rfl) rfl (hno (Classical.byContradiction (fun w => ?_)))
    have : decide ((0 : Int32) ≤ x ∧ x ≤ 3) = true := d03.mpr ⟨fun q => w (Or.inl q), Classical.byContradiction (fun q => w (Or.inr q))⟩
    rw [this] at g1
    exact absurd g1 (by decide)
theorem d_open (hH : zHas ι pM) {x : Int32} {bx : Nat} (hS : MS mem sz bx C τ Λ) (hno : fcB x sz = false → Post (some (zI (-1))) mem) (hst : ∀ k f, k < sz → f < 6 → x = nI (10 * k + f) → (¬ C k f = 6 ∨ bx.testBit k = false) → Post (some (zI (-5))) mem) (hok : ∀ k f S', k < sz → f < 6 → x = nI (10 * k + f) → C k f = 6 → bx.testBit k = true → Post (some (zI (mkI (fun v => hW Λ (cU C k f v) (bxL bx 8)) 6))) (tm mem S')) : zC l ι M_Model_open 11 [zP 40 0, zI x] mem Post := by
  have h8 := hS.2.1
  have hbx := hS.b
  have hlen : (bxL bx 8).length ≤ 4 := by rw [bxL_len]; exact hS.2.2.2.2.1
  refine z_enter hH (by decide) (by simp [z_ent, M_Model_open]) (fun X hXl hX hR => ?_)
  refine z_aload_n hX (D_Model_open (i := 0) rfl) rfl ?_
  refine z_iload_n hX (D_Model_open (i := 1) rfl) rfl ?_
  refine z_cV1 hX (D_Model_open (i := 2) rfl) mi_Model_isFace l_Model_133 rfl rfl (by decide) (by first | exact Nat.one_pos | assumption | omega) (by first | decide | omega) (Nat.le_of_ble_eq_true rfl) (d_isFace hH hS.1 hS.2.1 ?_)
  refine z_if_ne (tgt := 10) hX (D_Model_open (i := 3) rfl) (by decide) (fun g1 => ?_) (fun g1 => ?_)
  · skip
    obtain ⟨k, f, hk, hf, rfl⟩ := fcB_ex (bI_n.mp g1)
    obtain ⟨c1, c2⟩ := hS.2.2.2.2.2.1 k (by omega) f hf
    have e10 : nI (10 * k + f) / 10 = nI k := by rw [show (10 : Int32) = nI 10 from rfl, pk_div (by omega) (by decide) (by decide)]; congr 1; omega
    have em : nI (10 * k + f) - nI (10 * k + f) / 10 * 10 = nI f := by rw [show (10 : Int32) = nI 10 from rfl, pk_rem (by omega) (by decide) (by decide)]; congr 1; omega
    refine z_bipush (v := 6) hX (D_Model_open (i := 6) rfl) (by decide) ?_
    refine z_iload_n hX (D_Model_open (i := 7) rfl) rfl ?_
    refine z_bipush (v := 10) hX (D_Model_open (i := 8) rfl) (by decide) ?_
    refine z_idiv hX (D_Model_open (i := 9) rfl) (by decide) ?_
    rw [e10]
    refine z_imul hX (D_Model_open (i := 10) rfl) ?_
    refine z_iload_n hX (D_Model_open (i := 11) rfl) rfl ?_
    refine z_bipush (v := 10) hX (D_Model_open (i := 12) rfl) (by decide) ?_
    refine z_irem hX (D_Model_open (i := 13) rfl) (by decide) ?_
    rw [em]
    refine z_iadd hX (D_Model_open (i := 14) rfl) ?_
    rw [show (6 : Int32) * nI k + nI f = nI (6 * k + f) by rw [show (6 : Int32) * nI k = nI (6 * k) from pk_mul 6 k, nI_add]]
    refine z_istore_n hX (D_Model_open (i := 15) rfl) (by decide) rfl ?_
    refine z_aload_n hX (D_Model_open (i := 16) rfl) rfl ?_
    refine z_getc hX (D_Model_open (i := 17) rfl) f_Model_7 rfl (by decide) (by first | exact Nat.one_pos | assumption | omega) rfl ?_
    refine z_iload_n hX (D_Model_open (i := 18) rfl) rfl ?_
    refine z_iald (j := 6 * k + f) hX (D_Model_open (i := 19) rfl) rfl (by decide) (by first | exact Nat.one_pos | assumption | omega) (by decide) rfl (by omega) ?_
    rw [c1]
    refine z_bipush (v := 6) hX (D_Model_open (i := 20) rfl) (by decide) ?_
    refine z_icmp_ne (tgt := 48) hX (D_Model_open (i := 21) rfl) (by decide) (fun g2 => ?_) (fun g2 => ?_)
    · refine z_bipush (v := -5) hX (D_Model_open (i := 31) rfl) (by decide) ?_
      exact z_iret hX hR (D_Model_open (i := 32) rfl) rfl (hst k f hk hf rfl (Or.inl (fun w => g2 (by rw [w]; rfl))))
    · refine z_aload_n hX (D_Model_open (i := 22) rfl) rfl ?_
      refine z_geti hX (D_Model_open (i := 23) rfl) f_Model_147 rfl (by decide) (by first | exact Nat.one_pos | assumption | omega) rfl ?_
      refine z_iload_n hX (D_Model_open (i := 24) rfl) rfl ?_
      refine z_bipush (v := 10) hX (D_Model_open (i := 25) rfl) (by decide) ?_
      have e6 : C k f = 6 := (nI_eq (b := 6) (by omega) (by decide)).mp g2
      refine z_idiv hX (D_Model_open (i := 26) rfl) (by decide) ?_
      rw [e10]
      refine z_ishr hX (D_Model_open (i := 27) rfl) ?_
      refine z_iconst (v := 1) hX (D_Model_open (i := 28) rfl) (by decide) ?_
      refine z_iand hX (D_Model_open (i := 29) rfl) ?_
      rw [hS.2.2.1, bit_nI (by omega) (by omega)]
      cases hb : bx.testBit k with
      | false =>
        refine z_if_ne (tgt := 51) hX (D_Model_open (i := 30) rfl) (by decide) (fun hcc => absurd (rfl) hcc) (fun _ => ?_)
        refine z_bipush (v := -5) hX (D_Model_open (i := 31) rfl) (by decide) ?_
        exact z_iret hX hR (D_Model_open (i := 32) rfl) rfl (hst k f hk hf rfl (Or.inr hb))
      | true =>
        refine z_if_ne (tgt := 51) hX (D_Model_open (i := 30) rfl) (by decide) (fun _ => ?_) (fun hcc => absurd hcc (by decide))
        obtain ⟨S, eS⟩ := tm_ex mem
        rw [← eS]
        refine z_aload_n hX (D_Model_open (i := 33) rfl) rfl ?_
        refine z_cV0 hX (D_Model_open (i := 34) rfl) mi_Model_findMay l_Model_240 rfl rfl (by decide) (by first | exact Nat.one_pos | assumption | omega) (by first | decide | omega) (Nat.le_of_ble_eq_true rfl) (d_findMay hH hS.2.2.2.2.2.2.2.1 ?_)
        intro S1 f1 hM1
        refine z_iconst (v := 0) hX (D_Model_open (i := 35) rfl) (by decide) ?_
        refine z_istore_n hX (D_Model_open (i := 36) rfl) (by decide) rfl ?_
        refine z_iconst (v := 0) hX (D_Model_open (i := 37) rfl) (by decide) ?_
        refine z_istore hX (D_Model_open (i := 38) rfl) (by decide) rfl ?_
        suffices LP : ∀ (d v c : Nat) (S2 : Nat → Nat → Int32), v + d = 6 → MyM Λ S2 → zW ι M_Model_open X 60 [some (zP 40 0), some (zI (nI (10 * k + f))), some (zI (nI (6 * k + f))), some (zI (mkI (fun v => hW Λ (cU C k f v) (bxL bx 8)) v)), some (zI (nI v))] [] (tm (upI mem 41 0 (6 * k + f) (nI c)) S2) by
          have := LP 6 0 (C k f) S1 rfl hM1
          rw [upI_id c1] at this
          exact this
        intro d
        induction d with
        | zero =>
          intro v c S2 hv hM2
          obtain rfl : v = 6 := hv
          refine z_iload hX (D_Model_open (i := 39) rfl) rfl ?_
          refine z_bipush (v := 6) hX (D_Model_open (i := 40) rfl) (by decide) ?_
          refine z_icmp_ge (tgt := 99) hX (D_Model_open (i := 41) rfl) (by decide) (fun _ => ?_) (fun hcc => absurd (Int32.le_refl _) hcc)
          refine z_aload_n hX (D_Model_open (i := 60) rfl) rfl ?_
          refine z_getc hX (D_Model_open (i := 61) rfl) f_Model_7 rfl (by decide) (by first | exact Nat.one_pos | assumption | omega) rfl ?_
          refine z_iload_n hX (D_Model_open (i := 62) rfl) rfl ?_
          refine z_bipush (v := 6) hX (D_Model_open (i := 63) rfl) (by decide) ?_
          refine z_iast (j := 6 * k + f) hX (D_Model_open (i := 64) rfl) rfl (by decide) (by first | exact Nat.one_pos | assumption | omega) (by decide) rfl (by omega) ?_
          rw [tm_out (Or.inr rfl), upI_same, upI_id (show mem.1 41 0 (6 * k + f) = 6 from by rw [c1, e6]; rfl)]
          refine z_iload_n hX (D_Model_open (i := 65) rfl) rfl ?_
          exact z_iret hX hR (D_Model_open (i := 66) rfl) rfl (hok k f _ hk hf rfl e6 hb)
        | succ d ih =>
          intro v c S2 hv hM2
          have hv6 : v < 6 := by omega
          refine z_iload hX (D_Model_open (i := 39) rfl) rfl ?_
          refine z_bipush (v := 6) hX (D_Model_open (i := 40) rfl) (by decide) ?_
          refine z_icmp_ge (tgt := 99) hX (D_Model_open (i := 41) rfl) (by decide) (fun hcc => absurd hcc (nI_ge (b := 6) hv6 (by decide))) (fun _ => ?_)
          refine z_aload_n hX (D_Model_open (i := 42) rfl) rfl ?_
          refine z_getc hX (D_Model_open (i := 43) rfl) f_Model_7 rfl (by decide) (by first | exact Nat.one_pos | assumption | omega) rfl ?_
          refine z_iload_n hX (D_Model_open (i := 44) rfl) rfl ?_
          refine z_iload hX (D_Model_open (i := 45) rfl) rfl ?_
          refine z_iast (j := 6 * k + f) hX (D_Model_open (i := 46) rfl) rfl (by decide) (by first | exact Nat.one_pos | assumption | omega) (by decide) rfl (by omega) ?_
          rw [tm_out (Or.inr rfl), upI_same]
          refine z_aload_n hX (D_Model_open (i := 47) rfl) rfl ?_
          refine z_aload_n hX (D_Model_open (i := 48) rfl) rfl ?_
          refine z_geti hX (D_Model_open (i := 49) rfl) f_Model_147 rfl (by decide) (by first | exact Nat.one_pos | assumption | omega) rfl ?_
          rw [show (tm (upI mem 41 0 (6 * k + f) (nI v)) S2).1 40 0 4 = nI bx from hS.2.2.1]
          refine z_cV1 hX (D_Model_open (i := 50) rfl) mi_Model_hasWay l_Model_285 rfl rfl (by decide) (by first | exact Nat.one_pos | assumption | omega) (by first | decide | omega) (Nat.le_of_ble_eq_true rfl) (d_hasWay (mem := upI mem 41 0 (6 * k + f) (nI v)) (sz := sz) (τ := τ) hH hS.1 h8 hS.2.2.2.2.2.2.2.2 (hS.2.2.2.2.2.1.up hf (by omega)) hS.2.2.2.2.2.2.1 hM2 hS.2.2.2.1 hlen ?_)
          intro S3 hM3
          cases hw : hW Λ (cU C k f v) (bxL bx 8) with
          | false =>
            refine z_if_eq (tgt := 93) hX (D_Model_open (i := 51) rfl) (by decide) (fun _ => ?_) (fun hcc => absurd (rfl) hcc)
            first | refine z_inc1 hX (D_Model_open (i := 58) rfl) rfl (by decide) rfl ?_ | refine z_iinc hX (D_Model_open (i := 58) rfl) rfl rfl (by decide) rfl ?_
            refine z_goto (tgt := 60) hX (D_Model_open (i := 59) rfl) (by decide) ?_
            have := ih (v + 1) v S3 (by omega) hM3
            rw [mkI, hw] at this
            exact this
          | true =>
            refine z_if_eq (tgt := 93) hX (D_Model_open (i := 51) rfl) (by decide) (fun hcc => absurd hcc (by decide)) (fun _ => ?_)
            refine z_iload_n hX (D_Model_open (i := 52) rfl) rfl ?_
            refine z_iconst (v := 1) hX (D_Model_open (i := 53) rfl) (by decide) ?_
            refine z_iload hX (D_Model_open (i := 54) rfl) rfl ?_
            refine z_ishl hX (D_Model_open (i := 55) rfl) ?_
            refine z_ior hX (D_Model_open (i := 56) rfl) ?_
            refine z_istore_n hX (D_Model_open (i := 57) rfl) (by decide) rfl ?_
            first | refine z_inc1 hX (D_Model_open (i := 58) rfl) rfl (by decide) rfl ?_ | refine z_iinc hX (D_Model_open (i := 58) rfl) rfl rfl (by decide) rfl ?_
            refine z_goto (tgt := 60) hX (D_Model_open (i := 59) rfl) (by decide) ?_
            have := ih (v + 1) v S3 (by omega) hM3
            rw [mkI, hw] at this
            exact this
  · refine z_iconst (v := -1) hX (D_Model_open (i := 4) rfl) (by decide) ?_
    exact z_iret hX hR (D_Model_open (i := 5) rfl) rfl (hno (bI_0.mp g1))
end M4
