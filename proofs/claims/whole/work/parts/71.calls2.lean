/-! mend, open, swap, rings -/
theorem frI_mem {α : Type} {g : Nat → Option α} {v : α} : ∀ {m t : Nat}, frI g t m = some v → ∃ k, t ≤ k ∧ k < t + m ∧ g k = some v
  | 0, t, h => by cases h
  | m + 1, t, h => by
    rw [frI] at h
    cases hg : g t with
    | some a =>
      rw [hg] at h
      obtain rfl := Option.some.inj h
      exact ⟨t, Nat.le_refl _, by omega, hg⟩
    | none =>
      rw [hg] at h
      obtain ⟨k, h1, h2, h3⟩ := frI_mem (m := m) (t := t + 1) h
      exact ⟨k, by omega, by omega, h3⟩
def mnV (x : Int32) (o : Option Nat) : Int32 := match o with
  | none => -2
  | some v => if x = 1 then nI (v / 100) else if x = 2 then nI (v / 10 % 10) else nI (v % 10)
def otN (sz bx : Nat) : Nat := (2 ^ sz - 1) ^^^ bx
theorem ot_ok : ∀ sz, sz ≤ 8 → ∀ bx, bx < 2 ^ sz → nI (2 ^ sz - 1) &&& (nI bx ^^^ -1) = nI (otN sz bx) ∧ otN sz bx < 2 ^ sz ∧ pcN (otN sz bx) 8 + pcN bx 8 = sz := by decide +kernel
theorem ot_bit : ∀ sz, sz ≤ 8 → ∀ bx, bx < 2 ^ sz → ∀ k, k < sz → (otN sz bx).testBit k = !bx.testBit k := by
  intro sz hs bx hb k hk
  unfold otN
  rw [Nat.testBit_xor, Nat.testBit_two_pow_sub_one, decide_eq_true hk]
  cases bx.testBit k <;> rfl
def twN (a b : Nat) : Nat := 2 ^ a ||| 2 ^ b
theorem tw_ok : ∀ a, a < 8 → ∀ b, b < 8 → ((1 : Int32) <<< (nI a &&& 31)) ||| ((1 : Int32) <<< (nI b &&& 31)) = nI (twN a b) ∧ twN a b < 256 := by decide +kernel
theorem ex_ok : ∀ bx, bx < 256 → ∀ a, a < 8 → ∀ b, b < 8 → bx.testBit a = true → bx.testBit b = false → pcN (bx ^^^ twN a b) 8 = pcN bx 8 := by decide +kernel
section F11
variable (Λ : Option (List lLn)) (C : Nat → Nat → Nat) (sz bx : Nat)
def swB (a b : Nat) : Bool := bx.testBit a && ((otN sz bx).testBit b && (hW Λ C (bxL (bx ^^^ twN a b) 8) && hW Λ C (bxL (otN sz bx ^^^ twN a b) 8)))
def swI (a b : Nat) : Option (Nat × Nat) := if swB Λ C sz bx a b = true then some (a, b) else none
def swO : Option (Nat × Nat) := frI (fun a => frI (swI Λ C sz bx a) 0 sz) 0 sz
def swV (x : Int32) (o : Option (Nat × Nat)) : Int32 := match o with
  | none => -2
  | some q => if x = 0 then nI q.1 else nI q.2
end F11
section F12
variable {l : Launch} {ι : zE} {mem : zM} {Post : Option zV → zM → Prop} {x y : Int32} {sz bx : Nat} {C : Nat → Nat → Nat} {τ : Nat → Nat} {Λ : Option (List lLn)}
theorem c_Four_mend (hH : zHas ι pX) (hS : CS mem sz bx C τ Λ) (hno : (x < 0 ∨ ¬ x ≤ 3) → Post (some (zI (-1))) mem) (h0 : ∀ m, x = 0 → tO mem m → Post (some (zI (nI (cnI (mdB Λ C (bxL bx 8)) (36 * (bxL bx 8).length))))) m) (h1 : ∀ m, ¬ x < 0 → x ≤ 3 → ¬ x = 0 → tO mem m → Post (some (zI (mnV x (frI (mdV Λ C (bxL bx 8)) 0 (36 * (bxL bx 8).length))))) m) : zC l ι M_Four_mend 12 [zP 0 0, zI x] mem Post := by
  have hlen := hS.len
  refine z_enter hH (by decide) (by simp [z_ent, M_Four_mend]) (fun X hXl hX hR => ?_)
  refine z_iload_n hX (D_Four_mend (i := 0) rfl) rfl ?_
  refine z_if_lt (tgt := 9) hX (D_Four_mend (i := 1) rfl) (by decide) (fun g1 => ?_) (fun g1 => ?_)
  · refine z_iconst (v := -1) hX (D_Four_mend (i := 5) rfl) (by decide) ?_
    exact z_iret hX hR (D_Four_mend (i := 6) rfl) rfl (hno (Or.inl g1))
  · refine z_iload_n hX (D_Four_mend (i := 2) rfl) rfl ?_
    refine z_iconst (v := 3) hX (D_Four_mend (i := 3) rfl) (by decide) ?_
    refine z_icmp_le (tgt := 11) hX (D_Four_mend (i := 4) rfl) (by decide) (fun g2 => ?_) (fun g2 => ?_)
    · skip
      obtain ⟨S, eS⟩ := tw_ex mem
      rw [← eS]
      refine z_aload_n hX (D_Four_mend (i := 7) rfl) rfl ?_
      refine z_getc hX (D_Four_mend (i := 8) rfl) f_Four_31 rfl (by decide) (by first | exact Nat.one_pos | assumption | omega) rfl ?_
      refine z_aload_n hX (D_Four_mend (i := 9) rfl) rfl ?_
      refine z_geti hX (D_Four_mend (i := 10) rfl) f_Four_127 rfl (by decide) (by first | exact Nat.one_pos | assumption | omega) rfl ?_
      rw [show (tw mem S).1 0 0 2 = nI bx from hS.2.2.1]
      refine z_cV1 hX (D_Four_mend (i := 11) rfl) mi_Tower_pile l_Four_144 rfl rfl (by decide) (by first | exact Nat.one_pos | assumption | omega) (by first | decide | omega) (Nat.le_of_ble_eq_true rfl) (c_Tower_pile hH hS.b hS.len ?_)
      intro mem1 S1 hp hf hT
      have hC := hS.2.2.2.2.2.1.pf hp
      have hτ := hS.2.2.2.2.2.2.1.pf hp
      have hM := hS.2.2.2.2.2.2.2.pf hp
      -- behind the search for mends
      have aft : ∀ S2, (x = 0 → S2 9 11 = nI (cnI (mdB Λ C (bxL bx 8)) (36 * (bxL bx 8).length))) → ((S2 9 11 = nI 0 ∧ frI (mdV Λ C (bxL bx 8)) 0 (36 * (bxL bx 8).length) = none) ∨ ∃ c v, S2 9 11 = nI c ∧ 0 < c ∧ c ≤ 144 ∧ S2 9 12 = nI v ∧ frI (mdV Λ C (bxL bx 8)) 0 (36 * (bxL bx 8).length) = some v) → zW ι M_Four_mend X 38 [some (zP 0 0), some (zI x)] [] (tw mem1 S2) := by
        intro S2 k0 k1
        refine z_iload_n hX (D_Four_mend (i := 20) rfl) rfl ?_
        refine z_if_ne (tgt := 50) hX (D_Four_mend (i := 21) rfl) (by decide) (fun g3 => ?_) (fun g3 => ?_)
        · refine z_aload_n hX (D_Four_mend (i := 26) rfl) rfl ?_
          refine z_getc hX (D_Four_mend (i := 27) rfl) f_Four_31 rfl (by decide) (by first | exact Nat.one_pos | assumption | omega) rfl ?_
          refine z_geti hX (D_Four_mend (i := 28) rfl) f_Four_177 rfl (by decide) (by first | exact Nat.one_pos | assumption | omega) rfl ?_
          have hh := h1 (tw mem1 S2) g1 g2 g3 (tO_tw hp)
          rcases k1 with ⟨q1, q2⟩ | ⟨c, v, q1, q2, q3, q4, q5⟩
          · rw [show (tw mem1 S2).1 9 0 11 = nI 0 from q1]
            rw [q2] at hh
            refine z_if_ne (tgt := 63) hX (D_Four_mend (i := 29) rfl) (by decide) (fun hcc => absurd (rfl) hcc) (fun _ => ?_)
            refine z_bipush (v := -2) hX (D_Four_mend (i := 30) rfl) (by decide) ?_
            exact z_iret hX hR (D_Four_mend (i := 31) rfl) rfl hh
          · rw [show (tw mem1 S2).1 9 0 11 = nI c from q1]
            rw [q5] at hh
            have hv : v < 10000 := by
              obtain ⟨k, r1, r2, r3⟩ := frI_mem q5
              unfold mdV at r3
              split at r3
              · have e := Option.some.inj r3
                have hpl : k / 36 < (bxL bx 8).length := by omega
                have := (hT.2.2.2 (k / 36) hpl).2.2
                omega
              · cases r3
            refine z_if_ne (tgt := 63) hX (D_Four_mend (i := 29) rfl) (by decide) (fun _ => ?_) (fun hcc => absurd hcc (nI_ne0 q2 (by omega)))
            refine z_iload_n hX (D_Four_mend (i := 32) rfl) rfl ?_
            refine z_iconst (v := 1) hX (D_Four_mend (i := 33) rfl) (by decide) ?_
            refine z_icmp_ne (tgt := 79) hX (D_Four_mend (i := 34) rfl) (by decide) (fun g4 => ?_) (fun g4 => ?_)
            · refine z_iload_n hX (D_Four_mend (i := 41) rfl) rfl ?_
              refine z_iconst (v := 2) hX (D_Four_mend (i := 42) rfl) (by decide) ?_
              refine z_icmp_ne (tgt := 100) hX (D_Four_mend (i := 43) rfl) (by decide) (fun g5 => ?_) (fun g5 => ?_)
              · refine z_aload_n hX (D_Four_mend (i := 52) rfl) rfl ?_
                refine z_getc hX (D_Four_mend (i := 53) rfl) f_Four_31 rfl (by decide) (by first | exact Nat.one_pos | assumption | omega) rfl ?_
                refine z_geti hX (D_Four_mend (i := 54) rfl) f_Four_180 rfl (by decide) (by first | exact Nat.one_pos | assumption | omega) rfl ?_
                refine z_bipush (v := 10) hX (D_Four_mend (i := 55) rfl) (by decide) ?_
                rw [show (tw mem1 S2).1 9 0 12 = nI v from q4]
                refine z_irem hX (D_Four_mend (i := 56) rfl) (by decide) ?_
                rw [show nI v - nI v / 10 * 10 = nI (v % 10) from pk_rem (d := 10) (by omega) (by decide) (by decide)]
                have hh : Post (some (zI (if x = 1 then nI (v / 100) else if x = 2 then nI (v / 10 % 10) else nI (v % 10)))) (tw mem1 S2) := hh
                rw [if_neg g4, if_neg g5] at hh
                exact z_iret hX hR (D_Four_mend (i := 57) rfl) rfl hh
              · refine z_aload_n hX (D_Four_mend (i := 44) rfl) rfl ?_
                refine z_getc hX (D_Four_mend (i := 45) rfl) f_Four_31 rfl (by decide) (by first | exact Nat.one_pos | assumption | omega) rfl ?_
                refine z_geti hX (D_Four_mend (i := 46) rfl) f_Four_180 rfl (by decide) (by first | exact Nat.one_pos | assumption | omega) rfl ?_
                refine z_bipush (v := 10) hX (D_Four_mend (i := 47) rfl) (by decide) ?_
                rw [show (tw mem1 S2).1 9 0 12 = nI v from q4]
                refine z_idiv hX (D_Four_mend (i := 48) rfl) (by decide) ?_
                rw [show nI v / 10 = nI (v / 10) from pk_div (d := 10) (by omega) (by decide) (by decide)]
                refine z_bipush (v := 10) hX (D_Four_mend (i := 49) rfl) (by decide) ?_
                refine z_irem hX (D_Four_mend (i := 50) rfl) (by decide) ?_
                rw [show nI (v / 10) - nI (v / 10) / 10 * 10 = nI (v / 10 % 10) from pk_rem (d := 10) (by omega) (by decide) (by decide)]
                have hh : Post (some (zI (if x = 1 then nI (v / 100) else if x = 2 then nI (v / 10 % 10) else nI (v % 10)))) (tw mem1 S2) := hh
                rw [if_neg g4, if_pos g5] at hh
                refine z_goto (tgt := 110) hX (D_Four_mend (i := 51) rfl) (by decide) ?_
                exact z_iret hX hR (D_Four_mend (i := 57) rfl) rfl hh
            · refine z_aload_n hX (D_Four_mend (i := 35) rfl) rfl ?_
              refine z_getc hX (D_Four_mend (i := 36) rfl) f_Four_31 rfl (by decide) (by first | exact Nat.one_pos | assumption | omega) rfl ?_
              refine z_geti hX (D_Four_mend (i := 37) rfl) f_Four_180 rfl (by decide) (by first | exact Nat.one_pos | assumption | omega) rfl ?_
              refine z_bipush (v := 100) hX (D_Four_mend (i := 38) rfl) (by decide) ?_
              rw [show (tw mem1 S2).1 9 0 12 = nI v from q4]
              refine z_idiv hX (D_Four_mend (i := 39) rfl) (by decide) ?_
              rw [show nI v / 100 = nI (v / 100) from pk_div (d := 100) (by omega) (by decide) (by decide)]
              have hh : Post (some (zI (if x = 1 then nI (v / 100) else if x = 2 then nI (v / 10 % 10) else nI (v % 10)))) (tw mem1 S2) := hh
              rw [if_pos g4] at hh
              exact z_iret hX hR (D_Four_mend (i := 40) rfl) rfl hh
        · refine z_aload_n hX (D_Four_mend (i := 22) rfl) rfl ?_
          refine z_getc hX (D_Four_mend (i := 23) rfl) f_Four_31 rfl (by decide) (by first | exact Nat.one_pos | assumption | omega) rfl ?_
          refine z_geti hX (D_Four_mend (i := 24) rfl) f_Four_177 rfl (by decide) (by first | exact Nat.one_pos | assumption | omega) rfl ?_
          rw [show (tw mem1 S2).1 9 0 11 = _ from k0 g3]
          exact z_iret hX hR (D_Four_mend (i := 25) rfl) rfl (h0 _ g3 (tO_tw hp))
      refine z_aload_n hX (D_Four_mend (i := 12) rfl) rfl ?_
      refine z_getc hX (D_Four_mend (i := 13) rfl) f_Four_31 rfl (by decide) (by first | exact Nat.one_pos | assumption | omega) rfl ?_
      refine z_iload_n hX (D_Four_mend (i := 14) rfl) rfl ?_
      refine z_if_le (tgt := 34) hX (D_Four_mend (i := 15) rfl) (by decide) (fun g6 => ?_) (fun g6 => ?_)
      · refine z_iconst (v := 0) hX (D_Four_mend (i := 18) rfl) (by decide) ?_
        have e0 : x = 0 := Int32.le_antisymm g6 (Int32.not_lt.mp g1)
        refine z_cV1 hX (D_Four_mend (i := 19) rfl) mi_Tower_findMends l_Four_173 rfl rfl (by decide) (by first | exact Nat.one_pos | assumption | omega) (by first | decide | omega) (Nat.le_of_ble_eq_true rfl) (c_Tower_findMends (w := false) hH hT hτ hC hM ?_)
        intro S2 k0 k1
        exact aft S2 (fun _ => k0 rfl) k1
      · refine z_iconst (v := 1) hX (D_Four_mend (i := 16) rfl) (by decide) ?_
        refine z_goto (tgt := 35) hX (D_Four_mend (i := 17) rfl) (by decide) ?_
        refine z_cV1 hX (D_Four_mend (i := 19) rfl) mi_Tower_findMends l_Four_173 rfl rfl (by decide) (by first | exact Nat.one_pos | assumption | omega) (by first | decide | omega) (Nat.le_of_ble_eq_true rfl) (c_Tower_findMends (w := true) hH hT hτ hC hM ?_)
        intro S2 k0 k1
        exact aft S2 (fun w => absurd (by rw [w]; exact Int32.le_refl _) g6) k1
    · refine z_iconst (v := -1) hX (D_Four_mend (i := 5) rfl) (by decide) ?_
      exact z_iret hX hR (D_Four_mend (i := 6) rfl) rfl (hno (Or.inr g2))
theorem c_Four_open (hH : zHas ι pX) (hS : CS mem sz bx C τ Λ) (hno : fcB x sz = false → Post (some (zI (-1))) mem) (hst : ∀ k f, k < sz → f < 6 → x = nI (10 * k + f) → (¬ C k f = 6 ∨ bx.testBit k = false) → Post (some (zI (-5))) mem) (hok : ∀ k f m, k < sz → f < 6 → x = nI (10 * k + f) → C k f = 6 → bx.testBit k = true → tO mem m → Post (some (zI (mkI (fun v => hW Λ (cU C k f v) (bxL bx 8)) 6))) m) : zC l ι M_Four_open 11 [zP 0 0, zI x] mem Post := by
  have h8 := hS.2.1
  refine z_enter hH (by decide) (by simp [z_ent, M_Four_open]) (fun X hXl hX hR => ?_)
  refine z_aload_n hX (D_Four_open (i := 0) rfl) rfl ?_
  refine z_iload_n hX (D_Four_open (i := 1) rfl) rfl ?_
  refine z_cV1 hX (D_Four_open (i := 2) rfl) mi_Four_isFace l_Four_95 rfl rfl (by decide) (by first | exact Nat.one_pos | assumption | omega) (by first | decide | omega) (Nat.le_of_ble_eq_true rfl) (c_Four_isFace hH hS.1 hS.2.1 ?_)
  refine z_if_ne (tgt := 10) hX (D_Four_open (i := 3) rfl) (by decide) (fun g1 => ?_) (fun g1 => ?_)
  · skip
    obtain ⟨k, f, hk, hf, rfl⟩ := fcB_ex (bI_n.mp g1)
    obtain ⟨c1, c2⟩ := hS.2.2.2.2.2.1 k (by omega) f hf
    have e10 : nI (10 * k + f) / 10 = nI k := by rw [show (10 : Int32) = nI 10 from rfl, pk_div (by omega) (by decide) (by decide)]; congr 1; omega
    have em : nI (10 * k + f) - nI (10 * k + f) / 10 * 10 = nI f := by rw [show (10 : Int32) = nI 10 from rfl, pk_rem (by omega) (by decide) (by decide)]; congr 1; omega
    refine z_aload_n hX (D_Four_open (i := 6) rfl) rfl ?_
    refine z_iload_n hX (D_Four_open (i := 7) rfl) rfl ?_
    refine z_cV1 hX (D_Four_open (i := 8) rfl) mi_Four_colourAt l_Four_98 rfl rfl (by decide) (by first | exact Nat.one_pos | assumption | omega) (by first | decide | omega) (Nat.le_of_ble_eq_true rfl) (c_Four_colourAt hH (by omega) hf ?_)
    rw [c1]
    refine z_bipush (v := 6) hX (D_Four_open (i := 9) rfl) (by decide) ?_
    refine z_icmp_ne (tgt := 34) hX (D_Four_open (i := 10) rfl) (by decide) (fun g2 => ?_) (fun g2 => ?_)
    · refine z_bipush (v := -5) hX (D_Four_open (i := 20) rfl) (by decide) ?_
      exact z_iret hX hR (D_Four_open (i := 21) rfl) rfl (hst k f hk hf rfl (Or.inl (fun w => g2 (by rw [w]; rfl))))
    · refine z_aload_n hX (D_Four_open (i := 11) rfl) rfl ?_
      refine z_geti hX (D_Four_open (i := 12) rfl) f_Four_127 rfl (by decide) (by first | exact Nat.one_pos | assumption | omega) rfl ?_
      refine z_iload_n hX (D_Four_open (i := 13) rfl) rfl ?_
      refine z_bipush (v := 10) hX (D_Four_open (i := 14) rfl) (by decide) ?_
      have e6 : C k f = 6 := (nI_eq (b := 6) (by omega) (by decide)).mp g2
      refine z_idiv hX (D_Four_open (i := 15) rfl) (by decide) ?_
      rw [e10]
      refine z_ishr hX (D_Four_open (i := 16) rfl) ?_
      refine z_iconst (v := 1) hX (D_Four_open (i := 17) rfl) (by decide) ?_
      refine z_iand hX (D_Four_open (i := 18) rfl) ?_
      rw [hS.2.2.1, bit_nI (by have := hS.b; omega) (by omega)]
      cases hb : bx.testBit k with
      | false =>
        refine z_if_ne (tgt := 37) hX (D_Four_open (i := 19) rfl) (by decide) (fun hcc => absurd (rfl) hcc) (fun _ => ?_)
        refine z_bipush (v := -5) hX (D_Four_open (i := 20) rfl) (by decide) ?_
        exact z_iret hX hR (D_Four_open (i := 21) rfl) rfl (hst k f hk hf rfl (Or.inr hb))
      | true =>
        refine z_if_ne (tgt := 37) hX (D_Four_open (i := 19) rfl) (by decide) (fun _ => ?_) (fun hcc => absurd hcc (by decide))
        obtain ⟨S, eS⟩ := tw_ex mem
        rw [← eS]
        refine z_aload_n hX (D_Four_open (i := 22) rfl) rfl ?_
        refine z_getc hX (D_Four_open (i := 23) rfl) f_Four_31 rfl (by decide) (by first | exact Nat.one_pos | assumption | omega) rfl ?_
        refine z_aload_n hX (D_Four_open (i := 24) rfl) rfl ?_
        refine z_geti hX (D_Four_open (i := 25) rfl) f_Four_127 rfl (by decide) (by first | exact Nat.one_pos | assumption | omega) rfl ?_
        rw [show (tw mem S).1 0 0 2 = nI bx from hS.2.2.1]
        refine z_cV1 hX (D_Four_open (i := 26) rfl) mi_Tower_pile l_Four_144 rfl rfl (by decide) (by first | exact Nat.one_pos | assumption | omega) (by first | decide | omega) (Nat.le_of_ble_eq_true rfl) (c_Tower_pile hH hS.b hS.len ?_)
        intro mem1 S1 hp hf1 hT
        have hC := hS.2.2.2.2.2.1.pf hp
        have hτ := hS.2.2.2.2.2.2.1.pf hp
        have hM := hS.2.2.2.2.2.2.2.pf hp
        refine z_iconst (v := 0) hX (D_Four_open (i := 27) rfl) (by decide) ?_
        refine z_istore_n hX (D_Four_open (i := 28) rfl) (by decide) rfl ?_
        refine z_iconst (v := 0) hX (D_Four_open (i := 29) rfl) (by decide) ?_
        refine z_istore_n hX (D_Four_open (i := 30) rfl) (by decide) rfl ?_
        suffices LP : ∀ (d v : Nat) (S2 : Nat → Nat → Int32), v + d = 6 → TW mem1 S2 (bxL bx 8) → zW ι M_Four_open X 52 [some (zP 0 0), some (zI (nI (10 * k + f))), some (zI (mkI (fun v => hW Λ (cU C k f v) (bxL bx 8)) v)), some (zI (nI v))] [] (tw mem1 S2) from LP 6 0 S1 rfl hT
        intro d
        induction d with
        | zero =>
          intro v S2 hv hT2
          obtain rfl : v = 6 := hv
          refine z_iload_n hX (D_Four_open (i := 31) rfl) rfl ?_
          refine z_bipush (v := 6) hX (D_Four_open (i := 32) rfl) (by decide) ?_
          refine z_icmp_ge (tgt := 94) hX (D_Four_open (i := 33) rfl) (by decide) (fun _ => ?_) (fun hcc => absurd (Int32.le_refl _) hcc)
          refine z_iload_n hX (D_Four_open (i := 56) rfl) rfl ?_
          exact z_iret hX hR (D_Four_open (i := 57) rfl) rfl (hok k f _ hk hf rfl e6 hb (tO_tw hp))
        | succ d ih =>
          intro v S2 hv hT2
          have hv6 : v < 6 := by omega
          refine z_iload_n hX (D_Four_open (i := 31) rfl) rfl ?_
          refine z_bipush (v := 6) hX (D_Four_open (i := 32) rfl) (by decide) ?_
          refine z_icmp_ge (tgt := 94) hX (D_Four_open (i := 33) rfl) (by decide) (fun hcc => absurd hcc (nI_ge (b := 6) hv6 (by decide))) (fun _ => ?_)
          refine z_aload_n hX (D_Four_open (i := 34) rfl) rfl ?_
          refine z_getc hX (D_Four_open (i := 35) rfl) f_Four_31 rfl (by decide) (by first | exact Nat.one_pos | assumption | omega) rfl ?_
          refine z_aload_n hX (D_Four_open (i := 36) rfl) rfl ?_
          refine z_getc hX (D_Four_open (i := 37) rfl) f_Four_11 rfl (by decide) (by first | exact Nat.one_pos | assumption | omega) rfl ?_
          refine z_iload_n hX (D_Four_open (i := 38) rfl) rfl ?_
          refine z_bipush (v := 10) hX (D_Four_open (i := 39) rfl) (by decide) ?_
          refine z_idiv hX (D_Four_open (i := 40) rfl) (by decide) ?_
          rw [e10]
          refine z_aldCubec (j := k) hX (D_Four_open (i := 41) rfl) rfl (by decide) (by first | exact Nat.one_pos | assumption | omega) (by decide) rfl (by omega) ?_
          refine z_iload_n hX (D_Four_open (i := 42) rfl) rfl ?_
          refine z_bipush (v := 10) hX (D_Four_open (i := 43) rfl) (by decide) ?_
          refine z_irem hX (D_Four_open (i := 44) rfl) (by decide) ?_
          rw [em]
          refine z_iload_n hX (D_Four_open (i := 45) rfl) rfl ?_
          refine z_cV3 hX (D_Four_open (i := 46) rfl) mi_Tower_goesWith l_Four_183 rfl rfl (by decide) (by first | exact Nat.one_pos | assumption | omega) (by first | decide | omega) (Nat.le_of_ble_eq_true rfl) (c_Tower_goesWith hH hT2 hτ hC hM (by omega) hf (by omega) ?_)
          intro S3 f3
          cases hw : hW Λ (cU C k f v) (bxL bx 8) with
          | false =>
            refine z_if_eq (tgt := 88) hX (D_Four_open (i := 47) rfl) (by decide) (fun _ => ?_) (fun hcc => absurd (rfl) hcc)
            first | refine z_inc1 hX (D_Four_open (i := 54) rfl) rfl (by decide) rfl ?_ | refine z_iinc hX (D_Four_open (i := 54) rfl) rfl rfl (by decide) rfl ?_
            refine z_goto (tgt := 52) hX (D_Four_open (i := 55) rfl) (by decide) ?_
            have := ih (v + 1) S3 (by omega) (f3.tw hT2)
            rw [mkI, hw] at this
            exact this
          | true =>
            refine z_if_eq (tgt := 88) hX (D_Four_open (i := 47) rfl) (by decide) (fun hcc => absurd hcc (by decide)) (fun _ => ?_)
            refine z_iload_n hX (D_Four_open (i := 48) rfl) rfl ?_
            refine z_iconst (v := 1) hX (D_Four_open (i := 49) rfl) (by decide) ?_
            refine z_iload_n hX (D_Four_open (i := 50) rfl) rfl ?_
            refine z_ishl hX (D_Four_open (i := 51) rfl) ?_
            refine z_ior hX (D_Four_open (i := 52) rfl) ?_
            refine z_istore_n hX (D_Four_open (i := 53) rfl) (by decide) rfl ?_
            first | refine z_inc1 hX (D_Four_open (i := 54) rfl) rfl (by decide) rfl ?_ | refine z_iinc hX (D_Four_open (i := 54) rfl) rfl rfl (by decide) rfl ?_
            refine z_goto (tgt := 52) hX (D_Four_open (i := 55) rfl) (by decide) ?_
            have := ih (v + 1) S3 (by omega) (f3.tw hT2)
            rw [mkI, hw] at this
            exact this
  · refine z_iconst (v := -1) hX (D_Four_open (i := 4) rfl) (by decide) ?_
    exact z_iret hX hR (D_Four_open (i := 5) rfl) rfl (hno (bI_0.mp g1))
theorem c_Four_goesExchanged (hH : zHas ι pX) (hS : CS mem sz bx C τ Λ) {a b : Nat} (ha : a < sz) (hb : b < sz) (hba : bx.testBit a = true) (hob : (otN sz bx).testBit b = true) (hot4 : pcN (otN sz bx) 8 ≤ 4) (h : ∀ m, tO mem m → Post (some (zI (bI (hW Λ C (bxL (bx ^^^ twN a b) 8) && hW Λ C (bxL (otN sz bx ^^^ twN a b) 8))))) m) : zC l ι M_Four_goesExchanged 10 [zP 0 0, zI (nI (otN sz bx)), zI (nI (twN a b))] mem Post := by
  have h8 := hS.2.1
  have h256 := p8 sz h8
  have hbx := hS.2.2.2.1
  obtain ⟨o1, o2, o3⟩ := ot_ok sz h8 bx hbx
  have hbb : bx.testBit b = false := by
    have := ot_bit sz h8 bx hbx b hb
    rw [hob] at this
    cases hh : bx.testBit b
    · rfl
    · rw [hh] at this; cases this
  have hoa : (otN sz bx).testBit a = false := by rw [ot_bit sz h8 bx hbx a ha, hba]; rfl
  have e1 := ex_ok bx hS.b a (by omega) b (by omega) hba hbb
  have e2 : pcN (otN sz bx ^^^ twN a b) 8 = pcN (otN sz bx) 8 := by
    have := ex_ok (otN sz bx) (by omega) b (by omega) a (by omega) hob hoa
    rw [show twN b a = twN a b from Nat.or_comm _ _] at this
    exact this
  have t1 := (tw_ok a (by omega) b (by omega)).2
  have l1 : bx ^^^ twN a b < 256 := Nat.xor_lt_two_pow (n := 8) hS.b t1
  have l2 : otN sz bx ^^^ twN a b < 256 := Nat.xor_lt_two_pow (n := 8) (by omega) t1
  obtain ⟨S, eS⟩ := tw_ex mem
  rw [← eS]
  refine z_enter hH (by decide) (by simp [z_ent, M_Four_goesExchanged]) (fun X hXl hX hR => ?_)
  refine z_aload_n hX (D_Four_goesExchanged (i := 0) rfl) rfl ?_
  refine z_getc hX (D_Four_goesExchanged (i := 1) rfl) f_Four_31 rfl (by decide) (by first | exact Nat.one_pos | assumption | omega) rfl ?_
  refine z_aload_n hX (D_Four_goesExchanged (i := 2) rfl) rfl ?_
  refine z_geti hX (D_Four_goesExchanged (i := 3) rfl) f_Four_127 rfl (by decide) (by first | exact Nat.one_pos | assumption | omega) rfl ?_
  refine z_iload_n hX (D_Four_goesExchanged (i := 4) rfl) rfl ?_
  refine z_ixor hX (D_Four_goesExchanged (i := 5) rfl) ?_
  rw [show (tw mem S).1 0 0 2 = nI bx from hS.2.2.1, nI_xor]
  refine z_cV1 hX (D_Four_goesExchanged (i := 6) rfl) mi_Tower_pile l_Four_144 rfl rfl (by decide) (by first | exact Nat.one_pos | assumption | omega) (by first | decide | omega) (Nat.le_of_ble_eq_true rfl) (c_Tower_pile hH l1 (by rw [bxL_len, e1]; exact hS.2.2.2.2.1) ?_)
  intro mem1 S1 hp hf hT
  refine z_aload_n hX (D_Four_goesExchanged (i := 7) rfl) rfl ?_
  refine z_getc hX (D_Four_goesExchanged (i := 8) rfl) f_Four_31 rfl (by decide) (by first | exact Nat.one_pos | assumption | omega) rfl ?_
  refine z_cV0 hX (D_Four_goesExchanged (i := 9) rfl) mi_Tower_goes l_Four_309 rfl rfl (by decide) (by first | exact Nat.one_pos | assumption | omega) (by first | decide | omega) (Nat.le_of_ble_eq_true rfl) (c_Tower_goes hH hT (hS.2.2.2.2.2.2.1.pf hp) (hS.2.2.2.2.2.1.pf hp) (hS.2.2.2.2.2.2.2.pf hp) ?_)
  intro S2 f2
  cases hw : hW Λ C (bxL (bx ^^^ twN a b) 8) with
  | false =>
    refine z_if_ne (tgt := 25) hX (D_Four_goesExchanged (i := 10) rfl) (by decide) (fun hcc => absurd (rfl) hcc) (fun _ => ?_)
    refine z_iconst (v := 0) hX (D_Four_goesExchanged (i := 11) rfl) (by decide) ?_
    have := h (tw mem1 S2) (tO_tw hp)
    rw [hw] at this
    exact z_zret hX hR (D_Four_goesExchanged (i := 12) rfl) rfl (by first | exact Or.inl rfl | exact Or.inr rfl | assumption) this
  | true =>
    refine z_if_ne (tgt := 25) hX (D_Four_goesExchanged (i := 10) rfl) (by decide) (fun _ => ?_) (fun hcc => absurd hcc (by decide))
    refine z_aload_n hX (D_Four_goesExchanged (i := 13) rfl) rfl ?_
    refine z_getc hX (D_Four_goesExchanged (i := 14) rfl) f_Four_31 rfl (by decide) (by first | exact Nat.one_pos | assumption | omega) rfl ?_
    refine z_iload_n hX (D_Four_goesExchanged (i := 15) rfl) rfl ?_
    refine z_iload_n hX (D_Four_goesExchanged (i := 16) rfl) rfl ?_
    refine z_ixor hX (D_Four_goesExchanged (i := 17) rfl) ?_
    rw [nI_xor]
    refine z_cV1 hX (D_Four_goesExchanged (i := 18) rfl) mi_Tower_pile l_Four_144 rfl rfl (by decide) (by first | exact Nat.one_pos | assumption | omega) (by first | decide | omega) (Nat.le_of_ble_eq_true rfl) (c_Tower_pile hH l2 (by rw [bxL_len, e2]; exact hot4) ?_)
    intro mem2 S3 hp2 hf3 hT3
    have hpp : pF mem mem2 := ⟨hp2.1.trans hp.1, hp2.2.1.trans hp.2.1, fun a b c q => (hp2.2.2 a b c q).trans (hp.2.2 a b c q)⟩
    refine z_aload_n hX (D_Four_goesExchanged (i := 19) rfl) rfl ?_
    refine z_getc hX (D_Four_goesExchanged (i := 20) rfl) f_Four_31 rfl (by decide) (by first | exact Nat.one_pos | assumption | omega) rfl ?_
    refine z_cV0 hX (D_Four_goesExchanged (i := 21) rfl) mi_Tower_goes l_Four_309 rfl rfl (by decide) (by first | exact Nat.one_pos | assumption | omega) (by first | decide | omega) (Nat.le_of_ble_eq_true rfl) (c_Tower_goes hH hT3 (hS.2.2.2.2.2.2.1.pf hpp) (hS.2.2.2.2.2.1.pf hpp) (hS.2.2.2.2.2.2.2.pf hpp) ?_)
    intro S4 f4
    have := h (tw mem2 S4) (tO_tw hpp)
    rw [hw] at this
    exact z_zret hX hR (D_Four_goesExchanged (i := 22) rfl) rfl (bI_or _) this
theorem CS.tO {m : zM} (hS : CS mem sz bx C τ Λ) (h : tO mem m) : CS m sz bx C τ Λ := ⟨(h.2.1 0 0 1 (by omega)).trans hS.1, hS.2.1, (h.2.1 0 0 2 (by omega)).trans hS.2.2.1, hS.2.2.2.1, hS.2.2.2.2.1, fun k hk f hf => by rw [h.2.1 3 k f (by omega)]; exact hS.2.2.2.2.2.1 k hk f hf, fun k hk => by rw [h.2.1 2 k 1 (by omega)]; exact hS.2.2.2.2.2.2.1 k hk, fun k hk => by rw [h.2.1 8 0 k (by omega)]; exact hS.2.2.2.2.2.2.2 k hk⟩
theorem tO.trans {m1 m2 m3 : zM} (h : tO m1 m2) (h2 : tO m2 m3) : tO m1 m3 := ⟨h2.1.trans h.1, fun a b c q => (h2.2.1 a b c q).trans (h.2.1 a b c q), fun a b c q => (h2.2.2 a b c q).trans (h.2.2 a b c q)⟩
theorem c_Four_swap (hH : zHas ι pX) (hS : CS mem sz bx C τ Λ) (hno : (x < 0 ∨ ¬ x ≤ 1) → Post (some (zI (-1))) mem) (hst : ¬ x < 0 → x ≤ 1 → 4 < sz - pcN bx 8 → Post (some (zI (-5))) mem) (hok : ∀ m, ¬ x < 0 → x ≤ 1 → sz - pcN bx 8 ≤ 4 → tO mem m → Post (some (zI (swV x (swO Λ C sz bx)))) m) : zC l ι M_Four_swap 11 [zP 0 0, zI x] mem Post := by
  have h8 := hS.2.1
  have h256 := p8 sz h8
  have hbx := hS.2.2.2.1
  have hb := hS.b
  obtain ⟨o1, o2, o3⟩ := ot_ok sz h8 bx hbx
  obtain ⟨bo1, bo2⟩ := bc8 (otN sz bx) (by omega)
  have e1 : (1 : Int32) <<< (nI sz &&& 31) - 1 = nI (2 ^ sz - 1) := by rw [sh8 sz h8]; exact pk_sub (b := 1) (Nat.one_le_two_pow)
  refine z_enter hH (by decide) (by simp [z_ent, M_Four_swap]) (fun X hXl hX hR => ?_)
  refine z_iload_n hX (D_Four_swap (i := 0) rfl) rfl ?_
  refine z_if_lt (tgt := 9) hX (D_Four_swap (i := 1) rfl) (by decide) (fun g1 => ?_) (fun g1 => ?_)
  · refine z_iconst (v := -1) hX (D_Four_swap (i := 5) rfl) (by decide) ?_
    exact z_iret hX hR (D_Four_swap (i := 6) rfl) rfl (hno (Or.inl g1))
  · refine z_iload_n hX (D_Four_swap (i := 2) rfl) rfl ?_
    refine z_iconst (v := 1) hX (D_Four_swap (i := 3) rfl) (by decide) ?_
    refine z_icmp_le (tgt := 11) hX (D_Four_swap (i := 4) rfl) (by decide) (fun g2 => ?_) (fun g2 => ?_)
    · refine z_iconst (v := 1) hX (D_Four_swap (i := 7) rfl) (by decide) ?_
      refine z_aload_n hX (D_Four_swap (i := 8) rfl) rfl ?_
      refine z_geti hX (D_Four_swap (i := 9) rfl) f_Four_67 rfl (by decide) (by first | exact Nat.one_pos | assumption | omega) rfl ?_
      refine z_ishl hX (D_Four_swap (i := 10) rfl) ?_
      refine z_iconst (v := 1) hX (D_Four_swap (i := 11) rfl) (by decide) ?_
      refine z_isub hX (D_Four_swap (i := 12) rfl) ?_
      refine z_aload_n hX (D_Four_swap (i := 13) rfl) rfl ?_
      refine z_geti hX (D_Four_swap (i := 14) rfl) f_Four_127 rfl (by decide) (by first | exact Nat.one_pos | assumption | omega) rfl ?_
      refine z_iconst (v := -1) hX (D_Four_swap (i := 15) rfl) (by decide) ?_
      refine z_ixor hX (D_Four_swap (i := 16) rfl) ?_
      refine z_iand hX (D_Four_swap (i := 17) rfl) ?_
      rw [hS.1, hS.2.2.1, e1, o1]
      refine z_istore_n hX (D_Four_swap (i := 18) rfl) (by decide) rfl ?_
      refine z_iload_n hX (D_Four_swap (i := 19) rfl) rfl ?_
      refine z_cS1 hX (D_Four_swap (i := 20) rfl) ms_Integer_bitCount_0f7a4 l_Four_122 (by first | decide | omega) (Nat.le_of_ble_eq_true rfl) (c_bitCount ?_)
      rw [bo1]
      refine z_iconst (v := 4) hX (D_Four_swap (i := 21) rfl) (by decide) ?_
      refine z_icmp_le (tgt := 38) hX (D_Four_swap (i := 22) rfl) (by decide) (fun g3 => ?_) (fun g3 => ?_)
      · skip
        have hle : sz - pcN bx 8 ≤ 4 := by
          have := (nI_leI (b := 4) (by omega) (by decide)).mp g3
          omega
        refine z_iconst (v := 0) hX (D_Four_swap (i := 25) rfl) (by decide) ?_
        refine z_istore_n hX (D_Four_swap (i := 26) rfl) (by decide) rfl ?_
        suffices LA : ∀ (d a : Nat) (m : zM) (v4 : Option zV), a + d = sz → tO mem m → swO Λ C sz bx = frI (fun a => frI (swI Λ C sz bx a) 0 sz) a d → zW ι M_Four_swap X 40 [some (zP 0 0), some (zI x), some (zI (nI (otN sz bx))), some (zI (nI a)), v4] [] m from LA sz 0 mem none (Nat.zero_add _) (tO_self mem) rfl
        intro d
        induction d with
        | zero =>
          intro a m v4 ha hm he
          obtain rfl : a = sz := ha
          have hSm := hS.tO hm
          refine z_iload_n hX (D_Four_swap (i := 27) rfl) rfl ?_
          refine z_aload_n hX (D_Four_swap (i := 28) rfl) rfl ?_
          refine z_geti hX (D_Four_swap (i := 29) rfl) f_Four_67 rfl (by decide) (by first | exact Nat.one_pos | assumption | omega) rfl ?_
          rw [hSm.1]
          refine z_icmp_ge (tgt := 119) hX (D_Four_swap (i := 30) rfl) (by decide) (fun _ => ?_) (fun hcc => absurd (Int32.le_refl _) hcc)
          refine z_bipush (v := -2) hX (D_Four_swap (i := 71) rfl) (by decide) ?_
          have := hok m g1 g2 hle hm
          rw [he] at this
          exact z_iret hX hR (D_Four_swap (i := 72) rfl) rfl this
        | succ d ih =>
          intro a m v4 ha hm he
          have has : a < sz := by omega
          have hSm := hS.tO hm
          refine z_iload_n hX (D_Four_swap (i := 27) rfl) rfl ?_
          refine z_aload_n hX (D_Four_swap (i := 28) rfl) rfl ?_
          refine z_geti hX (D_Four_swap (i := 29) rfl) f_Four_67 rfl (by decide) (by first | exact Nat.one_pos | assumption | omega) rfl ?_
          rw [hSm.1]
          refine z_icmp_ge (tgt := 119) hX (D_Four_swap (i := 30) rfl) (by decide) (fun hcc => absurd hcc (nI_ge has (by omega))) (fun _ => ?_)
          refine z_iconst (v := 0) hX (D_Four_swap (i := 31) rfl) (by decide) ?_
          refine z_istore hX (D_Four_swap (i := 32) rfl) (by decide) rfl ?_
          suffices LB : ∀ (e b : Nat) (m : zM), b + e = sz → tO mem m → frI (swI Λ C sz bx a) 0 sz = frI (swI Λ C sz bx a) b e → zW ι M_Four_swap X 51 [some (zP 0 0), some (zI x), some (zI (nI (otN sz bx))), some (zI (nI a)), some (zI (nI b))] [] m from LB sz 0 m (Nat.zero_add _) hm rfl
          intro e
          induction e with
          | zero =>
            intro b m hb' hm he2
            obtain rfl : b = sz := hb'
            have hSm := hS.tO hm
            refine z_iload hX (D_Four_swap (i := 33) rfl) rfl ?_
            refine z_aload_n hX (D_Four_swap (i := 34) rfl) rfl ?_
            refine z_geti hX (D_Four_swap (i := 35) rfl) f_Four_67 rfl (by decide) (by first | exact Nat.one_pos | assumption | omega) rfl ?_
            rw [hSm.1]
            refine z_icmp_ge (tgt := 113) hX (D_Four_swap (i := 36) rfl) (by decide) (fun _ => ?_) (fun hcc => absurd (Int32.le_refl _) hcc)
            first | refine z_inc1 hX (D_Four_swap (i := 69) rfl) rfl (by decide) rfl ?_ | refine z_iinc hX (D_Four_swap (i := 69) rfl) rfl rfl (by decide) rfl ?_
            refine z_goto (tgt := 40) hX (D_Four_swap (i := 70) rfl) (by decide) ?_
            refine ih (a + 1) m _ (by omega) hm ?_
            rw [he, frI, he2]; rfl
          | succ e ihe =>
            intro b m hb' hm he2
            have hbs : b < sz := by omega
            have hSm := hS.tO hm
            have nx : ∀ m, tO mem m → swB Λ C sz bx a b = false → zW ι M_Four_swap X 107 [some (zP 0 0), some (zI x), some (zI (nI (otN sz bx))), some (zI (nI a)), some (zI (nI b))] [] m := by
              intro m hm hno
              first | refine z_inc1 hX (D_Four_swap (i := 67) rfl) rfl (by decide) rfl ?_ | refine z_iinc hX (D_Four_swap (i := 67) rfl) rfl rfl (by decide) rfl ?_
              refine z_goto (tgt := 51) hX (D_Four_swap (i := 68) rfl) (by decide) ?_
              refine ihe (b + 1) m (by omega) hm ?_
              rw [he2, frI, swI, hno]; rfl
            refine z_iload hX (D_Four_swap (i := 33) rfl) rfl ?_
            refine z_aload_n hX (D_Four_swap (i := 34) rfl) rfl ?_
            refine z_geti hX (D_Four_swap (i := 35) rfl) f_Four_67 rfl (by decide) (by first | exact Nat.one_pos | assumption | omega) rfl ?_
            rw [hSm.1]
            refine z_icmp_ge (tgt := 113) hX (D_Four_swap (i := 36) rfl) (by decide) (fun hcc => absurd hcc (nI_ge hbs (by omega))) (fun _ => ?_)
            refine z_aload_n hX (D_Four_swap (i := 37) rfl) rfl ?_
            refine z_geti hX (D_Four_swap (i := 38) rfl) f_Four_127 rfl (by decide) (by first | exact Nat.one_pos | assumption | omega) rfl ?_
            refine z_iload_n hX (D_Four_swap (i := 39) rfl) rfl ?_
            refine z_ishr hX (D_Four_swap (i := 40) rfl) ?_
            refine z_iconst (v := 1) hX (D_Four_swap (i := 41) rfl) (by decide) ?_
            refine z_iand hX (D_Four_swap (i := 42) rfl) ?_
            rw [hSm.2.2.1, bit_nI (by omega) (by omega)]
            cases hba : bx.testBit a with
            | false =>
              refine z_if_eq (tgt := 107) hX (D_Four_swap (i := 43) rfl) (by decide) (fun _ => ?_) (fun hcc => absurd (rfl) hcc)
              exact nx m hm (by unfold swB; rw [hba]; rfl)
            | true =>
              refine z_if_eq (tgt := 107) hX (D_Four_swap (i := 43) rfl) (by decide) (fun hcc => absurd hcc (by decide)) (fun _ => ?_)
              refine z_iload_n hX (D_Four_swap (i := 44) rfl) rfl ?_
              refine z_iload hX (D_Four_swap (i := 45) rfl) rfl ?_
              refine z_ishr hX (D_Four_swap (i := 46) rfl) ?_
              refine z_iconst (v := 1) hX (D_Four_swap (i := 47) rfl) (by decide) ?_
              refine z_iand hX (D_Four_swap (i := 48) rfl) ?_
              rw [bit_nI (by omega) (by omega)]
              cases hob : (otN sz bx).testBit b with
              | false =>
                refine z_if_eq (tgt := 107) hX (D_Four_swap (i := 49) rfl) (by decide) (fun _ => ?_) (fun hcc => absurd (rfl) hcc)
                exact nx m hm (by unfold swB; rw [hob, hba]; rfl)
              | true =>
                refine z_if_eq (tgt := 107) hX (D_Four_swap (i := 49) rfl) (by decide) (fun hcc => absurd hcc (by decide)) (fun _ => ?_)
                refine z_aload_n hX (D_Four_swap (i := 50) rfl) rfl ?_
                refine z_iload_n hX (D_Four_swap (i := 51) rfl) rfl ?_
                refine z_iconst (v := 1) hX (D_Four_swap (i := 52) rfl) (by decide) ?_
                refine z_iload_n hX (D_Four_swap (i := 53) rfl) rfl ?_
                refine z_ishl hX (D_Four_swap (i := 54) rfl) ?_
                refine z_iconst (v := 1) hX (D_Four_swap (i := 55) rfl) (by decide) ?_
                refine z_iload hX (D_Four_swap (i := 56) rfl) rfl ?_
                refine z_ishl hX (D_Four_swap (i := 57) rfl) ?_
                refine z_ior hX (D_Four_swap (i := 58) rfl) ?_
                rw [(tw_ok a (by omega) b (by omega)).1]
                refine z_cV2 hX (D_Four_swap (i := 59) rfl) mi_Four_goesExchanged l_Four_187 rfl rfl (by decide) (by first | exact Nat.one_pos | assumption | omega) (by first | decide | omega) (Nat.le_of_ble_eq_true rfl) (c_Four_goesExchanged hH hSm has hbs hba hob (by omega) ?_)
                intro m2 hm2
                have hm3 := hm.trans hm2
                cases hw : (hW Λ C (bxL (bx ^^^ twN a b) 8) && hW Λ C (bxL (otN sz bx ^^^ twN a b) 8)) with
                | false =>
                  refine z_if_eq (tgt := 107) hX (D_Four_swap (i := 60) rfl) (by decide) (fun _ => ?_) (fun hcc => absurd (rfl) hcc)
                  exact nx m2 hm3 (by unfold swB; rw [hw, hob, hba]; rfl)
                | true =>
                  have hs : swB Λ C sz bx a b = true := by unfold swB; rw [hw, hob, hba]; rfl
                  have e3 : swO Λ C sz bx = some (a, b) := by
                    rw [he, frI, he2, frI, swI, hs]; rfl
                  have hh := hok m2 g1 g2 hle hm3
                  rw [e3] at hh
                  have hh : Post (some (zI (if x = 0 then nI a else nI b))) m2 := hh
                  refine z_if_eq (tgt := 107) hX (D_Four_swap (i := 60) rfl) (by decide) (fun hcc => absurd hcc (by decide)) (fun _ => ?_)
                  refine z_iload_n hX (D_Four_swap (i := 61) rfl) rfl ?_
                  refine z_if_ne (tgt := 104) hX (D_Four_swap (i := 62) rfl) (by decide) (fun g4 => ?_) (fun g4 => ?_)
                  · refine z_iload hX (D_Four_swap (i := 65) rfl) rfl ?_
                    rw [if_neg g4] at hh
                    exact z_iret hX hR (D_Four_swap (i := 66) rfl) rfl hh
                  · refine z_iload_n hX (D_Four_swap (i := 63) rfl) rfl ?_
                    refine z_goto (tgt := 106) hX (D_Four_swap (i := 64) rfl) (by decide) ?_
                    rw [if_pos g4] at hh
                    exact z_iret hX hR (D_Four_swap (i := 66) rfl) rfl hh
      · refine z_bipush (v := -5) hX (D_Four_swap (i := 23) rfl) (by decide) ?_
        exact z_iret hX hR (D_Four_swap (i := 24) rfl) rfl (hst g1 g2 (by have := Nat.lt_of_not_le (fun w => g3 (nI_le (b := 4) w (by decide))); omega))
    · refine z_iconst (v := -1) hX (D_Four_swap (i := 5) rfl) (by decide) ?_
      exact z_iret hX hR (D_Four_swap (i := 6) rfl) rfl (hno (Or.inr g2))
theorem c_Four_rings (hH : zHas ι pX) (hS : CS mem sz bx C τ Λ) (hno : (x < 0 ∨ ¬ x ≤ 1) → Post (some (zI (-1))) mem) (hst : ¬ x < 0 → x ≤ 1 → bx = 0 → Post (some (zI (-5))) mem) (h0 : ∀ m, x = 0 → bx ≠ 0 → tO mem m → Post (some (zI (nI (rgL C (bxL bx 8) (4 ^ (bxL bx 8).length)).length))) m) (h1 : ∀ m, ¬ x < 0 → x ≤ 1 → ¬ x = 0 → bx ≠ 0 → tO mem m → Post (some (zI (nI (prC (fun i j => snB (bxL bx 8).length ((rgL C (bxL bx 8) (4 ^ (bxL bx 8).length)).getD i 0) ((rgL C (bxL bx 8) (4 ^ (bxL bx 8).length)).getD j 0)) (rgL C (bxL bx 8) (4 ^ (bxL bx 8).length)).length)))) m) : zC l ι M_Four_rings 4 [zP 0 0, zI x] mem Post := by
  have hb := hS.b
  have hlen := hS.len
  have hp4 : ∀ n, n ≤ 4 → 4 ^ n ≤ 256 ∧ cnI chB (4 ^ n) ≤ 81 := by decide +kernel
  have h81 : (rgL C (bxL bx 8) (4 ^ (bxL bx 8).length)).length ≤ 81 := Nat.le_trans (rgL_le _ _ _) (hp4 _ hlen).2
  have hel : ∀ i, i < (rgL C (bxL bx 8) (4 ^ (bxL bx 8).length)).length → (rgL C (bxL bx 8) (4 ^ (bxL bx 8).length)).getD i 0 < 256 := by
    intro i hi
    have h1 := getD_mem (d := 0) hi
    have h2 := List.mem_range.mp (List.mem_filter.mp h1).1
    have := (hp4 _ hlen).1
    omega
  refine z_enter hH (by decide) (by simp [z_ent, M_Four_rings]) (fun X hXl hX hR => ?_)
  refine z_iload_n hX (D_Four_rings (i := 0) rfl) rfl ?_
  refine z_if_lt (tgt := 9) hX (D_Four_rings (i := 1) rfl) (by decide) (fun g1 => ?_) (fun g1 => ?_)
  · refine z_iconst (v := -1) hX (D_Four_rings (i := 5) rfl) (by decide) ?_
    exact z_iret hX hR (D_Four_rings (i := 6) rfl) rfl (hno (Or.inl g1))
  · refine z_iload_n hX (D_Four_rings (i := 2) rfl) rfl ?_
    refine z_iconst (v := 1) hX (D_Four_rings (i := 3) rfl) (by decide) ?_
    refine z_icmp_le (tgt := 11) hX (D_Four_rings (i := 4) rfl) (by decide) (fun g2 => ?_) (fun g2 => ?_)
    · refine z_aload_n hX (D_Four_rings (i := 7) rfl) rfl ?_
      refine z_geti hX (D_Four_rings (i := 8) rfl) f_Four_127 rfl (by decide) (by first | exact Nat.one_pos | assumption | omega) rfl ?_
      rw [hS.2.2.1]
      refine z_if_ne (tgt := 21) hX (D_Four_rings (i := 9) rfl) (by decide) (fun g3 => ?_) (fun g3 => ?_)
      · skip
        have hne : bx ≠ 0 := fun w => g3 (by rw [w]; rfl)
        obtain ⟨S, eS⟩ := tw_ex mem
        rw [← eS]
        refine z_aload_n hX (D_Four_rings (i := 12) rfl) rfl ?_
        refine z_getc hX (D_Four_rings (i := 13) rfl) f_Four_31 rfl (by decide) (by first | exact Nat.one_pos | assumption | omega) rfl ?_
        refine z_aload_n hX (D_Four_rings (i := 14) rfl) rfl ?_
        refine z_geti hX (D_Four_rings (i := 15) rfl) f_Four_127 rfl (by decide) (by first | exact Nat.one_pos | assumption | omega) rfl ?_
        rw [show (tw mem S).1 0 0 2 = nI bx from hS.2.2.1]
        refine z_cV1 hX (D_Four_rings (i := 16) rfl) mi_Tower_pile l_Four_144 rfl rfl (by decide) (by first | exact Nat.one_pos | assumption | omega) (by first | decide | omega) (Nat.le_of_ble_eq_true rfl) (c_Tower_pile hH hS.b hS.len ?_)
        intro mem1 S1 hp hf hT
        refine z_aload_n hX (D_Four_rings (i := 17) rfl) rfl ?_
        refine z_getc hX (D_Four_rings (i := 18) rfl) f_Four_38 rfl (by decide) (by first | exact Nat.one_pos | assumption | omega) rfl ?_
        refine z_aload_n hX (D_Four_rings (i := 19) rfl) rfl ?_
        refine z_getc hX (D_Four_rings (i := 20) rfl) f_Four_31 rfl (by decide) (by first | exact Nat.one_pos | assumption | omega) rfl ?_
        refine z_getc hX (D_Four_rings (i := 21) rfl) f_Four_191 rfl (by decide) (by first | exact Nat.one_pos | assumption | omega) rfl ?_
        refine z_aload_n hX (D_Four_rings (i := 22) rfl) rfl ?_
        refine z_getc hX (D_Four_rings (i := 23) rfl) f_Four_31 rfl (by decide) (by first | exact Nat.one_pos | assumption | omega) rfl ?_
        refine z_geti hX (D_Four_rings (i := 24) rfl) f_Four_194 rfl (by decide) (by first | exact Nat.one_pos | assumption | omega) rfl ?_
        rw [show (tw mem1 S1).1 9 0 5 = nI (bxL bx 8).length from hT.1]
        refine z_cV2 hX (D_Four_rings (i := 25) rfl) mi_Rings_gather l_Four_197 rfl rfl (by decide) (by first | exact Nat.one_pos | assumption | omega) (by first | decide | omega) (Nat.le_of_ble_eq_true rfl) (c_Rings_gather hH ⟨hlen, fun i hi => ⟨(hT.2.2.2 i hi).1, (hT.2.2.2 i hi).2.2⟩⟩ (hS.2.2.2.2.2.1.pf hp) ?_)
        intro S2 k3 k2 k21
        refine z_iload_n hX (D_Four_rings (i := 26) rfl) rfl ?_
        refine z_if_ne (tgt := 67) hX (D_Four_rings (i := 27) rfl) (by decide) (fun g4 => ?_) (fun g4 => ?_)
        · refine z_aload_n hX (D_Four_rings (i := 32) rfl) rfl ?_
          refine z_getc hX (D_Four_rings (i := 33) rfl) f_Four_38 rfl (by decide) (by first | exact Nat.one_pos | assumption | omega) rfl ?_
          refine z_cV0 hX (D_Four_rings (i := 34) rfl) mi_Rings_parted l_Four_204 rfl rfl (by decide) (by first | exact Nat.one_pos | assumption | omega) (by first | decide | omega) (Nat.le_of_ble_eq_true rfl) (c_Rings_parted hH hlen h81 k3 k2 (fun i hi => ⟨k21 i hi, hel i hi⟩) ?_)
          exact z_iret hX hR (D_Four_rings (i := 35) rfl) rfl (h1 _ g1 g2 g4 hne (tO_tw hp))
        · refine z_aload_n hX (D_Four_rings (i := 28) rfl) rfl ?_
          refine z_getc hX (D_Four_rings (i := 29) rfl) f_Four_38 rfl (by decide) (by first | exact Nat.one_pos | assumption | omega) rfl ?_
          refine z_geti hX (D_Four_rings (i := 30) rfl) f_Four_201 rfl (by decide) (by first | exact Nat.one_pos | assumption | omega) rfl ?_
          refine z_goto (tgt := 74) hX (D_Four_rings (i := 31) rfl) (by decide) ?_
          rw [show (tw mem1 S2).1 20 0 2 = _ from k2]
          exact z_iret hX hR (D_Four_rings (i := 35) rfl) rfl (h0 _ g4 hne (tO_tw hp))
      · refine z_bipush (v := -5) hX (D_Four_rings (i := 10) rfl) (by decide) ?_
        exact z_iret hX hR (D_Four_rings (i := 11) rfl) rfl (hst g1 g2 ((nI_eq (b := 0) (by omega) (by decide)).mp g3))
    · refine z_iconst (v := -1) hX (D_Four_rings (i := 5) rfl) (by decide) ?_
      exact z_iret hX hR (D_Four_rings (i := 6) rfl) rfl (hno (Or.inr g2))
end F12
