/-! the calls that ask the tower -/
def tO (mem m : zM) : Prop := m.2.1 = mem.2.1 ∧ (∀ a b c, ¬ (9 ≤ a ∧ a ≤ 22) → m.1 a b c = mem.1 a b c) ∧ (∀ a b c, a ≠ 14 → m.2.2 a b c = mem.2.2 a b c)
theorem tO_tw {mem mem' : zM} {S : Nat → Nat → Int32} (h : pF mem mem') : tO mem (tw mem' S) := ⟨h.2.1, fun a b c q => by
  simp only [tw]
  rw [if_neg (fun w => q (of_decide_eq_true w.1)), h.1], h.2.2⟩
theorem tO_self (mem : zM) : tO mem mem := ⟨rfl, fun _ _ _ _ => rfl, fun _ _ _ _ => rfl⟩
theorem CO.pf {mem mem' : zM} {C : Nat → Nat → Nat} (h : CO mem C) (hp : pF mem mem') : CO mem' C := fun k hk f hf => by rw [hp.1]; exact h k hk f hf
theorem TU.pf {mem mem' : zM} {τ : Nat → Nat} (h : TU mem τ) (hp : pF mem mem') : TU mem' τ := fun k hk => by rw [hp.1]; exact h k hk
theorem MY.pf {mem mem' : zM} {Λ : Option (List lLn)} (h : MY mem Λ) (hp : pF mem mem') : MY mem' Λ := fun k hk => by rw [hp.1]; exact h k hk
theorem tw_ex (mem : zM) : ∃ S, tw mem S = mem := ⟨_, tw_self mem⟩
/-- the class's state, as far as the tower's calls look at it -/
def CS (mem : zM) (sz bx : Nat) (C : Nat → Nat → Nat) (τ : Nat → Nat) (Λ : Option (List lLn)) : Prop := mem.1 0 0 1 = nI sz ∧ sz ≤ 8 ∧ mem.1 0 0 2 = nI bx ∧ bx < 2 ^ sz ∧ pcN bx 8 ≤ 4 ∧ CO mem C ∧ TU mem τ ∧ MY mem Λ
theorem CS.b {mem : zM} {sz bx : Nat} {C : Nat → Nat → Nat} {τ : Nat → Nat} {Λ : Option (List lLn)} (h : CS mem sz bx C τ Λ) : bx < 256 := Nat.lt_of_lt_of_le h.2.2.2.1 (p8 sz h.2.1)
theorem CS.len {mem : zM} {sz bx : Nat} {C : Nat → Nat → Nat} {τ : Nat → Nat} {Λ : Option (List lLn)} (h : CS mem sz bx C τ Λ) : (bxL bx 8).length ≤ 4 := by rw [bxL_len]; exact h.2.2.2.2.1
section F10
variable {l : Launch} {ι : zE} {mem : zM} {Post : Option zV → zM → Prop} {x y : Int32} {sz bx : Nat} {C : Nat → Nat → Nat} {τ : Nat → Nat} {Λ : Option (List lLn)}
theorem c_Four_judge (hH : zHas ι pX) (hS : CS mem sz bx C τ Λ) (h : ∀ m, tO mem m → Post (some (zI (oI (jdO Λ C (bxL bx 8) τ)))) m) : zC l ι M_Four_judge 2 [zP 0 0] mem Post := by
  obtain ⟨S, eS⟩ := tw_ex mem
  rw [← eS]
  refine z_enter hH (by decide) (by simp [z_ent, M_Four_judge]) (fun X hXl hX hR => ?_)
  refine z_aload_n hX (D_Four_judge (i := 0) rfl) rfl ?_
  refine z_getc hX (D_Four_judge (i := 1) rfl) f_Four_31 rfl (by decide) (by first | exact Nat.one_pos | assumption | omega) rfl ?_
  refine z_aload_n hX (D_Four_judge (i := 2) rfl) rfl ?_
  refine z_geti hX (D_Four_judge (i := 3) rfl) f_Four_127 rfl (by decide) (by first | exact Nat.one_pos | assumption | omega) rfl ?_
  rw [show (tw mem S).1 0 0 2 = nI bx from hS.2.2.1]
  refine z_cV1 hX (D_Four_judge (i := 4) rfl) mi_Tower_pile l_Four_144 rfl rfl (by decide) (by first | exact Nat.one_pos | assumption | omega) (by first | decide | omega) (Nat.le_of_ble_eq_true rfl) (c_Tower_pile hH hS.b hS.len ?_)
  intro mem1 S1 hp hf hT
  refine z_aload_n hX (D_Four_judge (i := 5) rfl) rfl ?_
  refine z_getc hX (D_Four_judge (i := 6) rfl) f_Four_31 rfl (by decide) (by first | exact Nat.one_pos | assumption | omega) rfl ?_
  refine z_cV0 hX (D_Four_judge (i := 7) rfl) mi_Tower_firstWrong l_Four_148 rfl rfl (by decide) (by first | exact Nat.one_pos | assumption | omega) (by first | decide | omega) (Nat.le_of_ble_eq_true rfl) (c_Tower_firstWrong hH hT (hS.2.2.2.2.2.2.1.pf hp) (hS.2.2.2.2.2.1.pf hp) (hS.2.2.2.2.2.2.2.pf hp) ?_)
  exact z_iret hX hR (D_Four_judge (i := 8) rfl) rfl (h _ (tO_tw hp))
theorem c_Four_ways (hH : zHas ι pX) (hS : CS mem sz bx C τ Λ) (hno : (inN x (2 ^ sz) = false ∨ y < -1 ∨ nI (bxL bx 8).length ≤ y) → Post (some (zI (-1))) mem) (hn : ∀ hb m, hb < 2 ^ sz → x = nI hb → y = -1 → tO mem m → Post (some (zI (nI (cntS (trW hb (bxL bx 8) τ) (fpW Λ C (bxL bx 8)) (bxL bx 8).length 0 (fun _ => 0))))) m) (hk : ∀ hb k m, hb < 2 ^ sz → x = nI hb → k < (bxL bx 8).length → y = nI k → tO mem m → Post (some (zI (match fstS (trW hb (bxL bx 8) τ) (fpW Λ C (bxL bx 8)) (bxL bx 8).length 0 (fun _ => 0) with | none => -2 | some g => nI (g k)))) m) : zC l ι M_Four_ways 9 [zP 0 0, zI x, zI y] mem Post := by
  have h8 := p8 sz hS.2.1
  have hlen := hS.len
  refine z_enter hH (by decide) (by simp [z_ent, M_Four_ways]) (fun X hXl hX hR => ?_)
  refine z_aload_n hX (D_Four_ways (i := 0) rfl) rfl ?_
  refine z_iload_n hX (D_Four_ways (i := 1) rfl) rfl ?_
  refine z_cV1 hX (D_Four_ways (i := 2) rfl) mi_Four_areCubes l_Four_119 rfl rfl (by decide) (by first | exact Nat.one_pos | assumption | omega) (by first | decide | omega) (Nat.le_of_ble_eq_true rfl) (c_Four_areCubes hH hS.1 hS.2.1 ?_)
  refine z_if_eq (tgt := 24) hX (D_Four_ways (i := 3) rfl) (by decide) (fun h1 => ?_) (fun h1 => ?_)
  · refine z_iconst (v := -1) hX (D_Four_ways (i := 12) rfl) (by decide) ?_
    exact z_iret hX hR (D_Four_ways (i := 13) rfl) rfl (hno (Or.inl (bI_0.mp h1)))
  · refine z_iload_n hX (D_Four_ways (i := 4) rfl) rfl ?_
    refine z_iconst (v := -1) hX (D_Four_ways (i := 5) rfl) (by decide) ?_
    have hin := bI_n.mp h1
    refine z_icmp_lt (tgt := 24) hX (D_Four_ways (i := 6) rfl) (by decide) (fun h2 => ?_) (fun h2 => ?_)
    · refine z_iconst (v := -1) hX (D_Four_ways (i := 12) rfl) (by decide) ?_
      exact z_iret hX hR (D_Four_ways (i := 13) rfl) rfl (hno (Or.inr (Or.inl h2)))
    · refine z_iload_n hX (D_Four_ways (i := 7) rfl) rfl ?_
      refine z_aload_n hX (D_Four_ways (i := 8) rfl) rfl ?_
      refine z_geti hX (D_Four_ways (i := 9) rfl) f_Four_127 rfl (by decide) (by first | exact Nat.one_pos | assumption | omega) rfl ?_
      rw [hS.2.2.1]
      refine z_cS1 hX (D_Four_ways (i := 10) rfl) ms_Integer_bitCount_0f7a4 l_Four_122 (by first | decide | omega) (Nat.le_of_ble_eq_true rfl) (c_bitCount ?_)
      rw [(bc8 bx hS.b).1, ← bxL_len]
      refine z_icmp_lt (tgt := 26) hX (D_Four_ways (i := 11) rfl) (by decide) (fun h3 => ?_) (fun h3 => ?_)
      · skip
        obtain ⟨hb, hb1, rfl⟩ := inN_ex hin (by omega)
        obtain ⟨S, eS⟩ := tw_ex mem
        rw [← eS]
        refine z_aload_n hX (D_Four_ways (i := 14) rfl) rfl ?_
        refine z_getc hX (D_Four_ways (i := 15) rfl) f_Four_31 rfl (by decide) (by first | exact Nat.one_pos | assumption | omega) rfl ?_
        refine z_aload_n hX (D_Four_ways (i := 16) rfl) rfl ?_
        refine z_geti hX (D_Four_ways (i := 17) rfl) f_Four_127 rfl (by decide) (by first | exact Nat.one_pos | assumption | omega) rfl ?_
        rw [show (tw mem S).1 0 0 2 = nI bx from hS.2.2.1]
        refine z_cV1 hX (D_Four_ways (i := 18) rfl) mi_Tower_pile l_Four_144 rfl rfl (by decide) (by first | exact Nat.one_pos | assumption | omega) (by first | decide | omega) (Nat.le_of_ble_eq_true rfl) (c_Tower_pile hH hS.b hS.len ?_)
        intro mem1 S1 hp hf hT
        have hC := hS.2.2.2.2.2.1.pf hp
        have hτ := hS.2.2.2.2.2.2.1.pf hp
        have hM := hS.2.2.2.2.2.2.2.pf hp
        refine z_aload_n hX (D_Four_ways (i := 19) rfl) rfl ?_
        refine z_getc hX (D_Four_ways (i := 20) rfl) f_Four_31 rfl (by decide) (by first | exact Nat.one_pos | assumption | omega) rfl ?_
        refine z_iload_n hX (D_Four_ways (i := 21) rfl) rfl ?_
        refine z_cV1 hX (D_Four_ways (i := 22) rfl) mi_Tower_startFrom l_Four_151 rfl rfl (by decide) (by first | exact Nat.one_pos | assumption | omega) (by first | decide | omega) (Nat.le_of_ble_eq_true rfl) (c_Tower_startFrom hH (by omega) hT hτ ?_)
        intro S2 f2 h11
        refine z_aload_n hX (D_Four_ways (i := 23) rfl) rfl ?_
        refine z_getc hX (D_Four_ways (i := 24) rfl) f_Four_31 rfl (by decide) (by first | exact Nat.one_pos | assumption | omega) rfl ?_
        refine z_cV0 hX (D_Four_ways (i := 25) rfl) mi_Tower_fitAll l_Four_154 rfl rfl (by decide) (by first | exact Nat.one_pos | assumption | omega) (by first | decide | omega) (Nat.le_of_ble_eq_true rfl) (c_Tower_fitAll hH (f2.tw hT) hC hM ?_)
        intro S3 f3 h12
        have hSR : SR S3 (bxL bx 8).length (trW hb (bxL bx 8) τ) (fpW Λ C (bxL bx 8)) := ⟨(f3.tw (f2.tw hT)).2.1, hlen, fun i hi => (f3 11 i (by decide) (by decide) (by decide)).trans (h11 i hi), h12⟩
        refine z_aload_n hX (D_Four_ways (i := 26) rfl) rfl ?_
        refine z_getc hX (D_Four_ways (i := 27) rfl) f_Four_31 rfl (by decide) (by first | exact Nat.one_pos | assumption | omega) rfl ?_
        refine z_getc hX (D_Four_ways (i := 28) rfl) f_Four_157 rfl (by decide) (by first | exact Nat.one_pos | assumption | omega) rfl ?_
        refine z_iload_n hX (D_Four_ways (i := 29) rfl) rfl ?_
        by_cases h4 : y < 0
        · have e : y = -1 := by
            have a1 := Int32.lt_iff_toInt_lt.mp h4
            have a2 := Int32.le_iff_toInt_le.mp (Int32.not_lt.mp h2)
            have a3 : (-1 : Int32).toInt = -1 := by decide
            apply Int32.toInt_inj.mp
            rw [i32_0] at a1
            rw [a3] at a2 ⊢
            omega
          refine z_cV1 hX (D_Four_ways (i := 30) rfl) mi_Search_answer l_Four_161 rfl rfl (by decide) (by first | exact Nat.one_pos | assumption | omega) (by first | decide | omega) (Nat.le_of_ble_eq_true rfl) (c_Search_answer_n hH h4 hSR ?_)
          intro S4 f4
          exact z_iret hX hR (D_Four_ways (i := 31) rfl) rfl (hn hb _ hb1 rfl e (tO_tw hp))
        · obtain ⟨k, k1, rfl⟩ := nI_of h4
          have hkn : k < (bxL bx 8).length := (nI_ltI k1 (by omega)).mp h3
          refine z_cV1 hX (D_Four_ways (i := 30) rfl) mi_Search_answer l_Four_161 rfl rfl (by decide) (by first | exact Nat.one_pos | assumption | omega) (by first | decide | omega) (Nat.le_of_ble_eq_true rfl) (c_Search_answer_k hH hkn hSR ?_)
          intro S4 f4
          exact z_iret hX hR (D_Four_ways (i := 31) rfl) rfl (hk hb k _ hb1 rfl hkn rfl (tO_tw hp))
      · refine z_iconst (v := -1) hX (D_Four_ways (i := 12) rfl) (by decide) ?_
        exact z_iret hX hR (D_Four_ways (i := 13) rfl) rfl (hno (Or.inr (Or.inr (Int32.not_lt.mp h3))))
theorem c_Four_near (hH : zHas ι pX) (hS : CS mem sz bx C τ Λ) (hno : inN x (2 ^ sz) = false → Post (some (zI (-1))) mem) (hok : ∀ hb m, hb < 2 ^ sz → x = nI hb → tO mem m → Post (some (zI (nI (mi 25 (mnS (trW hb (bxL bx 8) τ) (wrW Λ C (bxL bx 8)) (bxL bx 8).length 0 (fun _ => 0)))))) m) : zC l ι M_Four_near 11 [zP 0 0, zI x] mem Post := by
  have h8 := p8 sz hS.2.1
  refine z_enter hH (by decide) (by simp [z_ent, M_Four_near]) (fun X hXl hX hR => ?_)
  refine z_aload_n hX (D_Four_near (i := 0) rfl) rfl ?_
  refine z_iload_n hX (D_Four_near (i := 1) rfl) rfl ?_
  refine z_cV1 hX (D_Four_near (i := 2) rfl) mi_Four_areCubes l_Four_119 rfl rfl (by decide) (by first | exact Nat.one_pos | assumption | omega) (by first | decide | omega) (Nat.le_of_ble_eq_true rfl) (c_Four_areCubes hH hS.1 hS.2.1 ?_)
  refine z_if_ne (tgt := 10) hX (D_Four_near (i := 3) rfl) (by decide) (fun h1 => ?_) (fun h1 => ?_)
  · skip
    obtain ⟨hb, hb1, rfl⟩ := inN_ex (bI_n.mp h1) (by omega)
    obtain ⟨S, eS⟩ := tw_ex mem
    rw [← eS]
    refine z_aload_n hX (D_Four_near (i := 6) rfl) rfl ?_
    refine z_getc hX (D_Four_near (i := 7) rfl) f_Four_31 rfl (by decide) (by first | exact Nat.one_pos | assumption | omega) rfl ?_
    refine z_aload_n hX (D_Four_near (i := 8) rfl) rfl ?_
    refine z_geti hX (D_Four_near (i := 9) rfl) f_Four_127 rfl (by decide) (by first | exact Nat.one_pos | assumption | omega) rfl ?_
    rw [show (tw mem S).1 0 0 2 = nI bx from hS.2.2.1]
    refine z_cV1 hX (D_Four_near (i := 10) rfl) mi_Tower_pile l_Four_144 rfl rfl (by decide) (by first | exact Nat.one_pos | assumption | omega) (by first | decide | omega) (Nat.le_of_ble_eq_true rfl) (c_Tower_pile hH hS.b hS.len ?_)
    intro mem1 S1 hp hf hT
    refine z_aload_n hX (D_Four_near (i := 11) rfl) rfl ?_
    refine z_getc hX (D_Four_near (i := 12) rfl) f_Four_31 rfl (by decide) (by first | exact Nat.one_pos | assumption | omega) rfl ?_
    refine z_iload_n hX (D_Four_near (i := 13) rfl) rfl ?_
    refine z_cV1 hX (D_Four_near (i := 14) rfl) mi_Tower_startFrom l_Four_151 rfl rfl (by decide) (by first | exact Nat.one_pos | assumption | omega) (by first | decide | omega) (Nat.le_of_ble_eq_true rfl) (c_Tower_startFrom hH (by omega) hT (hS.2.2.2.2.2.2.1.pf hp) ?_)
    intro S2 f2 h11
    refine z_aload_n hX (D_Four_near (i := 15) rfl) rfl ?_
    refine z_getc hX (D_Four_near (i := 16) rfl) f_Four_31 rfl (by decide) (by first | exact Nat.one_pos | assumption | omega) rfl ?_
    refine z_cV0 hX (D_Four_near (i := 17) rfl) mi_Tower_leastWrong l_Four_164 rfl rfl (by decide) (by first | exact Nat.one_pos | assumption | omega) (by first | decide | omega) (Nat.le_of_ble_eq_true rfl) (c_Tower_leastWrong hH (f2.tw hT) (hS.2.2.2.2.2.1.pf hp) (hS.2.2.2.2.2.2.2.pf hp) h11 ?_)
    intro S3
    exact z_iret hX hR (D_Four_near (i := 18) rfl) rfl (hok hb _ hb1 rfl (tO_tw hp))
  · refine z_iconst (v := -1) hX (D_Four_near (i := 4) rfl) (by decide) ?_
    exact z_iret hX hR (D_Four_near (i := 5) rfl) rfl (hno (bI_0.mp h1))
theorem c_Four_build (hH : zHas ι pX) (hS : CS mem sz bx C τ Λ) (hno : (inN x 24 = false ∨ y < 0 ∨ ¬ y ≤ 1) → Post (some (zI (-1))) mem) (hem : inN x 24 = true → ¬ y < 0 → y ≤ 1 → bx = 0 → Post (some (zI (-5))) mem) (hk : ∀ t m, t < 24 → x = nI t → y = 0 → bx ≠ 0 → tO mem m → Post (some (zI (oI (bdK (fpW Λ C (bxL bx 8)) ((bxL bx 8).length - 1) 1 (fun _ => t))))) m) (hl : ∀ t m, t < 24 → x = nI t → ¬ y = 0 → ¬ y < 0 → y ≤ 1 → bx ≠ 0 → tO mem m → Post (some (zI (nI (bdL (fpW Λ C (bxL bx 8)) ((bxL bx 8).length - 1) 1 (fun _ => t))))) m) : zC l ι M_Four_build 4 [zP 0 0, zI x, zI y] mem Post := by
  have hpos : bx ≠ 0 → 0 < (bxL bx 8).length := by
    intro h0
    rw [bxL_len]
    have : ∀ b, b < 256 → b ≠ 0 → 0 < pcN b 8 := by decide +kernel
    exact this bx hS.b h0
  have hb := hS.b
  refine z_enter hH (by decide) (by simp [z_ent, M_Four_build]) (fun X hXl hX hR => ?_)
  refine z_iload_n hX (D_Four_build (i := 0) rfl) rfl ?_
  refine z_cS1 hX (D_Four_build (i := 1) rfl) ms_Four_isTurning l_Four_137 (by first | decide | omega) (Nat.le_of_ble_eq_true rfl) (c_Four_isTurning ?_)
  refine z_if_eq (tgt := 16) hX (D_Four_build (i := 2) rfl) (by decide) (fun h1 => ?_) (fun h1 => ?_)
  · refine z_iconst (v := -1) hX (D_Four_build (i := 8) rfl) (by decide) ?_
    exact z_iret hX hR (D_Four_build (i := 9) rfl) rfl (hno (Or.inl (bI_0.mp h1)))
  · refine z_iload_n hX (D_Four_build (i := 3) rfl) rfl ?_
    have hin := bI_n.mp h1
    obtain ⟨t, t1, rfl⟩ := inN_ex hin (by decide)
    refine z_if_lt (tgt := 16) hX (D_Four_build (i := 4) rfl) (by decide) (fun h2 => ?_) (fun h2 => ?_)
    · refine z_iconst (v := -1) hX (D_Four_build (i := 8) rfl) (by decide) ?_
      exact z_iret hX hR (D_Four_build (i := 9) rfl) rfl (hno (Or.inr (Or.inl h2)))
    · refine z_iload_n hX (D_Four_build (i := 5) rfl) rfl ?_
      refine z_iconst (v := 1) hX (D_Four_build (i := 6) rfl) (by decide) ?_
      refine z_icmp_le (tgt := 18) hX (D_Four_build (i := 7) rfl) (by decide) (fun h3 => ?_) (fun h3 => ?_)
      · refine z_aload_n hX (D_Four_build (i := 10) rfl) rfl ?_
        refine z_geti hX (D_Four_build (i := 11) rfl) f_Four_127 rfl (by decide) (by first | exact Nat.one_pos | assumption | omega) rfl ?_
        rw [hS.2.2.1]
        refine z_if_ne (tgt := 28) hX (D_Four_build (i := 12) rfl) (by decide) (fun h4 => ?_) (fun h4 => ?_)
        · skip
          have h0 : bx ≠ 0 := fun w => h4 (by rw [w]; rfl)
          obtain ⟨S, eS⟩ := tw_ex mem
          rw [← eS]
          refine z_aload_n hX (D_Four_build (i := 15) rfl) rfl ?_
          refine z_getc hX (D_Four_build (i := 16) rfl) f_Four_31 rfl (by decide) (by first | exact Nat.one_pos | assumption | omega) rfl ?_
          refine z_aload_n hX (D_Four_build (i := 17) rfl) rfl ?_
          refine z_geti hX (D_Four_build (i := 18) rfl) f_Four_127 rfl (by decide) (by first | exact Nat.one_pos | assumption | omega) rfl ?_
          rw [show (tw mem S).1 0 0 2 = nI bx from hS.2.2.1]
          refine z_cV1 hX (D_Four_build (i := 19) rfl) mi_Tower_pile l_Four_144 rfl rfl (by decide) (by first | exact Nat.one_pos | assumption | omega) (by first | decide | omega) (Nat.le_of_ble_eq_true rfl) (c_Tower_pile hH hS.b hS.len ?_)
          intro mem1 S1 hp hf hT
          refine z_aload_n hX (D_Four_build (i := 20) rfl) rfl ?_
          refine z_getc hX (D_Four_build (i := 21) rfl) f_Four_31 rfl (by decide) (by first | exact Nat.one_pos | assumption | omega) rfl ?_
          refine z_cV0 hX (D_Four_build (i := 22) rfl) mi_Tower_fitAll l_Four_154 rfl rfl (by decide) (by first | exact Nat.one_pos | assumption | omega) (by first | decide | omega) (Nat.le_of_ble_eq_true rfl) (c_Tower_fitAll hH hT (hS.2.2.2.2.2.1.pf hp) (hS.2.2.2.2.2.2.2.pf hp) ?_)
          intro S2 f2 h12
          refine z_iload_n hX (D_Four_build (i := 23) rfl) rfl ?_
          refine z_if_ne (tgt := 61) hX (D_Four_build (i := 24) rfl) (by decide) (fun h5 => ?_) (fun h5 => ?_)
          · refine z_aload_n hX (D_Four_build (i := 30) rfl) rfl ?_
            refine z_getc hX (D_Four_build (i := 31) rfl) f_Four_31 rfl (by decide) (by first | exact Nat.one_pos | assumption | omega) rfl ?_
            refine z_iload_n hX (D_Four_build (i := 32) rfl) rfl ?_
            refine z_cV1 hX (D_Four_build (i := 33) rfl) mi_Tower_looksFrom l_Four_170 rfl rfl (by decide) (by first | exact Nat.one_pos | assumption | omega) (by first | decide | omega) (Nat.le_of_ble_eq_true rfl) (c_Tower_looksFrom hH (f2.tw hT) (hpos h0) h12 t1 ?_)
            intro S3
            exact z_iret hX hR (D_Four_build (i := 34) rfl) rfl (hl t _ t1 rfl h5 h2 h3 h0 (tO_tw hp))
          · refine z_aload_n hX (D_Four_build (i := 25) rfl) rfl ?_
            refine z_getc hX (D_Four_build (i := 26) rfl) f_Four_31 rfl (by decide) (by first | exact Nat.one_pos | assumption | omega) rfl ?_
            refine z_iload_n hX (D_Four_build (i := 27) rfl) rfl ?_
            refine z_cV1 hX (D_Four_build (i := 28) rfl) mi_Tower_stuckFrom l_Four_167 rfl rfl (by decide) (by first | exact Nat.one_pos | assumption | omega) (by first | decide | omega) (Nat.le_of_ble_eq_true rfl) (c_Tower_stuckFrom hH (f2.tw hT) (hpos h0) h12 t1 ?_ ?_)
            · intro S3 j f f3 _ _ hk3 _ _
              have := hk t (tw mem1 S3) t1 rfl h5 h0 (tO_tw hp)
              rw [hk3] at this
              refine z_goto (tgt := 69) hX (D_Four_build (i := 29) rfl) (by decide) ?_
              exact z_iret hX hR (D_Four_build (i := 34) rfl) rfl this
            · intro S3 f f3 hk3 _ _
              have := hk t (tw mem1 S3) t1 rfl h5 h0 (tO_tw hp)
              rw [hk3] at this
              refine z_goto (tgt := 69) hX (D_Four_build (i := 29) rfl) (by decide) ?_
              exact z_iret hX hR (D_Four_build (i := 34) rfl) rfl this
        · refine z_bipush (v := -5) hX (D_Four_build (i := 13) rfl) (by decide) ?_
          exact z_iret hX hR (D_Four_build (i := 14) rfl) rfl (hem hin h2 h3 ((nI_eq (b := 0) (by omega) (by decide)).mp h4))
      · refine z_iconst (v := -1) hX (D_Four_build (i := 8) rfl) (by decide) ?_
        exact z_iret hX hR (D_Four_build (i := 9) rfl) rfl (hno (Or.inr (Or.inr h3)))
theorem c_Four_wall (hH : zHas ι pX) (hS : CS mem sz bx C τ Λ) (hno : (x < -1 ∨ 4 ≤ x) → Post (some (zI (-1))) mem) (hst : ¬ x < -1 → ¬ 4 ≤ x → (bxL bx 8).length < 4 → Post (some (zI (-5))) mem) (hn : ∀ m, x = -1 → (bxL bx 8).length = 4 → tO mem m → Post (some (zI (nI (cntS (fun _ _ => true) (fpV C (bxL bx 8)) 4 0 (fun _ => 0))))) m) (hk : ∀ k m, k < 4 → x = nI k → (bxL bx 8).length = 4 → tO mem m → Post (some (zI (match fstS (fun _ _ => true) (fpV C (bxL bx 8)) 4 0 (fun _ => 0) with | none => -2 | some g => nI (g k)))) m) : zC l ι M_Four_wall 9 [zP 0 0, zI x] mem Post := by
  have hlen := hS.len
  refine z_enter hH (by decide) (by simp [z_ent, M_Four_wall]) (fun X hXl hX hR => ?_)
  refine z_iload_n hX (D_Four_wall (i := 0) rfl) rfl ?_
  refine z_iconst (v := -1) hX (D_Four_wall (i := 1) rfl) (by decide) ?_
  refine z_icmp_lt (tgt := 10) hX (D_Four_wall (i := 2) rfl) (by decide) (fun h1 => ?_) (fun h1 => ?_)
  · refine z_iconst (v := -1) hX (D_Four_wall (i := 6) rfl) (by decide) ?_
    exact z_iret hX hR (D_Four_wall (i := 7) rfl) rfl (hno (Or.inl h1))
  · refine z_iload_n hX (D_Four_wall (i := 3) rfl) rfl ?_
    refine z_iconst (v := 4) hX (D_Four_wall (i := 4) rfl) (by decide) ?_
    refine z_icmp_lt (tgt := 12) hX (D_Four_wall (i := 5) rfl) (by decide) (fun h2 => ?_) (fun h2 => ?_)
    · refine z_aload_n hX (D_Four_wall (i := 8) rfl) rfl ?_
      refine z_geti hX (D_Four_wall (i := 9) rfl) f_Four_127 rfl (by decide) (by first | exact Nat.one_pos | assumption | omega) rfl ?_
      have h2n := Int32.not_le.mpr h2
      rw [hS.2.2.1]
      refine z_cS1 hX (D_Four_wall (i := 10) rfl) ms_Integer_bitCount_0f7a4 l_Four_122 (by first | decide | omega) (Nat.le_of_ble_eq_true rfl) (c_bitCount ?_)
      rw [(bc8 bx hS.b).1, ← bxL_len]
      refine z_iconst (v := 4) hX (D_Four_wall (i := 11) rfl) (by decide) ?_
      refine z_icmp_ge (tgt := 26) hX (D_Four_wall (i := 12) rfl) (by decide) (fun h3 => ?_) (fun h3 => ?_)
      · skip
        have e4 : (bxL bx 8).length = 4 := by
          have := (nI_leI (a := 4) (by decide) (by omega)).mp h3
          omega
        obtain ⟨S, eS⟩ := tw_ex mem
        rw [← eS]
        refine z_aload_n hX (D_Four_wall (i := 15) rfl) rfl ?_
        refine z_getc hX (D_Four_wall (i := 16) rfl) f_Four_31 rfl (by decide) (by first | exact Nat.one_pos | assumption | omega) rfl ?_
        refine z_aload_n hX (D_Four_wall (i := 17) rfl) rfl ?_
        refine z_geti hX (D_Four_wall (i := 18) rfl) f_Four_127 rfl (by decide) (by first | exact Nat.one_pos | assumption | omega) rfl ?_
        rw [show (tw mem S).1 0 0 2 = nI bx from hS.2.2.1]
        refine z_cV1 hX (D_Four_wall (i := 19) rfl) mi_Tower_pile l_Four_144 rfl rfl (by decide) (by first | exact Nat.one_pos | assumption | omega) (by first | decide | omega) (Nat.le_of_ble_eq_true rfl) (c_Tower_pile hH hS.b hS.len ?_)
        intro mem1 S1 hp hf hT
        refine z_aload_n hX (D_Four_wall (i := 20) rfl) rfl ?_
        refine z_getc hX (D_Four_wall (i := 21) rfl) f_Four_31 rfl (by decide) (by first | exact Nat.one_pos | assumption | omega) rfl ?_
        refine z_cV0 hX (D_Four_wall (i := 22) rfl) mi_Tower_fitWall l_Four_228 rfl rfl (by decide) (by first | exact Nat.one_pos | assumption | omega) (by first | decide | omega) (Nat.le_of_ble_eq_true rfl) (c_Tower_fitWall hH hT (hS.2.2.2.2.2.1.pf hp) e4 ?_)
        intro S2 hSR
        refine z_aload_n hX (D_Four_wall (i := 23) rfl) rfl ?_
        refine z_getc hX (D_Four_wall (i := 24) rfl) f_Four_31 rfl (by decide) (by first | exact Nat.one_pos | assumption | omega) rfl ?_
        refine z_getc hX (D_Four_wall (i := 25) rfl) f_Four_157 rfl (by decide) (by first | exact Nat.one_pos | assumption | omega) rfl ?_
        refine z_iload_n hX (D_Four_wall (i := 26) rfl) rfl ?_
        by_cases h4 : x < 0
        · have e : x = -1 := by
            have a1 := Int32.lt_iff_toInt_lt.mp h4
            have a2 := Int32.le_iff_toInt_le.mp (Int32.not_lt.mp h1)
            have a3 : (-1 : Int32).toInt = -1 := by decide
            apply Int32.toInt_inj.mp
            rw [i32_0] at a1
            rw [a3] at a2 ⊢
            omega
          refine z_cV1 hX (D_Four_wall (i := 27) rfl) mi_Search_answer l_Four_161 rfl rfl (by decide) (by first | exact Nat.one_pos | assumption | omega) (by first | decide | omega) (Nat.le_of_ble_eq_true rfl) (c_Search_answer_n hH h4 hSR ?_)
          intro S3 f3
          exact z_iret hX hR (D_Four_wall (i := 28) rfl) rfl (hn _ e e4 (tO_tw hp))
        · obtain ⟨k, k1, rfl⟩ := nI_of h4
          have hkn : k < 4 := (nI_ltI (b := 4) k1 (by decide)).mp h2
          refine z_cV1 hX (D_Four_wall (i := 27) rfl) mi_Search_answer l_Four_161 rfl rfl (by decide) (by first | exact Nat.one_pos | assumption | omega) (by first | decide | omega) (Nat.le_of_ble_eq_true rfl) (c_Search_answer_k hH hkn hSR ?_)
          intro S3 f3
          exact z_iret hX hR (D_Four_wall (i := 28) rfl) rfl (hk k _ hkn rfl e4 (tO_tw hp))
      · refine z_bipush (v := -5) hX (D_Four_wall (i := 13) rfl) (by decide) ?_
        exact z_iret hX hR (D_Four_wall (i := 14) rfl) rfl (hst h1 h2n (Nat.lt_of_not_le (fun w => h3 (nI_le (a := 4) w (by omega)))))
    · refine z_iconst (v := -1) hX (D_Four_wall (i := 6) rfl) (by decide) ?_
      exact z_iret hX hR (D_Four_wall (i := 7) rfl) rfl (hno (Or.inr (Int32.not_lt.mp h2)))
end F10
