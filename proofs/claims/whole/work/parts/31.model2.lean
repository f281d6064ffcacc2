/-! the reference: alike, sight, great, many -/
section G2
variable {l : Launch} {ι : zE} {mem : zM} {Post : Option zV → zM → Prop} {x y z : Int32} {sz nb : Nat}
def mrN (g : Bool) (w : Nat) : Nat := if g = true ∧ (w = 1 ∨ w = 3) then 4 - w else w
def lkM (mem : zM) (k k2 t : Nat) (g : Bool) (w : Nat) : Bool := decide (mem.1 3 k (stN t (mrN g w)) = mem.1 3 k2 w)
theorem mr_ok : ∀ w, w < 6 → mrN true w < 6 ∧ mrN false w < 6 := by decide +kernel
theorem d_isAs (hH : zHas ι pM) (hA : ArOK mem) {k k2 t : Nat} {g : Bool} (hk : k < 8) (hk2 : k2 < 8) (ht : t < 24) (h : Post (some (zI (bI (alI (lkM (cv mem) k k2 t g) 6)))) mem) : zC l ι M_Model_isAs 2 [zP 40 0, zI (nI k), zI (nI t), zI (nI k2), zI (bI g)] mem Post := by
  refine z_enter hH (by decide) (by simp [z_ent, M_Model_isAs]) (fun X hXl hX hR => ?_)
  refine z_iconst (v := 0) hX (D_Model_isAs (i := 0) rfl) (by decide) ?_
  refine z_istore hX (D_Model_isAs (i := 1) rfl) (by decide) rfl ?_
  suffices H : ∀ (d i : Nat) (v6 : Option zV), i + d = 6 → (∀ w, w < i → lkM (cv mem) k k2 t g w = true) → zW ι M_Model_isAs X 3 [some (zP 40 0), some (zI (nI k)), some (zI (nI t)), some (zI (nI k2)), some (zI (bI g)), some (zI (nI i)), v6] [] mem from H 6 0 none rfl (fun _ h => absurd h (Nat.not_lt_zero _))
  intro d
  induction d with
  | zero =>
    intro i v6 hi hinv
    obtain rfl : i = 6 := by omega
    refine z_iload hX (D_Model_isAs (i := 2) rfl) rfl ?_
    refine z_bipush (v := 6) hX (D_Model_isAs (i := 3) rfl) (by decide) ?_
    refine z_icmp_ge (tgt := 69) hX (D_Model_isAs (i := 4) rfl) (by decide) (fun _ => ?_) (fun hcc => absurd (Int32.le_refl _) hcc)
    refine z_iconst (v := 1) hX (D_Model_isAs (i := 37) rfl) (by decide) ?_
    rw [alI_true.mpr hinv] at h
    exact z_zret hX hR (D_Model_isAs (i := 38) rfl) rfl (by first | exact Or.inl rfl | exact Or.inr rfl | assumption) (by assumption)
  | succ d ih =>
    intro i v6 hi hinv
    have hi6 : i < 6 := by omega
    have hm : mrN g i < 6 := by cases g; exact (mr_ok i hi6).2; exact (mr_ok i hi6).1
    have key : ∀ v6 : Option zV, zW ι M_Model_isAs X 36 [some (zP 40 0), some (zI (nI k)), some (zI (nI t)), some (zI (nI k2)), some (zI (bI g)), some (zI (nI i)), v6] [zI (nI (mrN g i))] mem := by
      intro v6
      refine z_istore hX (D_Model_isAs (i := 18) rfl) (by decide) rfl ?_
      refine z_aload_n hX (D_Model_isAs (i := 19) rfl) rfl ?_
      refine z_iload_n hX (D_Model_isAs (i := 20) rfl) rfl ?_
      refine z_iload_n hX (D_Model_isAs (i := 21) rfl) rfl ?_
      refine z_iload hX (D_Model_isAs (i := 22) rfl) rfl ?_
      refine z_cV3 hX (D_Model_isAs (i := 23) rfl) mi_Model_showsOf l_Model_223 rfl rfl (by decide) (by first | exact Nat.one_pos | assumption | omega) (by first | decide | omega) (Nat.le_of_ble_eq_true rfl) (d_showsOf hH hA hk ht hm ?_)
      refine z_aload_n hX (D_Model_isAs (i := 24) rfl) rfl ?_
      refine z_getc hX (D_Model_isAs (i := 25) rfl) f_Model_7 rfl (by decide) (by first | exact Nat.one_pos | assumption | omega) rfl ?_
      refine z_bipush (v := 6) hX (D_Model_isAs (i := 26) rfl) (by decide) ?_
      refine z_iload_n hX (D_Model_isAs (i := 27) rfl) rfl ?_
      refine z_imul hX (D_Model_isAs (i := 28) rfl) ?_
      refine z_iload hX (D_Model_isAs (i := 29) rfl) rfl ?_
      refine z_iadd hX (D_Model_isAs (i := 30) rfl) ?_
      refine z_iald (j := 6 * k2 + i) hX (D_Model_isAs (i := 31) rfl) rfl (by decide) (by first | exact Nat.one_pos | assumption | omega) (by decide) (by first | (simp only [nlit, nI_add, pk_mul]; done) | rfl) (by omega) ?_
      refine z_icmp_eq (tgt := 63) hX (D_Model_isAs (i := 32) rfl) (by decide) (fun hc => ?_) (fun hc => ?_)
      · first | refine z_inc1 hX (D_Model_isAs (i := 35) rfl) rfl (by decide) rfl ?_ | refine z_iinc hX (D_Model_isAs (i := 35) rfl) rfl rfl (by decide) rfl ?_
        refine z_goto (tgt := 3) hX (D_Model_isAs (i := 36) rfl) (by decide) ?_
        exact ih (i + 1) _ (by omega) (fun w hw => if e : w = i then by subst e; exact decide_eq_true hc else hinv w (by omega))
      · refine z_iconst (v := 0) hX (D_Model_isAs (i := 33) rfl) (by decide) ?_
        rw [alI_false hi6 (decide_eq_false hc)] at h
        exact z_zret hX hR (D_Model_isAs (i := 34) rfl) rfl (by first | exact Or.inl rfl | exact Or.inr rfl | assumption) (by assumption)
    have k0 : ¬ (g = true ∧ (i = 1 ∨ i = 3)) → ∀ v6 : Option zV, zW ι M_Model_isAs X 34 [some (zP 40 0), some (zI (nI k)), some (zI (nI t)), some (zI (nI k2)), some (zI (bI g)), some (zI (nI i)), v6] [] mem := by
      intro hn v6
      have e : mrN g i = i := by unfold mrN; rw [if_neg hn]
      refine z_iload hX (D_Model_isAs (i := 17) rfl) rfl ?_
      have := key v6
      rw [e] at this
      exact this
    have k1 : (g = true ∧ (i = 1 ∨ i = 3)) → ∀ v6 : Option zV, zW ι M_Model_isAs X 27 [some (zP 40 0), some (zI (nI k)), some (zI (nI t)), some (zI (nI k2)), some (zI (bI g)), some (zI (nI i)), v6] [] mem := by
      intro hn v6
      have e : mrN g i = 4 - i := by unfold mrN; rw [if_pos hn]
      refine z_iconst (v := 4) hX (D_Model_isAs (i := 13) rfl) (by decide) ?_
      refine z_iload hX (D_Model_isAs (i := 14) rfl) rfl ?_
      refine z_isub hX (D_Model_isAs (i := 15) rfl) ?_
      refine z_goto (tgt := 36) hX (D_Model_isAs (i := 16) rfl) (by decide) ?_
      have := key v6
      rw [e] at this
      rw [show (4 : Int32) - nI i = nI (4 - i) from pk_sub (a := 4) (by omega)]
      exact this
    refine z_iload hX (D_Model_isAs (i := 2) rfl) rfl ?_
    refine z_bipush (v := 6) hX (D_Model_isAs (i := 3) rfl) (by decide) ?_
    refine z_icmp_ge (tgt := 69) hX (D_Model_isAs (i := 4) rfl) (by decide) (fun hcc => absurd hcc (nI_ge (b := 6) hi6 (by decide))) (fun _ => ?_)
    refine z_iload hX (D_Model_isAs (i := 5) rfl) rfl ?_
    refine z_if_eq (tgt := 34) hX (D_Model_isAs (i := 6) rfl) (by decide) (fun hg => ?_) (fun hg => ?_)
    · skip
      exact k0 (fun z => by rw [z.1] at hg; exact absurd hg (by decide)) _
    · refine z_iload hX (D_Model_isAs (i := 7) rfl) rfl ?_
      refine z_iconst (v := 1) hX (D_Model_isAs (i := 8) rfl) (by decide) ?_
      refine z_icmp_eq (tgt := 27) hX (D_Model_isAs (i := 9) rfl) (by decide) (fun h1 => ?_) (fun h1 => ?_)
      · skip
        exact k1 ⟨bI_n.mp hg, Or.inl ((nI_eq (b := 1) (by omega) (by decide)).mp h1)⟩ _
      · refine z_iload hX (D_Model_isAs (i := 10) rfl) rfl ?_
        refine z_iconst (v := 3) hX (D_Model_isAs (i := 11) rfl) (by decide) ?_
        refine z_icmp_ne (tgt := 34) hX (D_Model_isAs (i := 12) rfl) (by decide) (fun h3 => ?_) (fun h3 => ?_)
        · skip
          refine k0 (fun z => ?_) _
          rcases z.2 with e | e
          · exact h1 (by rw [e]; rfl)
          · exact h3 (by rw [e]; rfl)
        · skip
          exact k1 ⟨bI_n.mp hg, Or.inr ((nI_eq (b := 3) (by omega) (by decide)).mp h3)⟩ _
theorem d_areAlike (hH : zHas ι pM) (hA : ArOK mem) {k k2 : Nat} {g : Bool} (hk : k < 8) (hk2 : k2 < 8) (h : Post (some (zI (bI (exI (fun t => alI (lkM (cv mem) k k2 t g) 6) 24)))) mem) : zC l ι M_Model_areAlike 3 [zP 40 0, zI (nI k), zI (nI k2), zI (bI g)] mem Post := by
  refine z_enter hH (by decide) (by simp [z_ent, M_Model_areAlike]) (fun X hXl hX hR => ?_)
  refine z_iconst (v := 0) hX (D_Model_areAlike (i := 0) rfl) (by decide) ?_
  refine z_istore hX (D_Model_areAlike (i := 1) rfl) (by decide) rfl ?_
  suffices H : ∀ (d i : Nat), i + d = 24 → (∀ w, w < i → alI (lkM (cv mem) k k2 w g) 6 = false) → zW ι M_Model_areAlike X 3 [some (zP 40 0), some (zI (nI k)), some (zI (nI k2)), some (zI (bI g)), some (zI (nI i))] [] mem from H 24 0 rfl (fun _ h => absurd h (Nat.not_lt_zero _))
  intro d
  induction d with
  | zero =>
    intro i hi hinv
    obtain rfl : i = 24 := by omega
    refine z_iload hX (D_Model_areAlike (i := 2) rfl) rfl ?_
    refine z_bipush (v := 24) hX (D_Model_areAlike (i := 3) rfl) (by decide) ?_
    refine z_icmp_ge (tgt := 30) hX (D_Model_areAlike (i := 4) rfl) (by decide) (fun _ => ?_) (fun hcc => absurd (Int32.le_refl _) hcc)
    refine z_iconst (v := 0) hX (D_Model_areAlike (i := 16) rfl) (by decide) ?_
    rw [exI_false.mpr hinv] at h
    exact z_zret hX hR (D_Model_areAlike (i := 17) rfl) rfl (by first | exact Or.inl rfl | exact Or.inr rfl | assumption) (by assumption)
  | succ d ih =>
    intro i hi hinv
    have hi6 : i < 24 := by omega
    refine z_iload hX (D_Model_areAlike (i := 2) rfl) rfl ?_
    refine z_bipush (v := 24) hX (D_Model_areAlike (i := 3) rfl) (by decide) ?_
    refine z_icmp_ge (tgt := 30) hX (D_Model_areAlike (i := 4) rfl) (by decide) (fun hcc => absurd hcc (nI_ge (b := 24) hi6 (by decide))) (fun _ => ?_)
    refine z_aload_n hX (D_Model_areAlike (i := 5) rfl) rfl ?_
    refine z_iload_n hX (D_Model_areAlike (i := 6) rfl) rfl ?_
    refine z_iload hX (D_Model_areAlike (i := 7) rfl) rfl ?_
    refine z_iload_n hX (D_Model_areAlike (i := 8) rfl) rfl ?_
    refine z_iload_n hX (D_Model_areAlike (i := 9) rfl) rfl ?_
    refine z_cV4 hX (D_Model_areAlike (i := 10) rfl) mi_Model_isAs l_Model_294 rfl rfl (by decide) (by first | exact Nat.one_pos | assumption | omega) (by first | decide | omega) (Nat.le_of_ble_eq_true rfl) (d_isAs hH hA hk hk2 hi6 ?_)
    refine z_if_eq (tgt := 24) hX (D_Model_areAlike (i := 11) rfl) (by decide) (fun hc => ?_) (fun hc => ?_)
    · first | refine z_inc1 hX (D_Model_areAlike (i := 14) rfl) rfl (by decide) rfl ?_ | refine z_iinc hX (D_Model_areAlike (i := 14) rfl) rfl rfl (by decide) rfl ?_
      refine z_goto (tgt := 3) hX (D_Model_areAlike (i := 15) rfl) (by decide) ?_
      exact ih (i + 1) (by omega) (fun w hw => if e : w = i then by subst e; exact bI_0.mp hc else hinv w (by omega))
    · refine z_iconst (v := 1) hX (D_Model_areAlike (i := 12) rfl) (by decide) ?_
      rw [exI_true.mpr ⟨i, hi6, bI_n.mp hc⟩] at h
      exact z_zret hX hR (D_Model_areAlike (i := 13) rfl) rfl (by first | exact Or.inl rfl | exact Or.inr rfl | assumption) (by assumption)
theorem d_alike (hH : zHas ι pM) (hA : ArOK mem) (hs : mem.1 40 0 1 = nI sz) (h8 : sz ≤ 8) (hno : (x < 0 ∨ ∃ j : Nat, j < 2 ^ 31 ∧ x = nI j ∧ (sz ≤ j / 10 ∨ sz ≤ j % 10)) → Post (some (zI (-1))) mem) (hok : ∀ a b, a < sz → b < sz → b < 10 → x = nI (10 * a + b) → Post (some (zI (if exI (fun t => alI (lkM (cv mem) a b t false) 6) 24 = true then 1 else if exI (fun t => alI (lkM (cv mem) a b t true) 6) 24 = true then 2 else 0))) mem) : zC l ι M_Model_alike 4 [zP 40 0, zI x] mem Post := by
  refine z_enter hH (by decide) (by simp [z_ent, M_Model_alike]) (fun X hXl hX hR => ?_)
  refine z_iload_n hX (D_Model_alike (i := 0) rfl) rfl ?_
  refine z_if_lt (tgt := 26) hX (D_Model_alike (i := 1) rfl) (by decide) (fun h1 => ?_) (fun h1 => ?_)
  · refine z_iconst (v := -1) hX (D_Model_alike (i := 14) rfl) (by decide) ?_
    exact z_iret hX hR (D_Model_alike (i := 15) rfl) rfl (hno (Or.inl h1))
  · skip
    obtain ⟨j, hj, rfl⟩ := nI_of h1
    refine z_aload_n hX (D_Model_alike (i := 2) rfl) rfl ?_
    refine z_iload_n hX (D_Model_alike (i := 3) rfl) rfl ?_
    refine z_bipush (v := 10) hX (D_Model_alike (i := 4) rfl) (by decide) ?_
    refine z_idiv hX (D_Model_alike (i := 5) rfl) (by decide) ?_
    rw [nlit, pk_div hj (by decide) (by decide)]
    refine z_cV1 hX (D_Model_alike (i := 6) rfl) mi_Model_isCube l_Model_106 rfl rfl (by decide) (by first | exact Nat.one_pos | assumption | omega) (by first | decide | omega) (Nat.le_of_ble_eq_true rfl) (d_isCube hH hs h8 ?_)
    rw [inN_nI' (by omega)]
    refine z_if_eq (tgt := 26) hX (D_Model_alike (i := 7) rfl) (by decide) (fun h2 => ?_) (fun h2 => ?_)
    · refine z_iconst (v := -1) hX (D_Model_alike (i := 14) rfl) (by decide) ?_
      exact z_iret hX hR (D_Model_alike (i := 15) rfl) rfl (hno (Or.inr ⟨j, hj, rfl, Or.inl (by have := of_decide_eq_false (bI_0.mp h2); omega)⟩))
    · refine z_aload_n hX (D_Model_alike (i := 8) rfl) rfl ?_
      refine z_iload_n hX (D_Model_alike (i := 9) rfl) rfl ?_
      refine z_bipush (v := 10) hX (D_Model_alike (i := 10) rfl) (by decide) ?_
      refine z_irem hX (D_Model_alike (i := 11) rfl) (by decide) ?_
      rw [nlit, pk_rem hj (by decide) (by decide)]
      refine z_cV1 hX (D_Model_alike (i := 12) rfl) mi_Model_isCube l_Model_106 rfl rfl (by decide) (by first | exact Nat.one_pos | assumption | omega) (by first | decide | omega) (Nat.le_of_ble_eq_true rfl) (d_isCube hH hs h8 ?_)
      rw [inN_nI' (by omega)]
      have a1 := of_decide_eq_true (bI_n.mp h2)
      refine z_if_ne (tgt := 28) hX (D_Model_alike (i := 13) rfl) (by decide) (fun h3 => ?_) (fun h3 => ?_)
      · skip
        have a2 := of_decide_eq_true (bI_n.mp h3)
        have hA1 : j / 10 < 8 := by omega
        have hB : j % 10 < 8 := by omega
        have hh := hok (j / 10) (j % 10) a1 a2 (by omega) (by rw [Nat.div_add_mod])
        refine z_aload_n hX (D_Model_alike (i := 16) rfl) rfl ?_
        refine z_iload_n hX (D_Model_alike (i := 17) rfl) rfl ?_
        refine z_bipush (v := 10) hX (D_Model_alike (i := 18) rfl) (by decide) ?_
        refine z_idiv hX (D_Model_alike (i := 19) rfl) (by decide) ?_
        rw [nlit, pk_div hj (by decide) (by decide)]
        refine z_iload_n hX (D_Model_alike (i := 20) rfl) rfl ?_
        refine z_bipush (v := 10) hX (D_Model_alike (i := 21) rfl) (by decide) ?_
        refine z_irem hX (D_Model_alike (i := 22) rfl) (by decide) ?_
        rw [nlit, pk_rem hj (by decide) (by decide)]
        refine z_iconst (v := 0) hX (D_Model_alike (i := 23) rfl) (by decide) ?_
        refine z_cV3 hX (D_Model_alike (i := 24) rfl) mi_Model_areAlike l_Model_298 rfl rfl (by decide) (by first | exact Nat.one_pos | assumption | omega) (by first | decide | omega) (Nat.le_of_ble_eq_true rfl) (d_areAlike (g := false) hH hA hA1 hB ?_)
        refine z_if_eq (tgt := 48) hX (D_Model_alike (i := 25) rfl) (by decide) (fun h4 => ?_) (fun h4 => ?_)
        · refine z_aload_n hX (D_Model_alike (i := 28) rfl) rfl ?_
          refine z_iload_n hX (D_Model_alike (i := 29) rfl) rfl ?_
          refine z_bipush (v := 10) hX (D_Model_alike (i := 30) rfl) (by decide) ?_
          rw [bI_0.mp h4] at hh
          refine z_idiv hX (D_Model_alike (i := 31) rfl) (by decide) ?_
          rw [nlit, pk_div hj (by decide) (by decide)]
          refine z_iload_n hX (D_Model_alike (i := 32) rfl) rfl ?_
          refine z_bipush (v := 10) hX (D_Model_alike (i := 33) rfl) (by decide) ?_
          refine z_irem hX (D_Model_alike (i := 34) rfl) (by decide) ?_
          rw [nlit, pk_rem hj (by decide) (by decide)]
          refine z_iconst (v := 1) hX (D_Model_alike (i := 35) rfl) (by decide) ?_
          refine z_cV3 hX (D_Model_alike (i := 36) rfl) mi_Model_areAlike l_Model_298 rfl rfl (by decide) (by first | exact Nat.one_pos | assumption | omega) (by first | decide | omega) (Nat.le_of_ble_eq_true rfl) (d_areAlike (g := true) hH hA hA1 hB ?_)
          refine z_if_eq (tgt := 68) hX (D_Model_alike (i := 37) rfl) (by decide) (fun h5 => ?_) (fun h5 => ?_)
          · refine z_iconst (v := 0) hX (D_Model_alike (i := 40) rfl) (by decide) ?_
            rw [bI_0.mp h5] at hh
            exact z_iret hX hR (D_Model_alike (i := 41) rfl) rfl hh
          · refine z_iconst (v := 2) hX (D_Model_alike (i := 38) rfl) (by decide) ?_
            refine z_goto (tgt := 69) hX (D_Model_alike (i := 39) rfl) (by decide) ?_
            rw [bI_n.mp h5] at hh
            exact z_iret hX hR (D_Model_alike (i := 41) rfl) rfl hh
        · refine z_iconst (v := 1) hX (D_Model_alike (i := 26) rfl) (by decide) ?_
          refine z_goto (tgt := 69) hX (D_Model_alike (i := 27) rfl) (by decide) ?_
          rw [bI_n.mp h4] at hh
          exact z_iret hX hR (D_Model_alike (i := 41) rfl) rfl hh
      · refine z_iconst (v := -1) hX (D_Model_alike (i := 14) rfl) (by decide) ?_
        exact z_iret hX hR (D_Model_alike (i := 15) rfl) rfl (hno (Or.inr ⟨j, hj, rfl, Or.inr (by have := of_decide_eq_false (bI_0.mp h3); omega)⟩))
theorem d_doesShow (hH : zHas ι pM) (hA : ArOK mem) {k t w : Nat} {c : Int32} (hk : k < 8) (ht : t < 24) (hw : w < 6) (h : Post (some (zI (bI (msC (cv mem) k t w c)))) mem) : zC l ι M_Model_doesShow 2 [zP 40 0, zI (nI k), zI (nI t), zI (nI w), zI c] mem Post := by
  refine z_enter hH (by decide) (by simp [z_ent, M_Model_doesShow]) (fun X hXl hX hR => ?_)
  refine z_aload_n hX (D_Model_doesShow (i := 0) rfl) rfl ?_
  refine z_iload_n hX (D_Model_doesShow (i := 1) rfl) rfl ?_
  refine z_iload_n hX (D_Model_doesShow (i := 2) rfl) rfl ?_
  refine z_iload_n hX (D_Model_doesShow (i := 3) rfl) rfl ?_
  refine z_cV3 hX (D_Model_doesShow (i := 4) rfl) mi_Model_showsOf l_Model_223 rfl rfl (by decide) (by first | exact Nat.one_pos | assumption | omega) (by first | decide | omega) (Nat.le_of_ble_eq_true rfl) (d_showsOf hH hA hk ht hw ?_)
  refine z_istore hX (D_Model_doesShow (i := 5) rfl) (by decide) rfl ?_
  refine z_iload hX (D_Model_doesShow (i := 6) rfl) rfl ?_
  refine z_bipush (v := 6) hX (D_Model_doesShow (i := 7) rfl) (by decide) ?_
  refine z_icmp_eq (tgt := 23) hX (D_Model_doesShow (i := 8) rfl) (by decide) (fun h1 => ?_) (fun h1 => ?_)
  · refine z_iconst (v := 1) hX (D_Model_doesShow (i := 12) rfl) (by decide) ?_
    refine z_goto (tgt := 28) hX (D_Model_doesShow (i := 13) rfl) (by decide) ?_
    rw [show msC (cv mem) k t w c = true from decide_eq_true (Or.inr h1)] at h
    exact z_zret hX hR (D_Model_doesShow (i := 15) rfl) rfl (by first | exact Or.inl rfl | exact Or.inr rfl | assumption) (by assumption)
  · refine z_iload hX (D_Model_doesShow (i := 9) rfl) rfl ?_
    refine z_iload hX (D_Model_doesShow (i := 10) rfl) rfl ?_
    refine z_icmp_ne (tgt := 27) hX (D_Model_doesShow (i := 11) rfl) (by decide) (fun h2 => ?_) (fun h2 => ?_)
    · refine z_iconst (v := 0) hX (D_Model_doesShow (i := 14) rfl) (by decide) ?_
      rw [show msC (cv mem) k t w c = false from decide_eq_false (fun z => z.elim h2 h1)] at h
      exact z_zret hX hR (D_Model_doesShow (i := 15) rfl) rfl (by first | exact Or.inl rfl | exact Or.inr rfl | assumption) (by assumption)
    · refine z_iconst (v := 1) hX (D_Model_doesShow (i := 12) rfl) (by decide) ?_
      refine z_goto (tgt := 28) hX (D_Model_doesShow (i := 13) rfl) (by decide) ?_
      rw [show msC (cv mem) k t w c = true from decide_eq_true (Or.inl h2)] at h
      exact z_zret hX hR (D_Model_doesShow (i := 15) rfl) rfl (by first | exact Or.inl rfl | exact Or.inr rfl | assumption) (by assumption)
theorem d_sightOf (hH : zHas ι pM) (hA : ArOK mem) {k : Nat} {c : Int32} (hk : k < 8) (h : Post (some (zI (mkI (tsC (cv mem) k c) 24))) mem) : zC l ι M_Model_sightOf 3 [zP 40 0, zI (nI k), zI c] mem Post := by
  refine z_enter hH (by decide) (by simp [z_ent, M_Model_sightOf]) (fun X hXl hX hR => ?_)
  refine z_iconst (v := 0) hX (D_Model_sightOf (i := 0) rfl) (by decide) ?_
  refine z_istore_n hX (D_Model_sightOf (i := 1) rfl) (by decide) rfl ?_
  refine z_iconst (v := 0) hX (D_Model_sightOf (i := 2) rfl) (by decide) ?_
  refine z_istore hX (D_Model_sightOf (i := 3) rfl) (by decide) rfl ?_
  suffices H : ∀ (d i : Nat), i + d = 24 → zW ι M_Model_sightOf X 5 [some (zP 40 0), some (zI (nI k)), some (zI c), some (zI (mkI (tsC (cv mem) k c) i)), some (zI (nI i))] [] mem from H 24 0 rfl
  intro d
  induction d with
  | zero =>
    intro i hi
    obtain rfl : i = 24 := by omega
    refine z_iload hX (D_Model_sightOf (i := 4) rfl) rfl ?_
    refine z_bipush (v := 24) hX (D_Model_sightOf (i := 5) rfl) (by decide) ?_
    refine z_icmp_ge (tgt := 73) hX (D_Model_sightOf (i := 6) rfl) (by decide) (fun _ => ?_) (fun hcc => absurd (Int32.le_refl _) hcc)
    refine z_iload_n hX (D_Model_sightOf (i := 44) rfl) rfl ?_
    exact z_iret hX hR (D_Model_sightOf (i := 45) rfl) rfl (by assumption)
  | succ d ih =>
    intro i hi
    have hi6 : i < 24 := by omega
    have no : tsC (cv mem) k c i = false → zW ι M_Model_sightOf X 67 [some (zP 40 0), some (zI (nI k)), some (zI c), some (zI (mkI (tsC (cv mem) k c) i)), some (zI (nI i))] [] mem := by
      intro hf
      have e : mkI (tsC (cv mem) k c) (i + 1) = mkI (tsC (cv mem) k c) i := by rw [mkI, hf]; rfl
      first | refine z_inc1 hX (D_Model_sightOf (i := 42) rfl) rfl (by decide) rfl ?_ | refine z_iinc hX (D_Model_sightOf (i := 42) rfl) rfl rfl (by decide) rfl ?_
      refine z_goto (tgt := 5) hX (D_Model_sightOf (i := 43) rfl) (by decide) ?_
      rw [← e]
      exact ih (i + 1) (by omega)
    refine z_iload hX (D_Model_sightOf (i := 4) rfl) rfl ?_
    refine z_bipush (v := 24) hX (D_Model_sightOf (i := 5) rfl) (by decide) ?_
    refine z_icmp_ge (tgt := 73) hX (D_Model_sightOf (i := 6) rfl) (by decide) (fun hcc => absurd hcc (nI_ge (b := 24) hi6 (by decide))) (fun _ => ?_)
    refine z_aload_n hX (D_Model_sightOf (i := 7) rfl) rfl ?_
    refine z_iload_n hX (D_Model_sightOf (i := 8) rfl) rfl ?_
    refine z_iload hX (D_Model_sightOf (i := 9) rfl) rfl ?_
    refine z_iconst (v := 4) hX (D_Model_sightOf (i := 10) rfl) (by decide) ?_
    refine z_iload_n hX (D_Model_sightOf (i := 11) rfl) rfl ?_
    refine z_bipush (v := 100) hX (D_Model_sightOf (i := 12) rfl) (by decide) ?_
    refine z_idiv hX (D_Model_sightOf (i := 13) rfl) (by decide) ?_
    refine z_cV4 hX (D_Model_sightOf (i := 14) rfl) mi_Model_doesShow l_Model_320 rfl rfl (by decide) (by first | exact Nat.one_pos | assumption | omega) (by first | decide | omega) (Nat.le_of_ble_eq_true rfl) (d_doesShow (w := 4) hH hA hk hi6 (by decide) ?_)
    refine z_if_eq (tgt := 67) hX (D_Model_sightOf (i := 15) rfl) (by decide) (fun hc => ?_) (fun hc => ?_)
    · skip
      exact no (by unfold tsC; rw [bI_0.mp hc]; rfl)
    · refine z_aload_n hX (D_Model_sightOf (i := 16) rfl) rfl ?_
      refine z_iload_n hX (D_Model_sightOf (i := 17) rfl) rfl ?_
      refine z_iload hX (D_Model_sightOf (i := 18) rfl) rfl ?_
      refine z_iconst (v := 0) hX (D_Model_sightOf (i := 19) rfl) (by decide) ?_
      refine z_iload_n hX (D_Model_sightOf (i := 20) rfl) rfl ?_
      refine z_bipush (v := 10) hX (D_Model_sightOf (i := 21) rfl) (by decide) ?_
      refine z_idiv hX (D_Model_sightOf (i := 22) rfl) (by decide) ?_
      refine z_bipush (v := 10) hX (D_Model_sightOf (i := 23) rfl) (by decide) ?_
      refine z_irem hX (D_Model_sightOf (i := 24) rfl) (by decide) ?_
      refine z_cV4 hX (D_Model_sightOf (i := 25) rfl) mi_Model_doesShow l_Model_320 rfl rfl (by decide) (by first | exact Nat.one_pos | assumption | omega) (by first | decide | omega) (Nat.le_of_ble_eq_true rfl) (d_doesShow (w := 0) hH hA hk hi6 (by decide) ?_)
      refine z_if_eq (tgt := 67) hX (D_Model_sightOf (i := 26) rfl) (by decide) (fun hc2 => ?_) (fun hc2 => ?_)
      · skip
        exact no (by unfold tsC; rw [bI_0.mp hc2]; simp)
      · refine z_aload_n hX (D_Model_sightOf (i := 27) rfl) rfl ?_
        refine z_iload_n hX (D_Model_sightOf (i := 28) rfl) rfl ?_
        refine z_iload hX (D_Model_sightOf (i := 29) rfl) rfl ?_
        refine z_iconst (v := 1) hX (D_Model_sightOf (i := 30) rfl) (by decide) ?_
        refine z_iload_n hX (D_Model_sightOf (i := 31) rfl) rfl ?_
        refine z_bipush (v := 10) hX (D_Model_sightOf (i := 32) rfl) (by decide) ?_
        refine z_irem hX (D_Model_sightOf (i := 33) rfl) (by decide) ?_
        refine z_cV4 hX (D_Model_sightOf (i := 34) rfl) mi_Model_doesShow l_Model_320 rfl rfl (by decide) (by first | exact Nat.one_pos | assumption | omega) (by first | decide | omega) (Nat.le_of_ble_eq_true rfl) (d_doesShow (w := 1) hH hA hk hi6 (by decide) ?_)
        refine z_if_eq (tgt := 67) hX (D_Model_sightOf (i := 35) rfl) (by decide) (fun hc3 => ?_) (fun hc3 => ?_)
        · skip
          exact no (by unfold tsC; rw [bI_0.mp hc3]; simp)
        · refine z_iload_n hX (D_Model_sightOf (i := 36) rfl) rfl ?_
          refine z_iconst (v := 1) hX (D_Model_sightOf (i := 37) rfl) (by decide) ?_
          refine z_iload hX (D_Model_sightOf (i := 38) rfl) rfl ?_
          refine z_ishl hX (D_Model_sightOf (i := 39) rfl) ?_
          refine z_ior hX (D_Model_sightOf (i := 40) rfl) ?_
          refine z_istore_n hX (D_Model_sightOf (i := 41) rfl) (by decide) rfl ?_
          first | refine z_inc1 hX (D_Model_sightOf (i := 42) rfl) rfl (by decide) rfl ?_ | refine z_iinc hX (D_Model_sightOf (i := 42) rfl) rfl rfl (by decide) rfl ?_
          refine z_goto (tgt := 5) hX (D_Model_sightOf (i := 43) rfl) (by decide) ?_
          have e : mkI (tsC (cv mem) k c) (i + 1) = mkI (tsC (cv mem) k c) i ||| ((1 : Int32) <<< (nI i &&& 31)) := by
            rw [mkI, if_pos]
            unfold tsC; rw [bI_n.mp hc, bI_n.mp hc2, bI_n.mp hc3]; rfl
          rw [← e]
          exact ih (i + 1) (by omega)
theorem d_sight (hH : zHas ι pM) (hA : ArOK mem) (hs : mem.1 40 0 1 = nI sz) (h8 : sz ≤ 8) (hno : (x < 0 ∨ (∃ j : Nat, j < 2 ^ 31 ∧ x = nI j ∧ siB j = false) ∨ (inN y sz = false ∧ ¬ y = -1)) → Post (some (zI (-1))) mem) (hok : ∀ j k, j < 2 ^ 31 → x = nI j → siB j = true → k < sz → y = nI k → Post (some (zI (mkI (tsC (cv mem) k (nI j)) 24))) mem) (hall : ∀ j, j < 2 ^ 31 → x = nI j → siB j = true → y = -1 → Post (some (zI (mkI (fun k => decide (¬ mkI (tsC (cv mem) k (nI j)) 24 = 0)) sz))) mem) : zC l ι M_Model_sight 4 [zP 40 0, zI x, zI y] mem Post := by
  refine z_enter hH (by decide) (by simp [z_ent, M_Model_sight]) (fun X hXl hX hR => ?_)
  refine z_iload_n hX (D_Model_sight (i := 0) rfl) rfl ?_
  refine z_if_lt (tgt := 50) hX (D_Model_sight (i := 1) rfl) (by decide) (fun h1 => ?_) (fun h1 => ?_)
  · refine z_iconst (v := -1) hX (D_Model_sight (i := 26) rfl) (by decide) ?_
    exact z_iret hX hR (D_Model_sight (i := 27) rfl) rfl (hno (Or.inl h1))
  · skip
    obtain ⟨j, hj, rfl⟩ := nI_of h1
    have bad : siB j = false → zW ι M_Model_sight X 50 [some (zP 40 0), some (zI (nI j)), some (zI y), none, none] [] mem := by
      intro hb
      refine z_iconst (v := -1) hX (D_Model_sight (i := 26) rfl) (by decide) ?_
      exact z_iret hX hR (D_Model_sight (i := 27) rfl) rfl (hno (Or.inr (Or.inl ⟨j, hj, rfl, hb⟩)))
    refine z_iload_n hX (D_Model_sight (i := 2) rfl) rfl ?_
    refine z_bipush (v := 100) hX (D_Model_sight (i := 3) rfl) (by decide) ?_
    refine z_idiv hX (D_Model_sight (i := 4) rfl) (by decide) ?_
    rw [nlit, pk_div hj (by decide) (by decide)]
    refine z_cS1 hX (D_Model_sight (i := 5) rfl) ms_Model_isColour l_Model_324 (by first | decide | omega) (Nat.le_of_ble_eq_true rfl) (d_isColour ?_)
    rw [inN_nI' (by omega)]
    refine z_if_eq (tgt := 50) hX (D_Model_sight (i := 6) rfl) (by decide) (fun h2 => ?_) (fun h2 => ?_)
    · skip
      exact bad (decide_eq_false (fun z => of_decide_eq_false (bI_0.mp h2) z.1))
    · refine z_iload_n hX (D_Model_sight (i := 7) rfl) rfl ?_
      refine z_bipush (v := 10) hX (D_Model_sight (i := 8) rfl) (by decide) ?_
      refine z_idiv hX (D_Model_sight (i := 9) rfl) (by decide) ?_
      rw [nlit, pk_div hj (by decide) (by decide)]
      refine z_bipush (v := 10) hX (D_Model_sight (i := 10) rfl) (by decide) ?_
      refine z_irem hX (D_Model_sight (i := 11) rfl) (by decide) ?_
      rw [nlit, pk_rem (by omega) (by decide) (by decide)]
      refine z_cS1 hX (D_Model_sight (i := 12) rfl) ms_Model_isColour l_Model_324 (by first | decide | omega) (Nat.le_of_ble_eq_true rfl) (d_isColour ?_)
      rw [inN_nI' (by omega)]
      refine z_if_eq (tgt := 50) hX (D_Model_sight (i := 13) rfl) (by decide) (fun h3 => ?_) (fun h3 => ?_)
      · skip
        exact bad (decide_eq_false (fun z => of_decide_eq_false (bI_0.mp h3) z.2.1))
      · refine z_iload_n hX (D_Model_sight (i := 14) rfl) rfl ?_
        refine z_bipush (v := 10) hX (D_Model_sight (i := 15) rfl) (by decide) ?_
        refine z_irem hX (D_Model_sight (i := 16) rfl) (by decide) ?_
        rw [nlit, pk_rem hj (by decide) (by decide)]
        refine z_cS1 hX (D_Model_sight (i := 17) rfl) ms_Model_isColour l_Model_324 (by first | decide | omega) (Nat.le_of_ble_eq_true rfl) (d_isColour ?_)
        rw [inN_nI' (by omega)]
        refine z_if_eq (tgt := 50) hX (D_Model_sight (i := 18) rfl) (by decide) (fun h4 => ?_) (fun h4 => ?_)
        · skip
          exact bad (decide_eq_false (fun z => of_decide_eq_false (bI_0.mp h4) z.2.2))
        · skip
          have ok : siB j = true := decide_eq_true ⟨of_decide_eq_true (bI_n.mp h2), of_decide_eq_true (bI_n.mp h3), of_decide_eq_true (bI_n.mp h4)⟩
          refine z_iload_n hX (D_Model_sight (i := 19) rfl) rfl ?_
          refine z_iconst (v := -1) hX (D_Model_sight (i := 20) rfl) (by decide) ?_
          refine z_icmp_eq (tgt := 52) hX (D_Model_sight (i := 21) rfl) (by decide) (fun h5 => ?_) (fun h5 => ?_)
          · skip
            have hh := hall j hj rfl ok h5
            refine z_iload_n hX (D_Model_sight (i := 28) rfl) rfl ?_
            refine z_if_lt (tgt := 63) hX (D_Model_sight (i := 29) rfl) (by decide) (fun _ => ?_) (fun hcc => absurd (by rw [h5]; decide) hcc)
            refine z_iconst (v := 0) hX (D_Model_sight (i := 35) rfl) (by decide) ?_
            refine z_istore_n hX (D_Model_sight (i := 36) rfl) (by decide) rfl ?_
            refine z_iconst (v := 0) hX (D_Model_sight (i := 37) rfl) (by decide) ?_
            refine z_istore hX (D_Model_sight (i := 38) rfl) (by decide) rfl ?_
            suffices H : ∀ (d i : Nat), i + d = sz → zW ι M_Model_sight X 68 [some (zP 40 0), some (zI (nI j)), some (zI y), some (zI (mkI (fun k => decide (¬ mkI (tsC (cv mem) k (nI j)) 24 = 0)) i)), some (zI (nI i))] [] mem from H sz 0 (by omega)
            intro d
            induction d with
            | zero =>
              intro i hi
              obtain rfl : i = sz := by omega
              refine z_iload hX (D_Model_sight (i := 39) rfl) rfl ?_
              refine z_aload_n hX (D_Model_sight (i := 40) rfl) rfl ?_
              refine z_geti hX (D_Model_sight (i := 41) rfl) f_Model_99 rfl (by decide) (by first | exact Nat.one_pos | assumption | omega) rfl ?_
              rw [hs]
              refine z_icmp_ge (tgt := 100) hX (D_Model_sight (i := 42) rfl) (by decide) (fun _ => ?_) (fun hcc => absurd (Int32.le_refl _) hcc)
              refine z_iload_n hX (D_Model_sight (i := 56) rfl) rfl ?_
              exact z_iret hX hR (D_Model_sight (i := 57) rfl) rfl hh
            | succ d ih =>
              intro i hi
              refine z_iload hX (D_Model_sight (i := 39) rfl) rfl ?_
              refine z_aload_n hX (D_Model_sight (i := 40) rfl) rfl ?_
              refine z_geti hX (D_Model_sight (i := 41) rfl) f_Model_99 rfl (by decide) (by first | exact Nat.one_pos | assumption | omega) rfl ?_
              rw [hs]
              refine z_icmp_ge (tgt := 100) hX (D_Model_sight (i := 42) rfl) (by decide) (fun hcc => absurd hcc (nI_ge (by omega) (by omega))) (fun _ => ?_)
              refine z_aload_n hX (D_Model_sight (i := 43) rfl) rfl ?_
              refine z_iload hX (D_Model_sight (i := 44) rfl) rfl ?_
              refine z_iload_n hX (D_Model_sight (i := 45) rfl) rfl ?_
              refine z_cV2 hX (D_Model_sight (i := 46) rfl) mi_Model_sightOf l_Model_327 rfl rfl (by decide) (by first | exact Nat.one_pos | assumption | omega) (by first | decide | omega) (Nat.le_of_ble_eq_true rfl) (d_sightOf hH hA (by omega) ?_)
              refine z_if_eq (tgt := 94) hX (D_Model_sight (i := 47) rfl) (by decide) (fun h7 => ?_) (fun h7 => ?_)
              · first | refine z_inc1 hX (D_Model_sight (i := 54) rfl) rfl (by decide) rfl ?_ | refine z_iinc hX (D_Model_sight (i := 54) rfl) rfl rfl (by decide) rfl ?_
                refine z_goto (tgt := 68) hX (D_Model_sight (i := 55) rfl) (by decide) ?_
                have e : mkI (fun k => decide (¬ mkI (tsC (cv mem) k (nI j)) 24 = 0)) (i + 1) = mkI (fun k => decide (¬ mkI (tsC (cv mem) k (nI j)) 24 = 0)) i := by
                  rw [mkI, if_neg]
                  simpa using h7
                rw [← e]
                exact ih (i + 1) (by omega)
              · refine z_iload_n hX (D_Model_sight (i := 48) rfl) rfl ?_
                refine z_iconst (v := 1) hX (D_Model_sight (i := 49) rfl) (by decide) ?_
                refine z_iload hX (D_Model_sight (i := 50) rfl) rfl ?_
                refine z_ishl hX (D_Model_sight (i := 51) rfl) ?_
                refine z_ior hX (D_Model_sight (i := 52) rfl) ?_
                refine z_istore_n hX (D_Model_sight (i := 53) rfl) (by decide) rfl ?_
                first | refine z_inc1 hX (D_Model_sight (i := 54) rfl) rfl (by decide) rfl ?_ | refine z_iinc hX (D_Model_sight (i := 54) rfl) rfl rfl (by decide) rfl ?_
                refine z_goto (tgt := 68) hX (D_Model_sight (i := 55) rfl) (by decide) ?_
                have e : mkI (fun k => decide (¬ mkI (tsC (cv mem) k (nI j)) 24 = 0)) (i + 1) = mkI (fun k => decide (¬ mkI (tsC (cv mem) k (nI j)) 24 = 0)) i ||| ((1 : Int32) <<< (nI i &&& 31)) := by
                  rw [mkI, if_pos (decide_eq_true h7)]
                rw [← e]
                exact ih (i + 1) (by omega)
          · refine z_aload_n hX (D_Model_sight (i := 22) rfl) rfl ?_
            refine z_iload_n hX (D_Model_sight (i := 23) rfl) rfl ?_
            refine z_cV1 hX (D_Model_sight (i := 24) rfl) mi_Model_isCube l_Model_106 rfl rfl (by decide) (by first | exact Nat.one_pos | assumption | omega) (by first | decide | omega) (Nat.le_of_ble_eq_true rfl) (d_isCube hH hs h8 ?_)
            refine z_if_ne (tgt := 52) hX (D_Model_sight (i := 25) rfl) (by decide) (fun h6 => ?_) (fun h6 => ?_)
            · skip
              obtain ⟨k, hk, rfl⟩ := inN_ex (bI_n.mp h6) (by omega)
              refine z_iload_n hX (D_Model_sight (i := 28) rfl) rfl ?_
              refine z_if_lt (tgt := 63) hX (D_Model_sight (i := 29) rfl) (by decide) (fun hcc => absurd hcc (nI_pos (by omega))) (fun _ => ?_)
              refine z_aload_n hX (D_Model_sight (i := 30) rfl) rfl ?_
              refine z_iload_n hX (D_Model_sight (i := 31) rfl) rfl ?_
              refine z_iload_n hX (D_Model_sight (i := 32) rfl) rfl ?_
              refine z_cV2 hX (D_Model_sight (i := 33) rfl) mi_Model_sightOf l_Model_327 rfl rfl (by decide) (by first | exact Nat.one_pos | assumption | omega) (by first | decide | omega) (Nat.le_of_ble_eq_true rfl) (d_sightOf hH hA (by omega) ?_)
              exact z_iret hX hR (D_Model_sight (i := 34) rfl) rfl (hok j k hj rfl ok hk rfl)
            · refine z_iconst (v := -1) hX (D_Model_sight (i := 26) rfl) (by decide) ?_
              exact z_iret hX hR (D_Model_sight (i := 27) rfl) rfl (hno (Or.inr (Or.inr ⟨bI_0.mp h6, h5⟩)))
theorem d_isOf (hH : zHas ι pM) {k f : Nat} {c : Int32} (hk : k < 8) (hf : f < 6) (h : Post (some (zI (bI (ofC (cv mem) k f c)))) mem) : zC l ι M_Model_isOf 0 [zP 40 0, zI (nI k), zI (nI f), zI c] mem Post := by
  refine z_enter hH (by decide) (by simp [z_ent, M_Model_isOf]) (fun X hXl hX hR => ?_)
  refine z_aload_n hX (D_Model_isOf (i := 0) rfl) rfl ?_
  refine z_getc hX (D_Model_isOf (i := 1) rfl) f_Model_7 rfl (by decide) (by first | exact Nat.one_pos | assumption | omega) rfl ?_
  refine z_bipush (v := 6) hX (D_Model_isOf (i := 2) rfl) (by decide) ?_
  refine z_iload_n hX (D_Model_isOf (i := 3) rfl) rfl ?_
  refine z_imul hX (D_Model_isOf (i := 4) rfl) ?_
  refine z_iload_n hX (D_Model_isOf (i := 5) rfl) rfl ?_
  refine z_iadd hX (D_Model_isOf (i := 6) rfl) ?_
  refine z_iald (j := 6 * k + f) hX (D_Model_isOf (i := 7) rfl) rfl (by decide) (by first | exact Nat.one_pos | assumption | omega) (by decide) (by first | (simp only [nlit, nI_add, pk_mul]; done) | rfl) (by omega) ?_
  refine z_iload_n hX (D_Model_isOf (i := 8) rfl) rfl ?_
  refine z_icmp_eq (tgt := 31) hX (D_Model_isOf (i := 9) rfl) (by decide) (fun h1 => ?_) (fun h1 => ?_)
  · refine z_iconst (v := 1) hX (D_Model_isOf (i := 20) rfl) (by decide) ?_
    refine z_goto (tgt := 36) hX (D_Model_isOf (i := 21) rfl) (by decide) ?_
    rw [show ofC (cv mem) k f c = true from decide_eq_true (Or.inl h1)] at h
    exact z_zret hX hR (D_Model_isOf (i := 23) rfl) rfl (by first | exact Or.inl rfl | exact Or.inr rfl | assumption) (by assumption)
  · refine z_aload_n hX (D_Model_isOf (i := 10) rfl) rfl ?_
    refine z_getc hX (D_Model_isOf (i := 11) rfl) f_Model_7 rfl (by decide) (by first | exact Nat.one_pos | assumption | omega) rfl ?_
    refine z_bipush (v := 6) hX (D_Model_isOf (i := 12) rfl) (by decide) ?_
    refine z_iload_n hX (D_Model_isOf (i := 13) rfl) rfl ?_
    refine z_imul hX (D_Model_isOf (i := 14) rfl) ?_
    refine z_iload_n hX (D_Model_isOf (i := 15) rfl) rfl ?_
    refine z_iadd hX (D_Model_isOf (i := 16) rfl) ?_
    refine z_iald (j := 6 * k + f) hX (D_Model_isOf (i := 17) rfl) rfl (by decide) (by first | exact Nat.one_pos | assumption | omega) (by decide) (by first | (simp only [nlit, nI_add, pk_mul]; done) | rfl) (by omega) ?_
    refine z_bipush (v := 6) hX (D_Model_isOf (i := 18) rfl) (by decide) ?_
    refine z_icmp_ne (tgt := 35) hX (D_Model_isOf (i := 19) rfl) (by decide) (fun h2 => ?_) (fun h2 => ?_)
    · refine z_iconst (v := 0) hX (D_Model_isOf (i := 22) rfl) (by decide) ?_
      rw [show ofC (cv mem) k f c = false from decide_eq_false (fun z => z.elim h1 h2)] at h
      exact z_zret hX hR (D_Model_isOf (i := 23) rfl) rfl (by first | exact Or.inl rfl | exact Or.inr rfl | assumption) (by assumption)
    · refine z_iconst (v := 1) hX (D_Model_isOf (i := 20) rfl) (by decide) ?_
      refine z_goto (tgt := 36) hX (D_Model_isOf (i := 21) rfl) (by decide) ?_
      rw [show ofC (cv mem) k f c = true from decide_eq_true (Or.inr h2)] at h
      exact z_zret hX hR (D_Model_isOf (i := 23) rfl) rfl (by first | exact Or.inl rfl | exact Or.inr rfl | assumption) (by assumption)
theorem cr3 (mem : zM) (k : Nat) (c : Int32) : alI (crC mem k c) 3 = (((ofC mem k 0 c || ofC mem k 2 c) && (ofC mem k 1 c || ofC mem k 3 c)) && (ofC mem k 4 c || ofC mem k 5 c)) := by
  have f0 : edN 0 = 0 := by decide
  have f1 : edN 1 = 1 := by decide
  have f2 : edN 2 = 4 := by decide
  have g0 : opN 0 = 2 := by decide +kernel
  have g1 : opN 1 = 3 := by decide +kernel
  have g4 : opN 4 = 5 := by decide +kernel
  simp only [alI, crC, f0, f1, f2, g0, g1, g4, Bool.true_and]
theorem d_isGreat (hH : zHas ι pM) {k : Nat} {c : Int32} (hk : k < 8) (h : Post (some (zI (bI (alI (crC (cv mem) k c) 3)))) mem) : zC l ι M_Model_isGreat 1 [zP 40 0, zI (nI k), zI c] mem Post := by
  rw [cr3] at h
  refine z_enter hH (by decide) (by simp [z_ent, M_Model_isGreat]) (fun X hXl hX hR => ?_)
  have no : (((ofC (cv mem) k 0 c || ofC (cv mem) k 2 c) && (ofC (cv mem) k 1 c || ofC (cv mem) k 3 c)) && (ofC (cv mem) k 4 c || ofC (cv mem) k 5 c)) = false → zW ι M_Model_isGreat X 64 [some (zP 40 0), some (zI (nI k)), some (zI c)] [] mem := by
    intro hn
    rw [hn] at h
    refine z_iconst (v := 0) hX (D_Model_isGreat (i := 38) rfl) (by decide) ?_
    exact z_zret hX hR (D_Model_isGreat (i := 39) rfl) rfl (by first | exact Or.inl rfl | exact Or.inr rfl | assumption) (by assumption)
  have p3 : (ofC (cv mem) k 0 c || ofC (cv mem) k 2 c) = true → (ofC (cv mem) k 1 c || ofC (cv mem) k 3 c) = true → zW ι M_Model_isGreat X 40 [some (zP 40 0), some (zI (nI k)), some (zI c)] [] mem := by
    intro q1 q2
    rw [q1, q2] at no h
    refine z_aload_n hX (D_Model_isGreat (i := 24) rfl) rfl ?_
    refine z_iload_n hX (D_Model_isGreat (i := 25) rfl) rfl ?_
    refine z_iconst (v := 4) hX (D_Model_isGreat (i := 26) rfl) (by decide) ?_
    refine z_iload_n hX (D_Model_isGreat (i := 27) rfl) rfl ?_
    refine z_cV3 hX (D_Model_isGreat (i := 28) rfl) mi_Model_isOf l_Model_339 rfl rfl (by decide) (by first | exact Nat.one_pos | assumption | omega) (by first | decide | omega) (Nat.le_of_ble_eq_true rfl) (d_isOf (f := 4) hH hk (by decide) ?_)
    refine z_if_ne (tgt := 60) hX (D_Model_isGreat (i := 29) rfl) (by decide) (fun h1 => ?_) (fun h1 => ?_)
    · refine z_iconst (v := 1) hX (D_Model_isGreat (i := 36) rfl) (by decide) ?_
      refine z_goto (tgt := 65) hX (D_Model_isGreat (i := 37) rfl) (by decide) ?_
      rw [bI_n.mp h1] at h
      exact z_zret hX hR (D_Model_isGreat (i := 39) rfl) rfl (by first | exact Or.inl rfl | exact Or.inr rfl | assumption) (by assumption)
    · refine z_aload_n hX (D_Model_isGreat (i := 30) rfl) rfl ?_
      refine z_iload_n hX (D_Model_isGreat (i := 31) rfl) rfl ?_
      refine z_iconst (v := 5) hX (D_Model_isGreat (i := 32) rfl) (by decide) ?_
      refine z_iload_n hX (D_Model_isGreat (i := 33) rfl) rfl ?_
      refine z_cV3 hX (D_Model_isGreat (i := 34) rfl) mi_Model_isOf l_Model_339 rfl rfl (by decide) (by first | exact Nat.one_pos | assumption | omega) (by first | decide | omega) (Nat.le_of_ble_eq_true rfl) (d_isOf (f := 5) hH hk (by decide) ?_)
      refine z_if_eq (tgt := 64) hX (D_Model_isGreat (i := 35) rfl) (by decide) (fun h2 => ?_) (fun h2 => ?_)
      · skip
        exact no (by rw [bI_0.mp h1, bI_0.mp h2]; rfl)
      · refine z_iconst (v := 1) hX (D_Model_isGreat (i := 36) rfl) (by decide) ?_
        refine z_goto (tgt := 65) hX (D_Model_isGreat (i := 37) rfl) (by decide) ?_
        rw [bI_n.mp h2] at h
        simp only [Bool.or_true, Bool.and_true] at h
        exact z_zret hX hR (D_Model_isGreat (i := 39) rfl) rfl (by first | exact Or.inl rfl | exact Or.inr rfl | assumption) (by assumption)
  have p2 : (ofC (cv mem) k 0 c || ofC (cv mem) k 2 c) = true → zW ι M_Model_isGreat X 20 [some (zP 40 0), some (zI (nI k)), some (zI c)] [] mem := by
    intro q1
    refine z_aload_n hX (D_Model_isGreat (i := 12) rfl) rfl ?_
    refine z_iload_n hX (D_Model_isGreat (i := 13) rfl) rfl ?_
    refine z_iconst (v := 1) hX (D_Model_isGreat (i := 14) rfl) (by decide) ?_
    refine z_iload_n hX (D_Model_isGreat (i := 15) rfl) rfl ?_
    refine z_cV3 hX (D_Model_isGreat (i := 16) rfl) mi_Model_isOf l_Model_339 rfl rfl (by decide) (by first | exact Nat.one_pos | assumption | omega) (by first | decide | omega) (Nat.le_of_ble_eq_true rfl) (d_isOf (f := 1) hH hk (by decide) ?_)
    refine z_if_ne (tgt := 40) hX (D_Model_isGreat (i := 17) rfl) (by decide) (fun h1 => ?_) (fun h1 => ?_)
    · skip
      exact p3 q1 (by rw [bI_n.mp h1]; rfl)
    · refine z_aload_n hX (D_Model_isGreat (i := 18) rfl) rfl ?_
      refine z_iload_n hX (D_Model_isGreat (i := 19) rfl) rfl ?_
      refine z_iconst (v := 3) hX (D_Model_isGreat (i := 20) rfl) (by decide) ?_
      refine z_iload_n hX (D_Model_isGreat (i := 21) rfl) rfl ?_
      refine z_cV3 hX (D_Model_isGreat (i := 22) rfl) mi_Model_isOf l_Model_339 rfl rfl (by decide) (by first | exact Nat.one_pos | assumption | omega) (by first | decide | omega) (Nat.le_of_ble_eq_true rfl) (d_isOf (f := 3) hH hk (by decide) ?_)
      refine z_if_eq (tgt := 64) hX (D_Model_isGreat (i := 23) rfl) (by decide) (fun h2 => ?_) (fun h2 => ?_)
      · skip
        exact no (by rw [bI_0.mp h1, bI_0.mp h2]; simp)
      · skip
        exact p3 q1 (by rw [bI_n.mp h2]; simp)
  refine z_aload_n hX (D_Model_isGreat (i := 0) rfl) rfl ?_
  refine z_iload_n hX (D_Model_isGreat (i := 1) rfl) rfl ?_
  refine z_iconst (v := 0) hX (D_Model_isGreat (i := 2) rfl) (by decide) ?_
  refine z_iload_n hX (D_Model_isGreat (i := 3) rfl) rfl ?_
  refine z_cV3 hX (D_Model_isGreat (i := 4) rfl) mi_Model_isOf l_Model_339 rfl rfl (by decide) (by first | exact Nat.one_pos | assumption | omega) (by first | decide | omega) (Nat.le_of_ble_eq_true rfl) (d_isOf (f := 0) hH hk (by decide) ?_)
  refine z_if_ne (tgt := 20) hX (D_Model_isGreat (i := 5) rfl) (by decide) (fun h1 => ?_) (fun h1 => ?_)
  · skip
    exact p2 (by rw [bI_n.mp h1]; rfl)
  · refine z_aload_n hX (D_Model_isGreat (i := 6) rfl) rfl ?_
    refine z_iload_n hX (D_Model_isGreat (i := 7) rfl) rfl ?_
    refine z_iconst (v := 2) hX (D_Model_isGreat (i := 8) rfl) (by decide) ?_
    refine z_iload_n hX (D_Model_isGreat (i := 9) rfl) rfl ?_
    refine z_cV3 hX (D_Model_isGreat (i := 10) rfl) mi_Model_isOf l_Model_339 rfl rfl (by decide) (by first | exact Nat.one_pos | assumption | omega) (by first | decide | omega) (Nat.le_of_ble_eq_true rfl) (d_isOf (f := 2) hH hk (by decide) ?_)
    refine z_if_eq (tgt := 64) hX (D_Model_isGreat (i := 11) rfl) (by decide) (fun h2 => ?_) (fun h2 => ?_)
    · skip
      exact no (by rw [bI_0.mp h1, bI_0.mp h2]; simp)
    · skip
      exact p2 (by rw [bI_n.mp h2]; simp)
theorem d_great (hH : zHas ι pM) (hs : mem.1 40 0 1 = nI sz) (h8 : sz ≤ 8) (hno : inN x 6 = false → Post (some (zI (-1))) mem) (hok : inN x 6 = true → Post (some (zI (mkI (fun k => alI (crC (cv mem) k x) 3) sz))) mem) : zC l ι M_Model_great 2 [zP 40 0, zI x] mem Post := by
  refine z_enter hH (by decide) (by simp [z_ent, M_Model_great]) (fun X hXl hX hR => ?_)
  refine z_iload_n hX (D_Model_great (i := 0) rfl) rfl ?_
  refine z_cS1 hX (D_Model_great (i := 1) rfl) ms_Model_isColour l_Model_324 (by first | decide | omega) (Nat.le_of_ble_eq_true rfl) (d_isColour ?_)
  refine z_if_ne (tgt := 9) hX (D_Model_great (i := 2) rfl) (by decide) (fun h1 => ?_) (fun h1 => ?_)
  · skip
    have hh := hok (bI_n.mp h1)
    refine z_iconst (v := 0) hX (D_Model_great (i := 5) rfl) (by decide) ?_
    refine z_istore_n hX (D_Model_great (i := 6) rfl) (by decide) rfl ?_
    refine z_iconst (v := 0) hX (D_Model_great (i := 7) rfl) (by decide) ?_
    refine z_istore_n hX (D_Model_great (i := 8) rfl) (by decide) rfl ?_
    suffices H : ∀ (d i : Nat), i + d = sz → zW ι M_Model_great X 13 [some (zP 40 0), some (zI x), some (zI (mkI (fun k => alI (crC (cv mem) k x) 3) i)), some (zI (nI i))] [] mem from H sz 0 (by omega)
    intro d
    induction d with
    | zero =>
      intro i hi
      obtain rfl : i = sz := by omega
      refine z_iload_n hX (D_Model_great (i := 9) rfl) rfl ?_
      refine z_aload_n hX (D_Model_great (i := 10) rfl) rfl ?_
      refine z_geti hX (D_Model_great (i := 11) rfl) f_Model_99 rfl (by decide) (by first | exact Nat.one_pos | assumption | omega) rfl ?_
      rw [hs]
      refine z_icmp_ge (tgt := 42) hX (D_Model_great (i := 12) rfl) (by decide) (fun _ => ?_) (fun hcc => absurd (Int32.le_refl _) hcc)
      refine z_iload_n hX (D_Model_great (i := 26) rfl) rfl ?_
      exact z_iret hX hR (D_Model_great (i := 27) rfl) rfl hh
    | succ d ih =>
      intro i hi
      refine z_iload_n hX (D_Model_great (i := 9) rfl) rfl ?_
      refine z_aload_n hX (D_Model_great (i := 10) rfl) rfl ?_
      refine z_geti hX (D_Model_great (i := 11) rfl) f_Model_99 rfl (by decide) (by first | exact Nat.one_pos | assumption | omega) rfl ?_
      rw [hs]
      refine z_icmp_ge (tgt := 42) hX (D_Model_great (i := 12) rfl) (by decide) (fun hcc => absurd hcc (nI_ge (by omega) (by omega))) (fun _ => ?_)
      refine z_aload_n hX (D_Model_great (i := 13) rfl) rfl ?_
      refine z_iload_n hX (D_Model_great (i := 14) rfl) rfl ?_
      refine z_iload_n hX (D_Model_great (i := 15) rfl) rfl ?_
      refine z_cV2 hX (D_Model_great (i := 16) rfl) mi_Model_isGreat l_Model_342 rfl rfl (by decide) (by first | exact Nat.one_pos | assumption | omega) (by first | decide | omega) (Nat.le_of_ble_eq_true rfl) (d_isGreat hH (by omega) ?_)
      refine z_if_eq (tgt := 36) hX (D_Model_great (i := 17) rfl) (by decide) (fun h3 => ?_) (fun h3 => ?_)
      · first | refine z_inc1 hX (D_Model_great (i := 24) rfl) rfl (by decide) rfl ?_ | refine z_iinc hX (D_Model_great (i := 24) rfl) rfl rfl (by decide) rfl ?_
        refine z_goto (tgt := 13) hX (D_Model_great (i := 25) rfl) (by decide) ?_
        have e : mkI (fun k => alI (crC (cv mem) k x) 3) (i + 1) = mkI (fun k => alI (crC (cv mem) k x) 3) i := by
          rw [mkI, if_neg]
          rw [bI_0.mp h3]; decide
        rw [← e]
        exact ih (i + 1) (by omega)
      · refine z_iload_n hX (D_Model_great (i := 18) rfl) rfl ?_
        refine z_iconst (v := 1) hX (D_Model_great (i := 19) rfl) (by decide) ?_
        refine z_iload_n hX (D_Model_great (i := 20) rfl) rfl ?_
        refine z_ishl hX (D_Model_great (i := 21) rfl) ?_
        refine z_ior hX (D_Model_great (i := 22) rfl) ?_
        refine z_istore_n hX (D_Model_great (i := 23) rfl) (by decide) rfl ?_
        first | refine z_inc1 hX (D_Model_great (i := 24) rfl) rfl (by decide) rfl ?_ | refine z_iinc hX (D_Model_great (i := 24) rfl) rfl rfl (by decide) rfl ?_
        refine z_goto (tgt := 13) hX (D_Model_great (i := 25) rfl) (by decide) ?_
        have e : mkI (fun k => alI (crC (cv mem) k x) 3) (i + 1) = mkI (fun k => alI (crC (cv mem) k x) 3) i ||| ((1 : Int32) <<< (nI i &&& 31)) := by
          rw [mkI, if_pos (bI_n.mp h3)]
        rw [← e]
        exact ih (i + 1) (by omega)
  · refine z_iconst (v := -1) hX (D_Model_great (i := 3) rfl) (by decide) ?_
    exact z_iret hX hR (D_Model_great (i := 4) rfl) rfl (hno (bI_0.mp h1))
end G2
