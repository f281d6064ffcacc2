/-! cubes from a row; bits counted; the box -/
section F9
variable {l : Launch} {ι : zE} {mem : zM} {Post : Option zV → zM → Prop} {x y z : Int32} {sz nb : Nat}
def csP (mem : zM) (s : Nat) (x : Int32) (c e : Nat) : Int32 := (mem.2.1 32 s ((x + nI (6 * c)).toInt.toNat + e)).toInt32
def csM (mem : zM) (sz s : Nat) (x : Int32) (c : Nat) : zM := (fun a b e => if a = 3 ∧ sz ≤ b ∧ b < sz + c ∧ e < 6 then csP mem s x (b - sz) e else if a = 0 ∧ b = 0 ∧ e = 1 then nI (sz + c) else mem.1 a b e, mem.2)
def ciM (mem : zM) (sz s : Nat) (x : Int32) (c g : Nat) : zM := (fun a b e => if a = 3 ∧ b = sz + c ∧ e < g then csP mem s x c e else (csM mem sz s x c).1 a b e, mem.2)
theorem csM_0 {mem : zM} {sz s : Nat} {x : Int32} (hs : mem.1 0 0 1 = nI sz) : csM mem sz s x 0 = mem := by
  refine Prod.ext ?_ rfl
  funext a b e
  show (if a = 3 ∧ sz ≤ b ∧ b < sz + 0 ∧ e < 6 then csP mem s x (b - sz) e else if a = 0 ∧ b = 0 ∧ e = 1 then nI (sz + 0) else mem.1 a b e) = mem.1 a b e
  rw [if_neg (by omega)]
  split
  · next h => rw [h.1, h.2.1, h.2.2, hs]; rfl
  · rfl
theorem ciM_0 (mem : zM) (sz s : Nat) (x : Int32) (c : Nat) : ciM mem sz s x c 0 = csM mem sz s x c := by
  refine Prod.ext ?_ rfl
  funext a b e
  show (if a = 3 ∧ b = sz + c ∧ e < 0 then csP mem s x c e else (csM mem sz s x c).1 a b e) = _
  rw [if_neg (by omega)]
theorem ciM_s (mem : zM) (sz s : Nat) (x : Int32) (c g : Nat) : upI (ciM mem sz s x c g) 3 (sz + c) g (csP mem s x c g) = ciM mem sz s x c (g + 1) := by
  refine Prod.ext ?_ rfl
  funext a b e
  rw [upI_get]
  show (if a = 3 ∧ b = sz + c ∧ e = g then csP mem s x c g else (if a = 3 ∧ b = sz + c ∧ e < g then csP mem s x c e else (csM mem sz s x c).1 a b e)) = (if a = 3 ∧ b = sz + c ∧ e < g + 1 then csP mem s x c e else (csM mem sz s x c).1 a b e)
  by_cases h : a = 3 ∧ b = sz + c ∧ e < g + 1
  · rw [if_pos h]
    by_cases h2 : e = g
    · rw [if_pos ⟨h.1, h.2.1, h2⟩, h2]
    · rw [if_neg (fun w => h2 w.2.2), if_pos ⟨h.1, h.2.1, by omega⟩]
  · rw [if_neg h, if_neg (fun w => h ⟨w.1, w.2.1, by omega⟩), if_neg (fun w => h ⟨w.1, w.2.1, by omega⟩)]
theorem ciM_6 (mem : zM) (sz s : Nat) (x : Int32) (c : Nat) : upI (ciM mem sz s x c 6) 0 0 1 (nI (sz + c + 1)) = csM mem sz s x (c + 1) := by
  refine Prod.ext ?_ rfl
  funext a b e
  rw [upI_get]
  show (if a = 0 ∧ b = 0 ∧ e = 1 then nI (sz + c + 1) else (if a = 3 ∧ b = sz + c ∧ e < 6 then csP mem s x c e else (if a = 3 ∧ sz ≤ b ∧ b < sz + c ∧ e < 6 then csP mem s x (b - sz) e else if a = 0 ∧ b = 0 ∧ e = 1 then nI (sz + c) else mem.1 a b e))) = (if a = 3 ∧ sz ≤ b ∧ b < sz + (c + 1) ∧ e < 6 then csP mem s x (b - sz) e else if a = 0 ∧ b = 0 ∧ e = 1 then nI (sz + (c + 1)) else mem.1 a b e)
  by_cases h0 : a = 0 ∧ b = 0 ∧ e = 1
  · rw [if_pos h0, if_neg (by omega), if_pos h0]; rfl
  · rw [if_neg h0]
    by_cases h1 : a = 3 ∧ b = sz + c ∧ e < 6
    · rw [if_pos h1, if_pos ⟨h1.1, by omega, by omega, h1.2.2⟩, show b - sz = c by omega]
    · rw [if_neg h1]
      by_cases h2 : a = 3 ∧ sz ≤ b ∧ b < sz + c ∧ e < 6
      · rw [if_pos h2, if_pos ⟨h2.1, h2.2.1, by omega, h2.2.2.2⟩]
      · rw [if_neg h2, if_neg h0, if_neg (fun w => ?_)]
        · rw [if_neg h0]
        · by_cases h3 : b = sz + c
          · exact h1 ⟨w.1, h3, w.2.2.2⟩
          · exact h2 ⟨w.1, w.2.1, by omega, w.2.2.2⟩
def csB (mem : zM) (sz s L n : Nat) (x : Int32) (t : Nat) : Bool := decide (t < n) && (decide (sz + t < 8) && (hsB L (x + nI (6 * t)) 6 && alI (elB mem s (x + nI (6 * t)).toInt.toNat) 6))
theorem c_Four_cubes_loop (hH : zHas ι pX) {X : zX} (hX : zG ι M_Four_cubes X 3 pX) (hR : zRt ι X Post) (hs : mem.1 0 0 1 = nI sz) (h8 : sz ≤ 8) {s L n : Nat} (hs6 : s < 6) (hL : mem.1 31 s 3 = nI L) (h60 : L ≤ 60) (hn : n ≤ 8) {a1 : zV} (h : ∀ c, (∀ t, t < c → csB mem sz s L n x t = true) → csB mem sz s L n x c = false → Post (some (zI (nI c))) (csM mem sz s x c)) : zW ι M_Four_cubes X 60 [some (zP 0 0), some a1, some (zI x), some (zI (nI n)), some (zP 31 s), some (zI (nI 0)), none] [] mem := by
  suffices H : ∀ (d c : Nat) (v6 : Option zV), c + d = n → (∀ t, t < c → csB mem sz s L n x t = true) → zW ι M_Four_cubes X 60 [some (zP 0 0), some a1, some (zI x), some (zI (nI n)), some (zP 31 s), some (zI (nI c)), v6] [] (csM mem sz s x c) by
    have := H n 0 none (by omega) (fun _ h => absurd h (Nat.not_lt_zero _))
    rw [csM_0 hs] at this
    exact this
  intro d
  induction d with
  | zero =>
    intro c v6 hc hinv
    obtain rfl : c = n := by omega
    have hh := h c hinv (by unfold csB; rw [decide_eq_false (by omega)]; rfl)
    refine z_iload hX (D_Four_cubes (i := 31) rfl) rfl ?_
    refine z_iload_n hX (D_Four_cubes (i := 32) rfl) rfl ?_
    refine z_icmp_ge (tgt := 154) hX (D_Four_cubes (i := 33) rfl) (by decide) (fun _ => ?_) (fun hcc => absurd (Int32.le_refl _) hcc)
    refine z_iload hX (D_Four_cubes (i := 80) rfl) rfl ?_
    exact z_iret hX hR (D_Four_cubes (i := 81) rfl) rfl hh
  | succ d ih =>
    intro c v6 hc hinv
    have g1 : (csM mem sz s x c).1 0 0 1 = nI (sz + c) := by simp [csM]
    have gL : (csM mem sz s x c).1 31 s 3 = nI L := by simp [csM, hL]
    have el : ∀ w i, elB (csM mem sz s x c) s w i = elB mem s w i := fun _ _ => rfl
    have q6 : (6 : Int32) * nI c = nI (6 * c) := pk_mul 6 c
    have c8 : sz + c ≤ 8 := by
      by_cases hc0 : c = 0
      · omega
      · have a := hinv (c - 1) (by omega)
        unfold csB at a
        rw [Bool.and_eq_true, Bool.and_eq_true] at a
        have := of_decide_eq_true a.2.1
        omega
    refine z_iload hX (D_Four_cubes (i := 31) rfl) rfl ?_
    refine z_iload_n hX (D_Four_cubes (i := 32) rfl) rfl ?_
    refine z_icmp_ge (tgt := 154) hX (D_Four_cubes (i := 33) rfl) (by decide) (fun hcc => absurd hcc (nI_ge (by omega) (by omega))) (fun _ => ?_)
    refine z_aload_n hX (D_Four_cubes (i := 34) rfl) rfl ?_
    refine z_geti hX (D_Four_cubes (i := 35) rfl) f_Four_67 rfl (by decide) (by first | exact Nat.one_pos | assumption | omega) rfl ?_
    refine z_bipush (v := 8) hX (D_Four_cubes (i := 36) rfl) (by decide) ?_
    rw [g1]
    refine z_icmp_ge (tgt := 154) hX (D_Four_cubes (i := 37) rfl) (by decide) (fun h1 => ?_) (fun h1 => ?_)
    · refine z_iload hX (D_Four_cubes (i := 80) rfl) rfl ?_
      refine z_iret hX hR (D_Four_cubes (i := 81) rfl) rfl (h c hinv ?_)
      have : ¬ sz + c < 8 := fun w => absurd h1 (nI_ge (b := 8) w (by decide))
      unfold csB
      rw [decide_eq_false this]; simp
    · refine z_aload hX (D_Four_cubes (i := 38) rfl) rfl ?_
      refine z_iload_n hX (D_Four_cubes (i := 39) rfl) rfl ?_
      refine z_bipush (v := 6) hX (D_Four_cubes (i := 40) rfl) (by decide) ?_
      refine z_iload hX (D_Four_cubes (i := 41) rfl) rfl ?_
      refine z_imul hX (D_Four_cubes (i := 42) rfl) ?_
      refine z_iadd hX (D_Four_cubes (i := 43) rfl) ?_
      have c7 : sz + c < 8 := Nat.not_le.mp (fun w => h1 (nI_le (a := 8) w (by omega)))
      rw [q6]
      refine z_cV1 hX (D_Four_cubes (i := 44) rfl) mi_Shelf_hasSixColours l_Four_88 rfl rfl (by decide) (by first | exact Nat.one_pos | assumption | omega) (by first | decide | omega) (Nat.le_of_ble_eq_true rfl) (c_Shelf_hasSixColours hH hs6 gL h60 ?_)
      have e0 : csB mem sz s L n x c = (hsB L (x + nI (6 * c)) 6 && alI (elB mem s (x + nI (6 * c)).toInt.toNat) 6) := by
        unfold csB
        rw [decide_eq_true (show c < n by omega), decide_eq_true c7]; rfl
      rw [show alI (elB (csM mem sz s x c) s (x + nI (6 * c)).toInt.toNat) 6 = alI (elB mem s (x + nI (6 * c)).toInt.toNat) 6 from rfl, ← e0]
      refine z_if_eq (tgt := 154) hX (D_Four_cubes (i := 45) rfl) (by decide) (fun h2 => ?_) (fun h2 => ?_)
      · refine z_iload hX (D_Four_cubes (i := 80) rfl) rfl ?_
        exact z_iret hX hR (D_Four_cubes (i := 81) rfl) rfl (h c hinv (bI_0.mp h2))
      · skip
        have h3 := bI_n.mp h2
        have h4 := h3
        rw [e0, Bool.and_eq_true] at h4
        have h5 := of_decide_eq_true h4.1
        have e6 : (6 : Int32).toInt = 6 := rfl
        rw [e6] at h5
        obtain ⟨j, hj, hx⟩ : ∃ j : Nat, j + 6 ≤ L ∧ x + nI (6 * c) = nI j := ⟨(x + nI (6 * c)).toInt.toNat, by omega, Int32.toInt_inj.mp (by rw [nI_toInt (by omega)]; omega)⟩
        have hjj : (x + nI (6 * c)).toInt.toNat = j := by rw [hx, nI_toInt (by omega)]; rfl
        refine z_iconst (v := 0) hX (D_Four_cubes (i := 46) rfl) (by decide) ?_
        refine z_istore hX (D_Four_cubes (i := 47) rfl) (by decide) rfl ?_
        rw [← ciM_0]
        suffices HI : ∀ (d2 g : Nat), g + d2 = 6 → zW ι M_Four_cubes X 93 [some (zP 0 0), some a1, some (zI x), some (zI (nI n)), some (zP 31 s), some (zI (nI c)), some (zI (nI g))] [] (ciM mem sz s x c g) from HI 6 0 rfl
        intro d2
        induction d2 with
        | zero =>
          intro g hg
          obtain rfl : g = 6 := by omega
          refine z_iload hX (D_Four_cubes (i := 48) rfl) rfl ?_
          refine z_bipush (v := 6) hX (D_Four_cubes (i := 49) rfl) (by decide) ?_
          refine z_icmp_ge (tgt := 138) hX (D_Four_cubes (i := 50) rfl) (by decide) (fun _ => ?_) (fun hcc => absurd (Int32.le_refl _) hcc)
          refine z_aload_n hX (D_Four_cubes (i := 72) rfl) rfl ?_
          refine z_dupP hX (D_Four_cubes (i := 73) rfl) ?_
          refine z_geti hX (D_Four_cubes (i := 74) rfl) f_Four_67 rfl (by decide) (by first | exact Nat.one_pos | assumption | omega) rfl ?_
          rw [show (ciM mem sz s x c 6).1 0 0 1 = nI (sz + c) by simp [ciM, csM]]
          refine z_iconst (v := 1) hX (D_Four_cubes (i := 75) rfl) (by decide) ?_
          refine z_iadd hX (D_Four_cubes (i := 76) rfl) ?_
          rw [nlit, nI_add]
          refine z_puti hX (D_Four_cubes (i := 77) rfl) g_Four_67 rfl (by decide) (by first | exact Nat.one_pos | assumption | omega) rfl ?_
          rw [ciM_6]
          first | refine z_inc1 hX (D_Four_cubes (i := 78) rfl) rfl (by decide) rfl ?_ | refine z_iinc hX (D_Four_cubes (i := 78) rfl) rfl rfl (by decide) rfl ?_
          refine z_goto (tgt := 60) hX (D_Four_cubes (i := 79) rfl) (by decide) ?_
          exact ih (c + 1) _ (by omega) (fun t ht => if e : t = c then by subst e; exact h3 else hinv t (by omega))
        | succ d2 ih2 =>
          intro g hg
          refine z_iload hX (D_Four_cubes (i := 48) rfl) rfl ?_
          refine z_bipush (v := 6) hX (D_Four_cubes (i := 49) rfl) (by decide) ?_
          refine z_icmp_ge (tgt := 138) hX (D_Four_cubes (i := 50) rfl) (by decide) (fun hcc => absurd hcc (nI_ge (b := 6) (by omega) (by decide))) (fun _ => ?_)
          refine z_aload_n hX (D_Four_cubes (i := 51) rfl) rfl ?_
          refine z_getc hX (D_Four_cubes (i := 52) rfl) f_Four_11 rfl (by decide) (by first | exact Nat.one_pos | assumption | omega) rfl ?_
          refine z_aload_n hX (D_Four_cubes (i := 53) rfl) rfl ?_
          refine z_geti hX (D_Four_cubes (i := 54) rfl) f_Four_67 rfl (by decide) (by first | exact Nat.one_pos | assumption | omega) rfl ?_
          rw [show (ciM mem sz s x c g).1 0 0 1 = nI (sz + c) by simp [ciM, csM]]
          refine z_aldCubec (j := sz + c) hX (D_Four_cubes (i := 55) rfl) rfl (by decide) (by first | exact Nat.one_pos | assumption | omega) (by decide) rfl c7 ?_
          refine z_getc hX (D_Four_cubes (i := 56) rfl) f_Four_71 rfl (by decide) (by first | exact Nat.one_pos | assumption | omega) rfl ?_
          refine z_iload hX (D_Four_cubes (i := 57) rfl) rfl ?_
          refine z_aload hX (D_Four_cubes (i := 58) rfl) rfl ?_
          refine z_getc hX (D_Four_cubes (i := 59) rfl) f_Four_91 rfl (by decide) (by first | exact Nat.one_pos | assumption | omega) rfl ?_
          refine z_iload_n hX (D_Four_cubes (i := 60) rfl) rfl ?_
          refine z_bipush (v := 6) hX (D_Four_cubes (i := 61) rfl) (by decide) ?_
          refine z_iload hX (D_Four_cubes (i := 62) rfl) rfl ?_
          refine z_imul hX (D_Four_cubes (i := 63) rfl) ?_
          refine z_iadd hX (D_Four_cubes (i := 64) rfl) ?_
          refine z_iload hX (D_Four_cubes (i := 65) rfl) rfl ?_
          refine z_iadd hX (D_Four_cubes (i := 66) rfl) ?_
          rw [q6, hx, nI_add]
          refine z_lald (j := j + g) hX (D_Four_cubes (i := 67) rfl) rfl (by decide) (by first | exact Nat.one_pos | assumption | omega) (by decide) rfl (by omega) ?_
          refine z_l2i hX (D_Four_cubes (i := 68) rfl) ?_
          rw [show ((ciM mem sz s x c g).2.1 32 s (j + g)).toInt32 = csP mem s x c g by unfold csP; rw [hjj]; rfl]
          refine z_iast (j := g) hX (D_Four_cubes (i := 69) rfl) rfl (by decide) (by first | exact Nat.one_pos | assumption | omega) (by decide) rfl (by omega) ?_
          rw [ciM_s]
          first | refine z_inc1 hX (D_Four_cubes (i := 70) rfl) rfl (by decide) rfl ?_ | refine z_iinc hX (D_Four_cubes (i := 70) rfl) rfl rfl (by decide) rfl ?_
          refine z_goto (tgt := 93) hX (D_Four_cubes (i := 71) rfl) (by decide) ?_
          exact ih2 (g + 1) (by omega)
theorem c_Four_cubes (hH : zHas ι pX) (hs : mem.1 0 0 1 = nI sz) (h8 : sz ≤ 8) (hS : ShOK mem) (hno : (inN x 6 = false ∨ z < 1 ∨ ¬ z ≤ 8) → Post (some (zI (-1))) mem) (hbare : ∀ k, k < 6 → x = nI k → ¬ z < 1 → z ≤ 8 → mem.1 31 k 0 = 0 → Post (some (zI 0)) mem) (hkind : ∀ k, k < 6 → x = nI k → ¬ z < 1 → z ≤ 8 → ¬ mem.1 31 k 0 = 0 → (¬ mem.1 31 k 0 = 2 ∨ ¬ mem.1 31 k 2 = 0) → Post (some (zI (-12))) mem) (hok : ∀ k L n c, k < 6 → x = nI k → n ≤ 8 → z = nI n → L ≤ 60 → mem.1 31 k 0 = 2 → mem.1 31 k 2 = 0 → mem.1 31 k 3 = nI L → (∀ t, t < c → csB mem sz k L n y t = true) → csB mem sz k L n y c = false → Post (some (zI (nI c))) (csM mem sz k y c)) : zC l ι M_Four_cubes 3 [zP 0 0, zI x, zI y, zI z] mem Post := by
  refine z_enter hH (by decide) (by simp [z_ent, M_Four_cubes]) (fun X hXl hX hR => ?_)
  refine z_iload_n hX (D_Four_cubes (i := 0) rfl) rfl ?_
  refine z_cS1 hX (D_Four_cubes (i := 1) rfl) ms_Four_isShelf l_Four_75 (by first | decide | omega) (Nat.le_of_ble_eq_true rfl) (c_Four_isShelf ?_)
  refine z_if_eq (tgt := 18) hX (D_Four_cubes (i := 2) rfl) (by decide) (fun h1 => ?_) (fun h1 => ?_)
  · refine z_iconst (v := -1) hX (D_Four_cubes (i := 9) rfl) (by decide) ?_
    exact z_iret hX hR (D_Four_cubes (i := 10) rfl) rfl (hno (Or.inl (bI_0.mp h1)))
  · refine z_iload_n hX (D_Four_cubes (i := 3) rfl) rfl ?_
    refine z_iconst (v := 1) hX (D_Four_cubes (i := 4) rfl) (by decide) ?_
    refine z_icmp_lt (tgt := 18) hX (D_Four_cubes (i := 5) rfl) (by decide) (fun h2 => ?_) (fun h2 => ?_)
    · refine z_iconst (v := -1) hX (D_Four_cubes (i := 9) rfl) (by decide) ?_
      exact z_iret hX hR (D_Four_cubes (i := 10) rfl) rfl (hno (Or.inr (Or.inl h2)))
    · refine z_iload_n hX (D_Four_cubes (i := 6) rfl) rfl ?_
      refine z_bipush (v := 8) hX (D_Four_cubes (i := 7) rfl) (by decide) ?_
      refine z_icmp_le (tgt := 20) hX (D_Four_cubes (i := 8) rfl) (by decide) (fun h3 => ?_) (fun h3 => ?_)
      · skip
        obtain ⟨k, hk, rfl⟩ := inN_ex (bI_n.mp h1) (by omega)
        obtain ⟨L, s, hL, h5, e3, e2⟩ := hS k hk
        have hz := h3
        obtain ⟨n, hn, hzn⟩ : ∃ n : Nat, n ≤ 8 ∧ z = nI n := by
          have a1 : ¬ z.toInt < (1 : Int32).toInt := fun w => h2 (Int32.lt_iff_toInt_lt.mpr w)
          have a2 := Int32.le_iff_toInt_le.mp h3
          have k1 : (1 : Int32).toInt = 1 := rfl
          have k8 : (8 : Int32).toInt = 8 := rfl
          exact ⟨z.toInt.toNat, by omega, Int32.toInt_inj.mp (by rw [nI_toInt (by omega)]; omega)⟩
        refine z_aload_n hX (D_Four_cubes (i := 11) rfl) rfl ?_
        refine z_getc hX (D_Four_cubes (i := 12) rfl) f_Four_58 rfl (by decide) (by first | exact Nat.one_pos | assumption | omega) rfl ?_
        refine z_iload_n hX (D_Four_cubes (i := 13) rfl) rfl ?_
        refine z_aldShelfc (j := k) hX (D_Four_cubes (i := 14) rfl) rfl (by decide) (by first | exact Nat.one_pos | assumption | omega) (by decide) rfl hk ?_
        refine z_astore hX (D_Four_cubes (i := 15) rfl) (by decide) rfl ?_
        refine z_aload hX (D_Four_cubes (i := 16) rfl) rfl ?_
        refine z_cV0 hX (D_Four_cubes (i := 17) rfl) mi_Shelf_isBare l_Four_78 rfl rfl (by decide) (by first | exact Nat.one_pos | assumption | omega) (by first | decide | omega) (Nat.le_of_ble_eq_true rfl) (c_Shelf_isBare hH hk ?_)
        refine z_if_eq (tgt := 38) hX (D_Four_cubes (i := 18) rfl) (by decide) (fun h4 => ?_) (fun h4 => ?_)
        · refine z_aload hX (D_Four_cubes (i := 21) rfl) rfl ?_
          have n4 := of_decide_eq_false (bI_0.mp h4)
          refine z_cV0 hX (D_Four_cubes (i := 22) rfl) mi_Shelf_isRow l_Four_82 rfl rfl (by decide) (by first | exact Nat.one_pos | assumption | omega) (by first | decide | omega) (Nat.le_of_ble_eq_true rfl) (c_Shelf_isRow hH hk ?_)
          refine z_if_eq (tgt := 54) hX (D_Four_cubes (i := 23) rfl) (by decide) (fun h6 => ?_) (fun h6 => ?_)
          · refine z_bipush (v := -12) hX (D_Four_cubes (i := 27) rfl) (by decide) ?_
            exact z_iret hX hR (D_Four_cubes (i := 28) rfl) rfl (hkind k hk rfl h2 h3 n4 (Or.inl (of_decide_eq_false (bI_0.mp h6))))
          · refine z_aload hX (D_Four_cubes (i := 24) rfl) rfl ?_
            refine z_geti hX (D_Four_cubes (i := 25) rfl) f_Four_85 rfl (by decide) (by first | exact Nat.one_pos | assumption | omega) rfl ?_
            refine z_if_eq (tgt := 57) hX (D_Four_cubes (i := 26) rfl) (by decide) (fun h7 => ?_) (fun h7 => ?_)
            · refine z_iconst (v := 0) hX (D_Four_cubes (i := 29) rfl) (by decide) ?_
              refine z_istore hX (D_Four_cubes (i := 30) rfl) (by decide) rfl ?_
              subst hzn
              exact c_Four_cubes_loop hH hX hR hs h8 hk e3 hL hn (fun c q1 q2 => hok k L n c hk rfl hn rfl hL (of_decide_eq_true (bI_n.mp h6)) h7 e3 q1 q2)
            · refine z_bipush (v := -12) hX (D_Four_cubes (i := 27) rfl) (by decide) ?_
              exact z_iret hX hR (D_Four_cubes (i := 28) rfl) rfl (hkind k hk rfl h2 h3 n4 (Or.inr h7))
        · refine z_iconst (v := 0) hX (D_Four_cubes (i := 19) rfl) (by decide) ?_
          exact z_iret hX hR (D_Four_cubes (i := 20) rfl) rfl (hbare k hk rfl h2 h3 (of_decide_eq_true (bI_n.mp h4)))
      · refine z_iconst (v := -1) hX (D_Four_cubes (i := 9) rfl) (by decide) ?_
        exact z_iret hX hR (D_Four_cubes (i := 10) rfl) rfl (hno (Or.inr (Or.inr h3)))
def us (x : Int32) (k : Int32) : Int32 := (x.toUInt32 >>> (k.toUInt32 &&& Int32.toUInt32 31)).toInt32
def bcE (x : Int32) : Int32 :=
  let a := x - (us x 1 &&& 1431655765)
  let b := (a &&& 858993459) + (us a 2 &&& 858993459)
  let c := (b + us b 4) &&& 252645135
  let d := c + us c 8
  let e := d + us d 16
  e &&& 63
theorem c_bitCount (h : Post (some (zI (bcE x))) mem) : zC l ι M_Integer_bitCount_0f7a4 0 [zI x] mem Post := by
  have hH : zHas ι [] := zHas.nil
  refine z_enter hH (by decide) (by simp [z_ent, M_Integer_bitCount_0f7a4]) (fun X hXl hX hR => ?_)
  refine z_iload_n hX (D_Integer_bitCount_0f7a4 (i := 0) rfl) rfl ?_
  refine z_iload_n hX (D_Integer_bitCount_0f7a4 (i := 1) rfl) rfl ?_
  refine z_iconst (v := 1) hX (D_Integer_bitCount_0f7a4 (i := 2) rfl) (by decide) ?_
  refine z_iushr hX (D_Integer_bitCount_0f7a4 (i := 3) rfl) ?_
  refine z_ldcw (v := 1431655765) hX (D_Integer_bitCount_0f7a4 (i := 4) rfl) k_Integer_265 ?_
  refine z_iand hX (D_Integer_bitCount_0f7a4 (i := 5) rfl) ?_
  refine z_isub hX (D_Integer_bitCount_0f7a4 (i := 6) rfl) ?_
  refine z_istore_n hX (D_Integer_bitCount_0f7a4 (i := 7) rfl) (by decide) rfl ?_
  refine z_iload_n hX (D_Integer_bitCount_0f7a4 (i := 8) rfl) rfl ?_
  refine z_ldcw (v := 858993459) hX (D_Integer_bitCount_0f7a4 (i := 9) rfl) k_Integer_266 ?_
  refine z_iand hX (D_Integer_bitCount_0f7a4 (i := 10) rfl) ?_
  refine z_iload_n hX (D_Integer_bitCount_0f7a4 (i := 11) rfl) rfl ?_
  refine z_iconst (v := 2) hX (D_Integer_bitCount_0f7a4 (i := 12) rfl) (by decide) ?_
  refine z_iushr hX (D_Integer_bitCount_0f7a4 (i := 13) rfl) ?_
  refine z_ldcw (v := 858993459) hX (D_Integer_bitCount_0f7a4 (i := 14) rfl) k_Integer_266 ?_
  refine z_iand hX (D_Integer_bitCount_0f7a4 (i := 15) rfl) ?_
  refine z_iadd hX (D_Integer_bitCount_0f7a4 (i := 16) rfl) ?_
  refine z_istore_n hX (D_Integer_bitCount_0f7a4 (i := 17) rfl) (by decide) rfl ?_
  refine z_iload_n hX (D_Integer_bitCount_0f7a4 (i := 18) rfl) rfl ?_
  refine z_iload_n hX (D_Integer_bitCount_0f7a4 (i := 19) rfl) rfl ?_
  refine z_iconst (v := 4) hX (D_Integer_bitCount_0f7a4 (i := 20) rfl) (by decide) ?_
  refine z_iushr hX (D_Integer_bitCount_0f7a4 (i := 21) rfl) ?_
  refine z_iadd hX (D_Integer_bitCount_0f7a4 (i := 22) rfl) ?_
  refine z_ldcw (v := 252645135) hX (D_Integer_bitCount_0f7a4 (i := 23) rfl) k_Integer_267 ?_
  refine z_iand hX (D_Integer_bitCount_0f7a4 (i := 24) rfl) ?_
  refine z_istore_n hX (D_Integer_bitCount_0f7a4 (i := 25) rfl) (by decide) rfl ?_
  refine z_iload_n hX (D_Integer_bitCount_0f7a4 (i := 26) rfl) rfl ?_
  refine z_iload_n hX (D_Integer_bitCount_0f7a4 (i := 27) rfl) rfl ?_
  refine z_bipush (v := 8) hX (D_Integer_bitCount_0f7a4 (i := 28) rfl) (by decide) ?_
  refine z_iushr hX (D_Integer_bitCount_0f7a4 (i := 29) rfl) ?_
  refine z_iadd hX (D_Integer_bitCount_0f7a4 (i := 30) rfl) ?_
  refine z_istore_n hX (D_Integer_bitCount_0f7a4 (i := 31) rfl) (by decide) rfl ?_
  refine z_iload_n hX (D_Integer_bitCount_0f7a4 (i := 32) rfl) rfl ?_
  refine z_iload_n hX (D_Integer_bitCount_0f7a4 (i := 33) rfl) rfl ?_
  refine z_bipush (v := 16) hX (D_Integer_bitCount_0f7a4 (i := 34) rfl) (by decide) ?_
  refine z_iushr hX (D_Integer_bitCount_0f7a4 (i := 35) rfl) ?_
  refine z_iadd hX (D_Integer_bitCount_0f7a4 (i := 36) rfl) ?_
  refine z_istore_n hX (D_Integer_bitCount_0f7a4 (i := 37) rfl) (by decide) rfl ?_
  refine z_iload_n hX (D_Integer_bitCount_0f7a4 (i := 38) rfl) rfl ?_
  refine z_bipush (v := 63) hX (D_Integer_bitCount_0f7a4 (i := 39) rfl) (by decide) ?_
  refine z_iand hX (D_Integer_bitCount_0f7a4 (i := 40) rfl) ?_
  exact z_iret hX hR (D_Integer_bitCount_0f7a4 (i := 41) rfl) rfl h
/-- how many of the bits below n -/
def pcN (b : Nat) : Nat → Nat
  | 0 => 0
  | n + 1 => pcN b n + (if b.testBit n then 1 else 0)
theorem bc8 : ∀ b, b < 256 → bcE (nI b) = nI (pcN b 8) ∧ pcN b 8 ≤ 8 := by decide +kernel
theorem c_Four_box (hH : zHas ι pX) (hs : mem.1 0 0 1 = nI sz) (h8 : sz ≤ 8) (hno : (inN x (2 ^ sz) = false ∨ ∃ b, b < 2 ^ sz ∧ x = nI b ∧ 4 < pcN b 8) → Post (some (zI (-1))) mem) (hok : ∀ b, b < 2 ^ sz → x = nI b → pcN b 8 ≤ 4 → Post (some (zI (mem.1 0 0 2))) (upI mem 0 0 2 (nI b))) : zC l ι M_Four_box 1 [zP 0 0, zI x] mem Post := by
  have h9 := p8 sz h8
  refine z_enter hH (by decide) (by simp [z_ent, M_Four_box]) (fun X hXl hX hR => ?_)
  refine z_aload_n hX (D_Four_box (i := 0) rfl) rfl ?_
  refine z_iload_n hX (D_Four_box (i := 1) rfl) rfl ?_
  refine z_cV1 hX (D_Four_box (i := 2) rfl) mi_Four_areCubes l_Four_119 rfl rfl (by decide) (by first | exact Nat.one_pos | assumption | omega) (by first | decide | omega) (Nat.le_of_ble_eq_true rfl) (c_Four_areCubes hH hs h8 ?_)
  refine z_if_eq (tgt := 16) hX (D_Four_box (i := 3) rfl) (by decide) (fun h1 => ?_) (fun h1 => ?_)
  · refine z_iconst (v := -1) hX (D_Four_box (i := 8) rfl) (by decide) ?_
    exact z_iret hX hR (D_Four_box (i := 9) rfl) rfl (hno (Or.inl (bI_0.mp h1)))
  · refine z_iload_n hX (D_Four_box (i := 4) rfl) rfl ?_
    refine z_cS1 hX (D_Four_box (i := 5) rfl) ms_Integer_bitCount_0f7a4 l_Four_122 (by first | decide | omega) (Nat.le_of_ble_eq_true rfl) (c_bitCount ?_)
    obtain ⟨b, hb, rfl⟩ := inN_ex (bI_n.mp h1) (by omega)
    obtain ⟨e1, e2⟩ := bc8 b (by omega)
    rw [e1]
    refine z_iconst (v := 4) hX (D_Four_box (i := 6) rfl) (by decide) ?_
    refine z_icmp_le (tgt := 18) hX (D_Four_box (i := 7) rfl) (by decide) (fun h2 => ?_) (fun h2 => ?_)
    · refine z_aload_n hX (D_Four_box (i := 10) rfl) rfl ?_
      refine z_geti hX (D_Four_box (i := 11) rfl) f_Four_127 rfl (by decide) (by first | exact Nat.one_pos | assumption | omega) rfl ?_
      refine z_istore_n hX (D_Four_box (i := 12) rfl) (by decide) rfl ?_
      refine z_aload_n hX (D_Four_box (i := 13) rfl) rfl ?_
      refine z_iload_n hX (D_Four_box (i := 14) rfl) rfl ?_
      refine z_puti hX (D_Four_box (i := 15) rfl) g_Four_127 rfl (by decide) (by first | exact Nat.one_pos | assumption | omega) rfl ?_
      refine z_iload_n hX (D_Four_box (i := 16) rfl) rfl ?_
      exact z_iret hX hR (D_Four_box (i := 17) rfl) rfl (hok b hb rfl ((nI_leI (b := 4) (by omega) (by decide)).mp h2))
    · refine z_iconst (v := -1) hX (D_Four_box (i := 8) rfl) (by decide) ?_
      exact z_iret hX hR (D_Four_box (i := 9) rfl) rfl (hno (Or.inr ⟨b, hb, rfl, Nat.not_le.mp (fun w => h2 (nI_le (b := 4) w (by decide)))⟩))
end F9
