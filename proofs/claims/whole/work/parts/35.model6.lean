/-! the reference: changes, undo, redo, paint, cube -/
def fgN (mem : zM) (i : Nat) : zM := (fun a b c => if (a = 44 ∨ a = 45 ∨ a = 46 ∨ a = 47) ∧ b = 0 ∧ c + 1 < i then mem.1 a b (c + 1) else mem.1 a b c, mem.2)
theorem fgN_1 (mem : zM) : fgN mem 1 = mem := by
  refine Prod.ext ?_ rfl
  funext a b c
  show (if (a = 44 ∨ a = 45 ∨ a = 46 ∨ a = 47) ∧ b = 0 ∧ c + 1 < 1 then mem.1 a b (c + 1) else mem.1 a b c) = mem.1 a b c
  rw [if_neg (by omega)]
theorem fgN_s (mem : zM) (i : Nat) : upI (upI (upI (upI (fgN mem (i + 1)) 44 0 i (mem.1 44 0 (i + 1))) 45 0 i (mem.1 45 0 (i + 1))) 46 0 i (mem.1 46 0 (i + 1))) 47 0 i (mem.1 47 0 (i + 1)) = fgN mem (i + 2) := by
  refine Prod.ext ?_ rfl
  funext a b c
  simp only [upI_get, fgN]
  by_cases hb : b = 0
  · subst hb
    by_cases hc : c = i
    · subst hc
      by_cases h0 : a = 47
      · subst h0; simp
      · by_cases h1 : a = 46
        · subst h1; simp
        · by_cases h2 : a = 45
          · subst h2; simp
          · by_cases h3 : a = 44
            · subst h3; simp
            · simp [h0, h1, h2, h3]
    · have e : (c + 1 < i + 2) = (c + 1 < i + 1) := by apply propext; omega
      simp only [hc, and_false, if_false, e]
  · simp [hb]
theorem fgN_get (mem : zM) (i p c : Nat) (hc : ¬ c + 1 < i) : (fgN mem i).1 p 0 c = mem.1 p 0 c := by
  show (if (p = 44 ∨ p = 45 ∨ p = 46 ∨ p = 47) ∧ 0 = 0 ∧ c + 1 < i then mem.1 p 0 (c + 1) else mem.1 p 0 c) = mem.1 p 0 c
  rw [if_neg (fun z => hc z.2.2)]
def chM (m1 : zM) (d : Nat) (a w v : Int32) : zM := upI (upI (upI (upI (upI m1 44 0 d 0) 45 0 d a) 46 0 d w) 47 0 d v) 40 0 6 (nI (d + 1))
section G6
variable {l : Launch} {ι : zE} {mem : zM} {Post : Option zV → zM → Prop} {x y z : Int32} {sz nb : Nat}
theorem d_valueAt (hH : zHas ι pM) {j : Nat} (hj : j < 48) (h : Post (some (zI (mem.1 41 0 j))) mem) : zC l ι M_Model_valueAt 0 [zP 40 0, zI x, zI (nI j)] mem Post := by
  refine z_enter hH (by decide) (by simp [z_ent, M_Model_valueAt]) (fun X hXl hX hR => ?_)
  refine z_aload_n hX (D_Model_valueAt (i := 0) rfl) rfl ?_
  refine z_getc hX (D_Model_valueAt (i := 1) rfl) f_Model_7 rfl (by decide) (by first | exact Nat.one_pos | assumption | omega) rfl ?_
  refine z_iload_n hX (D_Model_valueAt (i := 2) rfl) rfl ?_
  refine z_iald (j := j) hX (D_Model_valueAt (i := 3) rfl) rfl (by decide) (by first | exact Nat.one_pos | assumption | omega) (by decide) rfl hj ?_
  exact z_iret hX hR (D_Model_valueAt (i := 4) rfl) rfl (by assumption)
theorem d_lays (hH : zHas ι pM) {j : Nat} (hj : j < 48) (h : Post none (upI mem 41 0 j y)) : zC l ι M_Model_lays 0 [zP 40 0, zI x, zI (nI j), zI y] mem Post := by
  refine z_enter hH (by decide) (by simp [z_ent, M_Model_lays]) (fun X hXl hX hR => ?_)
  refine z_aload_n hX (D_Model_lays (i := 0) rfl) rfl ?_
  refine z_getc hX (D_Model_lays (i := 1) rfl) f_Model_7 rfl (by decide) (by first | exact Nat.one_pos | assumption | omega) rfl ?_
  refine z_iload_n hX (D_Model_lays (i := 2) rfl) rfl ?_
  refine z_iload_n hX (D_Model_lays (i := 3) rfl) rfl ?_
  refine z_iast (j := j) hX (D_Model_lays (i := 4) rfl) rfl (by decide) (by first | exact Nat.one_pos | assumption | omega) (by decide) rfl hj ?_
  exact z_ret hX hR (D_Model_lays (i := 5) rfl) rfl (by assumption)
theorem d_changes_at (hH : zHas ι pM) {X : zX} (hX : zG ι M_Model_changes X 1 pM) (hR : zRt ι X Post) {m1 : zM} {d j : Nat} {w v : Int32} {v5 : Option zV} (hd : d < 40) (hj : j < 48) (h1 : m1.1 40 0 6 = nI d) (h : Post (some (zI w)) (upI (chM m1 d (nI j) w v) 41 0 j v)) : zW ι M_Model_changes X 121 [some (zP 40 0), some (zI 0), some (zI (nI j)), some (zI v), some (zI w), v5] [] m1 := by
  refine z_aload_n hX (D_Model_changes (i := 70) rfl) rfl ?_
  refine z_getc hX (D_Model_changes (i := 71) rfl) f_Model_19 rfl (by decide) (by first | exact Nat.one_pos | assumption | omega) rfl ?_
  refine z_aload_n hX (D_Model_changes (i := 72) rfl) rfl ?_
  refine z_geti hX (D_Model_changes (i := 73) rfl) f_Model_126 rfl (by decide) (by first | exact Nat.one_pos | assumption | omega) rfl ?_
  rw [h1]
  refine z_iload_n hX (D_Model_changes (i := 74) rfl) rfl ?_
  refine z_iast (j := d) hX (D_Model_changes (i := 75) rfl) rfl (by decide) (by first | exact Nat.one_pos | assumption | omega) (by decide) rfl hd ?_
  refine z_aload_n hX (D_Model_changes (i := 76) rfl) rfl ?_
  refine z_getc hX (D_Model_changes (i := 77) rfl) f_Model_22 rfl (by decide) (by first | exact Nat.one_pos | assumption | omega) rfl ?_
  refine z_aload_n hX (D_Model_changes (i := 78) rfl) rfl ?_
  refine z_geti hX (D_Model_changes (i := 79) rfl) f_Model_126 rfl (by decide) (by first | exact Nat.one_pos | assumption | omega) rfl ?_
  rw [show (upI m1 44 0 d 0).1 40 0 6 = nI d by simp [upI_get, h1]]
  refine z_iload_n hX (D_Model_changes (i := 80) rfl) rfl ?_
  refine z_iast (j := d) hX (D_Model_changes (i := 81) rfl) rfl (by decide) (by first | exact Nat.one_pos | assumption | omega) (by decide) rfl hd ?_
  refine z_aload_n hX (D_Model_changes (i := 82) rfl) rfl ?_
  refine z_getc hX (D_Model_changes (i := 83) rfl) f_Model_25 rfl (by decide) (by first | exact Nat.one_pos | assumption | omega) rfl ?_
  refine z_aload_n hX (D_Model_changes (i := 84) rfl) rfl ?_
  refine z_geti hX (D_Model_changes (i := 85) rfl) f_Model_126 rfl (by decide) (by first | exact Nat.one_pos | assumption | omega) rfl ?_
  rw [show (upI (upI m1 44 0 d 0) 45 0 d (nI j)).1 40 0 6 = nI d by simp [upI_get, h1]]
  refine z_iload hX (D_Model_changes (i := 86) rfl) rfl ?_
  refine z_iast (j := d) hX (D_Model_changes (i := 87) rfl) rfl (by decide) (by first | exact Nat.one_pos | assumption | omega) (by decide) rfl hd ?_
  refine z_aload_n hX (D_Model_changes (i := 88) rfl) rfl ?_
  refine z_getc hX (D_Model_changes (i := 89) rfl) f_Model_28 rfl (by decide) (by first | exact Nat.one_pos | assumption | omega) rfl ?_
  refine z_aload_n hX (D_Model_changes (i := 90) rfl) rfl ?_
  refine z_geti hX (D_Model_changes (i := 91) rfl) f_Model_126 rfl (by decide) (by first | exact Nat.one_pos | assumption | omega) rfl ?_
  rw [show (upI (upI (upI m1 44 0 d 0) 45 0 d (nI j)) 46 0 d w).1 40 0 6 = nI d by simp [upI_get, h1]]
  refine z_iload_n hX (D_Model_changes (i := 92) rfl) rfl ?_
  refine z_iast (j := d) hX (D_Model_changes (i := 93) rfl) rfl (by decide) (by first | exact Nat.one_pos | assumption | omega) (by decide) rfl hd ?_
  refine z_aload_n hX (D_Model_changes (i := 94) rfl) rfl ?_
  refine z_dupP hX (D_Model_changes (i := 95) rfl) ?_
  refine z_geti hX (D_Model_changes (i := 96) rfl) f_Model_126 rfl (by decide) (by first | exact Nat.one_pos | assumption | omega) rfl ?_
  rw [show (upI (upI (upI (upI m1 44 0 d 0) 45 0 d (nI j)) 46 0 d w) 47 0 d v).1 40 0 6 = nI d by simp [upI_get, h1]]
  refine z_iconst (v := 1) hX (D_Model_changes (i := 97) rfl) (by decide) ?_
  refine z_iadd hX (D_Model_changes (i := 98) rfl) ?_
  rw [nI_1]
  refine z_puti hX (D_Model_changes (i := 99) rfl) g_Model_126 rfl (by decide) (by first | exact Nat.one_pos | assumption | omega) rfl ?_
  refine z_aload_n hX (D_Model_changes (i := 100) rfl) rfl ?_
  refine z_iload_n hX (D_Model_changes (i := 101) rfl) rfl ?_
  refine z_iload_n hX (D_Model_changes (i := 102) rfl) rfl ?_
  refine z_iload_n hX (D_Model_changes (i := 103) rfl) rfl ?_
  refine z_cV3 hX (D_Model_changes (i := 104) rfl) mi_Model_lays l_Model_129 rfl rfl (by decide) (by first | exact Nat.one_pos | assumption | omega) (by first | decide | omega) (Nat.le_of_ble_eq_true rfl) (d_lays hH hj ?_)
  refine z_iload hX (D_Model_changes (i := 105) rfl) rfl ?_
  exact z_iret hX hR (D_Model_changes (i := 106) rfl) rfl h
theorem d_changes (hH : zHas ι pM) {d j : Nat} {v : Int32} (hd : mem.1 40 0 6 = nI d) (h40 : d ≤ 40) (hj : j < 48) (hsame : mem.1 41 0 j = v → Post (some (zI (mem.1 41 0 j))) mem) (hok : ¬ mem.1 41 0 j = v → d < 40 → Post (some (zI (mem.1 41 0 j))) (upI (chM (upI mem 40 0 7 0) d (nI j) (mem.1 41 0 j) v) 41 0 j v)) (hfull : ¬ mem.1 41 0 j = v → d = 40 → Post (some (zI (mem.1 41 0 j))) (upI (chM (upI (fgN (upI mem 40 0 7 0) 40) 40 0 6 (nI 39)) 39 (nI j) (mem.1 41 0 j) v) 41 0 j v)) : zC l ι M_Model_changes 1 [zP 40 0, zI 0, zI (nI j), zI v] mem Post := by
  refine z_enter hH (by decide) (by simp [z_ent, M_Model_changes]) (fun X hXl hX hR => ?_)
  refine z_aload_n hX (D_Model_changes (i := 0) rfl) rfl ?_
  refine z_iload_n hX (D_Model_changes (i := 1) rfl) rfl ?_
  refine z_iload_n hX (D_Model_changes (i := 2) rfl) rfl ?_
  refine z_cV2 hX (D_Model_changes (i := 3) rfl) mi_Model_valueAt l_Model_119 rfl rfl (by decide) (by first | exact Nat.one_pos | assumption | omega) (by first | decide | omega) (Nat.le_of_ble_eq_true rfl) (d_valueAt hH hj ?_)
  refine z_istore hX (D_Model_changes (i := 4) rfl) (by decide) rfl ?_
  refine z_iload hX (D_Model_changes (i := 5) rfl) rfl ?_
  refine z_iload_n hX (D_Model_changes (i := 6) rfl) rfl ?_
  refine z_icmp_ne (tgt := 17) hX (D_Model_changes (i := 7) rfl) (by decide) (fun h1 => ?_) (fun h1 => ?_)
  · refine z_aload_n hX (D_Model_changes (i := 10) rfl) rfl ?_
    refine z_iconst (v := 0) hX (D_Model_changes (i := 11) rfl) (by decide) ?_
    refine z_puti hX (D_Model_changes (i := 12) rfl) g_Model_123 rfl (by decide) (by first | exact Nat.one_pos | assumption | omega) rfl ?_
    refine z_aload_n hX (D_Model_changes (i := 13) rfl) rfl ?_
    refine z_geti hX (D_Model_changes (i := 14) rfl) f_Model_126 rfl (by decide) (by first | exact Nat.one_pos | assumption | omega) rfl ?_
    have e1 : (upI mem 40 0 7 0).1 40 0 6 = nI d := by simp [upI_get, hd]
    rw [e1]
    refine z_bipush (v := 40) hX (D_Model_changes (i := 15) rfl) (by decide) ?_
    by_cases h2 : d < 40
    · refine z_icmp_ne (tgt := 121) hX (D_Model_changes (i := 16) rfl) (by decide) (fun _ => ?_) (fun hcc => absurd hcc (fun w => absurd ((nI_eq (b := 40) (by omega) (by decide)).mp w) (by omega)))
      exact d_changes_at hH hX hR h2 hj e1 (hok h1 h2)
    · obtain rfl : d = 40 := by omega
      have hh := hfull h1 rfl
      generalize upI mem 40 0 7 0 = m0 at hh e1 ⊢
      refine z_icmp_ne (tgt := 121) hX (D_Model_changes (i := 16) rfl) (by decide) (fun hcc => absurd (rfl) hcc) (fun _ => ?_)
      refine z_iconst (v := 1) hX (D_Model_changes (i := 17) rfl) (by decide) ?_
      refine z_istore hX (D_Model_changes (i := 18) rfl) (by decide) rfl ?_
      suffices H : ∀ (n i : Nat), i + 1 + n = 40 → zW ι M_Model_changes X 34 [some (zP 40 0), some (zI 0), some (zI (nI j)), some (zI v), some (zI (mem.1 41 0 j)), some (zI (nI (i + 1)))] [] (fgN m0 (i + 1)) by
        have := H 39 0 rfl
        rw [fgN_1] at this
        exact this
      intro n
      induction n with
      | zero =>
        intro i hi
        obtain rfl : i = 39 := by omega
        refine z_iload hX (D_Model_changes (i := 19) rfl) rfl ?_
        refine z_bipush (v := 40) hX (D_Model_changes (i := 20) rfl) (by decide) ?_
        refine z_icmp_ge (tgt := 111) hX (D_Model_changes (i := 21) rfl) (by decide) (fun _ => ?_) (fun hcc => absurd (by decide) hcc)
        refine z_aload_n hX (D_Model_changes (i := 64) rfl) rfl ?_
        refine z_dupP hX (D_Model_changes (i := 65) rfl) ?_
        refine z_geti hX (D_Model_changes (i := 66) rfl) f_Model_126 rfl (by decide) (by first | exact Nat.one_pos | assumption | omega) rfl ?_
        rw [show (fgN m0 (39 + 1)).1 40 0 6 = nI 40 by rw [← e1]; simp [fgN]]
        refine z_iconst (v := 1) hX (D_Model_changes (i := 67) rfl) (by decide) ?_
        refine z_isub hX (D_Model_changes (i := 68) rfl) ?_
        rw [show nI 40 - (1 : Int32) = nI 39 by decide]
        refine z_puti hX (D_Model_changes (i := 69) rfl) g_Model_126 rfl (by decide) (by first | exact Nat.one_pos | assumption | omega) rfl ?_
        exact d_changes_at hH hX hR (by decide) hj (by simp [upI_get]) hh
      | succ n ih =>
        intro i hi
        have e2 : nI (i + 1) - 1 = nI i := nI_pred i
        refine z_iload hX (D_Model_changes (i := 19) rfl) rfl ?_
        refine z_bipush (v := 40) hX (D_Model_changes (i := 20) rfl) (by decide) ?_
        refine z_icmp_ge (tgt := 111) hX (D_Model_changes (i := 21) rfl) (by decide) (fun hcc => absurd hcc (nI_ge (b := 40) (by omega) (by decide))) (fun _ => ?_)
        refine z_aload_n hX (D_Model_changes (i := 22) rfl) rfl ?_
        refine z_getc hX (D_Model_changes (i := 23) rfl) f_Model_19 rfl (by decide) (by first | exact Nat.one_pos | assumption | omega) rfl ?_
        refine z_iload hX (D_Model_changes (i := 24) rfl) rfl ?_
        refine z_iconst (v := 1) hX (D_Model_changes (i := 25) rfl) (by decide) ?_
        refine z_isub hX (D_Model_changes (i := 26) rfl) ?_
        refine z_aload_n hX (D_Model_changes (i := 27) rfl) rfl ?_
        refine z_getc hX (D_Model_changes (i := 28) rfl) f_Model_19 rfl (by decide) (by first | exact Nat.one_pos | assumption | omega) rfl ?_
        refine z_iload hX (D_Model_changes (i := 29) rfl) rfl ?_
        rw [e2]
        refine z_iald (j := i + 1) hX (D_Model_changes (i := 30) rfl) rfl (by decide) (by first | exact Nat.one_pos | assumption | omega) (by decide) rfl (by omega) ?_
        rw [fgN_get m0 (i + 1) 44 (i + 1) (by omega)]
        refine z_iast (j := i) hX (D_Model_changes (i := 31) rfl) rfl (by decide) (by first | exact Nat.one_pos | assumption | omega) (by decide) rfl (by omega) ?_
        refine z_aload_n hX (D_Model_changes (i := 32) rfl) rfl ?_
        refine z_getc hX (D_Model_changes (i := 33) rfl) f_Model_22 rfl (by decide) (by first | exact Nat.one_pos | assumption | omega) rfl ?_
        refine z_iload hX (D_Model_changes (i := 34) rfl) rfl ?_
        refine z_iconst (v := 1) hX (D_Model_changes (i := 35) rfl) (by decide) ?_
        refine z_isub hX (D_Model_changes (i := 36) rfl) ?_
        refine z_aload_n hX (D_Model_changes (i := 37) rfl) rfl ?_
        refine z_getc hX (D_Model_changes (i := 38) rfl) f_Model_22 rfl (by decide) (by first | exact Nat.one_pos | assumption | omega) rfl ?_
        refine z_iload hX (D_Model_changes (i := 39) rfl) rfl ?_
        rw [e2]
        refine z_iald (j := i + 1) hX (D_Model_changes (i := 40) rfl) rfl (by decide) (by first | exact Nat.one_pos | assumption | omega) (by decide) rfl (by omega) ?_
        rw [show (upI (fgN m0 (i + 1)) 44 0 i (m0.1 44 0 (i + 1))).1 45 0 (i + 1) = m0.1 45 0 (i + 1) by rw [upI_get, if_neg (by omega)]; exact fgN_get m0 (i + 1) 45 (i + 1) (by omega)]
        refine z_iast (j := i) hX (D_Model_changes (i := 41) rfl) rfl (by decide) (by first | exact Nat.one_pos | assumption | omega) (by decide) rfl (by omega) ?_
        refine z_aload_n hX (D_Model_changes (i := 42) rfl) rfl ?_
        refine z_getc hX (D_Model_changes (i := 43) rfl) f_Model_25 rfl (by decide) (by first | exact Nat.one_pos | assumption | omega) rfl ?_
        refine z_iload hX (D_Model_changes (i := 44) rfl) rfl ?_
        refine z_iconst (v := 1) hX (D_Model_changes (i := 45) rfl) (by decide) ?_
        refine z_isub hX (D_Model_changes (i := 46) rfl) ?_
        refine z_aload_n hX (D_Model_changes (i := 47) rfl) rfl ?_
        refine z_getc hX (D_Model_changes (i := 48) rfl) f_Model_25 rfl (by decide) (by first | exact Nat.one_pos | assumption | omega) rfl ?_
        refine z_iload hX (D_Model_changes (i := 49) rfl) rfl ?_
        rw [e2]
        refine z_iald (j := i + 1) hX (D_Model_changes (i := 50) rfl) rfl (by decide) (by first | exact Nat.one_pos | assumption | omega) (by decide) rfl (by omega) ?_
        rw [show (upI (upI (fgN m0 (i + 1)) 44 0 i (m0.1 44 0 (i + 1))) 45 0 i (m0.1 45 0 (i + 1))).1 46 0 (i + 1) = m0.1 46 0 (i + 1) by rw [upI_get, if_neg (by omega), upI_get, if_neg (by omega)]; exact fgN_get m0 (i + 1) 46 (i + 1) (by omega)]
        refine z_iast (j := i) hX (D_Model_changes (i := 51) rfl) rfl (by decide) (by first | exact Nat.one_pos | assumption | omega) (by decide) rfl (by omega) ?_
        refine z_aload_n hX (D_Model_changes (i := 52) rfl) rfl ?_
        refine z_getc hX (D_Model_changes (i := 53) rfl) f_Model_28 rfl (by decide) (by first | exact Nat.one_pos | assumption | omega) rfl ?_
        refine z_iload hX (D_Model_changes (i := 54) rfl) rfl ?_
        refine z_iconst (v := 1) hX (D_Model_changes (i := 55) rfl) (by decide) ?_
        refine z_isub hX (D_Model_changes (i := 56) rfl) ?_
        refine z_aload_n hX (D_Model_changes (i := 57) rfl) rfl ?_
        refine z_getc hX (D_Model_changes (i := 58) rfl) f_Model_28 rfl (by decide) (by first | exact Nat.one_pos | assumption | omega) rfl ?_
        refine z_iload hX (D_Model_changes (i := 59) rfl) rfl ?_
        rw [e2]
        refine z_iald (j := i + 1) hX (D_Model_changes (i := 60) rfl) rfl (by decide) (by first | exact Nat.one_pos | assumption | omega) (by decide) rfl (by omega) ?_
        rw [show (upI (upI (upI (fgN m0 (i + 1)) 44 0 i (m0.1 44 0 (i + 1))) 45 0 i (m0.1 45 0 (i + 1))) 46 0 i (m0.1 46 0 (i + 1))).1 47 0 (i + 1) = m0.1 47 0 (i + 1) by rw [upI_get, if_neg (by omega), upI_get, if_neg (by omega), upI_get, if_neg (by omega)]; exact fgN_get m0 (i + 1) 47 (i + 1) (by omega)]
        refine z_iast (j := i) hX (D_Model_changes (i := 61) rfl) rfl (by decide) (by first | exact Nat.one_pos | assumption | omega) (by decide) rfl (by omega) ?_
        rw [fgN_s]
        first | refine z_inc1 hX (D_Model_changes (i := 62) rfl) rfl (by decide) rfl ?_ | refine z_iinc hX (D_Model_changes (i := 62) rfl) rfl rfl (by decide) rfl ?_
        refine z_goto (tgt := 34) hX (D_Model_changes (i := 63) rfl) (by decide) ?_
        exact ih (i + 1) (by omega)
  · refine z_iload hX (D_Model_changes (i := 8) rfl) rfl ?_
    exact z_iret hX hR (D_Model_changes (i := 9) rfl) rfl (hsame h1)
theorem d_paint (hH : zHas ι pM) (hs : mem.1 40 0 1 = nI sz) (h8 : sz ≤ 8) {d : Nat} (hd : mem.1 40 0 6 = nI d) (h40 : d ≤ 40) (hno : (fcB x sz && inN y 7) = false → Post (some (zI (-1))) mem) (hsame : ∀ k f, k < sz → f < 6 → x = nI (10 * k + f) → inN y 7 = true → (cv mem).1 3 k f = y → Post (some (zI ((cv mem).1 3 k f))) mem) (hok : ∀ k f, k < sz → f < 6 → x = nI (10 * k + f) → inN y 7 = true → ¬ (cv mem).1 3 k f = y → d < 40 → Post (some (zI ((cv mem).1 3 k f))) (upI (chM (upI mem 40 0 7 0) d (nI (6 * k + f)) ((cv mem).1 3 k f) y) 41 0 (6 * k + f) y)) (hfull : ∀ k f, k < sz → f < 6 → x = nI (10 * k + f) → inN y 7 = true → ¬ (cv mem).1 3 k f = y → d = 40 → Post (some (zI ((cv mem).1 3 k f))) (upI (chM (upI (fgN (upI mem 40 0 7 0) 40) 40 0 6 (nI 39)) 39 (nI (6 * k + f)) ((cv mem).1 3 k f) y) 41 0 (6 * k + f) y)) : zC l ι M_Model_paint 3 [zP 40 0, zI x, zI y] mem Post := by
  refine z_enter hH (by decide) (by simp [z_ent, M_Model_paint]) (fun X hXl hX hR => ?_)
  refine z_aload_n hX (D_Model_paint (i := 0) rfl) rfl ?_
  refine z_iload_n hX (D_Model_paint (i := 1) rfl) rfl ?_
  refine z_cV1 hX (D_Model_paint (i := 2) rfl) mi_Model_isFace l_Model_133 rfl rfl (by decide) (by first | exact Nat.one_pos | assumption | omega) (by first | decide | omega) (Nat.le_of_ble_eq_true rfl) (d_isFace hH hs h8 ?_)
  refine z_if_eq (tgt := 39) hX (D_Model_paint (i := 3) rfl) (by decide) (fun h1 => ?_) (fun h1 => ?_)
  · refine z_iconst (v := -1) hX (D_Model_paint (i := 23) rfl) (by decide) ?_
    exact z_iret hX hR (D_Model_paint (i := 24) rfl) rfl (hno (by rw [bI_0.mp h1]; rfl))
  · refine z_iload_n hX (D_Model_paint (i := 4) rfl) rfl ?_
    refine z_iconst (v := 0) hX (D_Model_paint (i := 5) rfl) (by decide) ?_
    refine z_bipush (v := 6) hX (D_Model_paint (i := 6) rfl) (by decide) ?_
    refine z_cS3 hX (D_Model_paint (i := 7) rfl) ms_Model_in l_Model_102 (by first | decide | omega) (Nat.le_of_ble_eq_true rfl) (d_in ?_)
    rw [show decide ((0 : Int32) ≤ y ∧ y ≤ 6) = inN y 7 from in0l (n := 6) (by decide)]
    refine z_if_eq (tgt := 39) hX (D_Model_paint (i := 8) rfl) (by decide) (fun h2 => ?_) (fun h2 => ?_)
    · refine z_iconst (v := -1) hX (D_Model_paint (i := 23) rfl) (by decide) ?_
      exact z_iret hX hR (D_Model_paint (i := 24) rfl) rfl (hno (by rw [bI_0.mp h2]; simp))
    · skip
      obtain ⟨k, f, hk, hf, rfl⟩ := fcB_ex (bI_n.mp h1)
      have e1 : (10 * k + f) / 10 = k := by omega
      have e2 : (10 * k + f) % 10 = f := by omega
      refine z_aload_n hX (D_Model_paint (i := 9) rfl) rfl ?_
      refine z_iconst (v := 0) hX (D_Model_paint (i := 10) rfl) (by decide) ?_
      refine z_bipush (v := 6) hX (D_Model_paint (i := 11) rfl) (by decide) ?_
      refine z_iload_n hX (D_Model_paint (i := 12) rfl) rfl ?_
      refine z_bipush (v := 10) hX (D_Model_paint (i := 13) rfl) (by decide) ?_
      refine z_idiv hX (D_Model_paint (i := 14) rfl) (by decide) ?_
      rw [nlit, pk_div (by omega) (by decide) (by decide), e1]
      refine z_imul hX (D_Model_paint (i := 15) rfl) ?_
      refine z_iload_n hX (D_Model_paint (i := 16) rfl) rfl ?_
      refine z_bipush (v := 10) hX (D_Model_paint (i := 17) rfl) (by decide) ?_
      refine z_irem hX (D_Model_paint (i := 18) rfl) (by decide) ?_
      rw [show nI (10 * k + f) - nI (10 * k + f) / 10 * 10 = nI f by rw [nlit, pk_rem (by omega) (by decide) (by decide), e2]]
      refine z_iadd hX (D_Model_paint (i := 19) rfl) ?_
      refine z_iload_n hX (D_Model_paint (i := 20) rfl) rfl ?_
      rw [show (6 : Int32) * nI k + nI f = nI (6 * k + f) by rw [nlit, pk_mul, nI_add]]
      refine z_cV3 hX (D_Model_paint (i := 21) rfl) mi_Model_changes l_Model_136 rfl rfl (by decide) (by first | exact Nat.one_pos | assumption | omega) (by first | decide | omega) (Nat.le_of_ble_eq_true rfl) (d_changes hH hd h40 (by omega) (fun q => ?_) (fun q q2 => ?_) (fun q q2 => ?_))
      · refine z_goto (tgt := 40) hX (D_Model_paint (i := 22) rfl) (by decide) ?_
        exact z_iret hX hR (D_Model_paint (i := 24) rfl) rfl (hsame k f hk hf rfl (bI_n.mp h2) q)
      · refine z_goto (tgt := 40) hX (D_Model_paint (i := 22) rfl) (by decide) ?_
        exact z_iret hX hR (D_Model_paint (i := 24) rfl) rfl (hok k f hk hf rfl (bI_n.mp h2) q q2)
      · refine z_goto (tgt := 40) hX (D_Model_paint (i := 22) rfl) (by decide) ?_
        exact z_iret hX hR (D_Model_paint (i := 24) rfl) rfl (hfull k f hk hf rfl (bI_n.mp h2) q q2)
/-- what the reference keeps of changes -/
def PaM (mem : zM) (sz d e : Nat) : Prop := mem.1 40 0 6 = nI d ∧ mem.1 40 0 7 = nI (e - d) ∧ d ≤ e ∧ e ≤ 40 ∧ ∀ i, i < e → ∃ k f b a : Nat, k < sz ∧ f < 6 ∧ b ≤ 6 ∧ a ≤ 6 ∧ mem.1 44 0 i = 0 ∧ mem.1 45 0 i = nI (6 * k + f) ∧ mem.1 46 0 i = nI b ∧ mem.1 47 0 i = nI a
theorem d_undo (hH : zHas ι pM) (h8 : sz ≤ 8) {d e : Nat} (hP : PaM mem sz d e) (hno : d = 0 → Post (some (zI (-5))) mem) (hok : ∀ k f, k < sz → f < 6 → 0 < d → mem.1 45 0 (d - 1) = nI (6 * k + f) → Post (some (zI (nI (d - 1)))) (upI (upI (upI mem 40 0 6 (nI (d - 1))) 40 0 7 (nI (e - d + 1))) 41 0 (6 * k + f) (mem.1 46 0 (d - 1)))) : zC l ι M_Model_undo 1 [zP 40 0] mem Post := by
  obtain ⟨p1, p2, p3, p4, p5⟩ := hP
  refine z_enter hH (by decide) (by simp [z_ent, M_Model_undo]) (fun X hXl hX hR => ?_)
  refine z_aload_n hX (D_Model_undo (i := 0) rfl) rfl ?_
  refine z_geti hX (D_Model_undo (i := 1) rfl) f_Model_126 rfl (by decide) (by first | exact Nat.one_pos | assumption | omega) rfl ?_
  rw [p1]
  by_cases hd : d = 0
  · subst hd
    refine z_if_ne (tgt := 10) hX (D_Model_undo (i := 2) rfl) (by decide) (fun hcc => absurd (rfl) hcc) (fun _ => ?_)
    refine z_bipush (v := -5) hX (D_Model_undo (i := 3) rfl) (by decide) ?_
    exact z_iret hX hR (D_Model_undo (i := 4) rfl) rfl (hno rfl)
  · obtain ⟨k, f, b, a, hk, hf, hb, ha, e0, e1, e2, e3⟩ := p5 (d - 1) (by omega)
    have hh := hok k f hk hf (by omega) e1
    refine z_if_ne (tgt := 10) hX (D_Model_undo (i := 2) rfl) (by decide) (fun _ => ?_) (fun hcc => absurd hcc (nI_ne0 (by omega) (by omega)))
    refine z_aload_n hX (D_Model_undo (i := 5) rfl) rfl ?_
    refine z_dupP hX (D_Model_undo (i := 6) rfl) ?_
    refine z_geti hX (D_Model_undo (i := 7) rfl) f_Model_126 rfl (by decide) (by first | exact Nat.one_pos | assumption | omega) rfl ?_
    rw [p1]
    refine z_iconst (v := 1) hX (D_Model_undo (i := 8) rfl) (by decide) ?_
    refine z_isub hX (D_Model_undo (i := 9) rfl) ?_
    rw [nlit, pk_sub (by omega)]
    refine z_puti hX (D_Model_undo (i := 10) rfl) g_Model_126 rfl (by decide) (by first | exact Nat.one_pos | assumption | omega) rfl ?_
    refine z_aload_n hX (D_Model_undo (i := 11) rfl) rfl ?_
    refine z_dupP hX (D_Model_undo (i := 12) rfl) ?_
    refine z_geti hX (D_Model_undo (i := 13) rfl) f_Model_123 rfl (by decide) (by first | exact Nat.one_pos | assumption | omega) rfl ?_
    rw [show (upI mem 40 0 6 (nI (d - 1))).1 40 0 7 = nI (e - d) by simp [upI_get, p2]]
    refine z_iconst (v := 1) hX (D_Model_undo (i := 14) rfl) (by decide) ?_
    refine z_iadd hX (D_Model_undo (i := 15) rfl) ?_
    rw [show nI (e - d) + (1 : Int32) = nI (e - d + 1) from nI_add _ 1]
    refine z_puti hX (D_Model_undo (i := 16) rfl) g_Model_123 rfl (by decide) (by first | exact Nat.one_pos | assumption | omega) rfl ?_
    refine z_aload_n hX (D_Model_undo (i := 17) rfl) rfl ?_
    refine z_aload_n hX (D_Model_undo (i := 18) rfl) rfl ?_
    refine z_getc hX (D_Model_undo (i := 19) rfl) f_Model_19 rfl (by decide) (by first | exact Nat.one_pos | assumption | omega) rfl ?_
    refine z_aload_n hX (D_Model_undo (i := 20) rfl) rfl ?_
    refine z_geti hX (D_Model_undo (i := 21) rfl) f_Model_126 rfl (by decide) (by first | exact Nat.one_pos | assumption | omega) rfl ?_
    have q1 : (upI (upI mem 40 0 6 (nI (d - 1))) 40 0 7 (nI (e - d + 1))).1 40 0 6 = nI (d - 1) := by simp [upI_get]
    rw [q1]
    refine z_iald (j := d - 1) hX (D_Model_undo (i := 22) rfl) rfl (by decide) (by first | exact Nat.one_pos | assumption | omega) (by decide) rfl (by omega) ?_
    rw [show (upI (upI mem 40 0 6 (nI (d - 1))) 40 0 7 (nI (e - d + 1))).1 44 0 (d - 1) = 0 by simp [upI_get, e0]]
    refine z_aload_n hX (D_Model_undo (i := 23) rfl) rfl ?_
    refine z_getc hX (D_Model_undo (i := 24) rfl) f_Model_22 rfl (by decide) (by first | exact Nat.one_pos | assumption | omega) rfl ?_
    refine z_aload_n hX (D_Model_undo (i := 25) rfl) rfl ?_
    refine z_geti hX (D_Model_undo (i := 26) rfl) f_Model_126 rfl (by decide) (by first | exact Nat.one_pos | assumption | omega) rfl ?_
    rw [q1]
    refine z_iald (j := d - 1) hX (D_Model_undo (i := 27) rfl) rfl (by decide) (by first | exact Nat.one_pos | assumption | omega) (by decide) rfl (by omega) ?_
    rw [show (upI (upI mem 40 0 6 (nI (d - 1))) 40 0 7 (nI (e - d + 1))).1 45 0 (d - 1) = nI (6 * k + f) by simp [upI_get, e1]]
    refine z_aload_n hX (D_Model_undo (i := 28) rfl) rfl ?_
    refine z_getc hX (D_Model_undo (i := 29) rfl) f_Model_25 rfl (by decide) (by first | exact Nat.one_pos | assumption | omega) rfl ?_
    refine z_aload_n hX (D_Model_undo (i := 30) rfl) rfl ?_
    refine z_geti hX (D_Model_undo (i := 31) rfl) f_Model_126 rfl (by decide) (by first | exact Nat.one_pos | assumption | omega) rfl ?_
    rw [q1]
    refine z_iald (j := d - 1) hX (D_Model_undo (i := 32) rfl) rfl (by decide) (by first | exact Nat.one_pos | assumption | omega) (by decide) rfl (by omega) ?_
    rw [show (upI (upI mem 40 0 6 (nI (d - 1))) 40 0 7 (nI (e - d + 1))).1 46 0 (d - 1) = mem.1 46 0 (d - 1) by simp [upI_get]]
    refine z_cV3 hX (D_Model_undo (i := 33) rfl) mi_Model_lays l_Model_129 rfl rfl (by decide) (by first | exact Nat.one_pos | assumption | omega) (by first | decide | omega) (Nat.le_of_ble_eq_true rfl) (d_lays hH (by omega) ?_)
    refine z_aload_n hX (D_Model_undo (i := 34) rfl) rfl ?_
    refine z_geti hX (D_Model_undo (i := 35) rfl) f_Model_126 rfl (by decide) (by first | exact Nat.one_pos | assumption | omega) rfl ?_
    rw [show (upI (upI (upI mem 40 0 6 (nI (d - 1))) 40 0 7 (nI (e - d + 1))) 41 0 (6 * k + f) (mem.1 46 0 (d - 1))).1 40 0 6 = nI (d - 1) by simp [upI_get]]
    exact z_iret hX hR (D_Model_undo (i := 36) rfl) rfl hh
theorem d_redo (hH : zHas ι pM) (h8 : sz ≤ 8) {d e : Nat} (hP : PaM mem sz d e) (hno : d = e → Post (some (zI (-5))) mem) (hok : ∀ k f, k < sz → f < 6 → d < e → mem.1 45 0 d = nI (6 * k + f) → Post (some (zI (nI (e - (d + 1))))) (upI (upI (upI mem 41 0 (6 * k + f) (mem.1 47 0 d)) 40 0 6 (nI (d + 1))) 40 0 7 (nI (e - (d + 1))))) : zC l ι M_Model_redo 1 [zP 40 0] mem Post := by
  obtain ⟨p1, p2, p3, p4, p5⟩ := hP
  refine z_enter hH (by decide) (by simp [z_ent, M_Model_redo]) (fun X hXl hX hR => ?_)
  refine z_aload_n hX (D_Model_redo (i := 0) rfl) rfl ?_
  refine z_geti hX (D_Model_redo (i := 1) rfl) f_Model_123 rfl (by decide) (by first | exact Nat.one_pos | assumption | omega) rfl ?_
  rw [p2]
  by_cases hd : d = e
  · subst hd
    rw [Nat.sub_self]
    refine z_if_ne (tgt := 10) hX (D_Model_redo (i := 2) rfl) (by decide) (fun hcc => absurd (rfl) hcc) (fun _ => ?_)
    refine z_bipush (v := -5) hX (D_Model_redo (i := 3) rfl) (by decide) ?_
    exact z_iret hX hR (D_Model_redo (i := 4) rfl) rfl (hno rfl)
  · obtain ⟨k, f, b, a, hk, hf, hb, ha, e0, e1, e2, e3⟩ := p5 d (by omega)
    have hh := hok k f hk hf (by omega) e1
    refine z_if_ne (tgt := 10) hX (D_Model_redo (i := 2) rfl) (by decide) (fun _ => ?_) (fun hcc => absurd hcc (nI_ne0 (by omega) (by omega)))
    refine z_aload_n hX (D_Model_redo (i := 5) rfl) rfl ?_
    refine z_aload_n hX (D_Model_redo (i := 6) rfl) rfl ?_
    refine z_getc hX (D_Model_redo (i := 7) rfl) f_Model_19 rfl (by decide) (by first | exact Nat.one_pos | assumption | omega) rfl ?_
    refine z_aload_n hX (D_Model_redo (i := 8) rfl) rfl ?_
    refine z_geti hX (D_Model_redo (i := 9) rfl) f_Model_126 rfl (by decide) (by first | exact Nat.one_pos | assumption | omega) rfl ?_
    rw [p1]
    refine z_iald (j := d) hX (D_Model_redo (i := 10) rfl) rfl (by decide) (by first | exact Nat.one_pos | assumption | omega) (by decide) rfl (by omega) ?_
    rw [e0]
    refine z_aload_n hX (D_Model_redo (i := 11) rfl) rfl ?_
    refine z_getc hX (D_Model_redo (i := 12) rfl) f_Model_22 rfl (by decide) (by first | exact Nat.one_pos | assumption | omega) rfl ?_
    refine z_aload_n hX (D_Model_redo (i := 13) rfl) rfl ?_
    refine z_geti hX (D_Model_redo (i := 14) rfl) f_Model_126 rfl (by decide) (by first | exact Nat.one_pos | assumption | omega) rfl ?_
    rw [p1]
    refine z_iald (j := d) hX (D_Model_redo (i := 15) rfl) rfl (by decide) (by first | exact Nat.one_pos | assumption | omega) (by decide) rfl (by omega) ?_
    rw [e1]
    refine z_aload_n hX (D_Model_redo (i := 16) rfl) rfl ?_
    refine z_getc hX (D_Model_redo (i := 17) rfl) f_Model_28 rfl (by decide) (by first | exact Nat.one_pos | assumption | omega) rfl ?_
    refine z_aload_n hX (D_Model_redo (i := 18) rfl) rfl ?_
    refine z_geti hX (D_Model_redo (i := 19) rfl) f_Model_126 rfl (by decide) (by first | exact Nat.one_pos | assumption | omega) rfl ?_
    rw [p1]
    refine z_iald (j := d) hX (D_Model_redo (i := 20) rfl) rfl (by decide) (by first | exact Nat.one_pos | assumption | omega) (by decide) rfl (by omega) ?_
    refine z_cV3 hX (D_Model_redo (i := 21) rfl) mi_Model_lays l_Model_129 rfl rfl (by decide) (by first | exact Nat.one_pos | assumption | omega) (by first | decide | omega) (Nat.le_of_ble_eq_true rfl) (d_lays hH (by omega) ?_)
    refine z_aload_n hX (D_Model_redo (i := 22) rfl) rfl ?_
    refine z_dupP hX (D_Model_redo (i := 23) rfl) ?_
    refine z_geti hX (D_Model_redo (i := 24) rfl) f_Model_126 rfl (by decide) (by first | exact Nat.one_pos | assumption | omega) rfl ?_
    rw [show (upI mem 41 0 (6 * k + f) (mem.1 47 0 d)).1 40 0 6 = nI d by simp [upI_get, p1]]
    refine z_iconst (v := 1) hX (D_Model_redo (i := 25) rfl) (by decide) ?_
    refine z_iadd hX (D_Model_redo (i := 26) rfl) ?_
    rw [nlit, nI_add]
    refine z_puti hX (D_Model_redo (i := 27) rfl) g_Model_126 rfl (by decide) (by first | exact Nat.one_pos | assumption | omega) rfl ?_
    refine z_aload_n hX (D_Model_redo (i := 28) rfl) rfl ?_
    refine z_dupP hX (D_Model_redo (i := 29) rfl) ?_
    refine z_geti hX (D_Model_redo (i := 30) rfl) f_Model_123 rfl (by decide) (by first | exact Nat.one_pos | assumption | omega) rfl ?_
    rw [show (upI (upI mem 41 0 (6 * k + f) (mem.1 47 0 d)) 40 0 6 (nI (d + 1))).1 40 0 7 = nI (e - d) by simp [upI_get, p2]]
    refine z_iconst (v := 1) hX (D_Model_redo (i := 31) rfl) (by decide) ?_
    refine z_isub hX (D_Model_redo (i := 32) rfl) ?_
    rw [show nI (e - d) - (1 : Int32) = nI (e - (d + 1)) by rw [nlit, pk_sub (by omega), show e - d - 1 = e - (d + 1) by omega]]
    refine z_puti hX (D_Model_redo (i := 33) rfl) g_Model_123 rfl (by decide) (by first | exact Nat.one_pos | assumption | omega) rfl ?_
    refine z_aload_n hX (D_Model_redo (i := 34) rfl) rfl ?_
    refine z_geti hX (D_Model_redo (i := 35) rfl) f_Model_123 rfl (by decide) (by first | exact Nat.one_pos | assumption | omega) rfl ?_
    rw [show (upI (upI (upI mem 41 0 (6 * k + f) (mem.1 47 0 d)) 40 0 6 (nI (d + 1))) 40 0 7 (nI (e - (d + 1)))).1 40 0 7 = nI (e - (d + 1)) by simp [upI_get]]
    exact z_iret hX hR (D_Model_redo (i := 36) rfl) rfl hh
end G6
