/-! the reference reads the law's text -/
def mdS (s : Nat × Nat) : Int32 × Int32 := if s.1 = 0 then (1, nI s.2) else if s.1 = 1 then (2, nI (if s.2 = 97 then 0 else if s.2 = 98 then 1 else if s.2 = 115 then 2 else if s.2 = 105 then 3 else 4)) else if s.1 = 2 then (if s.2 = 33 then 3 else 4, 0) else (nI s.2, 0)
def mdC (e : lE) : List (Int32 × Int32) := e.map mdS
theorem mdC_1 (s : Nat × Nat) : mdC [s] = [mdS s] := rfl
theorem mdC_app (a b : lE) : mdC (a ++ b) = mdC a ++ mdC b := List.map_append
theorem mdC_len (a : lE) : (mdC a).length = a.length := List.length_map _
def mkV (k : Nat) : Int32 := if k = 999 then -1 else by8 (nI k)
theorem by8_t : ∀ k, k < 256 → (by8 (nI k)).toInt = if k < 128 then (k : Int) else (k : Int) - 256 := by decide +kernel
theorem by8_nI : ∀ k, k < 128 → by8 (nI k) = nI k := by decide +kernel
theorem mkV_int {k : Nat} (hk : k < 256 ∨ k = 999) : (mkV k).toInt = if k < 128 then (k : Int) else if k = 999 then -1 else (k : Int) - 256 := by
  unfold mkV
  split
  · next h => rw [h]; rfl
  · next h =>
    rw [by8_t k (by omega)]
theorem mkV_is {k c : Nat} (hk : k < 256 ∨ k = 999) (hc : c < 128) : mkV k = nI c ↔ k = c := by
  have e := mkV_int hk
  constructor
  · intro w
    rw [w, nI_toInt (by omega)] at e
    split at e
    · omega
    · split at e <;> omega
  · intro w
    subst w
    exact (if_neg (by omega)).trans (by8_nI k hc)
theorem mkV_dg {k : Nat} (hk : k < 256 ∨ k = 999) : decide ((48 : Int32) ≤ mkV k ∧ mkV k ≤ 57) = isDg k := by
  have e := mkV_int hk
  unfold isDg
  refine decide_eq_decide.mpr ?_
  rw [Int32.le_iff_toInt_le, Int32.le_iff_toInt_le, e, show (48 : Int32).toInt = 48 from rfl, show (57 : Int32).toInt = 57 from rfl]
  split
  · omega
  · split <;> omega
/-- the tape as the reference holds it -/
def MT (mem : zM) (n : Nat) (K : Nat → Nat) : Prop := mem.1 40 0 13 = nI n ∧ n ≤ 120 ∧ (∀ p, n ≤ p → K p = 999) ∧ (∀ p, p < n → mem.1 48 0 p = by8 (nI (K p)) ∧ K p < 256)
theorem MT.K9 {mem : zM} {n : Nat} {K : Nat → Nat} (h : MT mem n K) (p : Nat) : K p < 256 ∨ K p = 999 := by
  by_cases hp : p < n
  · exact Or.inl (h.2.2.2 p hp).2
  · exact Or.inr (h.2.2.1 p (by omega))
def pmM (mem : zM) (p : Nat) (f o : Int32) (st : List (Int32 × Int32)) : zM := (fun a b c => if a = 40 ∧ b = 0 ∧ c = 14 then nI p else if a = 40 ∧ b = 0 ∧ c = 15 then f else if a = 40 ∧ b = 0 ∧ c = 16 then o else if a = 40 ∧ b = 0 ∧ c = 17 then nI st.length else if a = 49 ∧ b = 0 ∧ 130 ≤ c ∧ c < 130 + st.length then (st.getD (c - 130) (0, 0)).1 else if a = 50 ∧ b = 0 ∧ 130 ≤ c ∧ c < 130 + st.length then (st.getD (c - 130) (0, 0)).2 else mem.1 a b c, mem.2)
section P0
variable {mem : zM} {p q : Nat} {f g o u : Int32} {st : List (Int32 × Int32)}
theorem pmM_14 : (pmM mem p f o st).1 40 0 14 = nI p := rfl
theorem pmM_15 : (pmM mem p f o st).1 40 0 15 = f := rfl
theorem pmM_16 : (pmM mem p f o st).1 40 0 16 = o := rfl
theorem pmM_17 : (pmM mem p f o st).1 40 0 17 = nI st.length := rfl
theorem pmM_13 : (pmM mem p f o st).1 40 0 13 = mem.1 40 0 13 := rfl
theorem pmM_48 {j : Nat} : (pmM mem p f o st).1 48 0 j = mem.1 48 0 j := rfl
theorem pmM_p : upI (pmM mem p f o st) 40 0 14 (nI q) = pmM mem q f o st := by
  refine Prod.ext ?_ rfl
  funext a b c
  simp only [upI_get, pmM]
  split <;> rfl
theorem pmM_f : upI (pmM mem p f o st) 40 0 15 g = pmM mem p g o st := by
  refine Prod.ext ?_ rfl
  funext a b c
  simp only [upI_get, pmM]
  by_cases h : a = 40 ∧ b = 0 ∧ c = 15
  · rw [if_pos h, if_neg (by omega), if_pos h]
  · rw [if_neg h, if_neg h, if_neg h]
theorem pmM_o : upI (pmM mem p f o st) 40 0 16 u = pmM mem p f u st := by
  refine Prod.ext ?_ rfl
  funext a b c
  simp only [upI_get, pmM]
  by_cases h : a = 40 ∧ b = 0 ∧ c = 16
  · rw [if_pos h, if_neg (by omega), if_neg (by omega), if_pos h]
  · rw [if_neg h, if_neg h, if_neg h]
theorem pmM_add {x y : Int32} : upI (upI (upI (pmM mem p f o st) 49 0 (130 + st.length) x) 50 0 (130 + st.length) y) 40 0 17 (nI (st.length + 1)) = pmM mem p f o (st ++ [(x, y)]) := by
  refine Prod.ext ?_ rfl
  funext a b c
  simp only [upI_get, pmM, List.length_append, List.length_cons, List.length_nil]
  by_cases h1 : a = 40
  · subst h1
    simp only [show ¬ (40 = 49) by decide, show ¬ (40 = 50) by decide, false_and, if_false, true_and]
    by_cases h2 : b = 0 ∧ c = 17
    · rw [if_pos h2, if_neg (by omega), if_neg (by omega), if_neg (by omega), if_pos h2]
    · rw [if_neg h2, if_neg h2, if_neg h2]
  · simp only [h1, false_and, if_false]
    by_cases h2 : a = 49
    · subst h2
      simp only [show ¬ (49 = 50) by decide, false_and, if_false, true_and]
      by_cases h3 : b = 0 ∧ c = 130 + st.length
      · rw [if_pos h3, if_pos (by omega), show c - 130 = st.length by omega]
        simp
      · rw [if_neg h3]
        by_cases h4 : b = 0 ∧ 130 ≤ c ∧ c < 130 + st.length
        · rw [if_pos h4, if_pos (by omega), List.getD_eq_getElem?_getD, List.getD_eq_getElem?_getD, List.getElem?_append_left (by omega)]
        · rw [if_neg h4, if_neg (by omega)]
    · simp only [h2, false_and, if_false]
      by_cases h3 : a = 50
      · subst h3
        simp only [true_and]
        by_cases h3 : b = 0 ∧ c = 130 + st.length
        · rw [if_pos h3, if_pos (by omega), show c - 130 = st.length by omega]
          simp
        · rw [if_neg h3]
          by_cases h4 : b = 0 ∧ 130 ≤ c ∧ c < 130 + st.length
          · rw [if_pos h4, if_pos (by omega), List.getD_eq_getElem?_getD, List.getD_eq_getElem?_getD, List.getElem?_append_left (by omega)]
          · rw [if_neg h4, if_neg (by omega)]
      · simp only [h3, false_and, if_false]
end P0
section D1
variable {l : Launch} {ι : zE} {mem : zM} {Post : Option zV → zM → Prop} {x y z f o : Int32} {n p : Nat} {K : Nat → Nat} {st : List (Int32 × Int32)}
theorem d_look (hH : zHas ι pM) (hT : MT mem n K) (hp : p ≤ n) (h : Post (some (zI (mkV (K p)))) (pmM mem p f o st)) : zC l ι M_Model_look 0 [zP 40 0] (pmM mem p f o st) Post := by
  refine z_enter hH (by decide) (by simp [z_ent, M_Model_look]) (fun X hXl hX hR => ?_)
  refine z_aload_n hX (D_Model_look (i := 0) rfl) rfl ?_
  refine z_geti hX (D_Model_look (i := 1) rfl) f_Model_153 rfl (by decide) (by first | exact Nat.one_pos | assumption | omega) rfl ?_
  refine z_aload_n hX (D_Model_look (i := 2) rfl) rfl ?_
  refine z_geti hX (D_Model_look (i := 3) rfl) f_Model_150 rfl (by decide) (by first | exact Nat.one_pos | assumption | omega) rfl ?_
  rw [pmM_14, pmM_13, hT.1]
  have h120 := hT.2.1
  by_cases hp2 : p < n
  · refine z_icmp_ge (tgt := 23) hX (D_Model_look (i := 4) rfl) (by decide) (fun hcc => absurd hcc (nI_ge hp2 (by omega))) (fun _ => ?_)
    refine z_aload_n hX (D_Model_look (i := 5) rfl) rfl ?_
    refine z_getc hX (D_Model_look (i := 6) rfl) f_Model_31 rfl (by decide) (by first | exact Nat.one_pos | assumption | omega) rfl ?_
    refine z_aload_n hX (D_Model_look (i := 7) rfl) rfl ?_
    refine z_geti hX (D_Model_look (i := 8) rfl) f_Model_153 rfl (by decide) (by first | exact Nat.one_pos | assumption | omega) rfl ?_
    rw [pmM_14]
    refine z_bald (j := p) hX (D_Model_look (i := 9) rfl) rfl (by decide) (by first | exact Nat.one_pos | assumption | omega) (by decide) rfl (by omega) ?_
    rw [pmM_48, (hT.2.2.2 p hp2).1]
    have hb := (hT.2.2.2 p hp2).2
    rw [show mkV (K p) = by8 (nI (K p)) from if_neg (by omega)] at h
    refine z_goto (tgt := 24) hX (D_Model_look (i := 10) rfl) (by decide) ?_
    exact z_iret hX hR (D_Model_look (i := 12) rfl) rfl (by assumption)
  · obtain rfl : p = n := by omega
    refine z_icmp_ge (tgt := 23) hX (D_Model_look (i := 4) rfl) (by decide) (fun _ => ?_) (fun hcc => absurd (Int32.le_refl _) hcc)
    rw [show mkV (K p) = -1 from if_pos (hT.2.2.1 p (Nat.le_refl _))] at h
    refine z_iconst (v := -1) hX (D_Model_look (i := 11) rfl) (by decide) ?_
    exact z_iret hX hR (D_Model_look (i := 12) rfl) rfl (by assumption)
theorem d_faulty (hH : zHas ι pM) (h : Post none (pmM mem p (nI p) o st)) : zC l ι M_Model_faulty 0 [zP 40 0] (pmM mem p (-1) o st) Post := by
  refine z_enter hH (by decide) (by simp [z_ent, M_Model_faulty]) (fun X hXl hX hR => ?_)
  refine z_aload_n hX (D_Model_faulty (i := 0) rfl) rfl ?_
  refine z_geti hX (D_Model_faulty (i := 1) rfl) f_Model_156 rfl (by decide) (by first | exact Nat.one_pos | assumption | omega) rfl ?_
  rw [pmM_15]
  refine z_if_ge (tgt := 15) hX (D_Model_faulty (i := 2) rfl) (by decide) (fun hcc => absurd hcc (by decide)) (fun _ => ?_)
  refine z_aload_n hX (D_Model_faulty (i := 3) rfl) rfl ?_
  refine z_aload_n hX (D_Model_faulty (i := 4) rfl) rfl ?_
  refine z_geti hX (D_Model_faulty (i := 5) rfl) f_Model_153 rfl (by decide) (by first | exact Nat.one_pos | assumption | omega) rfl ?_
  refine z_puti hX (D_Model_faulty (i := 6) rfl) g_Model_156 rfl (by decide) (by first | exact Nat.one_pos | assumption | omega) rfl ?_
  rw [pmM_14, pmM_f]
  exact z_ret hX hR (D_Model_faulty (i := 7) rfl) rfl (by assumption)
theorem d_addStep (hH : zHas ι pM) (hx : by8 x = x) (hl : st.length < 130) (h : Post none (pmM mem p f o (st ++ [(x, y)]))) : zC l ι M_Model_addStep 0 [zP 40 0, zI x, zI y] (pmM mem p f o st) Post := by
  refine z_enter hH (by decide) (by simp [z_ent, M_Model_addStep]) (fun X hXl hX hR => ?_)
  refine z_aload_n hX (D_Model_addStep (i := 0) rfl) rfl ?_
  refine z_getc hX (D_Model_addStep (i := 1) rfl) f_Model_35 rfl (by decide) (by first | exact Nat.one_pos | assumption | omega) rfl ?_
  refine z_sipush (v := 130) hX (D_Model_addStep (i := 2) rfl) (by decide) ?_
  refine z_aload_n hX (D_Model_addStep (i := 3) rfl) rfl ?_
  refine z_geti hX (D_Model_addStep (i := 4) rfl) f_Model_159 rfl (by decide) (by first | exact Nat.one_pos | assumption | omega) rfl ?_
  refine z_iadd hX (D_Model_addStep (i := 5) rfl) ?_
  rw [pmM_17, show (130 : Int32) + nI st.length = nI (130 + st.length) from nI_add 130 _]
  refine z_iload_n hX (D_Model_addStep (i := 6) rfl) rfl ?_
  refine z_i2b hX (D_Model_addStep (i := 7) rfl) ?_
  refine z_bast (j := 130 + st.length) hX (D_Model_addStep (i := 8) rfl) rfl (by decide) (by first | exact Nat.one_pos | assumption | omega) (by decide) rfl (by omega) ?_
  rw [show x.toInt8.toInt32.toInt8.toInt32 = x from hx]
  refine z_aload_n hX (D_Model_addStep (i := 9) rfl) rfl ?_
  refine z_getc hX (D_Model_addStep (i := 10) rfl) f_Model_38 rfl (by decide) (by first | exact Nat.one_pos | assumption | omega) rfl ?_
  refine z_sipush (v := 130) hX (D_Model_addStep (i := 11) rfl) (by decide) ?_
  refine z_aload_n hX (D_Model_addStep (i := 12) rfl) rfl ?_
  refine z_geti hX (D_Model_addStep (i := 13) rfl) f_Model_159 rfl (by decide) (by first | exact Nat.one_pos | assumption | omega) rfl ?_
  refine z_iadd hX (D_Model_addStep (i := 14) rfl) ?_
  rw [show (upI (pmM mem p f o st) 49 0 (130 + st.length) x).1 40 0 17 = nI st.length from rfl, show (130 : Int32) + nI st.length = nI (130 + st.length) from nI_add 130 _]
  refine z_iload_n hX (D_Model_addStep (i := 15) rfl) rfl ?_
  refine z_iast (j := 130 + st.length) hX (D_Model_addStep (i := 16) rfl) rfl (by decide) (by first | exact Nat.one_pos | assumption | omega) (by decide) rfl (by omega) ?_
  refine z_aload_n hX (D_Model_addStep (i := 17) rfl) rfl ?_
  refine z_dupP hX (D_Model_addStep (i := 18) rfl) ?_
  refine z_geti hX (D_Model_addStep (i := 19) rfl) f_Model_159 rfl (by decide) (by first | exact Nat.one_pos | assumption | omega) rfl ?_
  refine z_iconst (v := 1) hX (D_Model_addStep (i := 20) rfl) (by decide) ?_
  refine z_iadd hX (D_Model_addStep (i := 21) rfl) ?_
  rw [show (upI (upI (pmM mem p f o st) 49 0 (130 + st.length) x) 50 0 (130 + st.length) y).1 40 0 17 + 1 = nI (st.length + 1) from nI_add st.length 1]
  refine z_puti hX (D_Model_addStep (i := 22) rfl) g_Model_159 rfl (by decide) (by first | exact Nat.one_pos | assumption | omega) rfl ?_
  rw [pmM_add]
  exact z_ret hX hR (D_Model_addStep (i := 23) rfl) rfl (by assumption)
def nmV (k : Nat) : Int32 := if isNm k = true then nI (if k = 97 then 0 else if k = 98 then 1 else if k = 115 then 2 else if k = 105 then 3 else 4) else -1
theorem d_nameOf {k : Nat} (hk : k < 256 ∨ k = 999) (h : Post (some (zI (nmV k))) mem) : zC l ι M_Model_nameOf 0 [zI (mkV k)] mem Post := by
  have hH : zHas ι [] := zHas.nil
  have e := mkV_int hk
  refine z_enter hH (by decide) (by simp [z_ent, M_Model_nameOf]) (fun X hXl hX hR => ?_)
  refine z_iload_n hX (D_Model_nameOf (i := 0) rfl) rfl ?_
  by_cases q97 : k = 97
  · subst q97
    refine z_lookup (off := 51) (tgt := 52) hX (D_Model_nameOf (i := 1) rfl) (by decide) (by decide) (by decide) ?_
    refine z_iconst (v := 0) hX (D_Model_nameOf (i := 2) rfl) (by decide) ?_
    exact z_iret hX hR (D_Model_nameOf (i := 3) rfl) rfl h
  by_cases q98 : k = 98
  · subst q98
    refine z_lookup (off := 53) (tgt := 54) hX (D_Model_nameOf (i := 1) rfl) (by decide) (by decide) (by decide) ?_
    refine z_iconst (v := 1) hX (D_Model_nameOf (i := 4) rfl) (by decide) ?_
    exact z_iret hX hR (D_Model_nameOf (i := 5) rfl) rfl h
  by_cases q115 : k = 115
  · subst q115
    refine z_lookup (off := 55) (tgt := 56) hX (D_Model_nameOf (i := 1) rfl) (by decide) (by decide) (by decide) ?_
    refine z_iconst (v := 2) hX (D_Model_nameOf (i := 6) rfl) (by decide) ?_
    exact z_iret hX hR (D_Model_nameOf (i := 7) rfl) rfl h
  by_cases q105 : k = 105
  · subst q105
    refine z_lookup (off := 57) (tgt := 58) hX (D_Model_nameOf (i := 1) rfl) (by decide) (by decide) (by decide) ?_
    refine z_iconst (v := 3) hX (D_Model_nameOf (i := 8) rfl) (by decide) ?_
    exact z_iret hX hR (D_Model_nameOf (i := 9) rfl) rfl h
  by_cases q106 : k = 106
  · subst q106
    refine z_lookup (off := 59) (tgt := 60) hX (D_Model_nameOf (i := 1) rfl) (by decide) (by decide) (by decide) ?_
    refine z_iconst (v := 4) hX (D_Model_nameOf (i := 10) rfl) (by decide) ?_
    exact z_iret hX hR (D_Model_nameOf (i := 11) rfl) rfl h
  have e2 : ∀ c : Int, (c = 97 ∨ c = 98 ∨ c = 105 ∨ c = 106 ∨ c = 115) → ¬ c = (mkV k).toInt := by
    intro c hc
    rw [e]
    split
    · omega
    · split <;> omega
  refine z_lookup (off := 61) (tgt := 62) hX (D_Model_nameOf (i := 1) rfl) (by decide) (by simp only [Op.lookupswitch.offset_cons, Op.lookupswitch.offset_nil]; rw [if_neg (e2 97 (by decide)), if_neg (e2 98 (by decide)), if_neg (e2 105 (by decide)), if_neg (e2 106 (by decide)), if_neg (e2 115 (by decide))]) (by decide) ?_
  rw [show nmV k = -1 from if_neg (fun w => by have := of_decide_eq_true w; omega)] at h
  refine z_iconst (v := -1) hX (D_Model_nameOf (i := 12) rfl) (by decide) ?_
  exact z_iret hX hR (D_Model_nameOf (i := 13) rfl) rfl (by assumption)
theorem d_opens_no (hH : zHas ι pM) (h : Post (some (zI 0)) (pmM mem p (nI p) (nI 6) st)) : zC l ι M_Model_opens 1 [zP 40 0] (pmM mem p (-1) (nI 6) st) Post := by
  refine z_enter hH (by decide) (by simp [z_ent, M_Model_opens]) (fun X hXl hX hR => ?_)
  refine z_aload_n hX (D_Model_opens (i := 0) rfl) rfl ?_
  refine z_geti hX (D_Model_opens (i := 1) rfl) f_Model_162 rfl (by decide) (by first | exact Nat.one_pos | assumption | omega) rfl ?_
  refine z_bipush (v := 6) hX (D_Model_opens (i := 2) rfl) (by decide) ?_
  rw [pmM_16]
  refine z_icmp_ne (tgt := 15) hX (D_Model_opens (i := 3) rfl) (by decide) (fun hcc => absurd (rfl) hcc) (fun _ => ?_)
  refine z_aload_n hX (D_Model_opens (i := 4) rfl) rfl ?_
  refine z_cV0 hX (D_Model_opens (i := 5) rfl) mi_Model_faulty l_Model_165 rfl rfl (by decide) (by first | exact Nat.one_pos | assumption | omega) (by first | decide | omega) (Nat.le_of_ble_eq_true rfl) (d_faulty hH ?_)
  refine z_iconst (v := 0) hX (D_Model_opens (i := 6) rfl) (by decide) ?_
  exact z_zret hX hR (D_Model_opens (i := 7) rfl) rfl (by first | exact Or.inl rfl | exact Or.inr rfl | assumption) (by assumption)
theorem d_opens (hH : zHas ι pM) {o : Nat} (ho : o < 6) (h : Post (some (zI 1)) (pmM mem (p + 1) (-1) (nI (o + 1)) st)) : zC l ι M_Model_opens 1 [zP 40 0] (pmM mem p (-1) (nI o) st) Post := by
  refine z_enter hH (by decide) (by simp [z_ent, M_Model_opens]) (fun X hXl hX hR => ?_)
  refine z_aload_n hX (D_Model_opens (i := 0) rfl) rfl ?_
  refine z_geti hX (D_Model_opens (i := 1) rfl) f_Model_162 rfl (by decide) (by first | exact Nat.one_pos | assumption | omega) rfl ?_
  refine z_bipush (v := 6) hX (D_Model_opens (i := 2) rfl) (by decide) ?_
  rw [pmM_16]
  refine z_icmp_ne (tgt := 15) hX (D_Model_opens (i := 3) rfl) (by decide) (fun _ => ?_) (fun hcc => absurd hcc ((fun w => absurd ((nI_eq (a := o) (b := 6) (by omega) (by decide)).mp w) (by omega))))
  refine z_aload_n hX (D_Model_opens (i := 8) rfl) rfl ?_
  refine z_dupP hX (D_Model_opens (i := 9) rfl) ?_
  refine z_geti hX (D_Model_opens (i := 10) rfl) f_Model_162 rfl (by decide) (by first | exact Nat.one_pos | assumption | omega) rfl ?_
  refine z_iconst (v := 1) hX (D_Model_opens (i := 11) rfl) (by decide) ?_
  refine z_iadd hX (D_Model_opens (i := 12) rfl) ?_
  rw [pmM_16, show nI o + 1 = nI (o + 1) from nI_add o 1]
  refine z_puti hX (D_Model_opens (i := 13) rfl) g_Model_162 rfl (by decide) (by first | exact Nat.one_pos | assumption | omega) rfl ?_
  rw [pmM_o]
  refine z_aload_n hX (D_Model_opens (i := 14) rfl) rfl ?_
  refine z_dupP hX (D_Model_opens (i := 15) rfl) ?_
  refine z_geti hX (D_Model_opens (i := 16) rfl) f_Model_153 rfl (by decide) (by first | exact Nat.one_pos | assumption | omega) rfl ?_
  refine z_iconst (v := 1) hX (D_Model_opens (i := 17) rfl) (by decide) ?_
  refine z_iadd hX (D_Model_opens (i := 18) rfl) ?_
  rw [pmM_14, show nI p + 1 = nI (p + 1) from nI_add p 1]
  refine z_puti hX (D_Model_opens (i := 19) rfl) g_Model_153 rfl (by decide) (by first | exact Nat.one_pos | assumption | omega) rfl ?_
  rw [pmM_p]
  refine z_iconst (v := 1) hX (D_Model_opens (i := 20) rfl) (by decide) ?_
  exact z_zret hX hR (D_Model_opens (i := 21) rfl) rfl (by first | exact Or.inl rfl | exact Or.inr rfl | assumption) (by assumption)
theorem d_figure (hH : zHas ι pM) (hT : MT mem n K) (hp : p ≤ n) (hl : st.length < 130) (hs : isDg (K p) = true → isDg (K (nuR K 4 p 0).1) = false → Post none (pmM mem (nuR K 4 p 0).1 (-1) o (st ++ [(1, nI (nuR K 4 p 0).2)]))) (hn : (isDg (K p) = false ∨ isDg (K (nuR K 4 p 0).1) = true) → Post none (pmM mem (nuR K 4 p 0).1 (nI (nuR K 4 p 0).1) o (st ++ [(1, nI (nuR K 4 p 0).2)]))) : zC l ι M_Model_figure 1 [zP 40 0] (pmM mem p (-1) o st) Post := by
  refine z_enter hH (by decide) (by simp [z_ent, M_Model_figure]) (fun X hXl hX hR => ?_)
  refine z_iconst (v := 0) hX (D_Model_figure (i := 0) rfl) (by decide) ?_
  refine z_istore_n hX (D_Model_figure (i := 1) rfl) (by decide) rfl ?_
  refine z_iconst (v := 0) hX (D_Model_figure (i := 2) rfl) (by decide) ?_
  refine z_istore_n hX (D_Model_figure (i := 3) rfl) (by decide) rfl ?_
  suffices H : ∀ (m c v : Nat), m ≤ 4 → c ≤ n → nuR K m c v = nuR K 4 p 0 → (m = 4 → c = p) → (m < 4 → isDg (K p) = true) → zW ι M_Model_figure X 4 [some (zP 40 0), some (zI (nI v)), some (zI (nI (4 - m)))] [] (pmM mem c (-1) o st) from H 4 p 0 (Nat.le_refl _) hp rfl (fun _ => rfl) (fun q => absurd q (Nat.lt_irrefl _))
  intro m
  have add : ∀ (c v : Nat) (f k : Int32), (c, v) = nuR K 4 p 0 → Post none (pmM mem c f o (st ++ [(1, nI v)])) → zW ι M_Model_figure X 74 [some (zP 40 0), some (zI (nI v)), some (zI k)] [] (pmM mem c f o st) := by
    intro c v f k hcv h
    refine z_aload_n hX (D_Model_figure (i := 40) rfl) rfl ?_
    refine z_iconst (v := 1) hX (D_Model_figure (i := 41) rfl) (by decide) ?_
    refine z_iload_n hX (D_Model_figure (i := 42) rfl) rfl ?_
    refine z_cV2 hX (D_Model_figure (i := 43) rfl) mi_Model_addStep l_Model_172 rfl rfl (by decide) (by first | exact Nat.one_pos | assumption | omega) (by first | decide | omega) (Nat.le_of_ble_eq_true rfl) (d_addStep hH (by decide) hl ?_)
    exact z_ret hX hR (D_Model_figure (i := 44) rfl) rfl (by assumption)
  have bad : ∀ (c v : Nat) (k : Int32), (c, v) = nuR K 4 p 0 → (isDg (K p) = false ∨ isDg (K c) = true) → zW ι M_Model_figure X 70 [some (zP 40 0), some (zI (nI v)), some (zI k)] [] (pmM mem c (-1) o st) := by
    intro c v k hcv hb
    rw [← hcv] at hn
    refine z_aload_n hX (D_Model_figure (i := 38) rfl) rfl ?_
    refine z_cV0 hX (D_Model_figure (i := 39) rfl) mi_Model_faulty l_Model_165 rfl rfl (by decide) (by first | exact Nat.one_pos | assumption | omega) (by first | decide | omega) (Nat.le_of_ble_eq_true rfl) (d_faulty hH ?_)
    exact add c v _ k hcv (hn hb)
  have tail : ∀ (m c v : Nat), m ≤ 4 → c ≤ n → (c, v) = nuR K 4 p 0 → (m = 4 → isDg (K p) = false) → (m < 4 → isDg (K p) = true) → zW ι M_Model_figure X 52 [some (zP 40 0), some (zI (nI v)), some (zI (nI (4 - m)))] [] (pmM mem c (-1) o st) := by
    intro m c v hm hc hcv h4 hlt
    refine z_iload_n hX (D_Model_figure (i := 30) rfl) rfl ?_
    refine z_if_eq (tgt := 70) hX (D_Model_figure (i := 31) rfl) (by decide) (fun h1 => ?_) (fun h1 => ?_)
    · skip
      have h1 := (nI_eq (a := 4 - m) (b := 0) (by omega) (by decide)).mp h1
      exact bad c v _ hcv (Or.inl (h4 (by omega)))
    · refine z_aload_n hX (D_Model_figure (i := 32) rfl) rfl ?_
      have hm4 : m < 4 := by
        rcases Nat.lt_or_ge m 4 with q | q
        · exact q
        · exact absurd (by rw [show 4 - m = 0 by omega]; rfl) h1
      refine z_cV0 hX (D_Model_figure (i := 33) rfl) mi_Model_look l_Model_168 rfl rfl (by decide) (by first | exact Nat.one_pos | assumption | omega) (by first | decide | omega) (Nat.le_of_ble_eq_true rfl) (d_look hH hT hc ?_)
      refine z_bipush (v := 48) hX (D_Model_figure (i := 34) rfl) (by decide) ?_
      refine z_bipush (v := 57) hX (D_Model_figure (i := 35) rfl) (by decide) ?_
      refine z_cS3 hX (D_Model_figure (i := 36) rfl) ms_Model_in l_Model_102 (by first | decide | omega) (Nat.le_of_ble_eq_true rfl) (d_in ?_)
      rw [show decide ((48 : Int32) ≤ mkV (K c) ∧ mkV (K c) ≤ 57) = isDg (K c) from mkV_dg (hT.K9 c)]
      refine z_if_eq (tgt := 74) hX (D_Model_figure (i := 37) rfl) (by decide) (fun h2 => ?_) (fun h2 => ?_)
      · skip
        rw [← hcv] at hs
        exact add c v _ _ hcv (hs (hlt hm4) (bI_0.mp h2))
      · skip
        exact bad c v _ hcv (Or.inr (bI_n.mp h2))
  induction m with
  | zero =>
    intro c v _ hc he _ hlt
    refine z_iload_n hX (D_Model_figure (i := 4) rfl) rfl ?_
    refine z_iconst (v := 4) hX (D_Model_figure (i := 5) rfl) (by decide) ?_
    refine z_icmp_ge (tgt := 52) hX (D_Model_figure (i := 6) rfl) (by decide) (fun _ => ?_) (fun hcc => absurd (Int32.le_refl _) hcc)
    exact tail 0 c v (by decide) hc he (fun q => absurd q (by decide)) hlt
  | succ m ih =>
    intro c v hm hc he h4 hlt
    have hk := hT.K9 c
    refine z_iload_n hX (D_Model_figure (i := 4) rfl) rfl ?_
    refine z_iconst (v := 4) hX (D_Model_figure (i := 5) rfl) (by decide) ?_
    refine z_icmp_ge (tgt := 52) hX (D_Model_figure (i := 6) rfl) (by decide) (fun hcc => absurd hcc (nI_ge (b := 4) (by omega) (by decide))) (fun _ => ?_)
    refine z_aload_n hX (D_Model_figure (i := 7) rfl) rfl ?_
    refine z_cV0 hX (D_Model_figure (i := 8) rfl) mi_Model_look l_Model_168 rfl rfl (by decide) (by first | exact Nat.one_pos | assumption | omega) (by first | decide | omega) (Nat.le_of_ble_eq_true rfl) (d_look hH hT hc ?_)
    refine z_bipush (v := 48) hX (D_Model_figure (i := 9) rfl) (by decide) ?_
    refine z_bipush (v := 57) hX (D_Model_figure (i := 10) rfl) (by decide) ?_
    refine z_cS3 hX (D_Model_figure (i := 11) rfl) ms_Model_in l_Model_102 (by first | decide | omega) (Nat.le_of_ble_eq_true rfl) (d_in ?_)
    rw [show decide ((48 : Int32) ≤ mkV (K c) ∧ mkV (K c) ≤ 57) = isDg (K c) from mkV_dg hk]
    unfold nuR at he
    refine z_if_eq (tgt := 52) hX (D_Model_figure (i := 12) rfl) (by decide) (fun h1 => ?_) (fun h1 => ?_)
    · skip
      have h1 := bI_0.mp h1
      rw [if_neg (by rw [h1]; decide)] at he
      exact tail (m + 1) c v hm hc he (fun q => by rw [h4 q] at h1; exact h1) hlt
    · refine z_bipush (v := 10) hX (D_Model_figure (i := 13) rfl) (by decide) ?_
      refine z_iload_n hX (D_Model_figure (i := 14) rfl) rfl ?_
      refine z_imul hX (D_Model_figure (i := 15) rfl) ?_
      refine z_aload_n hX (D_Model_figure (i := 16) rfl) rfl ?_
      have hd := bI_n.mp h1
      rw [if_pos hd] at he
      have hd2 := of_decide_eq_true hd
      have hpn := isDg_lt hT.2.2.1 hd
      refine z_cV0 hX (D_Model_figure (i := 17) rfl) mi_Model_look l_Model_168 rfl rfl (by decide) (by first | exact Nat.one_pos | assumption | omega) (by first | decide | omega) (Nat.le_of_ble_eq_true rfl) (d_look hH hT hc ?_)
      refine z_iadd hX (D_Model_figure (i := 18) rfl) ?_
      refine z_bipush (v := 48) hX (D_Model_figure (i := 19) rfl) (by decide) ?_
      refine z_isub hX (D_Model_figure (i := 20) rfl) ?_
      rw [show (10 : Int32) * nI v + mkV (K c) - 48 = nI (10 * v + K c - 48) by rw [(mkV_is (c := K c) hk (by omega)).mpr rfl]; exact (congrArg (· - nI 48) (by rw [show (10 : Int32) = nI 10 from rfl, pk_mul, nI_add])).trans (pk_sub (by omega))]
      refine z_istore_n hX (D_Model_figure (i := 21) rfl) (by decide) rfl ?_
      first | refine z_inc1 hX (D_Model_figure (i := 22) rfl) rfl (by decide) rfl ?_ | refine z_iinc hX (D_Model_figure (i := 22) rfl) rfl rfl (by decide) rfl ?_
      rw [show 4 - (m + 1) + 1 = 4 - m by omega]
      refine z_aload_n hX (D_Model_figure (i := 23) rfl) rfl ?_
      refine z_dupP hX (D_Model_figure (i := 24) rfl) ?_
      refine z_geti hX (D_Model_figure (i := 25) rfl) f_Model_153 rfl (by decide) (by first | exact Nat.one_pos | assumption | omega) rfl ?_
      refine z_iconst (v := 1) hX (D_Model_figure (i := 26) rfl) (by decide) ?_
      refine z_iadd hX (D_Model_figure (i := 27) rfl) ?_
      rw [pmM_14, show nI c + 1 = nI (c + 1) from nI_add c 1]
      refine z_puti hX (D_Model_figure (i := 28) rfl) g_Model_153 rfl (by decide) (by first | exact Nat.one_pos | assumption | omega) rfl ?_
      rw [pmM_p]
      refine z_goto (tgt := 4) hX (D_Model_figure (i := 29) rfl) (by decide) ?_
      exact ih (c + 1) _ (by omega) (by omega) he (fun q => absurd q (by omega)) (fun q => if e : m = 3 then (by rw [← h4 (by omega)]; exact hd) else hlt (by omega))
end D1
