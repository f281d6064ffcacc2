/-! the class reads the law's text -/
def cdS (s : Nat × Nat) : Int32 := if s.1 = 0 then nI s.2 else if s.1 = 2 ∧ s.2 = 45 then -126 else -(nI s.2)
def cdC (e : lE) : List Int32 := e.map cdS
def pkV (k : Nat) : Int32 := if k = 999 then -1 else nI k
def pmC (mem : zM) (p : Nat) (out : List Int32) : zM := (fun a b c => if a = 4 ∧ b = 0 ∧ c = 2 then nI p else if a = 4 ∧ b = 0 ∧ c = 4 then nI out.length else if a = 6 ∧ b = 0 ∧ c < out.length then out.getD c 0 else mem.1 a b c, mem.2)
/-- the tape as the class holds it -/
def LT (mem : zM) (n : Nat) (K : Nat → Nat) : Prop := mem.1 4 0 1 = nI n ∧ n ≤ 120 ∧ (∀ p, n ≤ p → K p = 999) ∧ (∀ p, p < n → mem.1 5 0 p = nI (K p) ∧ K p < 256)
theorem LT.K9 {mem : zM} {n : Nat} {K : Nat → Nat} (h : LT mem n K) (p : Nat) : K p < 256 ∨ K p = 999 := by
  by_cases hp : p < n
  · exact Or.inl (h.2.2.2 p hp).2
  · exact Or.inr (h.2.2.1 p (by omega))
theorem pkV_is {k c : Nat} (hk : k < 256 ∨ k = 999) (hc : c < 256) : pkV k = nI c ↔ k = c := by
  unfold pkV
  split
  · next h => 
    constructor
    · intro w
      have := congrArg Int32.toInt w
      rw [nneg1, nI_toInt (by omega)] at this
      omega
    · intro w; omega
  · constructor
    · intro w
      have := congrArg Int32.toInt w
      rw [nI_toInt (by omega), nI_toInt (by omega)] at this
      omega
    · intro w; rw [w]
theorem pkV_int {k : Nat} (hk : k < 256 ∨ k = 999) : (pkV k).toInt = if k = 999 then -1 else (k : Int) := by
  unfold pkV
  split
  · exact nneg1
  · exact nI_toInt (by omega)
theorem pmC_2 {mem : zM} {p : Nat} {out : List Int32} : (pmC mem p out).1 4 0 2 = nI p := rfl
theorem pmC_4 {mem : zM} {p : Nat} {out : List Int32} : (pmC mem p out).1 4 0 4 = nI out.length := rfl
theorem pmC_1 {mem : zM} {p : Nat} {out : List Int32} : (pmC mem p out).1 4 0 1 = mem.1 4 0 1 := rfl
theorem pmC_5 {mem : zM} {p j : Nat} {out : List Int32} : (pmC mem p out).1 5 0 j = mem.1 5 0 j := rfl
theorem pmC_pl {mem : zM} {p q : Nat} {out : List Int32} : upI (pmC mem p out) 4 0 2 (nI q) = pmC mem q out := by
  refine Prod.ext ?_ rfl
  funext a b c
  show (if a = 4 ∧ b = 0 ∧ c = 2 then nI q else if a = 4 ∧ b = 0 ∧ c = 2 then nI p else _) = (if a = 4 ∧ b = 0 ∧ c = 2 then nI q else _)
  split
  · rfl
  · rfl
theorem pmC_em {mem : zM} {p : Nat} {out : List Int32} {x : Int32} : upI (upI (pmC mem p out) 6 0 out.length x) 4 0 4 (nI (out.length + 1)) = pmC mem p (out ++ [x]) := by
  refine Prod.ext ?_ rfl
  funext a b c
  simp only [upI_get]
  show (if a = 4 ∧ b = 0 ∧ c = 4 then nI (out.length + 1) else if a = 6 ∧ b = 0 ∧ c = out.length then x else (if a = 4 ∧ b = 0 ∧ c = 2 then nI p else if a = 4 ∧ b = 0 ∧ c = 4 then nI out.length else if a = 6 ∧ b = 0 ∧ c < out.length then out.getD c 0 else mem.1 a b c)) = (if a = 4 ∧ b = 0 ∧ c = 2 then nI p else if a = 4 ∧ b = 0 ∧ c = 4 then nI (out ++ [x]).length else if a = 6 ∧ b = 0 ∧ c < (out ++ [x]).length then (out ++ [x]).getD c 0 else mem.1 a b c)
  rw [List.length_append]
  by_cases h1 : a = 4 ∧ b = 0 ∧ c = 4
  · rw [if_pos h1, if_neg (by omega), if_pos h1]; rfl
  · rw [if_neg h1, if_neg h1, if_neg h1]
    by_cases h2 : a = 4 ∧ b = 0 ∧ c = 2
    · rw [if_neg (by omega), if_pos h2, if_pos h2]
    · rw [if_neg h2, if_neg h2]
      by_cases h3 : a = 6 ∧ b = 0 ∧ c = out.length
      · rw [if_pos h3, if_pos ⟨h3.1, h3.2.1, by rw [h3.2.2]; exact Nat.lt_succ_self _⟩, h3.2.2]
        simp
      · rw [if_neg h3]
        by_cases h4 : a = 6 ∧ b = 0 ∧ c < out.length
        · rw [if_pos h4, if_pos ⟨h4.1, h4.2.1, by simp; omega⟩]
          rw [List.getD_eq_getElem?_getD, List.getD_eq_getElem?_getD, List.getElem?_append_left h4.2.2]
        · rw [if_neg h4, if_neg (fun w => h3 ⟨w.1, w.2.1, by have := w.2.2; simp at this; exact Nat.le_antisymm (by omega) (Nat.le_of_not_lt (fun q => h4 ⟨w.1, w.2.1, q⟩))⟩)]
section C1
variable {l : Launch} {ι : zE} {mem : zM} {Post : Option zV → zM → Prop} {x y z : Int32} {n p : Nat} {K : Nat → Nat} {out : List Int32}
theorem c_Law_isDigit {k : Nat} (hk : k < 256 ∨ k = 999) (h : Post (some (zI (bI (isDg k)))) mem) : zC l ι M_Law_isDigit 0 [zI (pkV k)] mem Post := by
  have hH : zHas ι [] := zHas.nil
  have L1 : ∀ a b : Int32, a < b ↔ a.toInt < b.toInt := fun a b => Int32.lt_iff_toInt_lt
  have e1 : (48 : Int32).toInt = 48 := rfl
  have e2 : (57 : Int32).toInt = 57 := rfl
  have e3 := pkV_int hk
  refine z_enter hH (by decide) (by simp [z_ent, M_Law_isDigit]) (fun X hXl hX hR => ?_)
  refine z_iload_n hX (D_Law_isDigit (i := 0) rfl) rfl ?_
  refine z_bipush (v := 48) hX (D_Law_isDigit (i := 1) rfl) (by decide) ?_
  refine z_icmp_lt (tgt := 16) hX (D_Law_isDigit (i := 2) rfl) (by decide) (fun h1 => ?_) (fun h1 => ?_)
  · refine z_iconst (v := 0) hX (D_Law_isDigit (i := 8) rfl) (by decide) ?_
    rw [L1, e1, e3] at h1
    rw [show isDg k = false from decide_eq_false (by split at h1 <;> omega)] at h
    exact z_zret hX hR (D_Law_isDigit (i := 9) rfl) rfl (by first | exact Or.inl rfl | exact Or.inr rfl | assumption) (by assumption)
  · refine z_iload_n hX (D_Law_isDigit (i := 3) rfl) rfl ?_
    refine z_bipush (v := 57) hX (D_Law_isDigit (i := 4) rfl) (by decide) ?_
    rw [L1, e1, e3] at h1
    refine z_icmp_gt (tgt := 16) hX (D_Law_isDigit (i := 5) rfl) (by decide) (fun h2 => ?_) (fun h2 => ?_)
    · refine z_iconst (v := 0) hX (D_Law_isDigit (i := 8) rfl) (by decide) ?_
      rw [L1, e2, e3] at h2
      rw [show isDg k = false from decide_eq_false (by split at h2 <;> omega)] at h
      exact z_zret hX hR (D_Law_isDigit (i := 9) rfl) rfl (by first | exact Or.inl rfl | exact Or.inr rfl | assumption) (by assumption)
    · refine z_iconst (v := 1) hX (D_Law_isDigit (i := 6) rfl) (by decide) ?_
      refine z_goto (tgt := 17) hX (D_Law_isDigit (i := 7) rfl) (by decide) ?_
      rw [L1, e2, e3] at h2
      rw [show isDg k = true from decide_eq_true (by split at h1 <;> split at h2 <;> omega)] at h
      exact z_zret hX hR (D_Law_isDigit (i := 9) rfl) rfl (by first | exact Or.inl rfl | exact Or.inr rfl | assumption) (by assumption)
theorem c_Law_isName {k : Nat} (hk : k < 256 ∨ k = 999) (h : Post (some (zI (bI (isNm k)))) mem) : zC l ι M_Law_isName 0 [zI (pkV k)] mem Post := by
  have hH : zHas ι [] := zHas.nil
  have P : ∀ c, c < 256 → (pkV k = nI c ↔ k = c) := fun c hc => pkV_is hk hc
  refine z_enter hH (by decide) (by simp [z_ent, M_Law_isName]) (fun X hXl hX hR => ?_)
  have yes : isNm k = true → zW ι M_Law_isName X 30 [some (zI (pkV k))] [] mem := by
    intro w
    rw [w] at h
    refine z_iconst (v := 1) hX (D_Law_isName (i := 15) rfl) (by decide) ?_
    refine z_goto (tgt := 35) hX (D_Law_isName (i := 16) rfl) (by decide) ?_
    exact z_zret hX hR (D_Law_isName (i := 18) rfl) rfl (by first | exact Or.inl rfl | exact Or.inr rfl | assumption) (by assumption)
  refine z_iload_n hX (D_Law_isName (i := 0) rfl) rfl ?_
  refine z_bipush (v := 97) hX (D_Law_isName (i := 1) rfl) (by decide) ?_
  refine z_icmp_eq (tgt := 30) hX (D_Law_isName (i := 2) rfl) (by decide) (fun h1 => ?_) (fun h1 => ?_)
  · skip
    exact yes (decide_eq_true (by have := (P 97 (by decide)).mp h1; omega))
  · refine z_iload_n hX (D_Law_isName (i := 3) rfl) rfl ?_
    refine z_bipush (v := 98) hX (D_Law_isName (i := 4) rfl) (by decide) ?_
    refine z_icmp_eq (tgt := 30) hX (D_Law_isName (i := 5) rfl) (by decide) (fun h2 => ?_) (fun h2 => ?_)
    · skip
      exact yes (decide_eq_true (by have := (P 98 (by decide)).mp h2; omega))
    · refine z_iload_n hX (D_Law_isName (i := 6) rfl) rfl ?_
      refine z_bipush (v := 115) hX (D_Law_isName (i := 7) rfl) (by decide) ?_
      refine z_icmp_eq (tgt := 30) hX (D_Law_isName (i := 8) rfl) (by decide) (fun h3 => ?_) (fun h3 => ?_)
      · skip
        exact yes (decide_eq_true (by have := (P 115 (by decide)).mp h3; omega))
      · refine z_iload_n hX (D_Law_isName (i := 9) rfl) rfl ?_
        refine z_bipush (v := 105) hX (D_Law_isName (i := 10) rfl) (by decide) ?_
        refine z_icmp_eq (tgt := 30) hX (D_Law_isName (i := 11) rfl) (by decide) (fun h4 => ?_) (fun h4 => ?_)
        · skip
          exact yes (decide_eq_true (by have := (P 105 (by decide)).mp h4; omega))
        · refine z_iload_n hX (D_Law_isName (i := 12) rfl) rfl ?_
          refine z_bipush (v := 106) hX (D_Law_isName (i := 13) rfl) (by decide) ?_
          refine z_icmp_ne (tgt := 34) hX (D_Law_isName (i := 14) rfl) (by decide) (fun h5 => ?_) (fun h5 => ?_)
          · refine z_iconst (v := 0) hX (D_Law_isName (i := 17) rfl) (by decide) ?_
            rw [show isNm k = false from decide_eq_false (fun w => by
              rcases w with w | w | w | w | w
              · exact h1 ((P 97 (by decide)).mpr w)
              · exact h2 ((P 98 (by decide)).mpr w)
              · exact h3 ((P 115 (by decide)).mpr w)
              · exact h4 ((P 105 (by decide)).mpr w)
              · exact h5 ((P 106 (by decide)).mpr w))] at h
            exact z_zret hX hR (D_Law_isName (i := 18) rfl) rfl (by first | exact Or.inl rfl | exact Or.inr rfl | assumption) (by assumption)
          · skip
            exact yes (decide_eq_true (by have := (P 106 (by decide)).mp h5; omega))
theorem c_Law_isJoin {k lv : Nat} (hk : k < 256 ∨ k = 999) (hlv : lv < 5) (h : Post (some (zI (bI (isJn lv k)))) mem) : zC l ι M_Law_isJoin 0 [zI (pkV k), zI (nI lv)] mem Post := by
  have hH : zHas ι [] := zHas.nil
  have e3 := pkV_int hk
  have E : ∀ c : Nat, c < 5 → (nI lv = nI c ↔ lv = c) := fun c hc => nI_eq (by omega) (by omega)
  have E0 : nI lv = 0 ↔ lv = 0 := E 0 (by decide)
  refine z_enter hH (by decide) (by simp [z_ent, M_Law_isJoin]) (fun X hXl hX hR => ?_)
  have t0 : bI (isJn lv k) = (if lv = 0 then 1 else 0) → zW ι M_Law_isJoin X 92 [some (zI (pkV k)), some (zI (nI lv))] [] mem := by
    intro w
    rw [w] at h
    refine z_iload_n hX (D_Law_isJoin (i := 2) rfl) rfl ?_
    refine z_if_ne (tgt := 100) hX (D_Law_isJoin (i := 3) rfl) (by decide) (fun h1 => ?_) (fun h1 => ?_)
    · refine z_iconst (v := 0) hX (D_Law_isJoin (i := 6) rfl) (by decide) ?_
      rw [if_neg (fun q => h1 (E0.mpr q))] at h
      exact z_zret hX hR (D_Law_isJoin (i := 7) rfl) rfl (by first | exact Or.inl rfl | exact Or.inr rfl | assumption) (by assumption)
    · refine z_iconst (v := 1) hX (D_Law_isJoin (i := 4) rfl) (by decide) ?_
      refine z_goto (tgt := 101) hX (D_Law_isJoin (i := 5) rfl) (by decide) ?_
      rw [if_pos (E0.mp h1)] at h
      exact z_zret hX hR (D_Law_isJoin (i := 7) rfl) rfl (by first | exact Or.inl rfl | exact Or.inr rfl | assumption) (by assumption)
  have t1 : bI (isJn lv k) = (if lv = 1 then 1 else 0) → zW ι M_Law_isJoin X 102 [some (zI (pkV k)), some (zI (nI lv))] [] mem := by
    intro w
    rw [w] at h
    refine z_iload_n hX (D_Law_isJoin (i := 8) rfl) rfl ?_
    refine z_iconst (v := 1) hX (D_Law_isJoin (i := 9) rfl) (by decide) ?_
    refine z_icmp_ne (tgt := 111) hX (D_Law_isJoin (i := 10) rfl) (by decide) (fun h1 => ?_) (fun h1 => ?_)
    · refine z_iconst (v := 0) hX (D_Law_isJoin (i := 13) rfl) (by decide) ?_
      rw [if_neg (fun q => h1 ((E 1 (by decide)).mpr q))] at h
      exact z_zret hX hR (D_Law_isJoin (i := 14) rfl) rfl (by first | exact Or.inl rfl | exact Or.inr rfl | assumption) (by assumption)
    · refine z_iconst (v := 1) hX (D_Law_isJoin (i := 11) rfl) (by decide) ?_
      refine z_goto (tgt := 112) hX (D_Law_isJoin (i := 12) rfl) (by decide) ?_
      rw [if_pos ((E 1 (by decide)).mp h1)] at h
      exact z_zret hX hR (D_Law_isJoin (i := 14) rfl) rfl (by first | exact Or.inl rfl | exact Or.inr rfl | assumption) (by assumption)
  have t2 : bI (isJn lv k) = (if lv = 2 then 1 else 0) → zW ι M_Law_isJoin X 113 [some (zI (pkV k)), some (zI (nI lv))] [] mem := by
    intro w
    rw [w] at h
    refine z_iload_n hX (D_Law_isJoin (i := 15) rfl) rfl ?_
    refine z_iconst (v := 2) hX (D_Law_isJoin (i := 16) rfl) (by decide) ?_
    refine z_icmp_ne (tgt := 122) hX (D_Law_isJoin (i := 17) rfl) (by decide) (fun h1 => ?_) (fun h1 => ?_)
    · refine z_iconst (v := 0) hX (D_Law_isJoin (i := 20) rfl) (by decide) ?_
      rw [if_neg (fun q => h1 ((E 2 (by decide)).mpr q))] at h
      exact z_zret hX hR (D_Law_isJoin (i := 21) rfl) rfl (by first | exact Or.inl rfl | exact Or.inr rfl | assumption) (by assumption)
    · refine z_iconst (v := 1) hX (D_Law_isJoin (i := 18) rfl) (by decide) ?_
      refine z_goto (tgt := 123) hX (D_Law_isJoin (i := 19) rfl) (by decide) ?_
      rw [if_pos ((E 2 (by decide)).mp h1)] at h
      exact z_zret hX hR (D_Law_isJoin (i := 21) rfl) rfl (by first | exact Or.inl rfl | exact Or.inr rfl | assumption) (by assumption)
  have t3 : bI (isJn lv k) = (if lv = 3 then 1 else 0) → zW ι M_Law_isJoin X 124 [some (zI (pkV k)), some (zI (nI lv))] [] mem := by
    intro w
    rw [w] at h
    refine z_iload_n hX (D_Law_isJoin (i := 22) rfl) rfl ?_
    refine z_iconst (v := 3) hX (D_Law_isJoin (i := 23) rfl) (by decide) ?_
    refine z_icmp_ne (tgt := 133) hX (D_Law_isJoin (i := 24) rfl) (by decide) (fun h1 => ?_) (fun h1 => ?_)
    · refine z_iconst (v := 0) hX (D_Law_isJoin (i := 27) rfl) (by decide) ?_
      rw [if_neg (fun q => h1 ((E 3 (by decide)).mpr q))] at h
      exact z_zret hX hR (D_Law_isJoin (i := 28) rfl) rfl (by first | exact Or.inl rfl | exact Or.inr rfl | assumption) (by assumption)
    · refine z_iconst (v := 1) hX (D_Law_isJoin (i := 25) rfl) (by decide) ?_
      refine z_goto (tgt := 134) hX (D_Law_isJoin (i := 26) rfl) (by decide) ?_
      rw [if_pos ((E 3 (by decide)).mp h1)] at h
      exact z_zret hX hR (D_Law_isJoin (i := 28) rfl) rfl (by first | exact Or.inl rfl | exact Or.inr rfl | assumption) (by assumption)
  have t4 : bI (isJn lv k) = (if lv = 4 then 1 else 0) → zW ι M_Law_isJoin X 135 [some (zI (pkV k)), some (zI (nI lv))] [] mem := by
    intro w
    rw [w] at h
    refine z_iload_n hX (D_Law_isJoin (i := 29) rfl) rfl ?_
    refine z_iconst (v := 4) hX (D_Law_isJoin (i := 30) rfl) (by decide) ?_
    refine z_icmp_ne (tgt := 144) hX (D_Law_isJoin (i := 31) rfl) (by decide) (fun h1 => ?_) (fun h1 => ?_)
    · refine z_iconst (v := 0) hX (D_Law_isJoin (i := 34) rfl) (by decide) ?_
      rw [if_neg (fun q => h1 ((E 4 (by decide)).mpr q))] at h
      exact z_zret hX hR (D_Law_isJoin (i := 35) rfl) rfl (by first | exact Or.inl rfl | exact Or.inr rfl | assumption) (by assumption)
    · refine z_iconst (v := 1) hX (D_Law_isJoin (i := 32) rfl) (by decide) ?_
      refine z_goto (tgt := 145) hX (D_Law_isJoin (i := 33) rfl) (by decide) ?_
      rw [if_pos ((E 4 (by decide)).mp h1)] at h
      exact z_zret hX hR (D_Law_isJoin (i := 35) rfl) rfl (by first | exact Or.inl rfl | exact Or.inr rfl | assumption) (by assumption)
  refine z_iload_n hX (D_Law_isJoin (i := 0) rfl) rfl ?_
  by_cases q124 : k = 124
  · subst q124
    refine z_lookup (off := 91) (tgt := 92) hX (D_Law_isJoin (i := 1) rfl) (by decide) (by decide) (by decide) ?_
    exact t0 (by rw [bI_not]; congr 1; unfold isJn; rw [decide_eq_true_eq]; exact propext (by omega))
  by_cases q38 : k = 38
  · subst q38
    refine z_lookup (off := 101) (tgt := 102) hX (D_Law_isJoin (i := 1) rfl) (by decide) (by decide) (by decide) ?_
    exact t1 (by rw [bI_not]; congr 1; unfold isJn; rw [decide_eq_true_eq]; exact propext (by omega))
  by_cases q60 : k = 60
  · subst q60
    refine z_lookup (off := 112) (tgt := 113) hX (D_Law_isJoin (i := 1) rfl) (by decide) (by decide) (by decide) ?_
    exact t2 (by rw [bI_not]; congr 1; unfold isJn; rw [decide_eq_true_eq]; exact propext (by omega))
  by_cases q61 : k = 61
  · subst q61
    refine z_lookup (off := 112) (tgt := 113) hX (D_Law_isJoin (i := 1) rfl) (by decide) (by decide) (by decide) ?_
    exact t2 (by rw [bI_not]; congr 1; unfold isJn; rw [decide_eq_true_eq]; exact propext (by omega))
  by_cases q62 : k = 62
  · subst q62
    refine z_lookup (off := 112) (tgt := 113) hX (D_Law_isJoin (i := 1) rfl) (by decide) (by decide) (by decide) ?_
    exact t2 (by rw [bI_not]; congr 1; unfold isJn; rw [decide_eq_true_eq]; exact propext (by omega))
  by_cases q43 : k = 43
  · subst q43
    refine z_lookup (off := 123) (tgt := 124) hX (D_Law_isJoin (i := 1) rfl) (by decide) (by decide) (by decide) ?_
    exact t3 (by rw [bI_not]; congr 1; unfold isJn; rw [decide_eq_true_eq]; exact propext (by omega))
  by_cases q45 : k = 45
  · subst q45
    refine z_lookup (off := 123) (tgt := 124) hX (D_Law_isJoin (i := 1) rfl) (by decide) (by decide) (by decide) ?_
    exact t3 (by rw [bI_not]; congr 1; unfold isJn; rw [decide_eq_true_eq]; exact propext (by omega))
  by_cases q42 : k = 42
  · subst q42
    refine z_lookup (off := 134) (tgt := 135) hX (D_Law_isJoin (i := 1) rfl) (by decide) (by decide) (by decide) ?_
    exact t4 (by rw [bI_not]; congr 1; unfold isJn; rw [decide_eq_true_eq]; exact propext (by omega))
  by_cases q47 : k = 47
  · subst q47
    refine z_lookup (off := 134) (tgt := 135) hX (D_Law_isJoin (i := 1) rfl) (by decide) (by decide) (by decide) ?_
    exact t4 (by rw [bI_not]; congr 1; unfold isJn; rw [decide_eq_true_eq]; exact propext (by omega))
  by_cases q37 : k = 37
  · subst q37
    refine z_lookup (off := 134) (tgt := 135) hX (D_Law_isJoin (i := 1) rfl) (by decide) (by decide) (by decide) ?_
    exact t4 (by rw [bI_not]; congr 1; unfold isJn; rw [decide_eq_true_eq]; exact propext (by omega))
  refine z_lookup (off := 145) (tgt := 146) hX (D_Law_isJoin (i := 1) rfl) (by decide) (by rw [e3]; simp only [Op.lookupswitch.offset_cons, Op.lookupswitch.offset_nil]; split <;> (repeat rw [if_neg (by omega)])) (by decide) ?_
  rw [show isJn lv k = false from decide_eq_false (by omega)] at h
  refine z_iconst (v := 0) hX (D_Law_isJoin (i := 36) rfl) (by decide) ?_
  exact z_zret hX hR (D_Law_isJoin (i := 37) rfl) rfl (by first | exact Or.inl rfl | exact Or.inr rfl | assumption) (by assumption)
theorem c_Law_peek (hH : zHas ι pL) (hT : LT mem n K) (hp : p ≤ n) (h : Post (some (zI (pkV (K p)))) (pmC mem p out)) : zC l ι M_Law_peek 0 [zP 4 0] (pmC mem p out) Post := by
  refine z_enter hH (by decide) (by simp [z_ent, M_Law_peek]) (fun X hXl hX hR => ?_)
  refine z_aload_n hX (D_Law_peek (i := 0) rfl) rfl ?_
  refine z_geti hX (D_Law_peek (i := 1) rfl) f_Law_32 rfl (by decide) (by first | exact Nat.one_pos | assumption | omega) rfl ?_
  refine z_aload_n hX (D_Law_peek (i := 2) rfl) rfl ?_
  refine z_geti hX (D_Law_peek (i := 3) rfl) f_Law_28 rfl (by decide) (by first | exact Nat.one_pos | assumption | omega) rfl ?_
  rw [pmC_2, pmC_1, hT.1]
  have h120 := hT.2.1
  by_cases hp2 : p < n
  · refine z_icmp_ge (tgt := 23) hX (D_Law_peek (i := 4) rfl) (by decide) (fun hcc => absurd hcc (nI_ge hp2 (by omega))) (fun _ => ?_)
    refine z_aload_n hX (D_Law_peek (i := 5) rfl) rfl ?_
    refine z_getc hX (D_Law_peek (i := 6) rfl) f_Law_11 rfl (by decide) (by first | exact Nat.one_pos | assumption | omega) rfl ?_
    refine z_aload_n hX (D_Law_peek (i := 7) rfl) rfl ?_
    refine z_geti hX (D_Law_peek (i := 8) rfl) f_Law_32 rfl (by decide) (by first | exact Nat.one_pos | assumption | omega) rfl ?_
    rw [pmC_2]
    refine z_iald (j := p) hX (D_Law_peek (i := 9) rfl) rfl (by decide) (by first | exact Nat.one_pos | assumption | omega) (by decide) rfl (by omega) ?_
    rw [pmC_5, (hT.2.2.2 p hp2).1]
    have hb := (hT.2.2.2 p hp2).2
    rw [show pkV (K p) = nI (K p) from if_neg (by omega)] at h
    refine z_goto (tgt := 24) hX (D_Law_peek (i := 10) rfl) (by decide) ?_
    exact z_iret hX hR (D_Law_peek (i := 12) rfl) rfl (by assumption)
  · obtain rfl : p = n := by omega
    refine z_icmp_ge (tgt := 23) hX (D_Law_peek (i := 4) rfl) (by decide) (fun _ => ?_) (fun hcc => absurd (Int32.le_refl _) hcc)
    rw [show pkV (K p) = -1 from if_pos (hT.2.2.1 p (Nat.le_refl _))] at h
    refine z_iconst (v := -1) hX (D_Law_peek (i := 11) rfl) (by decide) ?_
    exact z_iret hX hR (D_Law_peek (i := 12) rfl) rfl (by assumption)
theorem c_Law_emit (hH : zHas ι pL) (ho : out.length < 121) (h : Post none (pmC mem p (out ++ [x]))) : zC l ι M_Law_emit 0 [zP 4 0, zI x] (pmC mem p out) Post := by
  refine z_enter hH (by decide) (by simp [z_ent, M_Law_emit]) (fun X hXl hX hR => ?_)
  refine z_aload_n hX (D_Law_emit (i := 0) rfl) rfl ?_
  refine z_geti hX (D_Law_emit (i := 1) rfl) f_Law_35 rfl (by decide) (by first | exact Nat.one_pos | assumption | omega) rfl ?_
  refine z_aload_n hX (D_Law_emit (i := 2) rfl) rfl ?_
  refine z_getc hX (D_Law_emit (i := 3) rfl) f_Law_15 rfl (by decide) (by first | exact Nat.one_pos | assumption | omega) rfl ?_
  refine z_alen (t0 := 0) (v := 121) hX (D_Law_emit (i := 4) rfl) rfl (by decide) (by first | exact Nat.one_pos | assumption | omega) rfl (by decide) ?_
  rw [pmC_4]
  refine z_icmp_ge (tgt := 32) hX (D_Law_emit (i := 5) rfl) (by decide) (fun hcc => absurd hcc (nI_ge (b := 121) (by omega) (by decide))) (fun _ => ?_)
  refine z_aload_n hX (D_Law_emit (i := 6) rfl) rfl ?_
  refine z_getc hX (D_Law_emit (i := 7) rfl) f_Law_15 rfl (by decide) (by first | exact Nat.one_pos | assumption | omega) rfl ?_
  refine z_aload_n hX (D_Law_emit (i := 8) rfl) rfl ?_
  refine z_geti hX (D_Law_emit (i := 9) rfl) f_Law_35 rfl (by decide) (by first | exact Nat.one_pos | assumption | omega) rfl ?_
  refine z_iload_n hX (D_Law_emit (i := 10) rfl) rfl ?_
  rw [pmC_4]
  refine z_iast (j := out.length) hX (D_Law_emit (i := 11) rfl) rfl (by decide) (by first | exact Nat.one_pos | assumption | omega) (by decide) rfl ho ?_
  refine z_aload_n hX (D_Law_emit (i := 12) rfl) rfl ?_
  refine z_dupP hX (D_Law_emit (i := 13) rfl) ?_
  refine z_geti hX (D_Law_emit (i := 14) rfl) f_Law_35 rfl (by decide) (by first | exact Nat.one_pos | assumption | omega) rfl ?_
  rw [show (upI (pmC mem p out) 6 0 out.length x).1 4 0 4 = nI out.length by rw [upI_get, if_neg (by omega), pmC_4]]
  refine z_iconst (v := 1) hX (D_Law_emit (i := 15) rfl) (by decide) ?_
  refine z_iadd hX (D_Law_emit (i := 16) rfl) ?_
  rw [nlit, nI_add]
  refine z_puti hX (D_Law_emit (i := 17) rfl) g_Law_35 rfl (by decide) (by first | exact Nat.one_pos | assumption | omega) rfl ?_
  rw [pmC_em]
  exact z_ret hX hR (D_Law_emit (i := 18) rfl) rfl (by assumption)
end C1
