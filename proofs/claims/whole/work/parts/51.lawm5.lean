/-! the reference reads the text, and keeps the law -/
def txM (Λ : List lLn) : List (Int32 × Int32) := Λ.flatMap lnM
theorem txM_app (a : List lLn) (L : lLn) : txM (a ++ [L]) = txM a ++ lnM L := by unfold txM; rw [List.flatMap_append]; simp
def tbT : Nat → List lLn → List (Nat × Nat)
  | _, [] => []
  | b, L :: r => lnT b L :: tbT (lnT b L).2 r
theorem lnT_2 (b : Nat) (L : lLn) : (lnT b L).2 = b + (lnM L).length := by
  obtain ⟨t, v⟩ := L
  cases t with
  | none => show b + v.length = b + (mdC v).length; rw [mdC_len]
  | some t => show b + t.length + v.length = b + (mdC t ++ mdC v).length; rw [List.length_append, mdC_len, mdC_len]; omega
theorem tbT_app : ∀ (a : List lLn) (b : Nat) (L : lLn), tbT b (a ++ [L]) = tbT b a ++ [lnT (b + (txM a).length) L]
  | [], b, L => rfl
  | A :: a, b, L => by
    show lnT b A :: tbT (lnT b A).2 (a ++ [L]) = lnT b A :: (tbT (lnT b A).2 a ++ [lnT (b + (txM (A :: a)).length) L])
    rw [tbT_app a, lnT_2, show txM (A :: a) = lnM A ++ txM a from rfl, List.length_append, Nat.add_assoc]
theorem tbT_len : ∀ (a : List lLn) (b : Nat), (tbT b a).length = a.length
  | [], _ => rfl
  | A :: a, b => by show (tbT (lnT b A).2 a).length + 1 = a.length + 1; rw [tbT_len a]
theorem pmM_start {mem : zM} : upI (upI (upI (upI (upI mem 40 0 14 0) 40 0 15 (-1)) 40 0 16 0) 40 0 17 0) 51 0 1 0 = pmM (bsM mem []) 0 (-1) (nI 0) [] := by
  refine Prod.ext ?_ rfl
  funext a b c
  simp only [upI_get, pmM, bsM, List.length_nil, Nat.add_zero]
  by_cases h1 : a = 40
  · subst h1
    simp only [show ¬ (40 = 51) by decide, show ¬ (40 = 49) by decide, show ¬ (40 = 50) by decide, show ¬ (40 = 52) by decide, show ¬ (40 = 53) by decide, false_and, if_false, true_and]
    by_cases h2 : b = 0 ∧ c = 14
    · rw [if_neg (by omega), if_neg (by omega), if_neg (by omega), if_pos h2, if_pos h2]; rfl
    · by_cases h3 : b = 0 ∧ c = 15
      · rw [if_neg (by omega), if_neg (by omega), if_pos h3, if_neg h2, if_pos h3]
      · by_cases h4 : b = 0 ∧ c = 16
        · rw [if_neg (by omega), if_pos h4, if_neg h2, if_neg h3, if_pos h4]; rfl
        · by_cases h5 : b = 0 ∧ c = 17
          · rw [if_pos h5, if_neg h2, if_neg h3, if_neg h4, if_pos h5]; rfl
          · rw [if_neg h5, if_neg h4, if_neg h3, if_neg h2, if_neg h2, if_neg h3, if_neg h4, if_neg h5]
  · simp only [h1, false_and, if_false]
    by_cases h2 : a = 51 ∧ b = 0 ∧ c = 1
    · rw [if_pos h2, if_neg (by omega), if_neg (by omega), if_pos h2]; rfl
    · rw [if_neg h2, if_neg (by omega), if_neg (by omega), if_neg h2, if_neg (by omega), if_neg (by omega)]
def cpM (mem : zM) (k : Nat) : zM := (fun a b c => if (a = 49 ∨ a = 50) ∧ b = 0 ∧ c < k then mem.1 a 0 (130 + c) else mem.1 a b c, mem.2)
theorem cpM_0 (mem : zM) : cpM mem 0 = mem := by
  refine Prod.ext ?_ rfl
  funext a b c
  simp only [cpM]
  rw [if_neg (by omega)]
theorem cpM_s (mem : zM) (k : Nat) : upI (upI (cpM mem k) 49 0 k (mem.1 49 0 (130 + k))) 50 0 k (mem.1 50 0 (130 + k)) = cpM mem (k + 1) := by
  refine Prod.ext ?_ rfl
  funext a b c
  simp only [upI_get, cpM]
  by_cases h1 : a = 50 ∧ b = 0 ∧ c = k
  · obtain ⟨rfl, rfl, rfl⟩ := h1
    rw [if_pos ⟨rfl, rfl, rfl⟩, if_pos ⟨Or.inr rfl, rfl, by omega⟩]
  · rw [if_neg h1]
    by_cases h2 : a = 49 ∧ b = 0 ∧ c = k
    · obtain ⟨rfl, rfl, rfl⟩ := h2
      rw [if_pos ⟨rfl, rfl, rfl⟩, if_pos ⟨Or.inl rfl, rfl, by omega⟩]
    · rw [if_neg h2]
      by_cases h3 : (a = 49 ∨ a = 50) ∧ b = 0 ∧ c < k
      · rw [if_pos h3, if_pos (by omega)]
      · rw [if_neg h3, if_neg (by omega)]
def dpM (mem : zM) (k : Nat) : zM := (fun a b c => if (a = 52 ∨ a = 53) ∧ b = 0 ∧ c < k then mem.1 a 0 (61 + c) else mem.1 a b c, mem.2)
theorem dpM_0 (mem : zM) : dpM mem 0 = mem := by
  refine Prod.ext ?_ rfl
  funext a b c
  simp only [dpM]
  rw [if_neg (by omega)]
theorem dpM_s (mem : zM) (k : Nat) : upI (upI (dpM mem k) 52 0 k (mem.1 52 0 (61 + k))) 53 0 k (mem.1 53 0 (61 + k)) = dpM mem (k + 1) := by
  refine Prod.ext ?_ rfl
  funext a b c
  simp only [upI_get, dpM]
  by_cases h1 : a = 53 ∧ b = 0 ∧ c = k
  · obtain ⟨rfl, rfl, rfl⟩ := h1
    rw [if_pos ⟨rfl, rfl, rfl⟩, if_pos ⟨Or.inr rfl, rfl, by omega⟩]
  · rw [if_neg h1]
    by_cases h2 : a = 52 ∧ b = 0 ∧ c = k
    · obtain ⟨rfl, rfl, rfl⟩ := h2
      rw [if_pos ⟨rfl, rfl, rfl⟩, if_pos ⟨Or.inl rfl, rfl, by omega⟩]
    · rw [if_neg h2]
      by_cases h3 : (a = 52 ∨ a = 53) ∧ b = 0 ∧ c < k
      · rw [if_pos h3, if_pos (by omega)]
      · rw [if_neg h3, if_neg (by omega)]
/-- the law as the reference keeps it -/
def MLaw (mem : zM) (Λ : List lLn) : Prop := Λ.length ≤ 61 ∧ (txM Λ).length ≤ 121 ∧ (∀ L ∈ Λ, lnG L) ∧ mem.1 51 0 0 = nI Λ.length ∧ (∀ i, i < (txM Λ).length → mem.1 49 0 i = ((txM Λ).getD i (0, 0)).1 ∧ mem.1 50 0 i = ((txM Λ).getD i (0, 0)).2) ∧ (∀ i, i < Λ.length → mem.1 52 0 i = nI ((tbT 0 Λ).getD i (0, 0)).1 ∧ mem.1 53 0 i = nI ((tbT 0 Λ).getD i (0, 0)).2)
def rdO (mem mem' : zM) : Prop := mem'.2 = mem.2 ∧ mem'.1 40 0 13 = 0 ∧ ∀ a b c, ¬ (a = 40 ∧ 13 ≤ c ∧ c ≤ 17) → a ≠ 49 → a ≠ 50 → a ≠ 51 → a ≠ 52 → a ≠ 53 → mem'.1 a b c = mem.1 a b c
theorem mdS_b {s : Nat × Nat} (h : sgOK s) : (mdS s).1.toInt8.toInt32 = (mdS s).1 := by
  obtain ⟨a, c⟩ := s
  have b8 : ∀ k, k < 128 → (nI k).toInt8.toInt32 = nI k := by decide +kernel
  rcases h with ⟨rfl, _⟩ | ⟨rfl, _⟩ | ⟨rfl, h⟩ | ⟨rfl, h⟩
  · exact b8 1 (by decide)
  · exact b8 2 (by decide)
  · rcases h with h | h
    · have h : c = 33 := h
      subst h; exact b8 3 (by decide)
    · have h : c = 45 := h
      subst h; exact b8 4 (by decide)
  · exact b8 c (jo128 h)
theorem txM_b {Λ : List lLn} (h : ∀ L ∈ Λ, lnG L) : ∀ x ∈ txM Λ, x.1.toInt8.toInt32 = x.1 := by
  intro x hx
  obtain ⟨L, hL, hx⟩ := List.mem_flatMap.mp hx
  have hg := h L hL
  have mm : ∀ e : lE, lgd e → x ∈ mdC e → x.1.toInt8.toInt32 = x.1 := by
    intro e he hxe
    obtain ⟨s, hs, rfl⟩ := List.mem_map.mp hxe
    exact mdS_b (he.1 s hs)
  obtain ⟨t, v⟩ := L
  cases t with
  | none => exact mm v hg.2 hx
  | some t =>
    rcases List.mem_append.mp hx with hx | hx
    · exact mm t (hg.1 t rfl) hx
    · exact mm v hg.2 hx
theorem getD_mem {α : Type} {L : List α} {i : Nat} {d : α} (h : i < L.length) : L.getD i d ∈ L := by
  rw [List.getD_eq_getElem?_getD, List.getElem?_eq_getElem h, Option.getD_some]
  exact List.getElem_mem h
section D5
variable {l : Launch} {ι : zE} {mem : zM} {Post : Option zV → zM → Prop} {n p : Nat} {K : Nat → Nat} {X : zX}
theorem d_text_ok (hH : zHas ι pM) (hX : zG ι M_Model_readText X 45 pM) (hR : zRt ι X Post) {q : Nat} {Λ : List lLn} (h61 : Λ.length ≤ 61) (h121 : (txM Λ).length ≤ 121) (hg : ∀ L ∈ Λ, lnG L) (h : ∀ mem', rdO mem mem' → MLaw mem' Λ → Post (some (zI (-1))) mem') : zW ι M_Model_readText X 86 [some (zP 40 0), some (zI (nI 0)), none] [] (pmM (bsM mem (tbT 0 Λ)) q (-1) (nI 0) (txM Λ)) := by
  have hb := txM_b hg
  have htl := tbT_len Λ 0
  have tbv : ∀ i, i < Λ.length → ((tbT 0 Λ).getD i (0, 0)).1 < 200 ∧ ((tbT 0 Λ).getD i (0, 0)).2 < 200 := by
    have gen : ∀ (a : List lLn) (b N : Nat), b + (txM a).length ≤ N → ∀ x ∈ tbT b a, x.1 ≤ N ∧ x.2 ≤ N := by
      intro a
      induction a with
      | nil => intro b N _ x hx; cases hx
      | cons A a ih =>
        intro b N hN x hx
        rw [show txM (A :: a) = lnM A ++ txM a from rfl, List.length_append] at hN
        have h2 := lnT_2 b A
        rcases List.mem_cons.mp hx with rfl | hx
        · refine ⟨?_, by omega⟩
          have : (lnT b A).1 ≤ (lnT b A).2 := by
            obtain ⟨t, v⟩ := A
            cases t with
            | none => exact Nat.le_add_right _ _
            | some t => exact Nat.le_add_right _ _
          omega
        · exact ih _ N (by omega) x hx
    intro i hi
    have hi2 : i < (tbT 0 Λ).length := by omega
    have := gen Λ 0 121 (by omega) _ (getD_mem (d := (0, 0)) hi2)
    omega
  refine z_aload_n hX (D_Model_readText (i := 45) rfl) rfl ?_
  refine z_iconst (v := 0) hX (D_Model_readText (i := 46) rfl) (by decide) ?_
  refine z_puti hX (D_Model_readText (i := 47) rfl) g_Model_150 rfl (by decide) (by first | exact Nat.one_pos | assumption | omega) rfl ?_
  generalize hm : upI (pmM (bsM mem (tbT 0 Λ)) q (-1) (nI 0) (txM Λ)) 40 0 13 0 = m0
  have e15 : m0.1 40 0 15 = -1 := by rw [← hm]; rfl
  have e17 : m0.1 40 0 17 = nI (txM Λ).length := by rw [← hm]; rfl
  have e51 : m0.1 51 0 1 = nI Λ.length := by rw [← hm]; show nI (tbT 0 Λ).length = _; rw [htl]
  have e49 : ∀ i, i < (txM Λ).length → m0.1 49 0 (130 + i) = ((txM Λ).getD i (0, 0)).1 := by
    intro i hi
    rw [← hm, upI_get, if_neg (by omega)]
    simp only [pmM]
    rw [if_neg (by omega), if_neg (by omega), if_neg (by omega), if_neg (by omega), if_pos (by refine ⟨trivial, trivial, ?_, ?_⟩ <;> omega), show 130 + i - 130 = i by omega]
  have e50 : ∀ i, i < (txM Λ).length → m0.1 50 0 (130 + i) = ((txM Λ).getD i (0, 0)).2 := by
    intro i hi
    rw [← hm, upI_get, if_neg (by omega)]
    simp only [pmM]
    rw [if_neg (by omega), if_neg (by omega), if_neg (by omega), if_neg (by omega), if_neg (by omega), if_pos (by refine ⟨trivial, trivial, ?_, ?_⟩ <;> omega), show 130 + i - 130 = i by omega]
  have e52 : ∀ i, i < Λ.length → m0.1 52 0 (61 + i) = nI ((tbT 0 Λ).getD i (0, 0)).1 := by
    intro i hi
    rw [← hm, upI_get, if_neg (by omega)]
    simp only [pmM, bsM]
    rw [if_neg (by omega), if_neg (by omega), if_neg (by omega), if_neg (by omega), if_neg (by omega), if_neg (by omega), if_neg (by omega), if_pos (by refine ⟨trivial, trivial, ?_, ?_⟩ <;> omega), show 61 + i - 61 = i by omega]
  have e53 : ∀ i, i < Λ.length → m0.1 53 0 (61 + i) = nI ((tbT 0 Λ).getD i (0, 0)).2 := by
    intro i hi
    rw [← hm, upI_get, if_neg (by omega)]
    simp only [pmM, bsM]
    rw [if_neg (by omega), if_neg (by omega), if_neg (by omega), if_neg (by omega), if_neg (by omega), if_neg (by omega), if_neg (by omega), if_neg (by omega), if_pos (by refine ⟨trivial, trivial, ?_, ?_⟩ <;> omega), show 61 + i - 61 = i by omega]
  have eR : rdO mem m0 := by
    rw [← hm]
    refine ⟨rfl, rfl, fun a b c q1 q2 q3 q4 q5 q6 => ?_⟩
    rw [upI_get, if_neg (by omega)]
    simp only [pmM, bsM, q2, q3, q4, q5, q6, false_and, if_false]
    rw [if_neg (by omega), if_neg (by omega), if_neg (by omega), if_neg (by omega)]
  clear hm
  refine z_aload_n hX (D_Model_readText (i := 48) rfl) rfl ?_
  refine z_geti hX (D_Model_readText (i := 49) rfl) f_Model_156 rfl (by decide) (by first | exact Nat.one_pos | assumption | omega) rfl ?_
  rw [e15]
  refine z_if_lt (tgt := 103) hX (D_Model_readText (i := 50) rfl) (by decide) (fun _ => ?_) (fun hcc => absurd (by decide) hcc)
  refine z_iconst (v := 0) hX (D_Model_readText (i := 54) rfl) (by decide) ?_
  refine z_istore_n hX (D_Model_readText (i := 55) rfl) (by decide) rfl ?_
  suffices H : ∀ (d k : Nat), k + d = (txM Λ).length → zW ι M_Model_readText X 105 [some (zP 40 0), some (zI (nI 0)), some (zI (nI k))] [] (cpM m0 k) by
    have := H _ 0 (Nat.zero_add _)
    rw [cpM_0] at this
    exact this
  intro d
  induction d with
  | succ d ih =>
    intro k hk
    refine z_iload_n hX (D_Model_readText (i := 56) rfl) rfl ?_
    refine z_aload_n hX (D_Model_readText (i := 57) rfl) rfl ?_
    refine z_geti hX (D_Model_readText (i := 58) rfl) f_Model_159 rfl (by decide) (by first | exact Nat.one_pos | assumption | omega) rfl ?_
    rw [show (cpM m0 k).1 40 0 17 = nI (txM Λ).length from e17]
    refine z_icmp_ge (tgt := 163) hX (D_Model_readText (i := 59) rfl) (by decide) (fun hcc => absurd hcc (nI_ge (by omega) (by omega))) (fun _ => ?_)
    refine z_aload_n hX (D_Model_readText (i := 60) rfl) rfl ?_
    refine z_getc hX (D_Model_readText (i := 61) rfl) f_Model_35 rfl (by decide) (by first | exact Nat.one_pos | assumption | omega) rfl ?_
    refine z_sipush (v := 130) hX (D_Model_readText (i := 62) rfl) (by decide) ?_
    refine z_iload_n hX (D_Model_readText (i := 63) rfl) rfl ?_
    refine z_imul hX (D_Model_readText (i := 64) rfl) ?_
    refine z_iload_n hX (D_Model_readText (i := 65) rfl) rfl ?_
    refine z_iadd hX (D_Model_readText (i := 66) rfl) ?_
    refine z_aload_n hX (D_Model_readText (i := 67) rfl) rfl ?_
    refine z_getc hX (D_Model_readText (i := 68) rfl) f_Model_35 rfl (by decide) (by first | exact Nat.one_pos | assumption | omega) rfl ?_
    refine z_sipush (v := 130) hX (D_Model_readText (i := 69) rfl) (by decide) ?_
    refine z_iload_n hX (D_Model_readText (i := 70) rfl) rfl ?_
    refine z_iadd hX (D_Model_readText (i := 71) rfl) ?_
    rw [show (130 : Int32) * nI 0 + nI k = nI k by rw [show (130 : Int32) * nI 0 = nI 0 from rfl, nI_add, Nat.zero_add], show (130 : Int32) + nI k = nI (130 + k) from nI_add 130 k]
    refine z_bald (j := 130 + k) hX (D_Model_readText (i := 72) rfl) rfl (by decide) (by first | exact Nat.one_pos | assumption | omega) (by decide) rfl (by omega) ?_
    rw [show (cpM m0 k).1 49 0 (130 + k) = m0.1 49 0 (130 + k) by simp only [cpM]; rw [if_neg (by omega)]]
    refine z_bast (j := k) hX (D_Model_readText (i := 73) rfl) rfl (by decide) (by first | exact Nat.one_pos | assumption | omega) (by decide) rfl (by omega) ?_
    have h49 := e49 k (by omega)
    rw [show (m0.1 49 0 (130 + k)).toInt8.toInt32 = m0.1 49 0 (130 + k) by
      rw [h49]
      exact hb _ (getD_mem (by omega))]
    refine z_aload_n hX (D_Model_readText (i := 74) rfl) rfl ?_
    refine z_getc hX (D_Model_readText (i := 75) rfl) f_Model_38 rfl (by decide) (by first | exact Nat.one_pos | assumption | omega) rfl ?_
    refine z_sipush (v := 130) hX (D_Model_readText (i := 76) rfl) (by decide) ?_
    refine z_iload_n hX (D_Model_readText (i := 77) rfl) rfl ?_
    refine z_imul hX (D_Model_readText (i := 78) rfl) ?_
    refine z_iload_n hX (D_Model_readText (i := 79) rfl) rfl ?_
    refine z_iadd hX (D_Model_readText (i := 80) rfl) ?_
    refine z_aload_n hX (D_Model_readText (i := 81) rfl) rfl ?_
    refine z_getc hX (D_Model_readText (i := 82) rfl) f_Model_38 rfl (by decide) (by first | exact Nat.one_pos | assumption | omega) rfl ?_
    refine z_sipush (v := 130) hX (D_Model_readText (i := 83) rfl) (by decide) ?_
    refine z_iload_n hX (D_Model_readText (i := 84) rfl) rfl ?_
    refine z_iadd hX (D_Model_readText (i := 85) rfl) ?_
    rw [show (130 : Int32) * nI 0 + nI k = nI k by rw [show (130 : Int32) * nI 0 = nI 0 from rfl, nI_add, Nat.zero_add], show (130 : Int32) + nI k = nI (130 + k) from nI_add 130 k]
    refine z_iald (j := 130 + k) hX (D_Model_readText (i := 86) rfl) rfl (by decide) (by first | exact Nat.one_pos | assumption | omega) (by decide) rfl (by omega) ?_
    rw [show (upI (cpM m0 k) 49 0 k (m0.1 49 0 (130 + k))).1 50 0 (130 + k) = m0.1 50 0 (130 + k) by rw [upI_get, if_neg (by omega)]; simp only [cpM]; rw [if_neg (by omega)]]
    refine z_iast (j := k) hX (D_Model_readText (i := 87) rfl) rfl (by decide) (by first | exact Nat.one_pos | assumption | omega) (by decide) rfl (by omega) ?_
    rw [cpM_s]
    first | refine z_inc1 hX (D_Model_readText (i := 88) rfl) rfl (by decide) rfl ?_ | refine z_iinc hX (D_Model_readText (i := 88) rfl) rfl rfl (by decide) rfl ?_
    refine z_goto (tgt := 105) hX (D_Model_readText (i := 89) rfl) (by decide) ?_
    exact ih (k + 1) (by omega)
  | zero =>
    intro k hk
    obtain rfl : k = (txM Λ).length := hk
    refine z_iload_n hX (D_Model_readText (i := 56) rfl) rfl ?_
    refine z_aload_n hX (D_Model_readText (i := 57) rfl) rfl ?_
    refine z_geti hX (D_Model_readText (i := 58) rfl) f_Model_159 rfl (by decide) (by first | exact Nat.one_pos | assumption | omega) rfl ?_
    rw [show (cpM m0 (txM Λ).length).1 40 0 17 = nI (txM Λ).length from e17]
    refine z_icmp_ge (tgt := 163) hX (D_Model_readText (i := 59) rfl) (by decide) (fun _ => ?_) (fun hcc => absurd (Int32.le_refl _) hcc)
    refine z_aload_n hX (D_Model_readText (i := 90) rfl) rfl ?_
    refine z_getc hX (D_Model_readText (i := 91) rfl) f_Model_41 rfl (by decide) (by first | exact Nat.one_pos | assumption | omega) rfl ?_
    refine z_iload_n hX (D_Model_readText (i := 92) rfl) rfl ?_
    refine z_aload_n hX (D_Model_readText (i := 93) rfl) rfl ?_
    refine z_getc hX (D_Model_readText (i := 94) rfl) f_Model_41 rfl (by decide) (by first | exact Nat.one_pos | assumption | omega) rfl ?_
    refine z_iconst (v := 1) hX (D_Model_readText (i := 95) rfl) (by decide) ?_
    refine z_iald (j := 1) hX (D_Model_readText (i := 96) rfl) rfl (by decide) (by first | exact Nat.one_pos | assumption | omega) (by decide) rfl (by omega) ?_
    rw [show (cpM m0 (txM Λ).length).1 51 0 1 = nI Λ.length from e51]
    refine z_iast (j := 0) hX (D_Model_readText (i := 97) rfl) rfl (by decide) (by first | exact Nat.one_pos | assumption | omega) (by decide) rfl (by omega) ?_
    refine z_iconst (v := 0) hX (D_Model_readText (i := 98) rfl) (by decide) ?_
    refine z_istore_n hX (D_Model_readText (i := 99) rfl) (by decide) rfl ?_
    generalize hm2 : upI (cpM m0 (txM Λ).length) 51 0 0 (nI Λ.length) = m1
    have f51 : m1.1 51 0 0 = nI Λ.length := by rw [← hm2]; rfl
    have f52 : ∀ i, i < Λ.length → m1.1 52 0 (61 + i) = nI ((tbT 0 Λ).getD i (0, 0)).1 := by
      intro i hi; rw [← hm2]; exact e52 i hi
    have f53 : ∀ i, i < Λ.length → m1.1 53 0 (61 + i) = nI ((tbT 0 Λ).getD i (0, 0)).2 := by
      intro i hi; rw [← hm2]; exact e53 i hi
    have f49 : ∀ i, i < (txM Λ).length → m1.1 49 0 i = ((txM Λ).getD i (0, 0)).1 ∧ m1.1 50 0 i = ((txM Λ).getD i (0, 0)).2 := by
      intro i hi
      rw [← hm2, upI_get, if_neg (by omega), upI_get, if_neg (by omega)]
      simp only [cpM]
      rw [if_pos ⟨Or.inl trivial, trivial, hi⟩, if_pos ⟨Or.inr trivial, trivial, hi⟩]
      exact ⟨e49 i hi, e50 i hi⟩
    have fR : rdO mem m1 := by
      rw [← hm2]
      refine ⟨eR.1, eR.2.1, fun a b c q1 q2 q3 q4 q5 q6 => ?_⟩
      rw [upI_get, if_neg (by omega)]
      simp only [cpM]
      rw [if_neg (by omega)]
      exact eR.2.2 a b c q1 q2 q3 q4 q5 q6
    clear hm2
    suffices H : ∀ (d k : Nat), k + d = Λ.length → zW ι M_Model_readText X 177 [some (zP 40 0), some (zI (nI 0)), some (zI (nI k))] [] (dpM m1 k) by
      have := H _ 0 (Nat.zero_add _)
      rw [dpM_0] at this
      exact this
    intro d
    induction d with
    | succ d ih =>
      intro k hk
      have ht := tbv k (by omega)
      refine z_iload_n hX (D_Model_readText (i := 100) rfl) rfl ?_
      refine z_aload_n hX (D_Model_readText (i := 101) rfl) rfl ?_
      refine z_getc hX (D_Model_readText (i := 102) rfl) f_Model_41 rfl (by decide) (by first | exact Nat.one_pos | assumption | omega) rfl ?_
      refine z_iload_n hX (D_Model_readText (i := 103) rfl) rfl ?_
      refine z_iald (j := 0) hX (D_Model_readText (i := 104) rfl) rfl (by decide) (by first | exact Nat.one_pos | assumption | omega) (by decide) rfl (by omega) ?_
      rw [show (dpM m1 k).1 51 0 0 = nI Λ.length from f51]
      refine z_icmp_ge (tgt := 233) hX (D_Model_readText (i := 105) rfl) (by decide) (fun hcc => absurd hcc (nI_ge (by omega) (by omega))) (fun _ => ?_)
      refine z_aload_n hX (D_Model_readText (i := 106) rfl) rfl ?_
      refine z_getc hX (D_Model_readText (i := 107) rfl) f_Model_44 rfl (by decide) (by first | exact Nat.one_pos | assumption | omega) rfl ?_
      refine z_bipush (v := 61) hX (D_Model_readText (i := 108) rfl) (by decide) ?_
      refine z_iload_n hX (D_Model_readText (i := 109) rfl) rfl ?_
      refine z_imul hX (D_Model_readText (i := 110) rfl) ?_
      refine z_iload_n hX (D_Model_readText (i := 111) rfl) rfl ?_
      refine z_iadd hX (D_Model_readText (i := 112) rfl) ?_
      refine z_aload_n hX (D_Model_readText (i := 113) rfl) rfl ?_
      refine z_getc hX (D_Model_readText (i := 114) rfl) f_Model_44 rfl (by decide) (by first | exact Nat.one_pos | assumption | omega) rfl ?_
      refine z_bipush (v := 61) hX (D_Model_readText (i := 115) rfl) (by decide) ?_
      refine z_iload_n hX (D_Model_readText (i := 116) rfl) rfl ?_
      refine z_iadd hX (D_Model_readText (i := 117) rfl) ?_
      rw [show (61 : Int32) * nI 0 + nI k = nI k by rw [show (61 : Int32) * nI 0 = nI 0 from rfl, nI_add, Nat.zero_add], show (61 : Int32) + nI k = nI (61 + k) from nI_add 61 k]
      refine z_sald (j := 61 + k) hX (D_Model_readText (i := 118) rfl) rfl (by decide) (by first | exact Nat.one_pos | assumption | omega) (by decide) rfl (by omega) ?_
      rw [show (dpM m1 k).1 52 0 (61 + k) = m1.1 52 0 (61 + k) by simp only [dpM]; rw [if_neg (by omega)]]
      refine z_sast (j := k) hX (D_Model_readText (i := 119) rfl) rfl (by decide) (by first | exact Nat.one_pos | assumption | omega) (by decide) rfl (by omega) ?_
      rw [show (m1.1 52 0 (61 + k)).toInt16.toInt32 = m1.1 52 0 (61 + k) by rw [f52 k (by omega)]; exact s16 _ ht.1]
      refine z_aload_n hX (D_Model_readText (i := 120) rfl) rfl ?_
      refine z_getc hX (D_Model_readText (i := 121) rfl) f_Model_48 rfl (by decide) (by first | exact Nat.one_pos | assumption | omega) rfl ?_
      refine z_bipush (v := 61) hX (D_Model_readText (i := 122) rfl) (by decide) ?_
      refine z_iload_n hX (D_Model_readText (i := 123) rfl) rfl ?_
      refine z_imul hX (D_Model_readText (i := 124) rfl) ?_
      refine z_iload_n hX (D_Model_readText (i := 125) rfl) rfl ?_
      refine z_iadd hX (D_Model_readText (i := 126) rfl) ?_
      refine z_aload_n hX (D_Model_readText (i := 127) rfl) rfl ?_
      refine z_getc hX (D_Model_readText (i := 128) rfl) f_Model_48 rfl (by decide) (by first | exact Nat.one_pos | assumption | omega) rfl ?_
      refine z_bipush (v := 61) hX (D_Model_readText (i := 129) rfl) (by decide) ?_
      refine z_iload_n hX (D_Model_readText (i := 130) rfl) rfl ?_
      refine z_iadd hX (D_Model_readText (i := 131) rfl) ?_
      rw [show (61 : Int32) * nI 0 + nI k = nI k by rw [show (61 : Int32) * nI 0 = nI 0 from rfl, nI_add, Nat.zero_add], show (61 : Int32) + nI k = nI (61 + k) from nI_add 61 k]
      refine z_sald (j := 61 + k) hX (D_Model_readText (i := 132) rfl) rfl (by decide) (by first | exact Nat.one_pos | assumption | omega) (by decide) rfl (by omega) ?_
      rw [show (upI (dpM m1 k) 52 0 k (m1.1 52 0 (61 + k))).1 53 0 (61 + k) = m1.1 53 0 (61 + k) by rw [upI_get, if_neg (by omega)]; simp only [dpM]; rw [if_neg (by omega)]]
      refine z_sast (j := k) hX (D_Model_readText (i := 133) rfl) rfl (by decide) (by first | exact Nat.one_pos | assumption | omega) (by decide) rfl (by omega) ?_
      rw [show (m1.1 53 0 (61 + k)).toInt16.toInt32 = m1.1 53 0 (61 + k) by rw [f53 k (by omega)]; exact s16 _ ht.2]
      rw [dpM_s]
      first | refine z_inc1 hX (D_Model_readText (i := 134) rfl) rfl (by decide) rfl ?_ | refine z_iinc hX (D_Model_readText (i := 134) rfl) rfl rfl (by decide) rfl ?_
      refine z_goto (tgt := 177) hX (D_Model_readText (i := 135) rfl) (by decide) ?_
      exact ih (k + 1) (by omega)
    | zero =>
      intro k hk
      obtain rfl : k = Λ.length := hk
      refine z_iload_n hX (D_Model_readText (i := 100) rfl) rfl ?_
      refine z_aload_n hX (D_Model_readText (i := 101) rfl) rfl ?_
      refine z_getc hX (D_Model_readText (i := 102) rfl) f_Model_41 rfl (by decide) (by first | exact Nat.one_pos | assumption | omega) rfl ?_
      refine z_iload_n hX (D_Model_readText (i := 103) rfl) rfl ?_
      refine z_iald (j := 0) hX (D_Model_readText (i := 104) rfl) rfl (by decide) (by first | exact Nat.one_pos | assumption | omega) (by decide) rfl (by omega) ?_
      rw [show (dpM m1 Λ.length).1 51 0 0 = nI Λ.length from f51]
      refine z_icmp_ge (tgt := 233) hX (D_Model_readText (i := 105) rfl) (by decide) (fun _ => ?_) (fun hcc => absurd (Int32.le_refl _) hcc)
      refine z_iconst (v := -1) hX (D_Model_readText (i := 136) rfl) (by decide) ?_
      have gR : rdO mem (dpM m1 Λ.length) := by
        refine ⟨fR.1, fR.2.1, fun a b c q1 q2 q3 q4 q5 q6 => ?_⟩
        simp only [dpM]
        rw [if_neg (by omega)]
        exact fR.2.2 a b c q1 q2 q3 q4 q5 q6
      have gL : MLaw (dpM m1 Λ.length) Λ := by
        refine ⟨h61, h121, hg, f51, f49, fun i hi => ?_⟩
        simp only [dpM]
        rw [if_pos ⟨Or.inl trivial, trivial, hi⟩, if_pos ⟨Or.inr trivial, trivial, hi⟩]
        exact ⟨f52 i hi, f53 i hi⟩
      exact z_iret hX hR (D_Model_readText (i := 137) rfl) rfl (h _ gR gL)
end D5
