/-! the reference's tower -/
def COM (mem : zM) (C : Nat → Nat → Nat) : Prop := ∀ k, k < 8 → ∀ f, f < 6 → mem.1 41 0 (6 * k + f) = nI (C k f) ∧ C k f ≤ 6
def TUM (mem : zM) (τ : Nat → Nat) (sz : Nat) : Prop := ∀ k, k < sz → mem.1 42 0 k = nI (τ k) ∧ τ k < 24
def TM (S : Nat → Nat → Int32) (T : List Nat) (sz : Nat) : Prop := S 40 28 = nI T.length ∧ T.length ≤ 4 ∧ ∀ i, i < T.length → S 57 i = nI (T.getD i 0) ∧ T.getD i 0 < sz
def frX (S S' : Nat → Nat → Int32) : Prop := ∀ p c, ¬ (p = 40 ∧ c = 28) → p ≠ 57 → S' p c = S p c
theorem cn0 {g : Nat → Bool} : ∀ {n : Nat}, cnI (fun s => !g s) n = 0 ↔ alI g n = true
  | 0 => by simp [cnI, alI]
  | n + 1 => by
    rw [cnI, alI, Bool.and_eq_true, ← cn0]
    cases g n <;> simp
theorem sum0 {g : Nat → Nat} : ∀ {n : Nat}, sumI g n = 0 ↔ ∀ k, k < n → g k = 0
  | 0 => by simp [sumI]
  | n + 1 => by
    rw [sumI, Nat.add_eq_zero_iff, sum0]
    constructor
    · rintro ⟨h1, h2⟩ k hk
      by_cases e : k = n
      · rw [e]; exact h2
      · exact h1 k (by omega)
    · intro h
      exact ⟨fun k hk => h k (by omega), h n (Nat.lt_succ_self n)⟩
theorem cs0 {Λ : Option (List lLn)} {C : Nat → Nat → Nat} {T : List Nat} {j : Nat} {f : Nat → Nat} {t : Nat} : csW (wrW Λ C T) j f t = 0 ↔ alI (fun i => fpW Λ C T i j (f i) t) j = true := by
  unfold csW
  rw [sum0, alI_true]
  constructor
  · intro h k hk
    exact cn0.mp (h k hk)
  · intro h k hk
    exact cn0.mpr (h k hk)
section M1
variable {l : Launch} {ι : zE} {mem : zM} {Post : Option zV → zM → Prop} {S : Nat → Nat → Int32} {sz : Nat} {Λ : Option (List lLn)} {C : Nat → Nat → Nat} {T : List Nat} {τ : Nat → Nat}
theorem d_findTower (hH : zHas ι pM) (hs : mem.1 40 0 1 = nI sz) (h8 : sz ≤ 8) {b : Nat} (hb : b < 256) (h4 : (bxL b sz).length ≤ 4) (h : ∀ S', frX S S' → TM S' (bxL b sz) sz → Post none (tm mem S')) : zC l ι M_Model_findTower 0 [zP 40 0, zI (nI b)] (tm mem S) Post := by
  refine z_enter hH (by decide) (by simp [z_ent, M_Model_findTower]) (fun X hXl hX hR => ?_)
  refine z_aload_n hX (D_Model_findTower (i := 0) rfl) rfl ?_
  refine z_iconst (v := 0) hX (D_Model_findTower (i := 1) rfl) (by decide) ?_
  refine z_puti hX (D_Model_findTower (i := 2) rfl) g_Model_237 rfl (by decide) (by first | exact Nat.one_pos | assumption | omega) rfl ?_
  refine z_iconst (v := 0) hX (D_Model_findTower (i := 3) rfl) (by decide) ?_
  refine z_istore_n hX (D_Model_findTower (i := 4) rfl) (by decide) rfl ?_
  rw [tm_up rfl]
  suffices LP : ∀ (d k : Nat) (S1 : Nat → Nat → Int32), k + d = sz → frX S S1 → S1 40 28 = nI (bxL b k).length → (∀ i, i < (bxL b k).length → S1 57 i = nI ((bxL b k).getD i 0)) → zW ι M_Model_findTower X 7 [some (zP 40 0), some (zI (nI b)), some (zI (nI k))] [] (tm mem S1) from LP sz 0 _ (Nat.zero_add _) (fun p c q1 q2 => sU_ne (by omega)) sU_at (fun i hi => absurd hi (Nat.not_lt_zero _))
  intro d
  induction d with
  | zero =>
    intro k S1 hk hf hh hi
    obtain rfl : k = sz := hk
    refine z_iload_n hX (D_Model_findTower (i := 5) rfl) rfl ?_
    refine z_aload_n hX (D_Model_findTower (i := 6) rfl) rfl ?_
    refine z_geti hX (D_Model_findTower (i := 7) rfl) f_Model_99 rfl (by decide) (by first | exact Nat.one_pos | assumption | omega) rfl ?_
    rw [show (tm mem S1).1 40 0 1 = nI k from hs]
    refine z_icmp_ge (tgt := 52) hX (D_Model_findTower (i := 8) rfl) (by decide) (fun _ => ?_) (fun hcc => absurd (Int32.le_refl _) hcc)
    exact z_ret hX hR (D_Model_findTower (i := 30) rfl) rfl (h S1 hf ⟨hh, h4, fun i hi2 => ⟨hi i hi2, (bxL_lt hi2).1⟩⟩)
  | succ d ih =>
    intro k S1 hk hf hh hi
    have hks : k < sz := by omega
    have es := bxL_s b k
    have hl : (bxL b k).length ≤ k := by
      rw [bxL_len]
      have : ∀ k, pcN b k ≤ k := by
        intro k
        induction k with
        | zero => exact Nat.le_refl _
        | succ k ih => rw [pcN]; split <;> omega
      exact this k
    refine z_iload_n hX (D_Model_findTower (i := 5) rfl) rfl ?_
    refine z_aload_n hX (D_Model_findTower (i := 6) rfl) rfl ?_
    refine z_geti hX (D_Model_findTower (i := 7) rfl) f_Model_99 rfl (by decide) (by first | exact Nat.one_pos | assumption | omega) rfl ?_
    rw [show (tm mem S1).1 40 0 1 = nI sz from hs]
    refine z_icmp_ge (tgt := 52) hX (D_Model_findTower (i := 8) rfl) (by decide) (fun hcc => absurd hcc (nI_ge hks (by omega))) (fun _ => ?_)
    refine z_iload_n hX (D_Model_findTower (i := 9) rfl) rfl ?_
    refine z_iload_n hX (D_Model_findTower (i := 10) rfl) rfl ?_
    refine z_ishr hX (D_Model_findTower (i := 11) rfl) ?_
    refine z_iconst (v := 1) hX (D_Model_findTower (i := 12) rfl) (by decide) ?_
    refine z_iand hX (D_Model_findTower (i := 13) rfl) ?_
    rw [bit_nI (by omega) (by omega)]
    cases hbit : b.testBit k with
    | false =>
      rw [hbit] at es
      have es : bxL b (k + 1) = bxL b k := es
      refine z_if_ne (tgt := 26) hX (D_Model_findTower (i := 14) rfl) (by decide) (fun hcc => absurd (rfl) hcc) (fun _ => ?_)
      refine z_goto (tgt := 46) hX (D_Model_findTower (i := 15) rfl) (by decide) ?_
      first | refine z_inc1 hX (D_Model_findTower (i := 28) rfl) rfl (by decide) rfl ?_ | refine z_iinc hX (D_Model_findTower (i := 28) rfl) rfl rfl (by decide) rfl ?_
      refine z_goto (tgt := 7) hX (D_Model_findTower (i := 29) rfl) (by decide) ?_
      exact ih (k + 1) S1 (by omega) hf (by rw [es]; exact hh) (by rw [es]; exact hi)
    | true =>
      rw [hbit] at es
      have es : bxL b (k + 1) = bxL b k ++ [k] := es
      refine z_if_ne (tgt := 26) hX (D_Model_findTower (i := 14) rfl) (by decide) (fun _ => ?_) (fun hcc => absurd hcc (by decide))
      refine z_aload_n hX (D_Model_findTower (i := 16) rfl) rfl ?_
      refine z_getc hX (D_Model_findTower (i := 17) rfl) f_Model_61 rfl (by decide) (by first | exact Nat.one_pos | assumption | omega) rfl ?_
      refine z_aload_n hX (D_Model_findTower (i := 18) rfl) rfl ?_
      refine z_geti hX (D_Model_findTower (i := 19) rfl) f_Model_237 rfl (by decide) (by first | exact Nat.one_pos | assumption | omega) rfl ?_
      refine z_iload_n hX (D_Model_findTower (i := 20) rfl) rfl ?_
      rw [show (tm mem S1).1 40 0 28 = nI (bxL b k).length from hh]
      refine z_iast (j := (bxL b k).length) hX (D_Model_findTower (i := 21) rfl) rfl (by decide) (by first | exact Nat.one_pos | assumption | omega) (by decide) rfl (by omega) ?_
      rw [tm_up rfl]
      refine z_aload_n hX (D_Model_findTower (i := 22) rfl) rfl ?_
      refine z_dupP hX (D_Model_findTower (i := 23) rfl) ?_
      refine z_geti hX (D_Model_findTower (i := 24) rfl) f_Model_237 rfl (by decide) (by first | exact Nat.one_pos | assumption | omega) rfl ?_
      refine z_iconst (v := 1) hX (D_Model_findTower (i := 25) rfl) (by decide) ?_
      refine z_iadd hX (D_Model_findTower (i := 26) rfl) ?_
      rw [show (tm mem (sU S1 57 (bxL b k).length (nI k))).1 40 0 28 = nI (bxL b k).length from hh, show nI (bxL b k).length + 1 = nI ((bxL b k).length + 1) from nI_add _ 1]
      refine z_puti hX (D_Model_findTower (i := 27) rfl) g_Model_237 rfl (by decide) (by first | exact Nat.one_pos | assumption | omega) rfl ?_
      rw [tm_up rfl]
      first | refine z_inc1 hX (D_Model_findTower (i := 28) rfl) rfl (by decide) rfl ?_ | refine z_iinc hX (D_Model_findTower (i := 28) rfl) rfl rfl (by decide) rfl ?_
      refine z_goto (tgt := 7) hX (D_Model_findTower (i := 29) rfl) (by decide) ?_
      refine ih (k + 1) _ (by omega) (fun p c q1 q2 => by rw [sU_ne (by omega), sU_ne (Or.inl q2)]; exact hf p c q1 q2) ?_ (fun i hi2 => ?_)
      · rw [es, List.length_append]; exact sU_at
      · rw [es, List.length_append, List.length_singleton] at hi2
        rw [es, getD_app, sU_ne (by omega)]
        by_cases e : i = (bxL b k).length
        · rw [if_pos e, e, sU_at]
        · rw [if_neg e, sU_ne (Or.inr e)]; exact hi i (by omega)
/-- what the reference's tower calls need -/
def GS (mem : zM) (S : Nat → Nat → Int32) (sz : Nat) (Λ : Option (List lLn)) (C : Nat → Nat → Nat) (T : List Nat) : Prop := ArOK mem ∧ COM mem C ∧ sz ≤ 8 ∧ TM S T sz ∧ MyM Λ S
theorem d_sees (hH : zHas ι pM) (hA : ArOK mem) (hC : COM mem C) {k t w : Nat} (hk : k < 8) (ht : t < 24) (hw : w < 6) (h : Post (some (zI (nI (C k (stN t w))))) (tm mem S)) : zC l ι M_Model_showsOf 1 [zP 40 0, zI (nI k), zI (nI t), zI (nI w)] (tm mem S) Post := by
  refine d_showsOf (mem := tm mem S) hH (fun j hj => hA j hj) hk ht hw ?_
  rw [show (cv (tm mem S)).1 3 k (stN t w) = nI (C k (stN t w)) from (hC k hk _ (st_ok t ht w hw).2).1]
  exact h
theorem d_mayBe (hH : zHas ι pM) (hG : GS mem S sz Λ C T) {s i ti j tj : Nat} (hs : s < 4) (hij : i < j) (hj : j < T.length) (hti : ti < 24) (htj : tj < 24) (h : Post (some (zI (bI (mayW Λ s i j (C (T.getD i 0) (stN ti s)) (C (T.getD j 0) (stN tj s)))))) (tm mem S)) : zC l ι M_Model_mayBe 2 [zP 40 0, zI (nI s), zI (nI i), zI (nI ti), zI (nI j), zI (nI tj)] (tm mem S) Post := by
  obtain ⟨hA, hC, h8, hT, hM⟩ := hG
  have h4 := hT.2.1
  obtain ⟨a1, a2⟩ := hT.2.2 i (by omega)
  obtain ⟨b1, b2⟩ := hT.2.2 j hj
  have c2 := (hC _ (Nat.lt_of_lt_of_le a2 h8) _ (st_ok ti hti s (by omega)).2).2
  have d2 := (hC _ (Nat.lt_of_lt_of_le b2 h8) _ (st_ok tj htj s (by omega)).2).2
  refine z_enter hH (by decide) (by simp [z_ent, M_Model_mayBe]) (fun X hXl hX hR => ?_)
  refine z_aload_n hX (D_Model_mayBe (i := 0) rfl) rfl ?_
  refine z_aload_n hX (D_Model_mayBe (i := 1) rfl) rfl ?_
  refine z_getc hX (D_Model_mayBe (i := 2) rfl) f_Model_61 rfl (by decide) (by first | exact Nat.one_pos | assumption | omega) rfl ?_
  refine z_iload_n hX (D_Model_mayBe (i := 3) rfl) rfl ?_
  refine z_iald (j := i) hX (D_Model_mayBe (i := 4) rfl) rfl (by decide) (by first | exact Nat.one_pos | assumption | omega) (by decide) rfl (by omega) ?_
  rw [show (tm mem S).1 57 0 i = nI (T.getD i 0) from a1]
  refine z_iload_n hX (D_Model_mayBe (i := 5) rfl) rfl ?_
  refine z_iload_n hX (D_Model_mayBe (i := 6) rfl) rfl ?_
  refine z_cV3 hX (D_Model_mayBe (i := 7) rfl) mi_Model_showsOf l_Model_223 rfl rfl (by decide) (by first | exact Nat.one_pos | assumption | omega) (by first | decide | omega) (Nat.le_of_ble_eq_true rfl) (d_sees hH hA hC (by omega) hti (by omega) ?_)
  refine z_istore hX (D_Model_mayBe (i := 8) rfl) (by decide) rfl ?_
  refine z_aload_n hX (D_Model_mayBe (i := 9) rfl) rfl ?_
  refine z_aload_n hX (D_Model_mayBe (i := 10) rfl) rfl ?_
  refine z_getc hX (D_Model_mayBe (i := 11) rfl) f_Model_61 rfl (by decide) (by first | exact Nat.one_pos | assumption | omega) rfl ?_
  refine z_iload hX (D_Model_mayBe (i := 12) rfl) rfl ?_
  refine z_iald (j := j) hX (D_Model_mayBe (i := 13) rfl) rfl (by decide) (by first | exact Nat.one_pos | assumption | omega) (by decide) rfl (by omega) ?_
  rw [show (tm mem S).1 57 0 j = nI (T.getD j 0) from b1]
  refine z_iload hX (D_Model_mayBe (i := 14) rfl) rfl ?_
  refine z_iload_n hX (D_Model_mayBe (i := 15) rfl) rfl ?_
  refine z_cV3 hX (D_Model_mayBe (i := 16) rfl) mi_Model_showsOf l_Model_223 rfl rfl (by decide) (by first | exact Nat.one_pos | assumption | omega) (by first | decide | omega) (Nat.le_of_ble_eq_true rfl) (d_sees hH hA hC (by omega) htj (by omega) ?_)
  generalize C (T.getD i 0) (stN ti s) = a at *
  generalize C (T.getD j 0) (stN tj s) = b at *
  unfold mayW at h
  refine z_istore hX (D_Model_mayBe (i := 17) rfl) (by decide) rfl ?_
  refine z_iload hX (D_Model_mayBe (i := 18) rfl) rfl ?_
  refine z_bipush (v := 6) hX (D_Model_mayBe (i := 19) rfl) (by decide) ?_
  refine z_icmp_eq (tgt := 63) hX (D_Model_mayBe (i := 20) rfl) (by decide) (fun h1 => ?_) (fun h1 => ?_)
  · refine z_iconst (v := 1) hX (D_Model_mayBe (i := 34) rfl) (by decide) ?_
    refine z_goto (tgt := 68) hX (D_Model_mayBe (i := 35) rfl) (by decide) ?_
    rw [decide_eq_true (Or.inl ((nI_eq (b := 6) (by omega) (by decide)).mp h1))] at h
    exact z_zret hX hR (D_Model_mayBe (i := 37) rfl) rfl (by first | exact Or.inl rfl | exact Or.inr rfl | assumption) h
  · refine z_iload hX (D_Model_mayBe (i := 21) rfl) rfl ?_
    refine z_bipush (v := 6) hX (D_Model_mayBe (i := 22) rfl) (by decide) ?_
    have h1 : ¬ a = 6 := fun w => h1 (by rw [w]; rfl)
    refine z_icmp_eq (tgt := 63) hX (D_Model_mayBe (i := 23) rfl) (by decide) (fun h2 => ?_) (fun h2 => ?_)
    · refine z_iconst (v := 1) hX (D_Model_mayBe (i := 34) rfl) (by decide) ?_
      refine z_goto (tgt := 68) hX (D_Model_mayBe (i := 35) rfl) (by decide) ?_
      rw [decide_eq_true (Or.inr ((nI_eq (b := 6) (by omega) (by decide)).mp h2))] at h
      exact z_zret hX hR (D_Model_mayBe (i := 37) rfl) rfl (by first | exact Or.inl rfl | exact Or.inr rfl | assumption) h
    · refine z_aload_n hX (D_Model_mayBe (i := 24) rfl) rfl ?_
      refine z_getc hX (D_Model_mayBe (i := 25) rfl) f_Model_57 rfl (by decide) (by first | exact Nat.one_pos | assumption | omega) rfl ?_
      refine z_iload_n hX (D_Model_mayBe (i := 26) rfl) rfl ?_
      refine z_iload_n hX (D_Model_mayBe (i := 27) rfl) rfl ?_
      refine z_iload hX (D_Model_mayBe (i := 28) rfl) rfl ?_
      refine z_iload hX (D_Model_mayBe (i := 29) rfl) rfl ?_
      refine z_iload hX (D_Model_mayBe (i := 30) rfl) rfl ?_
      have h2 : ¬ b = 6 := fun w => h2 (by rw [w]; rfl)
      refine z_cS5 hX (D_Model_mayBe (i := 31) rfl) ms_Model_mayAt l_Model_226 (by first | decide | omega) (Nat.le_of_ble_eq_true rfl) (d_mayAt ?_)
      refine z_zald (j := maN s i j a b) hX (D_Model_mayBe (i := 32) rfl) rfl (by decide) (by first | exact Nat.one_pos | assumption | omega) (by decide) rfl (by unfold maN; omega) ?_
      rw [show (tm mem S).1 56 0 (maN s i j a b) = bI (mayP Λ s i j a b) from hM s i j a b hs hij (by omega) (by omega) (by omega)]
      rw [decide_eq_false (fun w => w.elim h1 h2), Bool.false_or] at h
      refine z_if_eq (tgt := 67) hX (D_Model_mayBe (i := 33) rfl) (by decide) (fun h3 => ?_) (fun h3 => ?_)
      · refine z_iconst (v := 0) hX (D_Model_mayBe (i := 36) rfl) (by decide) ?_
        rw [bI_0.mp h3] at h
        exact z_zret hX hR (D_Model_mayBe (i := 37) rfl) rfl (by first | exact Or.inl rfl | exact Or.inr rfl | assumption) h
      · refine z_iconst (v := 1) hX (D_Model_mayBe (i := 34) rfl) (by decide) ?_
        refine z_goto (tgt := 68) hX (D_Model_mayBe (i := 35) rfl) (by decide) ?_
        rw [bI_n.mp h3] at h
        exact z_zret hX hR (D_Model_mayBe (i := 37) rfl) rfl (by first | exact Or.inl rfl | exact Or.inr rfl | assumption) h
def MS (mem : zM) (sz bx : Nat) (C : Nat → Nat → Nat) (τ : Nat → Nat) (Λ : Option (List lLn)) : Prop := mem.1 40 0 1 = nI sz ∧ sz ≤ 8 ∧ mem.1 40 0 4 = nI bx ∧ bx < 2 ^ sz ∧ pcN bx 8 ≤ 4 ∧ COM mem C ∧ TUM mem τ sz ∧ ML mem Λ ∧ ArOK mem
theorem MS.b {bx : Nat} (h : MS mem sz bx C τ Λ) : bx < 256 := Nat.lt_of_lt_of_le h.2.2.2.1 (p8 sz h.2.1)
theorem MS.len {bx : Nat} (h : MS mem sz bx C τ Λ) : (bxL bx sz).length ≤ 4 := by rw [bxL_8 h.2.2.2.1 h.2.1, bxL_len]; exact h.2.2.2.2.1
theorem MyM.fr {S S' : Nat → Nat → Int32} (h : MyM Λ S) (hf : ∀ c, S' 56 c = S 56 c) : MyM Λ S' := fun s i j a b q1 q2 q3 q4 q5 => by rw [hf]; exact h s i j a b q1 q2 q3 q4 q5
theorem d_judge (hH : zHas ι pM) {bx : Nat} (hS : MS mem sz bx C τ Λ) (h : ∀ S', Post (some (zI (oI (jdO Λ C (bxL bx 8) τ)))) (tm mem S')) : zC l ι M_Model_judge 5 [zP 40 0] (tm mem S) Post := by
  have h8 := hS.2.1
  have hlen := hS.len
  rw [← bxL_8 hS.2.2.2.1 h8] at h
  generalize hTT : bxL bx sz = T at *
  refine z_enter hH (by decide) (by simp [z_ent, M_Model_judge]) (fun X hXl hX hR => ?_)
  refine z_aload_n hX (D_Model_judge (i := 0) rfl) rfl ?_
  refine z_cV0 hX (D_Model_judge (i := 1) rfl) mi_Model_findMay l_Model_240 rfl rfl (by decide) (by first | exact Nat.one_pos | assumption | omega) (by first | decide | omega) (Nat.le_of_ble_eq_true rfl) (d_findMay hH hS.2.2.2.2.2.2.2.1 ?_)
  intro S1 f1 hM1
  refine z_aload_n hX (D_Model_judge (i := 2) rfl) rfl ?_
  refine z_aload_n hX (D_Model_judge (i := 3) rfl) rfl ?_
  refine z_geti hX (D_Model_judge (i := 4) rfl) f_Model_147 rfl (by decide) (by first | exact Nat.one_pos | assumption | omega) rfl ?_
  rw [show (tm mem S1).1 40 0 4 = nI bx from hS.2.2.1]
  refine z_cV1 hX (D_Model_judge (i := 5) rfl) mi_Model_findTower l_Model_243 rfl rfl (by decide) (by first | exact Nat.one_pos | assumption | omega) (by first | decide | omega) (Nat.le_of_ble_eq_true rfl) (d_findTower hH hS.1 h8 hS.b (by rw [hTT]; exact hlen) ?_)
  intro S2 f2 hT
  rw [hTT] at hT
  have hG : GS mem S2 sz Λ C T := ⟨hS.2.2.2.2.2.2.2.2, hS.2.2.2.2.2.1, h8, hT, hM1.fr (fun c => f2 56 c (by omega) (by decide))⟩
  have hτ := hS.2.2.2.2.2.2.1
  refine z_iconst (v := 0) hX (D_Model_judge (i := 6) rfl) (by decide) ?_
  refine z_istore_n hX (D_Model_judge (i := 7) rfl) (by decide) rfl ?_
  suffices LS : ∀ (d s : Nat) (v2 v3 : Option zV), z_isJ (some v2) = false → s + d = 4 → jdO Λ C T τ = frI (jdS Λ C T τ) s d → zW ι M_Model_judge X 14 [some (zP 40 0), some (zI (nI s)), v2, v3] [] (tm mem S2) from LS 4 0 none none rfl rfl rfl
  intro d
  induction d with
  | zero =>
    intro s v2 v3 j2 hs he
    obtain rfl : s = 4 := hs
    have h := h S2
    rw [he] at h
    refine z_iload_n hX (D_Model_judge (i := 8) rfl) rfl ?_
    refine z_iconst (v := 4) hX (D_Model_judge (i := 9) rfl) (by decide) ?_
    refine z_icmp_ge (tgt := 103) hX (D_Model_judge (i := 10) rfl) (by decide) (fun _ => ?_) (fun hcc => absurd (Int32.le_refl _) hcc)
    refine z_bipush (v := -2) hX (D_Model_judge (i := 61) rfl) (by decide) ?_
    exact z_iret hX hR (D_Model_judge (i := 62) rfl) rfl h
  | succ d ih =>
    intro s v2 v3 j2 hs he
    have hs4 : s < 4 := by omega
    refine z_iload_n hX (D_Model_judge (i := 8) rfl) rfl ?_
    refine z_iconst (v := 4) hX (D_Model_judge (i := 9) rfl) (by decide) ?_
    refine z_icmp_ge (tgt := 103) hX (D_Model_judge (i := 10) rfl) (by decide) (fun hcc => absurd hcc (nI_ge (b := 4) hs4 (by decide))) (fun _ => ?_)
    refine z_iconst (v := 0) hX (D_Model_judge (i := 11) rfl) (by decide) ?_
    refine z_istore_n hX (D_Model_judge (i := 12) rfl) (by decide) rfl ?_
    suffices LI : ∀ (e i : Nat) (v3 : Option zV), i + e = T.length → jdS Λ C T τ s = frI (jdI Λ C T τ s) i e → zW ι M_Model_judge X 21 [some (zP 40 0), some (zI (nI s)), some (zI (nI i)), v3] [] (tm mem S2) from LI T.length 0 _ (Nat.zero_add _) rfl
    intro e
    induction e with
    | zero =>
      intro i v3 hi he2
      obtain rfl : i = T.length := hi
      refine z_iload_n hX (D_Model_judge (i := 13) rfl) rfl ?_
      refine z_aload_n hX (D_Model_judge (i := 14) rfl) rfl ?_
      refine z_geti hX (D_Model_judge (i := 15) rfl) f_Model_237 rfl (by decide) (by first | exact Nat.one_pos | assumption | omega) rfl ?_
      rw [show (tm mem S2).1 40 0 28 = nI T.length from hT.1]
      refine z_icmp_ge (tgt := 97) hX (D_Model_judge (i := 16) rfl) (by decide) (fun _ => ?_) (fun hcc => absurd (Int32.le_refl _) hcc)
      first | refine z_inc1 hX (D_Model_judge (i := 59) rfl) rfl (by decide) rfl ?_ | refine z_iinc hX (D_Model_judge (i := 59) rfl) rfl rfl (by decide) rfl ?_
      refine z_goto (tgt := 14) hX (D_Model_judge (i := 60) rfl) (by decide) ?_
      refine ih (s + 1) _ _ rfl (by omega) ?_
      rw [he, frI, he2]; rfl
    | succ e ihe =>
      intro i v3 hi he2
      have hin : i < T.length := by omega
      refine z_iload_n hX (D_Model_judge (i := 13) rfl) rfl ?_
      refine z_aload_n hX (D_Model_judge (i := 14) rfl) rfl ?_
      refine z_geti hX (D_Model_judge (i := 15) rfl) f_Model_237 rfl (by decide) (by first | exact Nat.one_pos | assumption | omega) rfl ?_
      rw [show (tm mem S2).1 40 0 28 = nI T.length from hT.1]
      refine z_icmp_ge (tgt := 97) hX (D_Model_judge (i := 16) rfl) (by decide) (fun hcc => absurd hcc (nI_ge hin (by omega))) (fun _ => ?_)
      refine z_iload_n hX (D_Model_judge (i := 17) rfl) rfl ?_
      refine z_iconst (v := 1) hX (D_Model_judge (i := 18) rfl) (by decide) ?_
      refine z_iadd hX (D_Model_judge (i := 19) rfl) ?_
      rw [show nI i + 1 = nI (i + 1) from nI_add i 1]
      refine z_istore_n hX (D_Model_judge (i := 20) rfl) (by decide) rfl ?_
      suffices LJ : ∀ (g j : Nat), i < j → j + g = T.length → jdI Λ C T τ s i = frI (jdJ Λ C T τ s i) j g → zW ι M_Model_judge X 33 [some (zP 40 0), some (zI (nI s)), some (zI (nI i)), some (zI (nI j))] [] (tm mem S2) from LJ (T.length - (i + 1)) (i + 1) (by omega) (by omega) rfl
      intro g
      induction g with
      | zero =>
        intro j hij hj he3
        obtain rfl : j = T.length := hj
        refine z_iload_n hX (D_Model_judge (i := 21) rfl) rfl ?_
        refine z_aload_n hX (D_Model_judge (i := 22) rfl) rfl ?_
        refine z_geti hX (D_Model_judge (i := 23) rfl) f_Model_237 rfl (by decide) (by first | exact Nat.one_pos | assumption | omega) rfl ?_
        rw [show (tm mem S2).1 40 0 28 = nI T.length from hT.1]
        refine z_icmp_ge (tgt := 91) hX (D_Model_judge (i := 24) rfl) (by decide) (fun _ => ?_) (fun hcc => absurd (Int32.le_refl _) hcc)
        first | refine z_inc1 hX (D_Model_judge (i := 57) rfl) rfl (by decide) rfl ?_ | refine z_iinc hX (D_Model_judge (i := 57) rfl) rfl rfl (by decide) rfl ?_
        refine z_goto (tgt := 21) hX (D_Model_judge (i := 58) rfl) (by decide) ?_
        refine ihe (i + 1) _ (by omega) ?_
        rw [he2, frI, he3]; rfl
      | succ g ihg =>
        intro j hij hj he3
        have hjn : j < T.length := by omega
        obtain ⟨a1, a3⟩ := hT.2.2 i hin
        obtain ⟨b1, b3⟩ := hT.2.2 j hjn
        obtain ⟨t1, t2⟩ := hτ _ a3
        obtain ⟨u1, u2⟩ := hτ _ b3
        refine z_iload_n hX (D_Model_judge (i := 21) rfl) rfl ?_
        refine z_aload_n hX (D_Model_judge (i := 22) rfl) rfl ?_
        refine z_geti hX (D_Model_judge (i := 23) rfl) f_Model_237 rfl (by decide) (by first | exact Nat.one_pos | assumption | omega) rfl ?_
        rw [show (tm mem S2).1 40 0 28 = nI T.length from hT.1]
        refine z_icmp_ge (tgt := 91) hX (D_Model_judge (i := 24) rfl) (by decide) (fun hcc => absurd hcc (nI_ge hjn (by omega))) (fun _ => ?_)
        refine z_aload_n hX (D_Model_judge (i := 25) rfl) rfl ?_
        refine z_iload_n hX (D_Model_judge (i := 26) rfl) rfl ?_
        refine z_iload_n hX (D_Model_judge (i := 27) rfl) rfl ?_
        refine z_aload_n hX (D_Model_judge (i := 28) rfl) rfl ?_
        refine z_getc hX (D_Model_judge (i := 29) rfl) f_Model_13 rfl (by decide) (by first | exact Nat.one_pos | assumption | omega) rfl ?_
        refine z_aload_n hX (D_Model_judge (i := 30) rfl) rfl ?_
        refine z_getc hX (D_Model_judge (i := 31) rfl) f_Model_61 rfl (by decide) (by first | exact Nat.one_pos | assumption | omega) rfl ?_
        refine z_iload_n hX (D_Model_judge (i := 32) rfl) rfl ?_
        refine z_iald (j := i) hX (D_Model_judge (i := 33) rfl) rfl (by decide) (by first | exact Nat.one_pos | assumption | omega) (by decide) rfl (by omega) ?_
        rw [show (tm mem S2).1 57 0 i = nI (T.getD i 0) from a1]
        refine z_iald (j := T.getD i 0) hX (D_Model_judge (i := 34) rfl) rfl (by decide) (by first | exact Nat.one_pos | assumption | omega) (by decide) rfl (by omega) ?_
        rw [show (tm mem S2).1 42 0 (T.getD i 0) = nI (τ (T.getD i 0)) from t1]
        refine z_iload_n hX (D_Model_judge (i := 35) rfl) rfl ?_
        refine z_aload_n hX (D_Model_judge (i := 36) rfl) rfl ?_
        refine z_getc hX (D_Model_judge (i := 37) rfl) f_Model_13 rfl (by decide) (by first | exact Nat.one_pos | assumption | omega) rfl ?_
        refine z_aload_n hX (D_Model_judge (i := 38) rfl) rfl ?_
        refine z_getc hX (D_Model_judge (i := 39) rfl) f_Model_61 rfl (by decide) (by first | exact Nat.one_pos | assumption | omega) rfl ?_
        refine z_iload_n hX (D_Model_judge (i := 40) rfl) rfl ?_
        refine z_iald (j := j) hX (D_Model_judge (i := 41) rfl) rfl (by decide) (by first | exact Nat.one_pos | assumption | omega) (by decide) rfl (by omega) ?_
        rw [show (tm mem S2).1 57 0 j = nI (T.getD j 0) from b1]
        refine z_iald (j := T.getD j 0) hX (D_Model_judge (i := 42) rfl) rfl (by decide) (by first | exact Nat.one_pos | assumption | omega) (by decide) rfl (by omega) ?_
        rw [show (tm mem S2).1 42 0 (T.getD j 0) = nI (τ (T.getD j 0)) from u1]
        refine z_cV5 hX (D_Model_judge (i := 43) rfl) mi_Model_mayBe l_Model_247 rfl rfl (by decide) (by first | exact Nat.one_pos | assumption | omega) (by first | decide | omega) (Nat.le_of_ble_eq_true rfl) (d_mayBe hH hG hs4 hij hjn t2 u2 ?_)
        cases hjd : jdB Λ C T τ s i j with
        | true =>
          have hjd2 := hjd
          unfold jdB at hjd
          rw [hjd]
          refine z_if_ne (tgt := 85) hX (D_Model_judge (i := 44) rfl) (by decide) (fun _ => ?_) (fun hcc => absurd hcc (by decide))
          first | refine z_inc1 hX (D_Model_judge (i := 55) rfl) rfl (by decide) rfl ?_ | refine z_iinc hX (D_Model_judge (i := 55) rfl) rfl rfl (by decide) rfl ?_
          refine z_goto (tgt := 33) hX (D_Model_judge (i := 56) rfl) (by decide) ?_
          refine ihg (j + 1) (by omega) (by omega) ?_
          rw [he3, frI, jdJ, hjd2]; rfl
        | false =>
          have hjd2 := hjd
          unfold jdB at hjd
          rw [hjd]
          refine z_if_ne (tgt := 85) hX (D_Model_judge (i := 44) rfl) (by decide) (fun hcc => absurd (rfl) hcc) (fun _ => ?_)
          refine z_bipush (v := 100) hX (D_Model_judge (i := 45) rfl) (by decide) ?_
          refine z_iload_n hX (D_Model_judge (i := 46) rfl) rfl ?_
          refine z_imul hX (D_Model_judge (i := 47) rfl) ?_
          refine z_bipush (v := 10) hX (D_Model_judge (i := 48) rfl) (by decide) ?_
          refine z_iload_n hX (D_Model_judge (i := 49) rfl) rfl ?_
          refine z_imul hX (D_Model_judge (i := 50) rfl) ?_
          refine z_iadd hX (D_Model_judge (i := 51) rfl) ?_
          refine z_iload_n hX (D_Model_judge (i := 52) rfl) rfl ?_
          refine z_iadd hX (D_Model_judge (i := 53) rfl) ?_
          have ev : (100 : Int32) * nI s + (10 : Int32) * nI i + nI j = nI (100 * s + 10 * i + j) := by simp only [nlit, pk_mul, nI_add]
          rw [ev]
          have e1 : jdI Λ C T τ s i = some (100 * s + 10 * i + j) := by rw [he3, frI, jdJ, hjd2]; rfl
          have e2 : jdS Λ C T τ s = some (100 * s + 10 * i + j) := by rw [he2, frI, e1]
          have e3 : jdO Λ C T τ = some (100 * s + 10 * i + j) := by rw [he, frI, e2]
          have h := h S2
          rw [e3] at h
          exact z_iret hX hR (D_Model_judge (i := 54) rfl) rfl h
theorem d_isHeld (hH : zHas ι pM) (hT : TM S T sz) (h8 : sz ≤ 8) {hb j : Nat} (h256 : hb < 256) (hh : S 40 32 = nI hb) (hj : j < T.length) (h : Post (some (zI (bI (hb.testBit (T.getD j 0))))) (tm mem S)) : zC l ι M_Model_isHeld 0 [zP 40 0, zI (nI j)] (tm mem S) Post := by
  have h4 := hT.2.1
  obtain ⟨a1, a2⟩ := hT.2.2 j hj
  refine z_enter hH (by decide) (by simp [z_ent, M_Model_isHeld]) (fun X hXl hX hR => ?_)
  refine z_aload_n hX (D_Model_isHeld (i := 0) rfl) rfl ?_
  refine z_geti hX (D_Model_isHeld (i := 1) rfl) f_Model_250 rfl (by decide) (by first | exact Nat.one_pos | assumption | omega) rfl ?_
  refine z_aload_n hX (D_Model_isHeld (i := 2) rfl) rfl ?_
  refine z_getc hX (D_Model_isHeld (i := 3) rfl) f_Model_61 rfl (by decide) (by first | exact Nat.one_pos | assumption | omega) rfl ?_
  refine z_iload_n hX (D_Model_isHeld (i := 4) rfl) rfl ?_
  refine z_iald (j := j) hX (D_Model_isHeld (i := 5) rfl) rfl (by decide) (by first | exact Nat.one_pos | assumption | omega) (by decide) rfl (by omega) ?_
  rw [show (tm mem S).1 57 0 j = nI (T.getD j 0) from a1]
  refine z_ishr hX (D_Model_isHeld (i := 6) rfl) ?_
  refine z_iconst (v := 1) hX (D_Model_isHeld (i := 7) rfl) (by decide) ?_
  refine z_iand hX (D_Model_isHeld (i := 8) rfl) ?_
  refine z_iconst (v := 1) hX (D_Model_isHeld (i := 9) rfl) (by decide) ?_
  rw [show (tm mem S).1 40 0 32 = nI hb from hh, bit_nI (by omega) (by omega)]
  cases hbit : hb.testBit (T.getD j 0) with
  | false =>
    rw [hbit] at h
    refine z_icmp_ne (tgt := 21) hX (D_Model_isHeld (i := 10) rfl) (by decide) (fun _ => ?_) (fun hcc => absurd hcc (by decide))
    refine z_iconst (v := 0) hX (D_Model_isHeld (i := 13) rfl) (by decide) ?_
    exact z_zret hX hR (D_Model_isHeld (i := 14) rfl) rfl (by first | exact Or.inl rfl | exact Or.inr rfl | assumption) h
  | true =>
    rw [hbit] at h
    refine z_icmp_ne (tgt := 21) hX (D_Model_isHeld (i := 10) rfl) (by decide) (fun hcc => absurd (rfl) hcc) (fun _ => ?_)
    refine z_iconst (v := 1) hX (D_Model_isHeld (i := 11) rfl) (by decide) ?_
    refine z_goto (tgt := 22) hX (D_Model_isHeld (i := 12) rfl) (by decide) ?_
    exact z_zret hX hR (D_Model_isHeld (i := 14) rfl) rfl (by first | exact Or.inl rfl | exact Or.inr rfl | assumption) h
theorem d_isTried (hH : zHas ι pM) (hT : TM S T sz) (h8 : sz ≤ 8) (hτ : TUM mem τ sz) {hb j t : Nat} (h256 : hb < 256) (hh : S 40 32 = nI hb) (hj : j < T.length) (ht : t < 24) (h : Post (some (zI (bI (trW hb T τ j t)))) (tm mem S)) : zC l ι M_Model_isTried 1 [zP 40 0, zI (nI j), zI (nI t)] (tm mem S) Post := by
  have h4 := hT.2.1
  obtain ⟨a1, a2⟩ := hT.2.2 j hj
  obtain ⟨t1, t2⟩ := hτ _ a2
  refine z_enter hH (by decide) (by simp [z_ent, M_Model_isTried]) (fun X hXl hX hR => ?_)
  refine z_aload_n hX (D_Model_isTried (i := 0) rfl) rfl ?_
  refine z_iload_n hX (D_Model_isTried (i := 1) rfl) rfl ?_
  refine z_cV1 hX (D_Model_isTried (i := 2) rfl) mi_Model_isHeld l_Model_253 rfl rfl (by decide) (by first | exact Nat.one_pos | assumption | omega) (by first | decide | omega) (Nat.le_of_ble_eq_true rfl) (d_isHeld hH hT h8 h256 hh hj ?_)
  unfold trW at h
  cases hbit : hb.testBit (T.getD j 0) with
  | false =>
    rw [hbit, if_neg (by decide)] at h
    refine z_if_eq (tgt := 31) hX (D_Model_isTried (i := 3) rfl) (by decide) (fun _ => ?_) (fun hcc => absurd (rfl) hcc)
    refine z_iload_n hX (D_Model_isTried (i := 17) rfl) rfl ?_
    refine z_if_gt (tgt := 41) hX (D_Model_isTried (i := 18) rfl) (by decide) (fun h1 => ?_) (fun h1 => ?_)
    · refine z_iconst (v := 1) hX (D_Model_isTried (i := 23) rfl) (by decide) ?_
      refine z_goto (tgt := 46) hX (D_Model_isTried (i := 24) rfl) (by decide) ?_
      have : 0 < j := (nI_ltI (a := 0) (by decide) (by omega)).mp h1
      rw [decide_eq_true (Or.inl this)] at h
      exact z_zret hX hR (D_Model_isTried (i := 26) rfl) rfl (by first | exact Or.inl rfl | exact Or.inr rfl | assumption) h
    · refine z_iload_n hX (D_Model_isTried (i := 19) rfl) rfl ?_
      refine z_iconst (v := 4) hX (D_Model_isTried (i := 20) rfl) (by decide) ?_
      have h1 : ¬ 0 < j := fun w => h1 (nI_lt (a := 0) w (by omega))
      refine z_irem hX (D_Model_isTried (i := 21) rfl) (by decide) ?_
      rw [show nI t - nI t / 4 * 4 = nI (t % 4) from pk_rem (d := 4) (by omega) (by decide) (by decide)]
      refine z_if_ne (tgt := 45) hX (D_Model_isTried (i := 22) rfl) (by decide) (fun h2 => ?_) (fun h2 => ?_)
      · refine z_iconst (v := 0) hX (D_Model_isTried (i := 25) rfl) (by decide) ?_
        rw [decide_eq_false (fun w => w.elim h1 (fun q => h2 (by rw [q]; rfl)))] at h
        exact z_zret hX hR (D_Model_isTried (i := 26) rfl) rfl (by first | exact Or.inl rfl | exact Or.inr rfl | assumption) h
      · refine z_iconst (v := 1) hX (D_Model_isTried (i := 23) rfl) (by decide) ?_
        refine z_goto (tgt := 46) hX (D_Model_isTried (i := 24) rfl) (by decide) ?_
        rw [decide_eq_true (Or.inr ((nI_eq (b := 0) (by omega) (by decide)).mp h2))] at h
        exact z_zret hX hR (D_Model_isTried (i := 26) rfl) rfl (by first | exact Or.inl rfl | exact Or.inr rfl | assumption) h
  | true =>
    rw [hbit, if_pos rfl] at h
    refine z_if_eq (tgt := 31) hX (D_Model_isTried (i := 3) rfl) (by decide) (fun hcc => absurd hcc (by decide)) (fun _ => ?_)
    refine z_iload_n hX (D_Model_isTried (i := 4) rfl) rfl ?_
    refine z_aload_n hX (D_Model_isTried (i := 5) rfl) rfl ?_
    refine z_getc hX (D_Model_isTried (i := 6) rfl) f_Model_13 rfl (by decide) (by first | exact Nat.one_pos | assumption | omega) rfl ?_
    refine z_aload_n hX (D_Model_isTried (i := 7) rfl) rfl ?_
    refine z_getc hX (D_Model_isTried (i := 8) rfl) f_Model_61 rfl (by decide) (by first | exact Nat.one_pos | assumption | omega) rfl ?_
    refine z_iload_n hX (D_Model_isTried (i := 9) rfl) rfl ?_
    refine z_iald (j := j) hX (D_Model_isTried (i := 10) rfl) rfl (by decide) (by first | exact Nat.one_pos | assumption | omega) (by decide) rfl (by omega) ?_
    rw [show (tm mem S).1 57 0 j = nI (T.getD j 0) from a1]
    refine z_iald (j := T.getD j 0) hX (D_Model_isTried (i := 11) rfl) rfl (by decide) (by first | exact Nat.one_pos | assumption | omega) (by decide) rfl (by omega) ?_
    rw [show (tm mem S).1 42 0 (T.getD j 0) = nI (τ (T.getD j 0)) from t1]
    refine z_icmp_ne (tgt := 27) hX (D_Model_isTried (i := 12) rfl) (by decide) (fun h1 => ?_) (fun h1 => ?_)
    · refine z_iconst (v := 0) hX (D_Model_isTried (i := 15) rfl) (by decide) ?_
      refine z_goto (tgt := 46) hX (D_Model_isTried (i := 16) rfl) (by decide) ?_
      rw [decide_eq_false (fun w => h1 (by rw [w]))] at h
      exact z_zret hX hR (D_Model_isTried (i := 26) rfl) rfl (by first | exact Or.inl rfl | exact Or.inr rfl | assumption) h
    · refine z_iconst (v := 1) hX (D_Model_isTried (i := 13) rfl) (by decide) ?_
      refine z_goto (tgt := 46) hX (D_Model_isTried (i := 14) rfl) (by decide) ?_
      rw [decide_eq_true ((nI_eq (by omega) (by omega)).mp h1)] at h
      exact z_zret hX hR (D_Model_isTried (i := 26) rfl) rfl (by first | exact Or.inl rfl | exact Or.inr rfl | assumption) h
theorem d_wrongWith (hH : zHas ι pM) (hG : GS mem S sz Λ C T) {j t : Nat} {f : Nat → Nat} (hj : j < T.length) (ht : t < 24) (hf : ∀ i, i < j → S 58 i = nI (f i) ∧ f i < 24) (h : Post (some (zI (nI (csW (wrW Λ C T) j f t)))) (tm mem S)) : zC l ι M_Model_wrongWith 3 [zP 40 0, zI (nI j), zI (nI t)] (tm mem S) Post := by
  have h4 := hG.2.2.2.1.2.1
  refine z_enter hH (by decide) (by simp [z_ent, M_Model_wrongWith]) (fun X hXl hX hR => ?_)
  refine z_iconst (v := 0) hX (D_Model_wrongWith (i := 0) rfl) (by decide) ?_
  refine z_istore_n hX (D_Model_wrongWith (i := 1) rfl) (by decide) rfl ?_
  refine z_iconst (v := 0) hX (D_Model_wrongWith (i := 2) rfl) (by decide) ?_
  refine z_istore hX (D_Model_wrongWith (i := 3) rfl) (by decide) rfl ?_
  suffices LI : ∀ (d i : Nat) (v5 : Option zV), i + d = j → zW ι M_Model_wrongWith X 5 [some (zP 40 0), some (zI (nI j)), some (zI (nI t)), some (zI (nI (sumI (fun i => wrW Λ C T i j (f i) t) i))), some (zI (nI i)), v5] [] (tm mem S) from LI j 0 none (Nat.zero_add _)
  intro d
  induction d with
  | zero =>
    intro i v5 hi
    obtain rfl : i = j := hi
    refine z_iload hX (D_Model_wrongWith (i := 4) rfl) rfl ?_
    refine z_iload_n hX (D_Model_wrongWith (i := 5) rfl) rfl ?_
    refine z_icmp_ge (tgt := 55) hX (D_Model_wrongWith (i := 6) rfl) (by decide) (fun _ => ?_) (fun hcc => absurd (Int32.le_refl _) hcc)
    refine z_iload_n hX (D_Model_wrongWith (i := 28) rfl) rfl ?_
    exact z_iret hX hR (D_Model_wrongWith (i := 29) rfl) rfl h
  | succ d ih =>
    intro i v5 hi
    have hij : i < j := by omega
    obtain ⟨f1, f2⟩ := hf i hij
    refine z_iload hX (D_Model_wrongWith (i := 4) rfl) rfl ?_
    refine z_iload_n hX (D_Model_wrongWith (i := 5) rfl) rfl ?_
    refine z_icmp_ge (tgt := 55) hX (D_Model_wrongWith (i := 6) rfl) (by decide) (fun hcc => absurd hcc (nI_ge hij (by omega))) (fun _ => ?_)
    refine z_iconst (v := 0) hX (D_Model_wrongWith (i := 7) rfl) (by decide) ?_
    refine z_istore hX (D_Model_wrongWith (i := 8) rfl) (by decide) rfl ?_
    suffices LS : ∀ (e s : Nat), s + e = 4 → zW ι M_Model_wrongWith X 14 [some (zP 40 0), some (zI (nI j)), some (zI (nI t)), some (zI (nI (sumI (fun i => wrW Λ C T i j (f i) t) i + cnI (fun s => !mayW Λ s i j (C (T.getD i 0) (stN (f i) s)) (C (T.getD j 0) (stN t s))) s))), some (zI (nI i)), some (zI (nI s))] [] (tm mem S) from LS 4 0 rfl
    intro e
    induction e with
    | zero =>
      intro s hs
      obtain rfl : s = 4 := hs
      refine z_iload hX (D_Model_wrongWith (i := 9) rfl) rfl ?_
      refine z_iconst (v := 4) hX (D_Model_wrongWith (i := 10) rfl) (by decide) ?_
      refine z_icmp_ge (tgt := 49) hX (D_Model_wrongWith (i := 11) rfl) (by decide) (fun _ => ?_) (fun hcc => absurd (Int32.le_refl _) hcc)
      first | refine z_inc1 hX (D_Model_wrongWith (i := 26) rfl) rfl (by decide) rfl ?_ | refine z_iinc hX (D_Model_wrongWith (i := 26) rfl) rfl rfl (by decide) rfl ?_
      refine z_goto (tgt := 5) hX (D_Model_wrongWith (i := 27) rfl) (by decide) ?_
      exact ih (i + 1) _ (by omega)
    | succ e ihe =>
      intro s hs
      have hs4 : s < 4 := by omega
      refine z_iload hX (D_Model_wrongWith (i := 9) rfl) rfl ?_
      refine z_iconst (v := 4) hX (D_Model_wrongWith (i := 10) rfl) (by decide) ?_
      refine z_icmp_ge (tgt := 49) hX (D_Model_wrongWith (i := 11) rfl) (by decide) (fun hcc => absurd hcc (nI_ge (b := 4) hs4 (by decide))) (fun _ => ?_)
      refine z_aload_n hX (D_Model_wrongWith (i := 12) rfl) rfl ?_
      refine z_iload hX (D_Model_wrongWith (i := 13) rfl) rfl ?_
      refine z_iload hX (D_Model_wrongWith (i := 14) rfl) rfl ?_
      refine z_aload_n hX (D_Model_wrongWith (i := 15) rfl) rfl ?_
      refine z_getc hX (D_Model_wrongWith (i := 16) rfl) f_Model_64 rfl (by decide) (by first | exact Nat.one_pos | assumption | omega) rfl ?_
      refine z_iload hX (D_Model_wrongWith (i := 17) rfl) rfl ?_
      refine z_iald (j := i) hX (D_Model_wrongWith (i := 18) rfl) rfl (by decide) (by first | exact Nat.one_pos | assumption | omega) (by decide) rfl (by omega) ?_
      rw [show (tm mem S).1 58 0 i = nI (f i) from f1]
      refine z_iload_n hX (D_Model_wrongWith (i := 19) rfl) rfl ?_
      refine z_iload_n hX (D_Model_wrongWith (i := 20) rfl) rfl ?_
      refine z_cV5 hX (D_Model_wrongWith (i := 21) rfl) mi_Model_mayBe l_Model_247 rfl rfl (by decide) (by first | exact Nat.one_pos | assumption | omega) (by first | decide | omega) (Nat.le_of_ble_eq_true rfl) (d_mayBe hH hG hs4 hij hj f2 ht ?_)
      cases hm : mayW Λ s i j (C (T.getD i 0) (stN (f i) s)) (C (T.getD j 0) (stN t s)) with
      | true =>
        refine z_if_ne (tgt := 43) hX (D_Model_wrongWith (i := 22) rfl) (by decide) (fun _ => ?_) (fun hcc => absurd hcc (by decide))
        first | refine z_inc1 hX (D_Model_wrongWith (i := 24) rfl) rfl (by decide) rfl ?_ | refine z_iinc hX (D_Model_wrongWith (i := 24) rfl) rfl rfl (by decide) rfl ?_
        refine z_goto (tgt := 14) hX (D_Model_wrongWith (i := 25) rfl) (by decide) ?_
        have := ihe (s + 1) (by omega)
        rw [cnI, hm] at this
        exact this
      | false =>
        refine z_if_ne (tgt := 43) hX (D_Model_wrongWith (i := 22) rfl) (by decide) (fun hcc => absurd (rfl) hcc) (fun _ => ?_)
        first | refine z_inc1 hX (D_Model_wrongWith (i := 23) rfl) rfl (by decide) rfl ?_ | refine z_iinc hX (D_Model_wrongWith (i := 23) rfl) rfl rfl (by decide) rfl ?_
        first | refine z_inc1 hX (D_Model_wrongWith (i := 24) rfl) rfl (by decide) rfl ?_ | refine z_iinc hX (D_Model_wrongWith (i := 24) rfl) rfl rfl (by decide) rfl ?_
        refine z_goto (tgt := 14) hX (D_Model_wrongWith (i := 25) rfl) (by decide) ?_
        have := ihe (s + 1) (by omega)
        rw [cnI, hm] at this
        exact this
end M1
