/-! the tower is piled up; where a search starts -/
def bxL (b k : Nat) : List Nat := (List.range k).filter (fun i => b.testBit i)
theorem bxL_s (b k : Nat) : bxL b (k + 1) = if b.testBit k = true then bxL b k ++ [k] else bxL b k := by
  unfold bxL
  rw [List.range_succ, List.filter_append]
  cases h : b.testBit k
  · simp [List.filter, h]
  · simp [List.filter, h]
theorem bxL_lt {b k i : Nat} (h : i < (bxL b k).length) : (bxL b k).getD i 0 < k ∧ b.testBit ((bxL b k).getD i 0) = true := by
  have h1 := getD_mem (d := 0) h
  have h2 := List.mem_filter.mp h1
  exact ⟨List.mem_range.mp h2.1, h2.2⟩
theorem bxL_pre (b k : Nat) : ∀ d, bxL b (k + d) = bxL b k ∨ (bxL b k).length < (bxL b (k + d)).length
  | 0 => Or.inl rfl
  | d + 1 => by
    rw [← Nat.add_assoc, bxL_s]
    split
    · right
      rw [List.length_append, List.length_singleton]
      rcases bxL_pre b k d with h | h
      · rw [h]; exact Nat.lt_succ_self _
      · exact Nat.lt_succ_of_lt h
    · exact bxL_pre b k d
theorem bxL_len (b : Nat) : ∀ k, (bxL b k).length = pcN b k
  | 0 => rfl
  | k + 1 => by
    rw [bxL_s, pcN]
    split
    · rw [List.length_append, bxL_len b k]; rfl
    · exact bxL_len b k
theorem bxL_hi {b k : Nat} (hb : b < 2 ^ k) : ∀ d, bxL b (k + d) = bxL b k
  | 0 => rfl
  | d + 1 => by
    rw [← Nat.add_assoc, bxL_s, Nat.testBit_lt_two_pow (Nat.lt_of_lt_of_le hb (Nat.pow_le_pow_right (by decide) (Nat.le_add_right k d)))]
    exact bxL_hi hb d
theorem bxL_8 {b k : Nat} (hb : b < 2 ^ k) (hk : k ≤ 8) : bxL b k = bxL b 8 := by
  have := bxL_hi hb (8 - k)
  rw [show k + (8 - k) = 8 by omega] at this
  exact this.symm
def pF (mem mem' : zM) : Prop := mem'.1 = mem.1 ∧ mem'.2.1 = mem.2.1 ∧ ∀ a b c, a ≠ 14 → mem'.2.2 a b c = mem.2.2 a b c
def fr9 (S S' : Nat → Nat → Int32) : Prop := ∀ p c, p ≠ 9 → p ≠ 10 → p ≠ 15 → S' p c = S p c
/-- the tower as the class holds it -/
def TW (mem : zM) (S : Nat → Nat → Int32) (T : List Nat) : Prop := S 9 5 = nI T.length ∧ S 10 0 = nI T.length ∧ T.length ≤ 4 ∧ ∀ i, i < T.length → mem.2.2 14 0 i = T.getD i 0 ∧ S 15 i = nI (T.getD i 0) ∧ T.getD i 0 < 8
theorem tw_upR {mem : zM} {S : Nat → Nat → Int32} {p k j v : Nat} : upR (tw mem S) p k j v = tw (upR mem p k j v) S := rfl
theorem getD_app {L : List Nat} {x i : Nat} : (L ++ [x]).getD i 0 = if i = L.length then x else L.getD i 0 := by
  rw [List.getD_eq_getElem?_getD, List.getD_eq_getElem?_getD]
  by_cases h : i = L.length
  · subst h; simp
  · rw [if_neg h]
    by_cases h2 : i < L.length
    · rw [List.getElem?_append_left h2]
    · rw [List.getElem?_eq_none (by simp; omega), List.getElem?_eq_none (by omega)]
section T2
variable {l : Launch} {ι : zE} {mem : zM} {Post : Option zV → zM → Prop} {S : Nat → Nat → Int32} {n : Nat}
theorem c_Tower_pile (hH : zHas ι pX) {b : Nat} (hb : b < 256) (h4 : (bxL b 8).length ≤ 4) (h : ∀ mem' S', pF mem mem' → fr9 S S' → TW mem' S' (bxL b 8) → Post none (tw mem' S')) : zC l ι M_Tower_pile 0 [zP 9 0, zI (nI b)] (tw mem S) Post := by
  refine z_enter hH (by decide) (by simp [z_ent, M_Tower_pile]) (fun X hXl hX hR => ?_)
  -- the end, with the tower whole
  have fin : ∀ (m1 : zM) (S1 : Nat → Nat → Int32) (v2 : Option zV), pF mem m1 → fr9 S S1 → S1 9 5 = nI (bxL b 8).length → (∀ i, i < (bxL b 8).length → m1.2.2 14 0 i = (bxL b 8).getD i 0 ∧ S1 15 i = nI ((bxL b 8).getD i 0)) → zW ι M_Tower_pile X 73 [some (zP 9 0), some (zI (nI b)), v2] [] (tw m1 S1) := by
    intro m1 S1 v2 hp hf hh hi
    refine z_aload_n hX (D_Tower_pile (i := 43) rfl) rfl ?_
    refine z_getc hX (D_Tower_pile (i := 44) rfl) f_Tower_41 rfl (by decide) (by first | exact Nat.one_pos | assumption | omega) rfl ?_
    refine z_aload_n hX (D_Tower_pile (i := 45) rfl) rfl ?_
    refine z_geti hX (D_Tower_pile (i := 46) rfl) f_Tower_45 rfl (by decide) (by first | exact Nat.one_pos | assumption | omega) rfl ?_
    refine z_puti hX (D_Tower_pile (i := 47) rfl) g_Tower_49 rfl (by decide) (by first | exact Nat.one_pos | assumption | omega) rfl ?_
    rw [show (tw m1 S1).1 9 0 5 = nI (bxL b 8).length from hh, tw_up rfl]
    refine z_ret hX hR (D_Tower_pile (i := 48) rfl) rfl (h m1 _ hp ?_ ⟨?_, sU_at, h4, fun i hi2 => ?_⟩)
    · intro p c h1 h2 h3
      rw [sU_ne (Or.inl h2)]; exact hf p c h1 h2 h3
    · rw [sU_ne (Or.inl (by decide))]; exact hh
    · rw [sU_ne (Or.inl (by decide))]
      exact ⟨(hi i hi2).1, (hi i hi2).2, (bxL_lt hi2).1⟩
  refine z_aload_n hX (D_Tower_pile (i := 0) rfl) rfl ?_
  refine z_iconst (v := 0) hX (D_Tower_pile (i := 1) rfl) (by decide) ?_
  refine z_puti hX (D_Tower_pile (i := 2) rfl) g_Tower_45 rfl (by decide) (by first | exact Nat.one_pos | assumption | omega) rfl ?_
  refine z_iconst (v := 0) hX (D_Tower_pile (i := 3) rfl) (by decide) ?_
  refine z_istore_n hX (D_Tower_pile (i := 4) rfl) (by decide) rfl ?_
  rw [tw_up rfl]
  suffices H : ∀ (d k : Nat) (m1 : zM) (S1 : Nat → Nat → Int32), k + d = 8 → pF mem m1 → fr9 S S1 → S1 9 5 = nI (bxL b k).length → (∀ i, i < (bxL b k).length → m1.2.2 14 0 i = (bxL b k).getD i 0 ∧ S1 15 i = nI ((bxL b k).getD i 0)) → zW ι M_Tower_pile X 7 [some (zP 9 0), some (zI (nI b)), some (zI (nI k))] [] (tw m1 S1) from H 8 0 mem _ rfl ⟨rfl, rfl, fun _ _ _ _ => rfl⟩ (fun p c h1 h2 h3 => sU_ne (Or.inl h1)) sU_at (fun i hi => absurd hi (Nat.not_lt_zero _))
  intro d
  induction d with
  | zero =>
    intro k m1 S1 hk hp hf hh hi
    obtain rfl : k = 8 := hk
    refine z_iload_n hX (D_Tower_pile (i := 5) rfl) rfl ?_
    refine z_aload_n hX (D_Tower_pile (i := 6) rfl) rfl ?_
    refine z_getc hX (D_Tower_pile (i := 7) rfl) f_Tower_34 rfl (by decide) (by first | exact Nat.one_pos | assumption | omega) rfl ?_
    refine z_alen (t0 := 5) (v := 8) hX (D_Tower_pile (i := 8) rfl) rfl (by decide) (by first | exact Nat.one_pos | assumption | omega) rfl (by decide) ?_
    refine z_icmp_ge (tgt := 73) hX (D_Tower_pile (i := 9) rfl) (by decide) (fun _ => ?_) (fun hcc => absurd (Int32.le_refl _) hcc)
    exact fin m1 S1 _ hp hf hh hi
  | succ d ih =>
    intro k m1 S1 hk hp hf hh hi
    have hk8 : k < 8 := by omega
    have hpre := bxL_pre b k (8 - k)
    rw [show k + (8 - k) = 8 by omega] at hpre
    have hle : (bxL b k).length ≤ 4 := by
      rcases hpre with w | w
      · rw [← w]; exact h4
      · omega
    refine z_iload_n hX (D_Tower_pile (i := 5) rfl) rfl ?_
    refine z_aload_n hX (D_Tower_pile (i := 6) rfl) rfl ?_
    refine z_getc hX (D_Tower_pile (i := 7) rfl) f_Tower_34 rfl (by decide) (by first | exact Nat.one_pos | assumption | omega) rfl ?_
    refine z_alen (t0 := 5) (v := 8) hX (D_Tower_pile (i := 8) rfl) rfl (by decide) (by first | exact Nat.one_pos | assumption | omega) rfl (by decide) ?_
    refine z_icmp_ge (tgt := 73) hX (D_Tower_pile (i := 9) rfl) (by decide) (fun hcc => absurd hcc (nI_ge (b := 8) hk8 (by decide))) (fun _ => ?_)
    refine z_aload_n hX (D_Tower_pile (i := 10) rfl) rfl ?_
    refine z_geti hX (D_Tower_pile (i := 11) rfl) f_Tower_45 rfl (by decide) (by first | exact Nat.one_pos | assumption | omega) rfl ?_
    refine z_iconst (v := 4) hX (D_Tower_pile (i := 12) rfl) (by decide) ?_
    rw [show (tw m1 S1).1 9 0 5 = nI (bxL b k).length from hh]
    refine z_icmp_ge (tgt := 73) hX (D_Tower_pile (i := 13) rfl) (by decide) (fun h1 => ?_) (fun h1 => ?_)
    · skip
      have e4 : 4 ≤ (bxL b k).length := (nI_leI (a := 4) (by decide) (by omega)).mp h1
      have e : bxL b 8 = bxL b k := by
        rcases hpre with w | w
        · exact w
        · omega
      exact fin m1 S1 _ hp hf (by rw [e]; exact hh) (by rw [e]; exact hi)
    · refine z_iload_n hX (D_Tower_pile (i := 14) rfl) rfl ?_
      refine z_iload_n hX (D_Tower_pile (i := 15) rfl) rfl ?_
      refine z_ishr hX (D_Tower_pile (i := 16) rfl) ?_
      refine z_iconst (v := 1) hX (D_Tower_pile (i := 17) rfl) (by decide) ?_
      refine z_iand hX (D_Tower_pile (i := 18) rfl) ?_
      have e4 : (bxL b k).length < 4 := Nat.lt_of_not_le (fun w => h1 (nI_le (a := 4) w (by omega)))
      have es := bxL_s b k
      rw [bit_nI (by omega) (by omega)]
      cases hbit : b.testBit k with
      | false =>
        rw [hbit] at es
        have es : bxL b (k + 1) = bxL b k := es
        refine z_if_eq (tgt := 67) hX (D_Tower_pile (i := 19) rfl) (by decide) (fun _ => ?_) (fun hcc => absurd (rfl) hcc)
        first | refine z_inc1 hX (D_Tower_pile (i := 41) rfl) rfl (by decide) rfl ?_ | refine z_iinc hX (D_Tower_pile (i := 41) rfl) rfl rfl (by decide) rfl ?_
        refine z_goto (tgt := 7) hX (D_Tower_pile (i := 42) rfl) (by decide) ?_
        exact ih (k + 1) m1 S1 (by omega) hp hf (by rw [es]; exact hh) (by rw [es]; exact hi)
      | true =>
        rw [hbit] at es
        have es : bxL b (k + 1) = bxL b k ++ [k] := es
        refine z_if_eq (tgt := 67) hX (D_Tower_pile (i := 19) rfl) (by decide) (fun hcc => absurd hcc (by decide)) (fun _ => ?_)
        refine z_aload_n hX (D_Tower_pile (i := 20) rfl) rfl ?_
        refine z_getc hX (D_Tower_pile (i := 21) rfl) f_Tower_11 rfl (by decide) (by first | exact Nat.one_pos | assumption | omega) rfl ?_
        refine z_aload_n hX (D_Tower_pile (i := 22) rfl) rfl ?_
        refine z_geti hX (D_Tower_pile (i := 23) rfl) f_Tower_45 rfl (by decide) (by first | exact Nat.one_pos | assumption | omega) rfl ?_
        refine z_aload_n hX (D_Tower_pile (i := 24) rfl) rfl ?_
        refine z_getc hX (D_Tower_pile (i := 25) rfl) f_Tower_34 rfl (by decide) (by first | exact Nat.one_pos | assumption | omega) rfl ?_
        refine z_iload_n hX (D_Tower_pile (i := 26) rfl) rfl ?_
        rw [show (tw m1 S1).1 9 0 5 = nI (bxL b k).length from hh]
        refine z_aldCubec (j := k) hX (D_Tower_pile (i := 27) rfl) rfl (by decide) (by first | exact Nat.one_pos | assumption | omega) (by decide) rfl hk8 ?_
        refine z_astv (j := (bxL b k).length) hX (D_Tower_pile (i := 28) rfl) rfl (by decide) (by first | exact Nat.one_pos | assumption | omega) (by decide) rfl e4 rfl (by decide) (by first | exact Nat.one_pos | assumption | omega) ?_
        rw [tw_upR]
        refine z_aload_n hX (D_Tower_pile (i := 29) rfl) rfl ?_
        refine z_getc hX (D_Tower_pile (i := 30) rfl) f_Tower_17 rfl (by decide) (by first | exact Nat.one_pos | assumption | omega) rfl ?_
        refine z_aload_n hX (D_Tower_pile (i := 31) rfl) rfl ?_
        refine z_geti hX (D_Tower_pile (i := 32) rfl) f_Tower_45 rfl (by decide) (by first | exact Nat.one_pos | assumption | omega) rfl ?_
        refine z_iload_n hX (D_Tower_pile (i := 33) rfl) rfl ?_
        rw [show (tw (upR m1 14 0 (bxL b k).length k) S1).1 9 0 5 = nI (bxL b k).length from hh]
        refine z_iast (j := (bxL b k).length) hX (D_Tower_pile (i := 34) rfl) rfl (by decide) (by first | exact Nat.one_pos | assumption | omega) (by decide) rfl e4 ?_
        rw [tw_up rfl]
        refine z_aload_n hX (D_Tower_pile (i := 35) rfl) rfl ?_
        refine z_dupP hX (D_Tower_pile (i := 36) rfl) ?_
        refine z_geti hX (D_Tower_pile (i := 37) rfl) f_Tower_45 rfl (by decide) (by first | exact Nat.one_pos | assumption | omega) rfl ?_
        refine z_iconst (v := 1) hX (D_Tower_pile (i := 38) rfl) (by decide) ?_
        refine z_iadd hX (D_Tower_pile (i := 39) rfl) ?_
        rw [show (tw (upR m1 14 0 (bxL b k).length k) (sU S1 15 (bxL b k).length (nI k))).1 9 0 5 = nI (bxL b k).length from hh, show nI (bxL b k).length + 1 = nI ((bxL b k).length + 1) from nI_add _ 1]
        refine z_puti hX (D_Tower_pile (i := 40) rfl) g_Tower_45 rfl (by decide) (by first | exact Nat.one_pos | assumption | omega) rfl ?_
        rw [tw_up rfl]
        first | refine z_inc1 hX (D_Tower_pile (i := 41) rfl) rfl (by decide) rfl ?_ | refine z_iinc hX (D_Tower_pile (i := 41) rfl) rfl rfl (by decide) rfl ?_
        refine z_goto (tgt := 7) hX (D_Tower_pile (i := 42) rfl) (by decide) ?_
        refine ih (k + 1) _ _ (by omega) ⟨hp.1, hp.2.1, fun a b' c ha => ?_⟩ (fun p c h1 h2 h3 => ?_) ?_ (fun i hi2 => ?_)
        · rw [upR_get, if_neg (fun w => ha w.1)]; exact hp.2.2 a b' c ha
        · rw [sU_ne (Or.inl h1), sU_ne (Or.inl h3)]; exact hf p c h1 h2 h3
        · rw [es, List.length_append]; exact sU_at
        · rw [es, List.length_append, List.length_singleton] at hi2
          rw [es, getD_app, upR_get, sU_ne (Or.inl (by decide))]
          by_cases e : i = (bxL b k).length
          · rw [if_pos ⟨rfl, rfl, e⟩, if_pos e, e, sU_at]; exact ⟨rfl, rfl⟩
          · rw [if_neg (fun w => e w.2.2), if_neg e, sU_ne (Or.inr e)]; exact hi i (by omega)
/-- which turnings are tried -/
def trW (hb : Nat) (T : List Nat) (τ : Nat → Nat) (i t : Nat) : Bool := if hb.testBit (T.getD i 0) = true then decide (t = τ (T.getD i 0)) else decide (0 < i ∨ t % 4 = 0)
def TU (mem : zM) (τ : Nat → Nat) : Prop := ∀ k, k < 8 → mem.1 2 k 1 = nI (τ k) ∧ τ k < 24
def fr11 (S S' : Nat → Nat → Int32) : Prop := ∀ p c, p ≠ 11 → S' p c = S p c
theorem c_Tower_startFrom (hH : zHas ι pX) {T : List Nat} {τ : Nat → Nat} {hb : Nat} (h256 : hb < 256) (hT : TW mem S T) (hτ : TU mem τ) (h : ∀ S', fr11 S S' → (∀ i, i < T.length → S' 11 i = mkI (trW hb T τ i) 24) → Post none (tw mem S')) : zC l ι M_Tower_startFrom 0 [zP 9 0, zI (nI hb)] (tw mem S) Post := by
  have h4 := hT.2.2.1
  refine z_enter hH (by decide) (by simp [z_ent, M_Tower_startFrom]) (fun X hXl hX hR => ?_)
  refine z_iconst (v := 0) hX (D_Tower_startFrom (i := 0) rfl) (by decide) ?_
  refine z_istore_n hX (D_Tower_startFrom (i := 1) rfl) (by decide) rfl ?_
  suffices H : ∀ (d i : Nat) (S1 : Nat → Nat → Int32), i + d = T.length → fr11 S S1 → (∀ i', i' < i → S1 11 i' = mkI (trW hb T τ i') 24) → zW ι M_Tower_startFrom X 2 [some (zP 9 0), some (zI (nI hb)), some (zI (nI i))] [] (tw mem S1) from H _ 0 S (Nat.zero_add _) (fun _ _ _ => rfl) (fun i hi => absurd hi (Nat.not_lt_zero _))
  intro d
  induction d with
  | zero =>
    intro i S1 hi hf hs
    obtain rfl : i = T.length := hi
    refine z_iload_n hX (D_Tower_startFrom (i := 2) rfl) rfl ?_
    refine z_aload_n hX (D_Tower_startFrom (i := 3) rfl) rfl ?_
    refine z_geti hX (D_Tower_startFrom (i := 4) rfl) f_Tower_45 rfl (by decide) (by first | exact Nat.one_pos | assumption | omega) rfl ?_
    rw [show (tw mem S1).1 9 0 5 = nI T.length from (hf 9 5 (by decide)).trans hT.1]
    refine z_icmp_ge (tgt := 72) hX (D_Tower_startFrom (i := 5) rfl) (by decide) (fun _ => ?_) (fun hcc => absurd (Int32.le_refl _) hcc)
    exact z_ret hX hR (D_Tower_startFrom (i := 40) rfl) rfl (h S1 hf hs)
  | succ d ih =>
    intro i S1 hi hf hs
    have hiT : i < T.length := by omega
    obtain ⟨t1, t2, t3⟩ := hT.2.2.2 i hiT
    obtain ⟨τ1, τ2⟩ := hτ _ t3
    have nx : ∀ v, v = mkI (trW hb T τ i) 24 → zW ι M_Tower_startFrom X 66 [some (zP 9 0), some (zI (nI hb)), some (zI (nI i))] [] (tw mem (sU S1 11 i v)) := by
      intro v hv
      first | refine z_inc1 hX (D_Tower_startFrom (i := 38) rfl) rfl (by decide) rfl ?_ | refine z_iinc hX (D_Tower_startFrom (i := 38) rfl) rfl rfl (by decide) rfl ?_
      refine z_goto (tgt := 2) hX (D_Tower_startFrom (i := 39) rfl) (by decide) ?_
      refine ih (i + 1) _ (by omega) (fun p c hp => by rw [sU_ne (Or.inl hp)]; exact hf p c hp) (fun i' hi' => ?_)
      by_cases e : i' = i
      · rw [e, sU_at, hv]
      · rw [sU_ne (Or.inr e)]; exact hs i' (by omega)
    refine z_iload_n hX (D_Tower_startFrom (i := 2) rfl) rfl ?_
    refine z_aload_n hX (D_Tower_startFrom (i := 3) rfl) rfl ?_
    refine z_geti hX (D_Tower_startFrom (i := 4) rfl) f_Tower_45 rfl (by decide) (by first | exact Nat.one_pos | assumption | omega) rfl ?_
    rw [show (tw mem S1).1 9 0 5 = nI T.length from (hf 9 5 (by decide)).trans hT.1]
    refine z_icmp_ge (tgt := 72) hX (D_Tower_startFrom (i := 5) rfl) (by decide) (fun hcc => absurd hcc (nI_ge hiT (by omega))) (fun _ => ?_)
    refine z_iload_n hX (D_Tower_startFrom (i := 6) rfl) rfl ?_
    refine z_aload_n hX (D_Tower_startFrom (i := 7) rfl) rfl ?_
    refine z_getc hX (D_Tower_startFrom (i := 8) rfl) f_Tower_17 rfl (by decide) (by first | exact Nat.one_pos | assumption | omega) rfl ?_
    refine z_iload_n hX (D_Tower_startFrom (i := 9) rfl) rfl ?_
    refine z_iald (j := i) hX (D_Tower_startFrom (i := 10) rfl) rfl (by decide) (by first | exact Nat.one_pos | assumption | omega) (by decide) rfl (by omega) ?_
    rw [show (tw mem S1).1 15 0 i = nI (T.getD i 0) from (hf 15 i (by decide)).trans t2]
    refine z_ishr hX (D_Tower_startFrom (i := 11) rfl) ?_
    refine z_iconst (v := 1) hX (D_Tower_startFrom (i := 12) rfl) (by decide) ?_
    refine z_iand hX (D_Tower_startFrom (i := 13) rfl) ?_
    rw [bit_nI (by omega) (by omega)]
    cases hbit : hb.testBit (T.getD i 0) with
    | false =>
      refine z_if_eq (tgt := 46) hX (D_Tower_startFrom (i := 14) rfl) (by decide) (fun _ => ?_) (fun hcc => absurd (rfl) hcc)
      refine z_aload_n hX (D_Tower_startFrom (i := 28) rfl) rfl ?_
      refine z_getc hX (D_Tower_startFrom (i := 29) rfl) f_Tower_41 rfl (by decide) (by first | exact Nat.one_pos | assumption | omega) rfl ?_
      refine z_getc hX (D_Tower_startFrom (i := 30) rfl) f_Tower_68 rfl (by decide) (by first | exact Nat.one_pos | assumption | omega) rfl ?_
      refine z_iload_n hX (D_Tower_startFrom (i := 31) rfl) rfl ?_
      refine z_iload_n hX (D_Tower_startFrom (i := 32) rfl) rfl ?_
      refine z_if_ne (tgt := 63) hX (D_Tower_startFrom (i := 33) rfl) (by decide) (fun h1 => ?_) (fun h1 => ?_)
      · refine z_ldc (v := 16777215) hX (D_Tower_startFrom (i := 36) rfl) k_Tower_72 ?_
        refine z_iast (j := i) hX (D_Tower_startFrom (i := 37) rfl) rfl (by decide) (by first | exact Nat.one_pos | assumption | omega) (by decide) rfl (by omega) ?_
        rw [tw_up rfl]
        refine nx _ ?_
        have : 0 < i := by
          rcases Nat.eq_zero_or_pos i with w | w
          · rw [w] at h1; exact absurd rfl h1
          · exact w
        rw [← mkI_all]
        refine mkI_cong (fun k hk => ?_)
        unfold trW
        rw [hbit, if_neg (by decide), decide_eq_true (Or.inl this)]
      · refine z_ldc (v := 1118481) hX (D_Tower_startFrom (i := 34) rfl) k_Tower_71 ?_
        refine z_goto (tgt := 65) hX (D_Tower_startFrom (i := 35) rfl) (by decide) ?_
        refine z_iast (j := i) hX (D_Tower_startFrom (i := 37) rfl) rfl (by decide) (by first | exact Nat.one_pos | assumption | omega) (by decide) rfl (by omega) ?_
        rw [tw_up rfl]
        refine nx _ ?_
        have e0 : i = 0 := (nI_eq (b := 0) (by omega) (by decide)).mp h1
        rw [← mkI_low]
        refine mkI_cong (fun k hk => ?_)
        unfold trW
        rw [hbit, if_neg (by decide)]
        by_cases w : k % 4 = 0
        · rw [decide_eq_true w, decide_eq_true (Or.inr w)]
        · rw [decide_eq_false w, decide_eq_false (fun q => q.elim (fun a => by omega) w)]
    | true =>
      refine z_if_eq (tgt := 46) hX (D_Tower_startFrom (i := 14) rfl) (by decide) (fun hcc => absurd hcc (by decide)) (fun _ => ?_)
      refine z_aload_n hX (D_Tower_startFrom (i := 15) rfl) rfl ?_
      refine z_getc hX (D_Tower_startFrom (i := 16) rfl) f_Tower_41 rfl (by decide) (by first | exact Nat.one_pos | assumption | omega) rfl ?_
      refine z_getc hX (D_Tower_startFrom (i := 17) rfl) f_Tower_68 rfl (by decide) (by first | exact Nat.one_pos | assumption | omega) rfl ?_
      refine z_iload_n hX (D_Tower_startFrom (i := 18) rfl) rfl ?_
      refine z_iconst (v := 1) hX (D_Tower_startFrom (i := 19) rfl) (by decide) ?_
      refine z_aload_n hX (D_Tower_startFrom (i := 20) rfl) rfl ?_
      refine z_getc hX (D_Tower_startFrom (i := 21) rfl) f_Tower_11 rfl (by decide) (by first | exact Nat.one_pos | assumption | omega) rfl ?_
      refine z_iload_n hX (D_Tower_startFrom (i := 22) rfl) rfl ?_
      refine z_aldCubev (j := i) hX (D_Tower_startFrom (i := 23) rfl) rfl (by decide) (by first | exact Nat.one_pos | assumption | omega) (by decide) rfl (by omega) ?_
      rw [show (tw mem S1).2.2 14 0 i = T.getD i 0 from t1]
      refine z_geti hX (D_Tower_startFrom (i := 24) rfl) f_Tower_52 rfl (by decide) (by first | exact Nat.one_pos | assumption | omega) rfl ?_
      refine z_ishl hX (D_Tower_startFrom (i := 25) rfl) ?_
      rw [show (tw mem S1).1 2 (T.getD i 0) 1 = nI (τ (T.getD i 0)) from τ1]
      refine z_iast (j := i) hX (D_Tower_startFrom (i := 26) rfl) rfl (by decide) (by first | exact Nat.one_pos | assumption | omega) (by decide) rfl (by omega) ?_
      rw [tw_up rfl]
      refine z_goto (tgt := 66) hX (D_Tower_startFrom (i := 27) rfl) (by decide) ?_
      refine nx _ ?_
      rw [← mkI_one τ2]
      refine mkI_cong (fun k hk => ?_)
      unfold trW
      rw [hbit, if_pos rfl]
end T2
