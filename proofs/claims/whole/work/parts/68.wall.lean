/-! the nearest, whole; the wall's pairs: as the class does them -/
def frZ (S S' : Nat → Nat → Int32) : Prop := ∀ p c, p ≠ 16 → p ≠ 17 → p ≠ 18 → p ≠ 19 → S' p c = S p c
theorem frZ.tw {mem : zM} {S S' : Nat → Nat → Int32} {T : List Nat} (hf : frZ S S') (hT : TW mem S T) : TW mem S' T := ⟨(hf 9 5 (by decide) (by decide) (by decide) (by decide)).trans hT.1, (hf 10 0 (by decide) (by decide) (by decide) (by decide)).trans hT.2.1, hT.2.2.1, fun i hi => ⟨(hT.2.2.2 i hi).1, (hf 15 i (by decide) (by decide) (by decide) (by decide)).trans (hT.2.2.2 i hi).2.1, (hT.2.2.2 i hi).2.2⟩⟩
section T8
variable {l : Launch} {ι : zE} {mem : zM} {Post : Option zV → zM → Prop} {S : Nat → Nat → Int32} {n : Nat} {Λ : Option (List lLn)} {C : Nat → Nat → Nat} {T : List Nat} {τ : Nat → Nat} {tr : Nat → Nat → Bool}
theorem c_Tower_leastWrong (hH : zHas ι pX) (hT : TW mem S T) (hC : CO mem C) (hM : MY mem Λ) (h11 : ∀ i, i < T.length → S 11 i = mkI (tr i) 24) (h : ∀ S', Post (some (zI (nI (mi 25 (mnS tr (wrW Λ C T) T.length 0 (fun _ => 0)))))) (tw mem S')) : zC l ι M_Tower_leastWrong 10 [zP 9 0] (tw mem S) Post := by
  have h4 := hT.2.2.1
  generalize hn : T.length = n at *
  refine z_enter hH (by decide) (by simp [z_ent, M_Tower_leastWrong]) (fun X hXl hX hR => ?_)
  refine z_aload_n hX (D_Tower_leastWrong (i := 0) rfl) rfl ?_
  refine z_getc hX (D_Tower_leastWrong (i := 1) rfl) f_Tower_27 rfl (by decide) (by first | exact Nat.one_pos | assumption | omega) rfl ?_
  refine z_iconst (v := 0) hX (D_Tower_leastWrong (i := 2) rfl) (by decide) ?_
  refine z_cS2 hX (D_Tower_leastWrong (i := 3) rfl) ms_Arrays_fill_031fb l_Tower_140 (by first | decide | omega) (Nat.le_of_ble_eq_true rfl) (c_fillB hH ?_)
  refine z_aload_n hX (D_Tower_leastWrong (i := 4) rfl) rfl ?_
  refine z_getc hX (D_Tower_leastWrong (i := 5) rfl) f_Tower_31 rfl (by decide) (by first | exact Nat.one_pos | assumption | omega) rfl ?_
  refine z_aload_n hX (D_Tower_leastWrong (i := 6) rfl) rfl ?_
  refine z_geti hX (D_Tower_leastWrong (i := 7) rfl) f_Tower_45 rfl (by decide) (by first | exact Nat.one_pos | assumption | omega) rfl ?_
  refine z_iconst (v := 0) hX (D_Tower_leastWrong (i := 8) rfl) (by decide) ?_
  rw [show (tw mem (flB S 3456)).1 9 0 5 = nI n from by rw [← hn]; exact hT.1]
  refine z_iast (j := n) hX (D_Tower_leastWrong (i := 9) rfl) rfl (by decide) (by first | exact Nat.one_pos | assumption | omega) (by decide) rfl (by omega) ?_
  rw [tw_up rfl]
  generalize hS0 : sU (flB S 3456) 19 n 0 = S0
  have f0 : frZ S S0 := fun p c q1 q2 q3 q4 => by
    rw [← hS0, sU_ne (Or.inl q4)]
    exact if_neg (fun w => q3 w.1)
  have z0 : ∀ i j, i < j → j < 4 → ∀ k, k < 576 → S0 18 (prN i j * 576 + k) = 0 := fun i j hi hj k hk => by
    rw [← hS0, sU_ne (Or.inl (by decide))]
    have := (pr_ok j hj i hi).2.1
    exact if_pos ⟨rfl, by omega⟩
  have g0 : S0 19 n = nI 0 := by rw [← hS0]; exact sU_at
  clear hS0
  refine z_aload_n hX (D_Tower_leastWrong (i := 10) rfl) rfl ?_
  refine z_geti hX (D_Tower_leastWrong (i := 11) rfl) f_Tower_45 rfl (by decide) (by first | exact Nat.one_pos | assumption | omega) rfl ?_
  refine z_iconst (v := 1) hX (D_Tower_leastWrong (i := 12) rfl) (by decide) ?_
  refine z_isub hX (D_Tower_leastWrong (i := 13) rfl) ?_
  rw [show (tw mem S0).1 9 0 5 = nI n from by rw [← hn]; exact (f0.tw hT).1]
  refine z_istore_n hX (D_Tower_leastWrong (i := 14) rfl) (by decide) rfl ?_
  suffices LH : ∀ (j : Nat) (A : Nat → Nat) (S1 : Nat → Nat → Int32) (v2 : Option zV), j ≤ n → frZ S S1 → (∀ i, j ≤ i → i ≤ n → S1 19 i = nI (A i) ∧ A i ≤ 16 * (n - i)) → (∀ i, j ≤ i → ∀ d f, i + d = n → (∀ i', i' < i → f i' < 24) → A i ≤ mnS tr (wrW Λ C T) d i f) → (∀ i' j', i' < j' → j ≤ j' → j' < n → ∀ t u, t < 24 → u < 24 → S1 18 (prN i' j' * 576 + t * 24 + u) = nI (wrW Λ C T i' j' t u)) → (∀ i' j', i' < j' → j' < j → ∀ k, k < 576 → S1 18 (prN i' j' * 576 + k) = 0) → zW ι M_Tower_leastWrong X 25 [some (zP 9 0), some (zI (nI j - 1)), v2] [] (tw mem S1) by
    refine LH n (fun _ => 0) S0 none (Nat.le_refl _) f0 (fun i h1 h2 => ?_) (fun i h1 d f hd hf => Nat.zero_le _) (fun i' j' h1 h2 h3 => by omega) (fun i' j' h1 h2 k hk => z0 i' j' h1 (by omega) k hk)
    obtain rfl : i = n := by omega
    exact ⟨g0, Nat.zero_le _⟩
  intro j
  induction j with
  | zero =>
    intro A S1 v2 hj hf hA hB hcs hzs
    refine z_iload_n hX (D_Tower_leastWrong (i := 15) rfl) rfl ?_
    refine z_if_lt (tgt := 80) hX (D_Tower_leastWrong (i := 16) rfl) (by decide) (fun _ => ?_) (fun hcc => absurd (by decide) hcc)
    refine z_aload_n hX (D_Tower_leastWrong (i := 48) rfl) rfl ?_
    refine z_bipush (v := 25) hX (D_Tower_leastWrong (i := 49) rfl) (by decide) ?_
    refine z_puti hX (D_Tower_leastWrong (i := 50) rfl) g_Tower_146 rfl (by decide) (by first | exact Nat.one_pos | assumption | omega) rfl ?_
    refine z_aload_n hX (D_Tower_leastWrong (i := 51) rfl) rfl ?_
    refine z_iconst (v := 0) hX (D_Tower_leastWrong (i := 52) rfl) (by decide) ?_
    refine z_iconst (v := 0) hX (D_Tower_leastWrong (i := 53) rfl) (by decide) ?_
    rw [tw_up rfl]
    have f1 : ∀ p c, p ≠ 9 → sU S1 9 10 25 p c = S1 p c := fun p c q => sU_ne (Or.inl q)
    have := c_Tower_descend (l := X.2.1) (mem := mem) (n := n) (tr := tr) (wr := wrW Λ C T) hH h4 wrW_le (A := A) (fun d i f hd hf => hB i (Nat.zero_le _) d f hd hf) (fun i hi => by have := (hA i (Nat.zero_le _) hi).2; omega) n 0 (fun _ => 0) (sU S1 9 10 25) 0 25 (fun r mem' => zW ι M_Tower_leastWrong X 92 [some (zP 9 0), some (zI (nI 0 - 1)), v2] (z_ps r []) mem') (Nat.zero_add _) (by rw [sU_ne (by omega), ← hn]; exact (hf.tw hT).1) (fun i hi => by rw [f1 11 i (by decide), hf 11 i (by decide) (by decide) (by decide) (by decide)]; exact h11 i hi) (fun i' j' t u q1 q2 q3 q4 => by rw [f1 18 _ (by decide)]; exact hcs i' j' q1 (Nat.zero_le _) q2 t u q3 q4) (fun i hi => by rw [f1 19 i (by decide)]; exact (hA i (Nat.zero_le _) hi).1) (by omega) (Nat.le_refl _) sU_at (fun i hi => absurd hi (Nat.not_lt_zero _)) ?_
    · refine z_cV2 hX (D_Tower_leastWrong (i := 54) rfl) mi_Tower_descend l_Tower_149 rfl rfl (by decide) (by first | exact Nat.one_pos | assumption | omega) (by first | decide | omega) (Nat.le_of_ble_eq_true rfl) this
    · intro S2 hf2 _ hl
      refine z_aload_n hX (D_Tower_leastWrong (i := 55) rfl) rfl ?_
      refine z_geti hX (D_Tower_leastWrong (i := 56) rfl) f_Tower_146 rfl (by decide) (by first | exact Nat.one_pos | assumption | omega) rfl ?_
      rw [show (tw mem S2).1 9 0 10 = _ from hl, Nat.zero_add]
      exact z_iret hX hR (D_Tower_leastWrong (i := 57) rfl) rfl (h S2)
  | succ j ih =>
    intro A S1 v2 hj hf hA hB hcs hzs
    have hj4 : j < 4 := by omega
    have e1 : nI (j + 1) - 1 = nI j := pk_sub (a := j + 1) (b := 1) (by omega)
    rw [e1]
    obtain ⟨q1, q2⟩ := hA (j + 1) (Nat.le_refl _) hj
    refine z_iload_n hX (D_Tower_leastWrong (i := 15) rfl) rfl ?_
    refine z_if_lt (tgt := 80) hX (D_Tower_leastWrong (i := 16) rfl) (by decide) (fun hcc => absurd hcc ((fun w => absurd w (nI_pos (by omega))))) (fun _ => ?_)
    refine z_aload_n hX (D_Tower_leastWrong (i := 17) rfl) rfl ?_
    refine z_getc hX (D_Tower_leastWrong (i := 18) rfl) f_Tower_31 rfl (by decide) (by first | exact Nat.one_pos | assumption | omega) rfl ?_
    refine z_iload_n hX (D_Tower_leastWrong (i := 19) rfl) rfl ?_
    refine z_aload_n hX (D_Tower_leastWrong (i := 20) rfl) rfl ?_
    refine z_getc hX (D_Tower_leastWrong (i := 21) rfl) f_Tower_31 rfl (by decide) (by first | exact Nat.one_pos | assumption | omega) rfl ?_
    refine z_iload_n hX (D_Tower_leastWrong (i := 22) rfl) rfl ?_
    refine z_iconst (v := 1) hX (D_Tower_leastWrong (i := 23) rfl) (by decide) ?_
    refine z_iadd hX (D_Tower_leastWrong (i := 24) rfl) ?_
    rw [show nI j + 1 = nI (j + 1) from nI_add j 1]
    refine z_iald (j := j + 1) hX (D_Tower_leastWrong (i := 25) rfl) rfl (by decide) (by first | exact Nat.one_pos | assumption | omega) (by decide) rfl (by omega) ?_
    rw [show (tw mem S1).1 19 0 (j + 1) = nI (A (j + 1)) from q1]
    refine z_iast (j := j) hX (D_Tower_leastWrong (i := 26) rfl) rfl (by decide) (by first | exact Nat.one_pos | assumption | omega) (by decide) rfl (by omega) ?_
    rw [tw_up rfl]
    refine z_iconst (v := 0) hX (D_Tower_leastWrong (i := 27) rfl) (by decide) ?_
    refine z_istore_n hX (D_Tower_leastWrong (i := 28) rfl) (by decide) rfl ?_
    suffices LI : ∀ (e i P : Nat) (S2 : Nat → Nat → Int32), i + e = j → frZ S S2 → S2 19 j = nI P → P ≤ 16 * (n - (j + 1)) + 4 * i → (∀ (f : Nat → Nat) t, (∀ i', i' < j → f i' < 24) → t < 24 → P ≤ A (j + 1) + sumI (fun i' => wrW Λ C T i' j (f i') t) i) → (∀ i', j + 1 ≤ i' → i' ≤ n → S2 19 i' = nI (A i')) → (∀ i' j', i' < j' → (j + 1 ≤ j' ∨ (j' = j ∧ i' < i)) → j' < n → ∀ t u, t < 24 → u < 24 → S2 18 (prN i' j' * 576 + t * 24 + u) = nI (wrW Λ C T i' j' t u)) → (∀ i' j', i' < j' → (j' < j ∨ (j' = j ∧ i ≤ i')) → ∀ k, k < 576 → S2 18 (prN i' j' * 576 + k) = 0) → zW ι M_Tower_leastWrong X 45 [some (zP 9 0), some (zI (nI j)), some (zI (nI i))] [] (tw mem S2) by
      refine LI j 0 (A (j + 1)) _ (Nat.zero_add _) (fun p c r1 r2 r3 r4 => by rw [sU_ne (Or.inl r4)]; exact hf p c r1 r2 r3 r4) sU_at (by omega) (fun f t _ _ => Nat.le_add_right _ _) (fun i' r1 r2 => by rw [sU_ne (by omega)]; exact (hA i' (by omega) r2).1) (fun i' j' r1 r2 r3 t u r4 r5 => by rw [sU_ne (by omega)]; exact hcs i' j' r1 (by omega) r3 t u r4 r5) (fun i' j' r1 r2 k r3 => by rw [sU_ne (by omega)]; exact hzs i' j' r1 (by omega) k r3)
    intro e
    induction e with
    | zero =>
      intro i P S2 hi hf2 hP hP2 hPl hA2 hc2 hz2
      obtain rfl : i = j := hi
      refine z_iload_n hX (D_Tower_leastWrong (i := 29) rfl) rfl ?_
      refine z_iload_n hX (D_Tower_leastWrong (i := 30) rfl) rfl ?_
      refine z_icmp_ge (tgt := 74) hX (D_Tower_leastWrong (i := 31) rfl) (by decide) (fun _ => ?_) (fun hcc => absurd (Int32.le_refl _) hcc)
      refine z_iinc (v := nI i - 1) hX (D_Tower_leastWrong (i := 46) rfl) rfl ((by rw [Int32.sub_eq_add_neg]; rfl)) (by decide) rfl ?_
      refine z_goto (tgt := 25) hX (D_Tower_leastWrong (i := 47) rfl) (by decide) ?_
      refine ih (fN A i P) S2 _ (by omega) hf2 (fun i' r1 r2 => ?_) (fun i' r1 d f hd hf3 => ?_) (fun i' j' r1 r2 r3 t u r4 r5 => hc2 i' j' r1 (by omega) r3 t u r4 r5) (fun i' j' r1 r2 k r3 => hz2 i' j' r1 (by omega) k r3)
      · by_cases e : i' = i
        · subst e; rw [fN_at]; exact ⟨hP, by omega⟩
        · rw [fN_ne e]; exact ⟨hA2 i' (by omega) r2, (hA i' (by omega) r2).2⟩
      · by_cases e : i' = i
        · subst e
          rw [fN_at]
          obtain ⟨d', rfl⟩ : ∃ d', d = d' + 1 := ⟨d - 1, by omega⟩
          rw [mnS]
          refine mnF_ge (by omega) (fun t ht _ => ?_)
          have b1 := hPl f t hf3 ht
          have b2 := hB (i' + 1) (Nat.le_refl _) d' (fN f i' t) (by omega) (fun q hq => by
            by_cases e : q = i'
            · rw [e, fN_at]; exact ht
            · rw [fN_ne e]; exact hf3 q (by omega))
          unfold csW
          omega
        · rw [fN_ne e]; exact hB i' (by omega) d f hd hf3
    | succ e ihe =>
      intro i P S2 hi hf2 hP hP2 hPl hA2 hc2 hz2
      have hij : i < j := by omega
      have hp := pr_ok j hj4 i hij
      refine z_iload_n hX (D_Tower_leastWrong (i := 29) rfl) rfl ?_
      refine z_iload_n hX (D_Tower_leastWrong (i := 30) rfl) rfl ?_
      refine z_icmp_ge (tgt := 74) hX (D_Tower_leastWrong (i := 31) rfl) (by decide) (fun hcc => absurd hcc (nI_ge hij (by omega))) (fun _ => ?_)
      refine z_aload_n hX (D_Tower_leastWrong (i := 32) rfl) rfl ?_
      refine z_getc hX (D_Tower_leastWrong (i := 33) rfl) f_Tower_31 rfl (by decide) (by first | exact Nat.one_pos | assumption | omega) rfl ?_
      refine z_iload_n hX (D_Tower_leastWrong (i := 34) rfl) rfl ?_
      refine z_dup2 hX (D_Tower_leastWrong (i := 35) rfl) ?_
      refine z_iald (j := j) hX (D_Tower_leastWrong (i := 36) rfl) rfl (by decide) (by first | exact Nat.one_pos | assumption | omega) (by decide) rfl (by omega) ?_
      rw [show (tw mem S2).1 19 0 j = nI P from hP]
      refine z_aload_n hX (D_Tower_leastWrong (i := 37) rfl) rfl ?_
      refine z_iload_n hX (D_Tower_leastWrong (i := 38) rfl) rfl ?_
      refine z_iload_n hX (D_Tower_leastWrong (i := 39) rfl) rfl ?_
      refine z_cS2 hX (D_Tower_leastWrong (i := 40) rfl) ms_Search_pairOf l_Tower_59 (by first | decide | omega) (Nat.le_of_ble_eq_true rfl) (c_Search_pairOf hij hj4 ?_)
      refine z_cV1 hX (D_Tower_leastWrong (i := 41) rfl) mi_Tower_weigh l_Tower_143 rfl rfl (by decide) (by first | exact Nat.one_pos | assumption | omega) (by first | decide | omega) (Nat.le_of_ble_eq_true rfl) (c_Tower_weigh hH (hf2.tw hT) hC hM hp.2.1 (by rw [hp.2.2.2, hn]; omega) (fun k hk => hz2 i j hij (Or.inr ⟨rfl, Nat.le_refl _⟩) k hk) ?_)
      intro S3 m hf3 hv3 hm hml
      rw [hp.2.2.1, hp.2.2.2] at hv3 hml
      refine z_iadd hX (D_Tower_leastWrong (i := 42) rfl) ?_
      rw [nI_add]
      refine z_iast (j := j) hX (D_Tower_leastWrong (i := 43) rfl) rfl (by decide) (by first | exact Nat.one_pos | assumption | omega) (by decide) rfl (by omega) ?_
      rw [tw_up rfl]
      first | refine z_inc1 hX (D_Tower_leastWrong (i := 44) rfl) rfl (by decide) rfl ?_ | refine z_iinc hX (D_Tower_leastWrong (i := 44) rfl) rfl rfl (by decide) rfl ?_
      refine z_goto (tgt := 45) hX (D_Tower_leastWrong (i := 45) rfl) (by decide) ?_
      have ne : ∀ i' j', i' < j' → j' < 4 → ¬ (i' = i ∧ j' = j) → prN i' j' ≠ prN i j := fun i' j' r1 r2 r3 w => r3 (pr_inj r1 r2 hij hj4 w)
      refine ihe (i + 1) (P + m) _ (by omega) (fun p c r1 r2 r3 r4 => by rw [sU_ne (Or.inl r4), hf3 p c r1 r2 (fun w => r3 w.1)]; exact hf2 p c r1 r2 r3 r4) sU_at (by omega) (fun f t r1 r2 => ?_) (fun i' r1 r2 => by rw [sU_ne (by omega), hf3 19 i' (by decide) (by decide) (by omega)]; exact hA2 i' r1 r2) (fun i' j' r1 r2 r3 t u r4 r5 => ?_) (fun i' j' r1 r2 k r3 => ?_)
      · have b1 := hPl f t r1 r2
        have b2 := hml (f i) t (r1 i hij) r2
        rw [sumI]; omega
      · rw [sU_ne (by omega)]
        by_cases e2 : i' = i ∧ j' = j
        · obtain ⟨rfl, rfl⟩ := e2
          exact hv3 t u r4 r5
        · have := ne i' j' r1 (by omega) e2
          rw [hf3 18 _ (by decide) (by decide) (by omega)]
          exact hc2 i' j' r1 (by omega) r3 t u r4 r5
      · have := ne i' j' r1 (by omega) (by omega)
        rw [sU_ne (by omega), hf3 18 _ (by decide) (by decide) (by omega)]
        exact hz2 i' j' r1 (by omega) k r3
def tcB (a b : Nat) : Bool := decide (a = 6 ∨ b = 6 ∨ a = b)
def frK (pr : Nat) (S S' : Nat → Nat → Int32) : Prop := ∀ p c, ¬ (p = 12 ∧ pr * 24 ≤ c ∧ c < pr * 24 + 24) → S' p c = S p c
theorem c_Tower_touch (hH : zHas ι pX) (hT : TW mem S T) (hC : CO mem C) {pr w w2 : Nat} (hp : pr < 6) (hpn : hiN pr < T.length) (hw : w < 6) (hw2 : w2 < 6) (h : ∀ S', frK pr S S' → (∀ t, t < 24 → S' 12 (pr * 24 + t) = mkI (fun u => tcB (C (T.getD (loN pr) 0) (stN t w)) (C (T.getD (hiN pr) 0) (stN u w2))) 24) → Post none (tw mem S')) : zC l ι M_Tower_touch 3 [zP 9 0, zI (nI pr), zI (nI w), zI (nI w2)] (tw mem S) Post := by
  obtain ⟨p1, p2, p3, p4, p5⟩ := lo_ok pr hp
  obtain ⟨a1, a2, a3⟩ := hT.2.2.2 (loN pr) (by omega)
  obtain ⟨b1, b2, b3⟩ := hT.2.2.2 (hiN pr) hpn
  refine z_enter hH (by decide) (by simp [z_ent, M_Tower_touch]) (fun X hXl hX hR => ?_)
  refine z_aload_n hX (D_Tower_touch (i := 0) rfl) rfl ?_
  refine z_getc hX (D_Tower_touch (i := 1) rfl) f_Tower_11 rfl (by decide) (by first | exact Nat.one_pos | assumption | omega) rfl ?_
  refine z_getsN (p := 92) hX (D_Tower_touch (i := 2) rfl) (by decide) (by decide) s_Tower_77 ?_
  refine z_iload_n hX (D_Tower_touch (i := 3) rfl) rfl ?_
  refine z_tald (p := 92) (j := pr) hX (D_Tower_touch (i := 4) rfl) (by decide) (by decide) (by decide +kernel) rfl (show pr < 6 by omega) ?_
  rw [p1]
  refine z_aldCubev (j := loN pr) hX (D_Tower_touch (i := 5) rfl) rfl (by decide) (by first | exact Nat.one_pos | assumption | omega) (by decide) rfl (by omega) ?_
  rw [show (tw mem S).2.2 14 0 (loN pr) = T.getD (loN pr) 0 from a1]
  refine z_astore hX (D_Tower_touch (i := 6) rfl) (by decide) rfl ?_
  refine z_aload_n hX (D_Tower_touch (i := 7) rfl) rfl ?_
  refine z_getc hX (D_Tower_touch (i := 8) rfl) f_Tower_11 rfl (by decide) (by first | exact Nat.one_pos | assumption | omega) rfl ?_
  refine z_getsN (p := 93) hX (D_Tower_touch (i := 9) rfl) (by decide) (by decide) s_Tower_90 ?_
  refine z_iload_n hX (D_Tower_touch (i := 10) rfl) rfl ?_
  refine z_tald (p := 93) (j := pr) hX (D_Tower_touch (i := 11) rfl) (by decide) (by decide) (by decide +kernel) rfl (show pr < 6 by omega) ?_
  rw [p2]
  refine z_aldCubev (j := hiN pr) hX (D_Tower_touch (i := 12) rfl) rfl (by decide) (by first | exact Nat.one_pos | assumption | omega) (by decide) rfl (by omega) ?_
  rw [show (tw mem S).2.2 14 0 (hiN pr) = T.getD (hiN pr) 0 from b1]
  refine z_astore hX (D_Tower_touch (i := 13) rfl) (by decide) rfl ?_
  refine z_iconst (v := 0) hX (D_Tower_touch (i := 14) rfl) (by decide) ?_
  refine z_istore hX (D_Tower_touch (i := 15) rfl) (by decide) rfl ?_
  suffices LP : ∀ (d t : Nat) (S1 : Nat → Nat → Int32), t + d = 24 → frK pr S S1 → (∀ t', t' < t → S1 12 (pr * 24 + t') = mkI (fun u => tcB (C (T.getD (loN pr) 0) (stN t' w)) (C (T.getD (hiN pr) 0) (stN u w2))) 24) → zW ι M_Tower_touch X 27 [some (zP 9 0), some (zI (nI pr)), some (zI (nI w)), some (zI (nI w2)), some (zP 2 (T.getD (loN pr) 0)), some (zP 2 (T.getD (hiN pr) 0)), some (zI (nI t))] [] (tw mem S1) from LP 24 0 S rfl (fun _ _ _ => rfl) (fun t' ht' => absurd ht' (Nat.not_lt_zero _))
  intro d
  induction d with
  | zero =>
    intro t S1 ht hf hv
    obtain rfl : t = 24 := ht
    refine z_iload hX (D_Tower_touch (i := 16) rfl) rfl ?_
    refine z_bipush (v := 24) hX (D_Tower_touch (i := 17) rfl) (by decide) ?_
    refine z_icmp_ge (tgt := 69) hX (D_Tower_touch (i := 18) rfl) (by decide) (fun _ => ?_) (fun hcc => absurd (Int32.le_refl _) hcc)
    exact z_ret hX hR (D_Tower_touch (i := 37) rfl) rfl (h S1 hf hv)
  | succ d ih =>
    intro t S1 ht hf hv
    have ht24 : t < 24 := by omega
    obtain ⟨s1, s2⟩ := st_ok t ht24 w hw
    obtain ⟨c1, c2⟩ := hC _ a3 _ s2
    refine z_iload hX (D_Tower_touch (i := 16) rfl) rfl ?_
    refine z_bipush (v := 24) hX (D_Tower_touch (i := 17) rfl) (by decide) ?_
    refine z_icmp_ge (tgt := 69) hX (D_Tower_touch (i := 18) rfl) (by decide) (fun hcc => absurd hcc (nI_ge (b := 24) ht24 (by decide))) (fun _ => ?_)
    refine z_aload_n hX (D_Tower_touch (i := 19) rfl) rfl ?_
    refine z_getc hX (D_Tower_touch (i := 20) rfl) f_Tower_41 rfl (by decide) (by first | exact Nat.one_pos | assumption | omega) rfl ?_
    refine z_getc hX (D_Tower_touch (i := 21) rfl) f_Tower_87 rfl (by decide) (by first | exact Nat.one_pos | assumption | omega) rfl ?_
    refine z_iload_n hX (D_Tower_touch (i := 22) rfl) rfl ?_
    refine z_bipush (v := 24) hX (D_Tower_touch (i := 23) rfl) (by decide) ?_
    refine z_imul hX (D_Tower_touch (i := 24) rfl) ?_
    refine z_iload hX (D_Tower_touch (i := 25) rfl) rfl ?_
    refine z_iadd hX (D_Tower_touch (i := 26) rfl) ?_
    refine z_aload hX (D_Tower_touch (i := 27) rfl) rfl ?_
    refine z_iload_n hX (D_Tower_touch (i := 28) rfl) rfl ?_
    refine z_aload hX (D_Tower_touch (i := 29) rfl) rfl ?_
    refine z_iload hX (D_Tower_touch (i := 30) rfl) rfl ?_
    refine z_iload_n hX (D_Tower_touch (i := 31) rfl) rfl ?_
    refine z_cV2 hX (D_Tower_touch (i := 32) rfl) mi_Cube_seen l_Tower_55 rfl rfl (by decide) (by first | exact Nat.one_pos | assumption | omega) (by first | decide | omega) (Nat.le_of_ble_eq_true rfl) (c_Cube_seen hH a3 ht24 hw ?_)
    rw [show (tw mem S1).1 3 (T.getD (loN pr) 0) (stN t w) = nI (C (T.getD (loN pr) 0) (stN t w)) from c1]
    refine z_cV2 hX (D_Tower_touch (i := 33) rfl) mi_Cube_turningsWith l_Tower_164 rfl rfl (by decide) (by first | exact Nat.one_pos | assumption | omega) (by first | decide | omega) (Nat.le_of_ble_eq_true rfl) (c_Cube_turningsWith hH b3 hw2 ?_)
    have em : mkI (twC (tw mem S1) (T.getD (hiN pr) 0) w2 (nI (C (T.getD (loN pr) 0) (stN t w)))) 24 = mkI (fun u => tcB (C (T.getD (loN pr) 0) (stN t w)) (C (T.getD (hiN pr) 0) (stN u w2))) 24 := by
      refine mkI_cong (fun u hu => ?_)
      obtain ⟨r1, r2⟩ := st_ok u hu w2 hw2
      obtain ⟨d1, d2⟩ := hC _ b3 _ r2
      have e1 : (tw mem S1).1 3 (T.getD (hiN pr) 0) (stN u w2) = nI (C (T.getD (hiN pr) 0) (stN u w2)) := d1
      unfold twC msC tcB
      rw [e1]
      have q1 : nI (C (T.getD (loN pr) 0) (stN t w)) = 6 ↔ C (T.getD (loN pr) 0) (stN t w) = 6 := nI_eq (b := 6) (by omega) (by decide)
      have q2 : nI (C (T.getD (hiN pr) 0) (stN u w2)) = 6 ↔ C (T.getD (hiN pr) 0) (stN u w2) = 6 := nI_eq (b := 6) (by omega) (by decide)
      have q3 : nI (C (T.getD (hiN pr) 0) (stN u w2)) = nI (C (T.getD (loN pr) 0) (stN t w)) ↔ C (T.getD (hiN pr) 0) (stN u w2) = C (T.getD (loN pr) 0) (stN t w) := nI_eq (by omega) (by omega)
      rw [← Bool.decide_or]
      refine decide_eq_decide.mpr ?_
      rw [q1, q2, q3]
      omega
    rw [em]
    refine z_iast (j := pr * 24 + t) hX (D_Tower_touch (i := 34) rfl) rfl (by decide) (by first | exact Nat.one_pos | assumption | omega) (by decide) (by simp only [nlit, pk_mul, nI_add]) (by omega) ?_
    rw [tw_up rfl]
    first | refine z_inc1 hX (D_Tower_touch (i := 35) rfl) rfl (by decide) rfl ?_ | refine z_iinc hX (D_Tower_touch (i := 35) rfl) rfl rfl (by decide) rfl ?_
    refine z_goto (tgt := 27) hX (D_Tower_touch (i := 36) rfl) (by decide) ?_
    refine ih (t + 1) _ (by omega) (fun p c r1 => by rw [sU_ne (by omega)]; exact hf p c r1) (fun t' ht' => ?_)
    by_cases e : t' = t
    · subst e; rw [sU_at]
    · rw [sU_ne (by omega)]; exact hv t' (by omega)
end T8
