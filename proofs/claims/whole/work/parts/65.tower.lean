/-! judge, mends, building: as the class does them -/
theorem frI_none {α : Type} {g : Nat → Option α} : ∀ {m t : Nat}, (∀ k, t ≤ k → k < t + m → g k = none) → frI g t m = none
  | 0, _, _ => rfl
  | m + 1, t, h => by rw [frI, h t (Nat.le_refl _) (by omega)]; exact frI_none (fun k h1 h2 => h k (by omega) (by omega))
theorem frI_some {g : Nat → Bool} : ∀ {m t u : Nat}, frI (fun k => if g k = true then some k else none) t m = some u → t ≤ u ∧ u < t + m ∧ g u = true ∧ ∀ k, t ≤ k → k < u → g k = false
  | 0, t, u, h => by cases h
  | m + 1, t, u, h => by
    rw [frI] at h
    cases hg : g t with
    | true =>
      rw [hg] at h
      obtain rfl : t = u := Option.some.inj h
      exact ⟨Nat.le_refl _, by omega, hg, fun k h1 h2 => by omega⟩
    | false =>
      rw [hg] at h
      obtain ⟨h1, h2, h3, h4⟩ := frI_some (m := m) (t := t + 1) h
      refine ⟨by omega, by omega, h3, fun k q1 q2 => ?_⟩
      by_cases e : k = t
      · rw [e]; exact hg
      · exact h4 k (by omega) q2
theorem frI_no {g : Nat → Bool} : ∀ {m t : Nat}, frI (fun k => if g k = true then some k else none) t m = none → ∀ k, t ≤ k → k < t + m → g k = false
  | 0, t, _, k, h1, h2 => by omega
  | m + 1, t, h, k, h1, h2 => by
    rw [frI] at h
    cases hg : g t with
    | true => rw [hg] at h; cases h
    | false =>
      rw [hg] at h
      by_cases e : k = t
      · rw [e]; exact hg
      · exact frI_no (m := m) (t := t + 1) h k (by omega) (by omega)
section J0
variable (Λ : Option (List lLn)) (C : Nat → Nat → Nat) (T : List Nat) (τ : Nat → Nat)
def jdB (s i j : Nat) : Bool := mayW Λ s i j (C (T.getD i 0) (stN (τ (T.getD i 0)) s)) (C (T.getD j 0) (stN (τ (T.getD j 0)) s))
def jdJ (s i : Nat) (j : Nat) : Option Nat := if jdB Λ C T τ s i j = true then none else some (100 * s + 10 * i + j)
def jdI (s : Nat) (i : Nat) : Option Nat := frI (jdJ Λ C T τ s i) (i + 1) (T.length - (i + 1))
def jdS (s : Nat) : Option Nat := frI (jdI Λ C T τ s) 0 T.length
def jdO : Option Nat := frI (jdS Λ C T τ) 0 4
def oI (o : Option Nat) : Int32 := match o with
  | none => -2
  | some v => nI v
end J0
section T5
variable {l : Launch} {ι : zE} {mem : zM} {Post : Option zV → zM → Prop} {S : Nat → Nat → Int32} {n : Nat} {Λ : Option (List lLn)} {C : Nat → Nat → Nat} {T : List Nat} {τ : Nat → Nat}
theorem c_Tower_firstWrong (hH : zHas ι pX) (hT : TW mem S T) (hτ : TU mem τ) (hC : CO mem C) (hM : MY mem Λ) (h : Post (some (zI (oI (jdO Λ C T τ)))) (tw mem S)) : zC l ι M_Tower_firstWrong 1 [zP 9 0] (tw mem S) Post := by
  have h4 := hT.2.2.1
  refine z_enter hH (by decide) (by simp [z_ent, M_Tower_firstWrong]) (fun X hXl hX hR => ?_)
  refine z_iconst (v := 0) hX (D_Tower_firstWrong (i := 0) rfl) (by decide) ?_
  refine z_istore_n hX (D_Tower_firstWrong (i := 1) rfl) (by decide) rfl ?_
  suffices LS : ∀ (d s : Nat) (v2 v3 v4 v5 : Option zV), z_isJ (some v2) = false → z_isJ (some v3) = false → z_isJ (some v4) = false → s + d = 4 → jdO Λ C T τ = frI (jdS Λ C T τ) s d → zW ι M_Tower_firstWrong X 2 [some (zP 9 0), some (zI (nI s)), v2, v3, v4, v5] [] (tw mem S) from LS 4 0 none none none none rfl rfl rfl rfl rfl
  intro d
  induction d with
  | zero =>
    intro s v2 v3 v4 v5 j2 j3 j4 hs he
    obtain rfl : s = 4 := hs
    rw [he] at h
    refine z_iload_n hX (D_Tower_firstWrong (i := 2) rfl) rfl ?_
    refine z_iconst (v := 4) hX (D_Tower_firstWrong (i := 3) rfl) (by decide) ?_
    refine z_icmp_ge (tgt := 121) hX (D_Tower_firstWrong (i := 4) rfl) (by decide) (fun _ => ?_) (fun hcc => absurd (Int32.le_refl _) hcc)
    refine z_bipush (v := -2) hX (D_Tower_firstWrong (i := 69) rfl) (by decide) ?_
    exact z_iret hX hR (D_Tower_firstWrong (i := 70) rfl) rfl h
  | succ d ih =>
    intro s v2 v3 v4 v5 j2 j3 j4 hs he
    have hs4 : s < 4 := by omega
    refine z_iload_n hX (D_Tower_firstWrong (i := 2) rfl) rfl ?_
    refine z_iconst (v := 4) hX (D_Tower_firstWrong (i := 3) rfl) (by decide) ?_
    refine z_icmp_ge (tgt := 121) hX (D_Tower_firstWrong (i := 4) rfl) (by decide) (fun hcc => absurd hcc (nI_ge (b := 4) hs4 (by decide))) (fun _ => ?_)
    refine z_iconst (v := 0) hX (D_Tower_firstWrong (i := 5) rfl) (by decide) ?_
    refine z_istore_n hX (D_Tower_firstWrong (i := 6) rfl) (by decide) rfl ?_
    suffices LI : ∀ (e i : Nat) (v3 v4 v5 : Option zV), z_isJ (some v3) = false → z_isJ (some v4) = false → i + e = T.length → jdS Λ C T τ s = frI (jdI Λ C T τ s) i e → zW ι M_Tower_firstWrong X 9 [some (zP 9 0), some (zI (nI s)), some (zI (nI i)), v3, v4, v5] [] (tw mem S) from LI T.length 0 _ _ _ j3 j4 (Nat.zero_add _) rfl
    intro e
    induction e with
    | zero =>
      intro i v3 v4 v5 j3 j4 hi he2
      obtain rfl : i = T.length := hi
      refine z_iload_n hX (D_Tower_firstWrong (i := 7) rfl) rfl ?_
      refine z_aload_n hX (D_Tower_firstWrong (i := 8) rfl) rfl ?_
      refine z_geti hX (D_Tower_firstWrong (i := 9) rfl) f_Tower_45 rfl (by decide) (by first | exact Nat.one_pos | assumption | omega) rfl ?_
      rw [show (tw mem S).1 9 0 5 = nI T.length from hT.1]
      refine z_icmp_ge (tgt := 115) hX (D_Tower_firstWrong (i := 10) rfl) (by decide) (fun _ => ?_) (fun hcc => absurd (Int32.le_refl _) hcc)
      first | refine z_inc1 hX (D_Tower_firstWrong (i := 67) rfl) rfl (by decide) rfl ?_ | refine z_iinc hX (D_Tower_firstWrong (i := 67) rfl) rfl rfl (by decide) rfl ?_
      refine z_goto (tgt := 2) hX (D_Tower_firstWrong (i := 68) rfl) (by decide) ?_
      refine ih (s + 1) _ _ _ _ rfl j3 j4 (by omega) ?_
      rw [he, frI, he2]; rfl
    | succ e ihe =>
      intro i v3 v4 v5 j3 j4 hi he2
      have hin : i < T.length := by omega
      refine z_iload_n hX (D_Tower_firstWrong (i := 7) rfl) rfl ?_
      refine z_aload_n hX (D_Tower_firstWrong (i := 8) rfl) rfl ?_
      refine z_geti hX (D_Tower_firstWrong (i := 9) rfl) f_Tower_45 rfl (by decide) (by first | exact Nat.one_pos | assumption | omega) rfl ?_
      rw [show (tw mem S).1 9 0 5 = nI T.length from hT.1]
      refine z_icmp_ge (tgt := 115) hX (D_Tower_firstWrong (i := 10) rfl) (by decide) (fun hcc => absurd hcc (nI_ge hin (by omega))) (fun _ => ?_)
      refine z_iload_n hX (D_Tower_firstWrong (i := 11) rfl) rfl ?_
      refine z_iconst (v := 1) hX (D_Tower_firstWrong (i := 12) rfl) (by decide) ?_
      refine z_iadd hX (D_Tower_firstWrong (i := 13) rfl) ?_
      rw [show nI i + 1 = nI (i + 1) from nI_add i 1]
      refine z_istore_n hX (D_Tower_firstWrong (i := 14) rfl) (by decide) rfl ?_
      suffices LJ : ∀ (g j : Nat) (v4 v5 : Option zV), z_isJ (some v4) = false → i < j → j + g = T.length → jdI Λ C T τ s i = frI (jdJ Λ C T τ s i) j g → zW ι M_Tower_firstWrong X 21 [some (zP 9 0), some (zI (nI s)), some (zI (nI i)), some (zI (nI j)), v4, v5] [] (tw mem S) from LJ (T.length - (i + 1)) (i + 1) _ _ j4 (by omega) (by omega) rfl
      intro g
      induction g with
      | zero =>
        intro j v4 v5 j4 hij hj he3
        obtain rfl : j = T.length := hj
        refine z_iload_n hX (D_Tower_firstWrong (i := 15) rfl) rfl ?_
        refine z_aload_n hX (D_Tower_firstWrong (i := 16) rfl) rfl ?_
        refine z_geti hX (D_Tower_firstWrong (i := 17) rfl) f_Tower_45 rfl (by decide) (by first | exact Nat.one_pos | assumption | omega) rfl ?_
        rw [show (tw mem S).1 9 0 5 = nI T.length from hT.1]
        refine z_icmp_ge (tgt := 109) hX (D_Tower_firstWrong (i := 18) rfl) (by decide) (fun _ => ?_) (fun hcc => absurd (Int32.le_refl _) hcc)
        first | refine z_inc1 hX (D_Tower_firstWrong (i := 65) rfl) rfl (by decide) rfl ?_ | refine z_iinc hX (D_Tower_firstWrong (i := 65) rfl) rfl rfl (by decide) rfl ?_
        refine z_goto (tgt := 9) hX (D_Tower_firstWrong (i := 66) rfl) (by decide) ?_
        refine ihe (i + 1) _ _ _ rfl j4 (by omega) ?_
        rw [he2, frI, he3]; rfl
      | succ g ihg =>
        intro j v4 v5 j4 hij hj he3
        have hjn : j < T.length := by omega
        obtain ⟨a1, a2, a3⟩ := hT.2.2.2 i hin
        obtain ⟨b1, b2, b3⟩ := hT.2.2.2 j hjn
        obtain ⟨t1, t2⟩ := hτ _ a3
        obtain ⟨u1, u2⟩ := hτ _ b3
        obtain ⟨s1, s2⟩ := st_ok _ t2 s (by omega)
        obtain ⟨r1, r2⟩ := st_ok _ u2 s (by omega)
        obtain ⟨c1, c2⟩ := hC _ a3 _ s2
        obtain ⟨d1, d2⟩ := hC _ b3 _ r2
        have hp := pr_ok j (by omega) i hij
        refine z_iload_n hX (D_Tower_firstWrong (i := 15) rfl) rfl ?_
        refine z_aload_n hX (D_Tower_firstWrong (i := 16) rfl) rfl ?_
        refine z_geti hX (D_Tower_firstWrong (i := 17) rfl) f_Tower_45 rfl (by decide) (by first | exact Nat.one_pos | assumption | omega) rfl ?_
        rw [show (tw mem S).1 9 0 5 = nI T.length from hT.1]
        refine z_icmp_ge (tgt := 109) hX (D_Tower_firstWrong (i := 18) rfl) (by decide) (fun hcc => absurd hcc (nI_ge hjn (by omega))) (fun _ => ?_)
        refine z_aload_n hX (D_Tower_firstWrong (i := 19) rfl) rfl ?_
        refine z_getc hX (D_Tower_firstWrong (i := 20) rfl) f_Tower_11 rfl (by decide) (by first | exact Nat.one_pos | assumption | omega) rfl ?_
        refine z_iload_n hX (D_Tower_firstWrong (i := 21) rfl) rfl ?_
        refine z_aldCubev (j := i) hX (D_Tower_firstWrong (i := 22) rfl) rfl (by decide) (by first | exact Nat.one_pos | assumption | omega) (by decide) rfl (by omega) ?_
        rw [show (tw mem S).2.2 14 0 i = T.getD i 0 from a1]
        refine z_aload_n hX (D_Tower_firstWrong (i := 23) rfl) rfl ?_
        refine z_getc hX (D_Tower_firstWrong (i := 24) rfl) f_Tower_11 rfl (by decide) (by first | exact Nat.one_pos | assumption | omega) rfl ?_
        refine z_iload_n hX (D_Tower_firstWrong (i := 25) rfl) rfl ?_
        refine z_aldCubev (j := i) hX (D_Tower_firstWrong (i := 26) rfl) rfl (by decide) (by first | exact Nat.one_pos | assumption | omega) (by decide) rfl (by omega) ?_
        rw [show (tw mem S).2.2 14 0 i = T.getD i 0 from a1]
        refine z_geti hX (D_Tower_firstWrong (i := 27) rfl) f_Tower_52 rfl (by decide) (by first | exact Nat.one_pos | assumption | omega) rfl ?_
        refine z_iload_n hX (D_Tower_firstWrong (i := 28) rfl) rfl ?_
        rw [show (tw mem S).1 2 (T.getD i 0) 1 = nI (τ (T.getD i 0)) from t1]
        refine z_cV2 hX (D_Tower_firstWrong (i := 29) rfl) mi_Cube_seen l_Tower_55 rfl rfl (by decide) (by first | exact Nat.one_pos | assumption | omega) (by first | decide | omega) (Nat.le_of_ble_eq_true rfl) (c_Cube_seen hH a3 t2 (by omega) ?_)
        rw [show (tw mem S).1 3 (T.getD i 0) (stN (τ (T.getD i 0)) s) = nI (C (T.getD i 0) (stN (τ (T.getD i 0)) s)) from c1]
        refine z_istore hX (D_Tower_firstWrong (i := 30) rfl) (by decide) rfl ?_
        refine z_aload_n hX (D_Tower_firstWrong (i := 31) rfl) rfl ?_
        refine z_getc hX (D_Tower_firstWrong (i := 32) rfl) f_Tower_11 rfl (by decide) (by first | exact Nat.one_pos | assumption | omega) rfl ?_
        refine z_iload_n hX (D_Tower_firstWrong (i := 33) rfl) rfl ?_
        refine z_aldCubev (j := j) hX (D_Tower_firstWrong (i := 34) rfl) rfl (by decide) (by first | exact Nat.one_pos | assumption | omega) (by decide) rfl (by omega) ?_
        rw [show (tw mem S).2.2 14 0 j = T.getD j 0 from b1]
        refine z_aload_n hX (D_Tower_firstWrong (i := 35) rfl) rfl ?_
        refine z_getc hX (D_Tower_firstWrong (i := 36) rfl) f_Tower_11 rfl (by decide) (by first | exact Nat.one_pos | assumption | omega) rfl ?_
        refine z_iload_n hX (D_Tower_firstWrong (i := 37) rfl) rfl ?_
        refine z_aldCubev (j := j) hX (D_Tower_firstWrong (i := 38) rfl) rfl (by decide) (by first | exact Nat.one_pos | assumption | omega) (by decide) rfl (by omega) ?_
        rw [show (tw mem S).2.2 14 0 j = T.getD j 0 from b1]
        refine z_geti hX (D_Tower_firstWrong (i := 39) rfl) f_Tower_52 rfl (by decide) (by first | exact Nat.one_pos | assumption | omega) rfl ?_
        refine z_iload_n hX (D_Tower_firstWrong (i := 40) rfl) rfl ?_
        rw [show (tw mem S).1 2 (T.getD j 0) 1 = nI (τ (T.getD j 0)) from u1]
        refine z_cV2 hX (D_Tower_firstWrong (i := 41) rfl) mi_Cube_seen l_Tower_55 rfl rfl (by decide) (by first | exact Nat.one_pos | assumption | omega) (by first | decide | omega) (Nat.le_of_ble_eq_true rfl) (c_Cube_seen hH b3 u2 (by omega) ?_)
        rw [show (tw mem S).1 3 (T.getD j 0) (stN (τ (T.getD j 0)) s) = nI (C (T.getD j 0) (stN (τ (T.getD j 0)) s)) from d1]
        refine z_istore hX (D_Tower_firstWrong (i := 42) rfl) (by decide) rfl ?_
        refine z_aload_n hX (D_Tower_firstWrong (i := 43) rfl) rfl ?_
        refine z_getc hX (D_Tower_firstWrong (i := 44) rfl) f_Tower_37 rfl (by decide) (by first | exact Nat.one_pos | assumption | omega) rfl ?_
        refine z_iload_n hX (D_Tower_firstWrong (i := 45) rfl) rfl ?_
        refine z_iload_n hX (D_Tower_firstWrong (i := 46) rfl) rfl ?_
        refine z_cS2 hX (D_Tower_firstWrong (i := 47) rfl) ms_Search_pairOf l_Tower_59 (by first | decide | omega) (Nat.le_of_ble_eq_true rfl) (c_Search_pairOf hij (by omega) ?_)
        refine z_iload_n hX (D_Tower_firstWrong (i := 48) rfl) rfl ?_
        refine z_iload hX (D_Tower_firstWrong (i := 49) rfl) rfl ?_
        refine z_iload hX (D_Tower_firstWrong (i := 50) rfl) rfl ?_
        refine z_cV4 hX (D_Tower_firstWrong (i := 51) rfl) mi_Law_allows l_Tower_62 rfl rfl (by decide) (by first | exact Nat.one_pos | assumption | omega) (by first | decide | omega) (Nat.le_of_ble_eq_true rfl) (c_allows hH hM hp.2.1 hs4 (by omega) (by omega) ?_)
        rw [hp.2.2.1, hp.2.2.2]
        cases hjd : jdB Λ C T τ s i j with
        | true =>
          have hjd2 := hjd
          unfold jdB at hjd
          rw [hjd]
          refine z_if_ne (tgt := 103) hX (D_Tower_firstWrong (i := 52) rfl) (by decide) (fun _ => ?_) (fun hcc => absurd hcc (by decide))
          first | refine z_inc1 hX (D_Tower_firstWrong (i := 63) rfl) rfl (by decide) rfl ?_ | refine z_iinc hX (D_Tower_firstWrong (i := 63) rfl) rfl rfl (by decide) rfl ?_
          refine z_goto (tgt := 21) hX (D_Tower_firstWrong (i := 64) rfl) (by decide) ?_
          refine ihg (j + 1) _ _ rfl (by omega) (by omega) ?_
          rw [he3, frI, jdJ, hjd2]; rfl
        | false =>
          have hjd2 := hjd
          unfold jdB at hjd
          rw [hjd]
          refine z_if_ne (tgt := 103) hX (D_Tower_firstWrong (i := 52) rfl) (by decide) (fun hcc => absurd (rfl) hcc) (fun _ => ?_)
          refine z_bipush (v := 100) hX (D_Tower_firstWrong (i := 53) rfl) (by decide) ?_
          refine z_iload_n hX (D_Tower_firstWrong (i := 54) rfl) rfl ?_
          refine z_imul hX (D_Tower_firstWrong (i := 55) rfl) ?_
          refine z_bipush (v := 10) hX (D_Tower_firstWrong (i := 56) rfl) (by decide) ?_
          refine z_iload_n hX (D_Tower_firstWrong (i := 57) rfl) rfl ?_
          refine z_imul hX (D_Tower_firstWrong (i := 58) rfl) ?_
          refine z_iadd hX (D_Tower_firstWrong (i := 59) rfl) ?_
          refine z_iload_n hX (D_Tower_firstWrong (i := 60) rfl) rfl ?_
          refine z_iadd hX (D_Tower_firstWrong (i := 61) rfl) ?_
          have ev : (100 : Int32) * nI s + (10 : Int32) * nI i + nI j = nI (100 * s + 10 * i + j) := by simp only [nlit, pk_mul, nI_add]
          rw [ev]
          have e1 : jdI Λ C T τ s i = some (100 * s + 10 * i + j) := by rw [he3, frI, jdJ, hjd2]; rfl
          have e2 : jdS Λ C T τ s = some (100 * s + 10 * i + j) := by rw [he2, frI, e1]
          have e3 : jdO Λ C T τ = some (100 * s + 10 * i + j) := by rw [he, frI, e2]
          rw [e3] at h
          exact z_iret hX hR (D_Tower_firstWrong (i := 62) rfl) rfl h
/-- a mend -/
def mdB (Λ : Option (List lLn)) (C : Nat → Nat → Nat) (T : List Nat) (k : Nat) : Bool := decide (C (T.getD (k / 36) 0) (k / 6 % 6) ≠ k % 6) && hW Λ (cU C (T.getD (k / 36) 0) (k / 6 % 6) (k % 6)) T
def mdV (Λ : Option (List lLn)) (C : Nat → Nat → Nat) (T : List Nat) (k : Nat) : Option Nat := if mdB Λ C T k = true then some (100 * T.getD (k / 36) 0 + 10 * (k / 6 % 6) + k % 6) else none
def frU (S S' : Nat → Nat → Int32) : Prop := ∀ p c, ¬ (p = 9 ∧ 11 ≤ c) → p ≠ 11 → p ≠ 12 → p ≠ 13 → p ≠ 16 → p ≠ 17 → S' p c = S p c
theorem frU.tw {S S' : Nat → Nat → Int32} (hf : frU S S') (hT : TW mem S T) : TW mem S' T := ⟨(hf 9 5 (by decide) (by decide) (by decide) (by decide) (by decide) (by decide)).trans hT.1, (hf 10 0 (by decide) (by decide) (by decide) (by decide) (by decide) (by decide)).trans hT.2.1, hT.2.2.1, fun i hi => ⟨(hT.2.2.2 i hi).1, (hf 15 i (by omega) (by decide) (by decide) (by decide) (by decide) (by decide)).trans (hT.2.2.2 i hi).2.1, (hT.2.2.2 i hi).2.2⟩⟩
theorem cnI_le (f : Nat → Bool) : ∀ n, cnI f n ≤ n
  | 0 => Nat.le_refl _
  | n + 1 => by have := cnI_le f n; rw [cnI]; cases f n <;> simp <;> omega
theorem c_Tower_findMends (hH : zHas ι pX) (hT : TW mem S T) (hτ : TU mem τ) (hC : CO mem C) (hM : MY mem Λ) {w : Bool} (h : ∀ S', (w = false → S' 9 11 = nI (cnI (mdB Λ C T) (36 * T.length))) → ((S' 9 11 = nI 0 ∧ frI (mdV Λ C T) 0 (36 * T.length) = none) ∨ ∃ c v, S' 9 11 = nI c ∧ 0 < c ∧ c ≤ 144 ∧ S' 9 12 = nI v ∧ frI (mdV Λ C T) 0 (36 * T.length) = some v) → Post none (tw mem S')) : zC l ι M_Tower_findMends 11 [zP 9 0, zI (bI w)] (tw mem S) Post := by
  have h4 := hT.2.2.1
  refine z_enter hH (by decide) (by simp [z_ent, M_Tower_findMends]) (fun X hXl hX hR => ?_)
  refine z_aload_n hX (D_Tower_findMends (i := 0) rfl) rfl ?_
  refine z_iconst (v := 0) hX (D_Tower_findMends (i := 1) rfl) (by decide) ?_
  refine z_puti hX (D_Tower_findMends (i := 2) rfl) g_Tower_115 rfl (by decide) (by first | exact Nat.one_pos | assumption | omega) rfl ?_
  refine z_iconst (v := 0) hX (D_Tower_findMends (i := 3) rfl) (by decide) ?_
  refine z_istore_n hX (D_Tower_findMends (i := 4) rfl) (by decide) rfl ?_
  rw [tw_up rfl]
  suffices LP : ∀ (d k : Nat) (S1 : Nat → Nat → Int32) (v3 v4 v5 : Option zV), z_isJ (some v3) = false → z_isJ (some v4) = false → k + d = 36 * T.length → frU S S1 → S1 9 11 = nI (cnI (mdB Λ C T) k) → ((cnI (mdB Λ C T) k = 0 ∧ frI (mdV Λ C T) 0 (36 * T.length) = frI (mdV Λ C T) k d) ∨ (0 < cnI (mdB Λ C T) k ∧ ∃ v, S1 9 12 = nI v ∧ frI (mdV Λ C T) 0 (36 * T.length) = some v)) → zW ι M_Tower_findMends X 7 [some (zP 9 0), some (zI (bI w)), some (zI (nI k)), v3, v4, v5] [] (tw mem S1) from LP _ 0 _ none none none rfl rfl (Nat.zero_add _) (fun p c h1 h2 h3 h4 h5 h6 => sU_ne (by omega)) sU_at (Or.inl ⟨rfl, rfl⟩)
  intro d
  induction d with
  | zero =>
    intro k S1 v3 v4 v5 j3 j4 hk hf hc hm
    obtain rfl : k = 36 * T.length := hk
    have hle := cnI_le (mdB Λ C T) (36 * T.length)
    refine z_iload_n hX (D_Tower_findMends (i := 5) rfl) rfl ?_
    refine z_aload_n hX (D_Tower_findMends (i := 6) rfl) rfl ?_
    refine z_geti hX (D_Tower_findMends (i := 7) rfl) f_Tower_45 rfl (by decide) (by first | exact Nat.one_pos | assumption | omega) rfl ?_
    refine z_bipush (v := 36) hX (D_Tower_findMends (i := 8) rfl) (by decide) ?_
    refine z_imul hX (D_Tower_findMends (i := 9) rfl) ?_
    rw [show (tw mem S1).1 9 0 5 = nI T.length from (hf.tw hT).1, show nI T.length * 36 = nI (36 * T.length) by rw [nlit, pk_mul, Nat.mul_comm]]
    refine z_icmp_ge (tgt := 128) hX (D_Tower_findMends (i := 10) rfl) (by decide) (fun _ => ?_) (fun hcc => absurd (Int32.le_refl _) hcc)
    refine z_ret hX hR (D_Tower_findMends (i := 73) rfl) rfl (h S1 (fun _ => hc) ?_)
    rcases hm with ⟨m1, m2⟩ | ⟨m1, v, m2, m3⟩
    · exact Or.inl ⟨by rw [hc, m1], m2⟩
    · exact Or.inr ⟨_, v, hc, m1, by omega, m2, m3⟩
  | succ d ih =>
    intro k S1 v3 v4 v5 j3 j4 hk hf hc hm
    have hkN : k < 36 * T.length := by omega
    have hle := cnI_le (mdB Λ C T) k
    refine z_iload_n hX (D_Tower_findMends (i := 5) rfl) rfl ?_
    refine z_aload_n hX (D_Tower_findMends (i := 6) rfl) rfl ?_
    refine z_geti hX (D_Tower_findMends (i := 7) rfl) f_Tower_45 rfl (by decide) (by first | exact Nat.one_pos | assumption | omega) rfl ?_
    refine z_bipush (v := 36) hX (D_Tower_findMends (i := 8) rfl) (by decide) ?_
    refine z_imul hX (D_Tower_findMends (i := 9) rfl) ?_
    rw [show (tw mem S1).1 9 0 5 = nI T.length from (hf.tw hT).1, show nI T.length * 36 = nI (36 * T.length) by rw [nlit, pk_mul, Nat.mul_comm]]
    refine z_icmp_ge (tgt := 128) hX (D_Tower_findMends (i := 10) rfl) (by decide) (fun hcc => absurd hcc (nI_ge hkN (by omega))) (fun _ => ?_)
    refine z_iload_n hX (D_Tower_findMends (i := 11) rfl) rfl ?_
    -- it goes on
    have on : zW ι M_Tower_findMends X 29 [some (zP 9 0), some (zI (bI w)), some (zI (nI k)), v3, v4, v5] [] (tw mem S1) := by
      have hpl : k / 36 < T.length := by omega
      obtain ⟨a1, a2, a3⟩ := (hf.tw hT).2.2.2 (k / 36) hpl
      obtain ⟨c1, c2⟩ := hC _ a3 (k / 6 % 6) (by omega)
      have e36 : nI k / 36 = nI (k / 36) := pk_div (d := 36) (by omega) (by decide) (by decide)
      have e6 : nI k / 6 = nI (k / 6) := pk_div (d := 6) (by omega) (by decide) (by decide)
      have e66 : nI (k / 6) - nI (k / 6) / 6 * 6 = nI (k / 6 % 6) := pk_rem (d := 6) (by omega) (by decide) (by decide)
      have ec : nI k - nI k / 6 * 6 = nI (k % 6) := pk_rem (d := 6) (by omega) (by decide) (by decide)
      have nx : ∀ (S2 : Nat → Nat → Int32), frT S1 S2 → mdB Λ C T k = false → zW ι M_Tower_findMends X 122 [some (zP 9 0), some (zI (bI w)), some (zI (nI k)), some (zI (nI (k / 36))), some (zI (nI (k / 6 % 6))), some (zI (nI (k % 6)))] [] (tw mem S2) := by
        intro S2 hf2 hno
        first | refine z_inc1 hX (D_Tower_findMends (i := 71) rfl) rfl (by decide) rfl ?_ | refine z_iinc hX (D_Tower_findMends (i := 71) rfl) rfl rfl (by decide) rfl ?_
        refine z_goto (tgt := 7) hX (D_Tower_findMends (i := 72) rfl) (by decide) ?_
        refine ih (k + 1) S2 _ _ _ rfl rfl (by omega) (fun p c q1 q2 q3 q4 q5 q6 => (hf2 p c q2 q3 q4 q5 q6).trans (hf p c q1 q2 q3 q4 q5 q6)) ?_ ?_
        · rw [hf2 9 11 (by decide) (by decide) (by decide) (by decide) (by decide), hc, cnI, hno]; rfl
        · rw [cnI, hno]
          rcases hm with ⟨m1, m2⟩ | ⟨m1, v, m2, m3⟩
          · refine Or.inl ⟨m1, ?_⟩
            rw [m2, frI, mdV, hno]; rfl
          · exact Or.inr ⟨m1, v, by rw [hf2 9 12 (by decide) (by decide) (by decide) (by decide) (by decide)]; exact m2, m3⟩
      refine z_iload_n hX (D_Tower_findMends (i := 16) rfl) rfl ?_
      refine z_bipush (v := 36) hX (D_Tower_findMends (i := 17) rfl) (by decide) ?_
      refine z_idiv hX (D_Tower_findMends (i := 18) rfl) (by decide) ?_
      rw [e36]
      refine z_istore_n hX (D_Tower_findMends (i := 19) rfl) (by decide) rfl ?_
      refine z_iload_n hX (D_Tower_findMends (i := 20) rfl) rfl ?_
      refine z_bipush (v := 6) hX (D_Tower_findMends (i := 21) rfl) (by decide) ?_
      refine z_idiv hX (D_Tower_findMends (i := 22) rfl) (by decide) ?_
      rw [e6]
      refine z_bipush (v := 6) hX (D_Tower_findMends (i := 23) rfl) (by decide) ?_
      refine z_irem hX (D_Tower_findMends (i := 24) rfl) (by decide) ?_
      rw [e66]
      refine z_istore hX (D_Tower_findMends (i := 25) rfl) (by decide) rfl ?_
      refine z_iload_n hX (D_Tower_findMends (i := 26) rfl) rfl ?_
      refine z_bipush (v := 6) hX (D_Tower_findMends (i := 27) rfl) (by decide) ?_
      refine z_irem hX (D_Tower_findMends (i := 28) rfl) (by decide) ?_
      rw [ec]
      refine z_istore hX (D_Tower_findMends (i := 29) rfl) (by decide) rfl ?_
      refine z_aload_n hX (D_Tower_findMends (i := 30) rfl) rfl ?_
      refine z_getc hX (D_Tower_findMends (i := 31) rfl) f_Tower_11 rfl (by decide) (by first | exact Nat.one_pos | assumption | omega) rfl ?_
      refine z_iload_n hX (D_Tower_findMends (i := 32) rfl) rfl ?_
      refine z_aldCubev (j := k / 36) hX (D_Tower_findMends (i := 33) rfl) rfl (by decide) (by first | exact Nat.one_pos | assumption | omega) (by decide) rfl (by omega) ?_
      rw [show (tw mem S1).2.2 14 0 (k / 36) = T.getD (k / 36) 0 from a1]
      refine z_getc hX (D_Tower_findMends (i := 34) rfl) f_Tower_99 rfl (by decide) (by first | exact Nat.one_pos | assumption | omega) rfl ?_
      refine z_iload hX (D_Tower_findMends (i := 35) rfl) rfl ?_
      refine z_iald (j := k / 6 % 6) hX (D_Tower_findMends (i := 36) rfl) rfl (by decide) (by first | exact Nat.one_pos | assumption | omega) (by decide) rfl (by omega) ?_
      rw [show (tw mem S1).1 3 (T.getD (k / 36) 0) (k / 6 % 6) = nI (C (T.getD (k / 36) 0) (k / 6 % 6)) from c1]
      refine z_iload hX (D_Tower_findMends (i := 37) rfl) rfl ?_
      refine z_icmp_eq (tgt := 122) hX (D_Tower_findMends (i := 38) rfl) (by decide) (fun h1 => ?_) (fun h1 => ?_)
      · skip
        refine nx S1 (fun _ _ _ _ _ _ _ => rfl) ?_
        unfold mdB
        rw [decide_eq_false (fun q => q ((nI_eq (by omega) (by omega)).mp h1))]; rfl
      · refine z_aload_n hX (D_Tower_findMends (i := 39) rfl) rfl ?_
        refine z_aload_n hX (D_Tower_findMends (i := 40) rfl) rfl ?_
        refine z_getc hX (D_Tower_findMends (i := 41) rfl) f_Tower_11 rfl (by decide) (by first | exact Nat.one_pos | assumption | omega) rfl ?_
        refine z_iload_n hX (D_Tower_findMends (i := 42) rfl) rfl ?_
        refine z_aldCubev (j := k / 36) hX (D_Tower_findMends (i := 43) rfl) rfl (by decide) (by first | exact Nat.one_pos | assumption | omega) (by decide) rfl (by omega) ?_
        rw [show (tw mem S1).2.2 14 0 (k / 36) = T.getD (k / 36) 0 from a1]
        refine z_iload hX (D_Tower_findMends (i := 44) rfl) rfl ?_
        refine z_iload hX (D_Tower_findMends (i := 45) rfl) rfl ?_
        refine z_cV3 hX (D_Tower_findMends (i := 46) rfl) mi_Tower_goesWith l_Tower_118 rfl rfl (by decide) (by first | exact Nat.one_pos | assumption | omega) (by first | decide | omega) (Nat.le_of_ble_eq_true rfl) (c_Tower_goesWith hH (hf.tw hT) hτ hC hM a3 (by omega) (by omega) ?_)
        intro S2 hf2
        have hne : C (T.getD (k / 36) 0) (k / 6 % 6) ≠ k % 6 := fun q => h1 (by rw [q])
        refine z_if_eq (tgt := 122) hX (D_Tower_findMends (i := 47) rfl) (by decide) (fun h2 => ?_) (fun h2 => ?_)
        · skip
          refine nx S2 hf2 ?_
          unfold mdB
          rw [bI_0.mp h2, Bool.and_false]
        · refine z_aload_n hX (D_Tower_findMends (i := 48) rfl) rfl ?_
          refine z_geti hX (D_Tower_findMends (i := 49) rfl) f_Tower_115 rfl (by decide) (by first | exact Nat.one_pos | assumption | omega) rfl ?_
          have hyes : mdB Λ C T k = true := by
            unfold mdB
            rw [bI_n.mp h2, decide_eq_true hne]; rfl
          have hcn : cnI (mdB Λ C T) (k + 1) = cnI (mdB Λ C T) k + 1 := by rw [cnI, hyes]; rfl
          have h11 : S2 9 11 = nI (cnI (mdB Λ C T) k) := by rw [hf2 9 11 (by decide) (by decide) (by decide) (by decide) (by decide), hc]
          have f2 : frU S S2 := fun p c q1 q2 q3 q4 q5 q6 => (hf2 p c q2 q3 q4 q5 q6).trans (hf p c q1 q2 q3 q4 q5 q6)
          rw [show (tw mem S2).1 9 0 11 = nI (cnI (mdB Λ C T) k) from h11]
          have inc : ∀ S3, frU S S3 → S3 9 11 = nI (cnI (mdB Λ C T) k) → (∃ v, S3 9 12 = nI v ∧ frI (mdV Λ C T) 0 (36 * T.length) = some v) → zW ι M_Tower_findMends X 112 [some (zP 9 0), some (zI (bI w)), some (zI (nI k)), some (zI (nI (k / 36))), some (zI (nI (k / 6 % 6))), some (zI (nI (k % 6)))] [] (tw mem S3) := by
            intro S3 f3 e11 hv
            refine z_aload_n hX (D_Tower_findMends (i := 65) rfl) rfl ?_
            refine z_dupP hX (D_Tower_findMends (i := 66) rfl) ?_
            refine z_geti hX (D_Tower_findMends (i := 67) rfl) f_Tower_115 rfl (by decide) (by first | exact Nat.one_pos | assumption | omega) rfl ?_
            refine z_iconst (v := 1) hX (D_Tower_findMends (i := 68) rfl) (by decide) ?_
            refine z_iadd hX (D_Tower_findMends (i := 69) rfl) ?_
            rw [show (tw mem S3).1 9 0 11 = nI (cnI (mdB Λ C T) k) from e11, show nI (cnI (mdB Λ C T) k) + 1 = nI (cnI (mdB Λ C T) k + 1) from nI_add _ 1]
            refine z_puti hX (D_Tower_findMends (i := 70) rfl) g_Tower_115 rfl (by decide) (by first | exact Nat.one_pos | assumption | omega) rfl ?_
            rw [tw_up rfl]
            first | refine z_inc1 hX (D_Tower_findMends (i := 71) rfl) rfl (by decide) rfl ?_ | refine z_iinc hX (D_Tower_findMends (i := 71) rfl) rfl rfl (by decide) rfl ?_
            refine z_goto (tgt := 7) hX (D_Tower_findMends (i := 72) rfl) (by decide) ?_
            refine ih (k + 1) _ _ _ _ rfl rfl (by omega) (fun p c q1 q2 q3 q4 q5 q6 => by rw [sU_ne (by omega)]; exact f3 p c q1 q2 q3 q4 q5 q6) ?_ ?_
            · rw [sU_at, hcn]
            · obtain ⟨v, v1, v2⟩ := hv
              exact Or.inr ⟨by omega, v, by rw [sU_ne (by omega)]; exact v1, v2⟩
          refine z_if_ne (tgt := 112) hX (D_Tower_findMends (i := 50) rfl) (by decide) (fun h3 => ?_) (fun h3 => ?_)
          · skip
            refine inc S2 f2 h11 ?_
            rcases hm with ⟨m1, m2⟩ | ⟨m1, v, m2, m3⟩
            · rw [m1] at h3; exact absurd rfl h3
            · exact ⟨v, by rw [hf2 9 12 (by decide) (by decide) (by decide) (by decide) (by decide)]; exact m2, m3⟩
          · refine z_aload_n hX (D_Tower_findMends (i := 51) rfl) rfl ?_
            refine z_bipush (v := 100) hX (D_Tower_findMends (i := 52) rfl) (by decide) ?_
            refine z_aload_n hX (D_Tower_findMends (i := 53) rfl) rfl ?_
            refine z_getc hX (D_Tower_findMends (i := 54) rfl) f_Tower_17 rfl (by decide) (by first | exact Nat.one_pos | assumption | omega) rfl ?_
            refine z_iload_n hX (D_Tower_findMends (i := 55) rfl) rfl ?_
            refine z_iald (j := k / 36) hX (D_Tower_findMends (i := 56) rfl) rfl (by decide) (by first | exact Nat.one_pos | assumption | omega) (by decide) rfl (by omega) ?_
            rw [show (tw mem S2).1 15 0 (k / 36) = nI (T.getD (k / 36) 0) from (f2.tw hT).2.2.2 (k / 36) hpl |>.2.1]
            refine z_imul hX (D_Tower_findMends (i := 57) rfl) ?_
            refine z_bipush (v := 10) hX (D_Tower_findMends (i := 58) rfl) (by decide) ?_
            refine z_iload hX (D_Tower_findMends (i := 59) rfl) rfl ?_
            refine z_imul hX (D_Tower_findMends (i := 60) rfl) ?_
            refine z_iadd hX (D_Tower_findMends (i := 61) rfl) ?_
            refine z_iload hX (D_Tower_findMends (i := 62) rfl) rfl ?_
            refine z_iadd hX (D_Tower_findMends (i := 63) rfl) ?_
            have ev : (100 : Int32) * nI (T.getD (k / 36) 0) + (10 : Int32) * nI (k / 6 % 6) + nI (k % 6) = nI (100 * T.getD (k / 36) 0 + 10 * (k / 6 % 6) + k % 6) := by simp only [nlit, pk_mul, nI_add]
            rw [ev]
            refine z_puti hX (D_Tower_findMends (i := 64) rfl) g_Tower_122 rfl (by decide) (by first | exact Nat.one_pos | assumption | omega) rfl ?_
            rw [tw_up rfl]
            have m1 : cnI (mdB Λ C T) k = 0 := (nI_eq (b := 0) (by omega) (by decide)).mp h3
            refine inc _ (fun p c q1 q2 q3 q4 q5 q6 => by rw [sU_ne (by omega)]; exact f2 p c q1 q2 q3 q4 q5 q6) (by rw [sU_ne (by omega)]; exact h11) ⟨_, sU_at, ?_⟩
            rcases hm with ⟨_, m2⟩ | ⟨m3, _⟩
            · rw [m2, frI, mdV, hyes]; rfl
            · omega
    cases w with
    | false =>
      refine z_if_eq (tgt := 29) hX (D_Tower_findMends (i := 12) rfl) (by decide) (fun _ => ?_) (fun hcc => absurd (rfl) hcc)
      exact on
    | true =>
      refine z_if_eq (tgt := 29) hX (D_Tower_findMends (i := 12) rfl) (by decide) (fun hcc => absurd hcc (by decide)) (fun _ => ?_)
      refine z_aload_n hX (D_Tower_findMends (i := 13) rfl) rfl ?_
      refine z_geti hX (D_Tower_findMends (i := 14) rfl) f_Tower_115 rfl (by decide) (by first | exact Nat.one_pos | assumption | omega) rfl ?_
      rw [show (tw mem S1).1 9 0 11 = nI (cnI (mdB Λ C T) k) from hc]
      refine z_if_gt (tgt := 128) hX (D_Tower_findMends (i := 15) rfl) (by decide) (fun h1 => ?_) (fun h1 => ?_)
      · skip
        have hpos : 0 < cnI (mdB Λ C T) k := (nI_ltI (a := 0) (by decide) (by omega)).mp h1
        refine z_ret hX hR (D_Tower_findMends (i := 73) rfl) rfl (h S1 (fun q => by cases q) ?_)
        rcases hm with ⟨m1, m2⟩ | ⟨m1, v, m2, m3⟩
        · omega
        · exact Or.inr ⟨_, v, hc, m1, by omega, m2, m3⟩
      · skip
        exact on
end T5
