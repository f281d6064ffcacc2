/-! building by looking; the nearest: as the class does them -/
section B0
variable (fp : Nat → Nat → Nat → Nat → Bool)
def gB (j : Nat) (f : Nat → Nat) (u : Nat) : Bool := alI (fun i => fp i j (f i) u) j
def fsU (j : Nat) (f : Nat → Nat) : Option Nat := frI (fun u => if gB fp j f u = true then some u else none) 0 24
def bdK : Nat → Nat → (Nat → Nat) → Option Nat
  | 0, _, _ => none
  | d + 1, j, f => match fsU fp j f with
    | none => some j
    | some u => bdK d (j + 1) (fN f j u)
def bdL : Nat → Nat → (Nat → Nat) → Nat
  | 0, _, _ => 0
  | d + 1, j, f => match fsU fp j f with
    | none => 24
    | some u => u + 1 + bdL d (j + 1) (fN f j u)
def lkS (f : Nat → Nat) (j : Nat) : Nat := sumI (fun i => if i = 0 then 0 else f i + 1) j
end B0
section T6
variable {l : Launch} {ι : zE} {mem : zM} {Post : Option zV → zM → Prop} {S : Nat → Nat → Int32} {n : Nat} {Λ : Option (List lLn)} {C : Nat → Nat → Nat} {T : List Nat} {τ : Nat → Nat} {fp : Nat → Nat → Nat → Nat → Bool}
theorem fr13.tw {S S' : Nat → Nat → Int32} (hf : fr13 S S') (hT : TW mem S T) : TW mem S' T := ⟨(hf 9 5 (by decide)).trans hT.1, (hf 10 0 (by decide)).trans hT.2.1, hT.2.2.1, fun i hi => ⟨(hT.2.2.2 i hi).1, (hf 15 i (by decide)).trans (hT.2.2.2 i hi).2.1, (hT.2.2.2 i hi).2.2⟩⟩
theorem c_Tower_stuckFrom (hH : zHas ι pX) (hT : TW mem S T) (hn : 0 < T.length) (hF : ∀ i j t, i < j → j < T.length → t < 24 → S 12 (prN i j * 24 + t) = mkI (fp i j t) 24) {t0 : Nat} (ht0 : t0 < 24) (hst : ∀ S' j f, fr13 S S' → 0 < j → j < T.length → bdK fp (T.length - 1) 1 (fun _ => t0) = some j → bdL fp (T.length - 1) 1 (fun _ => t0) = lkS f j + 24 → (∀ i, i < j → S' 13 i = nI (f i) ∧ f i < 24) → Post (some (zI (nI j))) (tw mem S')) (hok : ∀ S' f, fr13 S S' → bdK fp (T.length - 1) 1 (fun _ => t0) = none → bdL fp (T.length - 1) 1 (fun _ => t0) = lkS f T.length → (∀ i, i < T.length → S' 13 i = nI (f i) ∧ f i < 24) → Post (some (zI (-2))) (tw mem S')) : zC l ι M_Tower_stuckFrom 2 [zP 9 0, zI (nI t0)] (tw mem S) Post := by
  have h4 := hT.2.2.1
  refine z_enter hH (by decide) (by simp [z_ent, M_Tower_stuckFrom]) (fun X hXl hX hR => ?_)
  refine z_aload_n hX (D_Tower_stuckFrom (i := 0) rfl) rfl ?_
  refine z_getc hX (D_Tower_stuckFrom (i := 1) rfl) f_Tower_41 rfl (by decide) (by first | exact Nat.one_pos | assumption | omega) rfl ?_
  refine z_getc hX (D_Tower_stuckFrom (i := 2) rfl) f_Tower_125 rfl (by decide) (by first | exact Nat.one_pos | assumption | omega) rfl ?_
  refine z_iconst (v := 0) hX (D_Tower_stuckFrom (i := 3) rfl) (by decide) ?_
  refine z_iload_n hX (D_Tower_stuckFrom (i := 4) rfl) rfl ?_
  refine z_iast (j := 0) hX (D_Tower_stuckFrom (i := 5) rfl) rfl (by decide) (by first | exact Nat.one_pos | assumption | omega) (by decide) rfl (by omega) ?_
  rw [tw_up rfl]
  refine z_iconst (v := 1) hX (D_Tower_stuckFrom (i := 6) rfl) (by decide) ?_
  refine z_istore_n hX (D_Tower_stuckFrom (i := 7) rfl) (by decide) rfl ?_
  suffices LP : ∀ (d j : Nat) (f : Nat → Nat) (S1 : Nat → Nat → Int32) (v3 : Option zV), j + d = T.length → 0 < j → fr13 S S1 → (∀ i, i < j → S1 13 i = nI (f i) ∧ f i < 24) → bdK fp (T.length - 1) 1 (fun _ => t0) = bdK fp d j f → bdL fp (T.length - 1) 1 (fun _ => t0) = lkS f j + bdL fp d j f → zW ι M_Tower_stuckFrom X 12 [some (zP 9 0), some (zI (nI t0)), some (zI (nI j)), v3] [] (tw mem S1) by
    refine LP (T.length - 1) 1 (fun _ => t0) _ none (by omega) (by decide) fr13_up (fun i hi => ?_) rfl ?_
    · obtain rfl : i = 0 := by omega
      exact ⟨sU_at, ht0⟩
    · show _ = 0 + _
      rw [Nat.zero_add]
  intro d
  induction d with
  | zero =>
    intro j f S1 v3 hj h0 hf hv hk hl
    obtain rfl : j = T.length := hj
    refine z_iload_n hX (D_Tower_stuckFrom (i := 8) rfl) rfl ?_
    refine z_aload_n hX (D_Tower_stuckFrom (i := 9) rfl) rfl ?_
    refine z_geti hX (D_Tower_stuckFrom (i := 10) rfl) f_Tower_45 rfl (by decide) (by first | exact Nat.one_pos | assumption | omega) rfl ?_
    rw [show (tw mem S1).1 9 0 5 = nI T.length from (hf.tw hT).1]
    refine z_icmp_ge (tgt := 56) hX (D_Tower_stuckFrom (i := 11) rfl) (by decide) (fun _ => ?_) (fun hcc => absurd (Int32.le_refl _) hcc)
    refine z_bipush (v := -2) hX (D_Tower_stuckFrom (i := 31) rfl) (by decide) ?_
    exact z_iret hX hR (D_Tower_stuckFrom (i := 32) rfl) rfl (hok S1 f hf hk hl hv)
  | succ d ih =>
    intro j f S1 v3 hj h0 hf hv hk hl
    have hjn : j < T.length := by omega
    refine z_iload_n hX (D_Tower_stuckFrom (i := 8) rfl) rfl ?_
    refine z_aload_n hX (D_Tower_stuckFrom (i := 9) rfl) rfl ?_
    refine z_geti hX (D_Tower_stuckFrom (i := 10) rfl) f_Tower_45 rfl (by decide) (by first | exact Nat.one_pos | assumption | omega) rfl ?_
    rw [show (tw mem S1).1 9 0 5 = nI T.length from (hf.tw hT).1]
    refine z_icmp_ge (tgt := 56) hX (D_Tower_stuckFrom (i := 11) rfl) (by decide) (fun hcc => absurd hcc (nI_ge hjn (by omega))) (fun _ => ?_)
    refine z_aload_n hX (D_Tower_stuckFrom (i := 12) rfl) rfl ?_
    refine z_getc hX (D_Tower_stuckFrom (i := 13) rfl) f_Tower_41 rfl (by decide) (by first | exact Nat.one_pos | assumption | omega) rfl ?_
    refine z_iload_n hX (D_Tower_stuckFrom (i := 14) rfl) rfl ?_
    refine z_ldc (v := 16777215) hX (D_Tower_stuckFrom (i := 15) rfl) k_Tower_72 ?_
    rw [← mkI_all]
    refine z_cV2 hX (D_Tower_stuckFrom (i := 16) rfl) mi_Search_fitting l_Tower_128 rfl rfl (by decide) (by first | exact Nat.one_pos | assumption | omega) (by first | decide | omega) (Nat.le_of_ble_eq_true rfl) (c_Search_fitting (fp := fp) hH (fun i t q1 q2 => (hf 12 _ (by decide)).trans (hF i j t q1 hjn q2)) (by omega) hv ?_)
    have em : mkI (fun u => true && alI (fun i => fp i j (f i) u) j) 24 = mkI (gB fp j f) 24 := mkI_cong (fun k _ => Bool.true_and _)
    rw [em]
    refine z_istore_n hX (D_Tower_stuckFrom (i := 17) rfl) (by decide) rfl ?_
    refine z_iload_n hX (D_Tower_stuckFrom (i := 18) rfl) rfl ?_
    cases hu : fsU fp j f with
    | none =>
      have hz : mkI (gB fp j f) 24 = 0 := mkI_eq0 (fun t ht => frI_no hu t (Nat.zero_le _) (by omega))
      rw [hz]
      refine z_if_ne (tgt := 37) hX (D_Tower_stuckFrom (i := 19) rfl) (by decide) (fun hcc => absurd (rfl) hcc) (fun _ => ?_)
      refine z_iload_n hX (D_Tower_stuckFrom (i := 20) rfl) rfl ?_
      exact z_iret hX hR (D_Tower_stuckFrom (i := 21) rfl) rfl (hst S1 j f hf h0 hjn (by rw [hk, bdK, hu]) (by rw [hl, bdL, hu]) hv)
    | some u =>
      obtain ⟨_, u2, u3, u4⟩ := frI_some hu
      have hu24 : u < 24 := by omega
      refine z_if_ne (tgt := 37) hX (D_Tower_stuckFrom (i := 19) rfl) (by decide) (fun _ => ?_) (fun hcc => absurd hcc (mkI_ne hu24 u3))
      refine z_aload_n hX (D_Tower_stuckFrom (i := 22) rfl) rfl ?_
      refine z_getc hX (D_Tower_stuckFrom (i := 23) rfl) f_Tower_41 rfl (by decide) (by first | exact Nat.one_pos | assumption | omega) rfl ?_
      refine z_getc hX (D_Tower_stuckFrom (i := 24) rfl) f_Tower_125 rfl (by decide) (by first | exact Nat.one_pos | assumption | omega) rfl ?_
      refine z_iload_n hX (D_Tower_stuckFrom (i := 25) rfl) rfl ?_
      refine z_iload_n hX (D_Tower_stuckFrom (i := 26) rfl) rfl ?_
      refine z_cS1 hX (D_Tower_stuckFrom (i := 27) rfl) ms_Integer_numberOfTrailingZeros_0f7a4 l_Tower_131 (by first | decide | omega) (Nat.le_of_ble_eq_true rfl) (c_ntz_mk hu24 u3 (fun k hk => u4 k (Nat.zero_le _) hk) ?_)
      refine z_iast (j := j) hX (D_Tower_stuckFrom (i := 28) rfl) rfl (by decide) (by first | exact Nat.one_pos | assumption | omega) (by decide) rfl (by omega) ?_
      rw [tw_up rfl]
      first | refine z_inc1 hX (D_Tower_stuckFrom (i := 29) rfl) rfl (by decide) rfl ?_ | refine z_iinc hX (D_Tower_stuckFrom (i := 29) rfl) rfl rfl (by decide) rfl ?_
      refine z_goto (tgt := 12) hX (D_Tower_stuckFrom (i := 30) rfl) (by decide) ?_
      refine ih (j + 1) (fN f j u) _ _ (by omega) (by omega) (hf.tr fr13_up) (fun i hi => ?_) ?_ ?_
      · by_cases e : i = j
        · subst e
          rw [sU_at, fN_at]; exact ⟨rfl, hu24⟩
        · rw [sU_ne (Or.inr e), fN_ne e]; exact hv i (by omega)
      · rw [hk, bdK, hu]
      · rw [hl, bdL, hu]
        have e1 : lkS (fN f j u) (j + 1) = lkS f j + (u + 1) := by
          unfold lkS
          rw [sumI, if_neg (by omega), fN_at]
          congr 1
          exact sumI_cong (fun k hk => by rw [fN_ne (by omega)])
        rw [e1]
        simp only []
        omega
theorem c_Tower_looksFrom (hH : zHas ι pX) (hT : TW mem S T) (hn : 0 < T.length) (hF : ∀ i j t, i < j → j < T.length → t < 24 → S 12 (prN i j * 24 + t) = mkI (fp i j t) 24) {t0 : Nat} (ht0 : t0 < 24) (h : ∀ S', Post (some (zI (nI (bdL fp (T.length - 1) 1 (fun _ => t0))))) (tw mem S')) : zC l ι M_Tower_looksFrom 3 [zP 9 0, zI (nI t0)] (tw mem S) Post := by
  have h4 := hT.2.2.1
  refine z_enter hH (by decide) (by simp [z_ent, M_Tower_looksFrom]) (fun X hXl hX hR => ?_)
  -- the sum
  have sm : ∀ (S1 : Nat → Nat → Int32) (B s0 : Nat) (f : Nat → Nat) (v2 : zV) (d j : Nat), B ≤ 4 → j + d = B → 0 < j → (∀ i, i < B → S1 13 i = nI (f i) ∧ f i < 24) → bdL fp (T.length - 1) 1 (fun _ => t0) = lkS f B + s0 → zW ι M_Tower_looksFrom X 34 [some (zP 9 0), some (zI (nI t0)), some v2, some (zI (nI B)), some (zI (nI (s0 + lkS f j))), some (zI (nI j))] [] (tw mem S1) := by
    intro S1 B s0 f v2 d
    induction d with
    | zero =>
      intro j hB hj h0 hv he
      obtain rfl : j = B := hj
      refine z_iload hX (D_Tower_looksFrom (i := 19) rfl) rfl ?_
      refine z_iload_n hX (D_Tower_looksFrom (i := 20) rfl) rfl ?_
      refine z_icmp_ge (tgt := 63) hX (D_Tower_looksFrom (i := 21) rfl) (by decide) (fun _ => ?_) (fun hcc => absurd (Int32.le_refl _) hcc)
      refine z_iload hX (D_Tower_looksFrom (i := 34) rfl) rfl ?_
      rw [Nat.add_comm, ← he]
      exact z_iret hX hR (D_Tower_looksFrom (i := 35) rfl) rfl (h S1)
    | succ d ih =>
      intro j hB hj h0 hv he
      have hjB : j < B := by omega
      refine z_iload hX (D_Tower_looksFrom (i := 19) rfl) rfl ?_
      refine z_iload_n hX (D_Tower_looksFrom (i := 20) rfl) rfl ?_
      refine z_icmp_ge (tgt := 63) hX (D_Tower_looksFrom (i := 21) rfl) (by decide) (fun hcc => absurd hcc (nI_ge hjB (by omega))) (fun _ => ?_)
      refine z_iload hX (D_Tower_looksFrom (i := 22) rfl) rfl ?_
      refine z_aload_n hX (D_Tower_looksFrom (i := 23) rfl) rfl ?_
      refine z_getc hX (D_Tower_looksFrom (i := 24) rfl) f_Tower_41 rfl (by decide) (by first | exact Nat.one_pos | assumption | omega) rfl ?_
      refine z_getc hX (D_Tower_looksFrom (i := 25) rfl) f_Tower_125 rfl (by decide) (by first | exact Nat.one_pos | assumption | omega) rfl ?_
      refine z_iload hX (D_Tower_looksFrom (i := 26) rfl) rfl ?_
      refine z_iald (j := j) hX (D_Tower_looksFrom (i := 27) rfl) rfl (by decide) (by first | exact Nat.one_pos | assumption | omega) (by decide) rfl (by omega) ?_
      rw [show (tw mem S1).1 13 0 j = nI (f j) from (hv j hjB).1]
      refine z_iconst (v := 1) hX (D_Tower_looksFrom (i := 28) rfl) (by decide) ?_
      refine z_iadd hX (D_Tower_looksFrom (i := 29) rfl) ?_
      refine z_iadd hX (D_Tower_looksFrom (i := 30) rfl) ?_
      rw [show nI (f j) + 1 = nI (f j + 1) from nI_add _ 1, nI_add]
      refine z_istore hX (D_Tower_looksFrom (i := 31) rfl) (by decide) rfl ?_
      first | refine z_inc1 hX (D_Tower_looksFrom (i := 32) rfl) rfl (by decide) rfl ?_ | refine z_iinc hX (D_Tower_looksFrom (i := 32) rfl) rfl rfl (by decide) rfl ?_
      refine z_goto (tgt := 34) hX (D_Tower_looksFrom (i := 33) rfl) (by decide) ?_
      have e1 : s0 + lkS f j + (f j + 1) = s0 + lkS f (j + 1) := by
        unfold lkS
        rw [sumI, if_neg (by omega)]; omega
      rw [e1]
      exact ih (j + 1) hB (by omega) (by omega) hv he
  refine z_aload_n hX (D_Tower_looksFrom (i := 0) rfl) rfl ?_
  refine z_iload_n hX (D_Tower_looksFrom (i := 1) rfl) rfl ?_
  refine z_cV1 hX (D_Tower_looksFrom (i := 2) rfl) mi_Tower_stuckFrom l_Tower_137 rfl rfl (by decide) (by first | exact Nat.one_pos | assumption | omega) (by first | decide | omega) (Nat.le_of_ble_eq_true rfl) (c_Tower_stuckFrom hH hT hn hF ht0 ?_ ?_)
  · intro S1 j f hf h0 hj hk hl hv
    refine z_istore_n hX (D_Tower_looksFrom (i := 3) rfl) (by decide) rfl ?_
    refine z_iload_n hX (D_Tower_looksFrom (i := 4) rfl) rfl ?_
    refine z_if_ge (tgt := 17) hX (D_Tower_looksFrom (i := 5) rfl) (by decide) (fun _ => ?_) (fun hcc => absurd (nI_pos' (by omega)) hcc)
    refine z_iload_n hX (D_Tower_looksFrom (i := 9) rfl) rfl ?_
    refine z_istore_n hX (D_Tower_looksFrom (i := 10) rfl) (by decide) rfl ?_
    refine z_iload_n hX (D_Tower_looksFrom (i := 11) rfl) rfl ?_
    refine z_if_ge (tgt := 27) hX (D_Tower_looksFrom (i := 12) rfl) (by decide) (fun _ => ?_) (fun hcc => absurd (nI_pos' (by omega)) hcc)
    refine z_bipush (v := 24) hX (D_Tower_looksFrom (i := 15) rfl) (by decide) ?_
    refine z_istore hX (D_Tower_looksFrom (i := 16) rfl) (by decide) rfl ?_
    refine z_iconst (v := 1) hX (D_Tower_looksFrom (i := 17) rfl) (by decide) ?_
    refine z_istore hX (D_Tower_looksFrom (i := 18) rfl) (by decide) rfl ?_
    have e1 : lkS f 1 = 0 := rfl
    have := sm S1 j 24 f (zI (nI j)) (j - 1) 1 (by omega) (by omega) (by decide) hv hl
    rw [e1] at this
    exact this
  · intro S1 f hf hk hl hv
    refine z_istore_n hX (D_Tower_looksFrom (i := 3) rfl) (by decide) rfl ?_
    refine z_iload_n hX (D_Tower_looksFrom (i := 4) rfl) rfl ?_
    refine z_if_ge (tgt := 17) hX (D_Tower_looksFrom (i := 5) rfl) (by decide) (fun hcc => absurd hcc (by decide)) (fun _ => ?_)
    refine z_aload_n hX (D_Tower_looksFrom (i := 6) rfl) rfl ?_
    refine z_geti hX (D_Tower_looksFrom (i := 7) rfl) f_Tower_45 rfl (by decide) (by first | exact Nat.one_pos | assumption | omega) rfl ?_
    refine z_goto (tgt := 18) hX (D_Tower_looksFrom (i := 8) rfl) (by decide) ?_
    refine z_istore_n hX (D_Tower_looksFrom (i := 10) rfl) (by decide) rfl ?_
    refine z_iload_n hX (D_Tower_looksFrom (i := 11) rfl) rfl ?_
    rw [show (tw mem S1).1 9 0 5 = nI T.length from (hf.tw hT).1]
    refine z_if_ge (tgt := 27) hX (D_Tower_looksFrom (i := 12) rfl) (by decide) (fun h9 => ?_) (fun h9 => ?_)
    · skip
      exact absurd h9 (by decide)
    · refine z_iconst (v := 0) hX (D_Tower_looksFrom (i := 13) rfl) (by decide) ?_
      refine z_goto (tgt := 29) hX (D_Tower_looksFrom (i := 14) rfl) (by decide) ?_
      refine z_istore hX (D_Tower_looksFrom (i := 16) rfl) (by decide) rfl ?_
      refine z_iconst (v := 1) hX (D_Tower_looksFrom (i := 17) rfl) (by decide) ?_
      refine z_istore hX (D_Tower_looksFrom (i := 18) rfl) (by decide) rfl ?_
      have e1 : lkS f 1 = 0 := rfl
      have := sm S1 T.length 0 f (zI (-2)) (T.length - 1) 1 (by omega) (by omega) (by decide) hv hl
      rw [e1] at this
      exact this
-- Arrays.fill of bytes
def flB (S : Nat → Nat → Int32) (k : Nat) : Nat → Nat → Int32 := fun a c => if a = 18 ∧ c < k then 0 else S a c
theorem c_fillB (hH : zHas ι pX) (h : Post none (tw mem (flB S 3456))) : zC l ι M_Arrays_fill_031fb 0 [zP 18 0, zI 0] (tw mem S) Post := by
  refine z_enter hH (by decide) (by simp [z_ent, M_Arrays_fill_031fb]) (fun X hXl hX hR => ?_)
  refine z_iconst (v := 0) hX (D_Arrays_fill_031fb (i := 0) rfl) (by decide) ?_
  refine z_istore_n hX (D_Arrays_fill_031fb (i := 1) rfl) (by decide) rfl ?_
  refine z_aload_n hX (D_Arrays_fill_031fb (i := 2) rfl) rfl ?_
  refine z_alen (t0 := 1) (v := 3456) hX (D_Arrays_fill_031fb (i := 3) rfl) rfl (by decide) Nat.one_pos rfl (by decide) ?_
  refine z_istore_n hX (D_Arrays_fill_031fb (i := 4) rfl) (by decide) rfl ?_
  suffices H : ∀ (d i : Nat), i + d = 3456 → zW ι M_Arrays_fill_031fb X 5 [some (zP 18 0), some (zI 0), some (zI (nI i)), some (zI (nI 3456))] [] (tw mem (flB S i)) by
    have e : flB S 0 = S := by
      funext a c
      simp only [flB]
      rw [if_neg (fun w => Nat.not_lt_zero _ w.2)]
    have := H 3456 0 (Nat.zero_add _)
    rw [e] at this
    exact this
  intro d
  induction d with
  | zero =>
    intro i hi
    obtain rfl : i = 3456 := hi
    refine z_iload_n hX (D_Arrays_fill_031fb (i := 5) rfl) rfl ?_
    refine z_iload_n hX (D_Arrays_fill_031fb (i := 6) rfl) rfl ?_
    refine z_icmp_ge (tgt := 20) hX (D_Arrays_fill_031fb (i := 7) rfl) (by decide) (fun _ => ?_) (fun hc => absurd (Int32.le_refl _) hc)
    exact z_ret hX hR (D_Arrays_fill_031fb (i := 14) rfl) rfl h
  | succ d ih =>
    intro i hi
    refine z_iload_n hX (D_Arrays_fill_031fb (i := 5) rfl) rfl ?_
    refine z_iload_n hX (D_Arrays_fill_031fb (i := 6) rfl) rfl ?_
    refine z_icmp_ge (tgt := 20) hX (D_Arrays_fill_031fb (i := 7) rfl) (by decide) (fun hc => absurd hc (nI_ge (by omega) (by decide))) (fun _ => ?_)
    refine z_aload_n hX (D_Arrays_fill_031fb (i := 8) rfl) rfl ?_
    refine z_iload_n hX (D_Arrays_fill_031fb (i := 9) rfl) rfl ?_
    refine z_iload_n hX (D_Arrays_fill_031fb (i := 10) rfl) rfl ?_
    refine z_bast hX (D_Arrays_fill_031fb (i := 11) rfl) rfl (by decide) Nat.one_pos (by decide) rfl (by omega) ?_
    have e : sU (flB S i) 18 i (Int8.toInt32 (Int32.toInt8 0)) = flB S (i + 1) := by
      funext a c
      simp only [sU, flB]
      by_cases h1 : a = 18 ∧ c = i
      · rw [if_pos h1, if_pos ⟨h1.1, by omega⟩]; rfl
      · rw [if_neg h1]
        by_cases h2 : a = 18 ∧ c < i
        · rw [if_pos h2, if_pos ⟨h2.1, by omega⟩]
        · rw [if_neg h2, if_neg (by omega)]
    rw [tw_up rfl, e]
    refine z_inc1 hX (D_Arrays_fill_031fb (i := 12) rfl) rfl (by decide) rfl ?_
    refine z_goto (tgt := 5) hX (D_Arrays_fill_031fb (i := 13) rfl) (by decide) ?_
    exact ih (i + 1) (by omega)
end T6
