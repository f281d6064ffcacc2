/-! all pairs; whether there is a way -/
def frT (S S' : Nat → Nat → Int32) : Prop := ∀ p c, p ≠ 11 → p ≠ 12 → p ≠ 13 → p ≠ 16 → p ≠ 17 → S' p c = S p c
def frH (S S' : Nat → Nat → Int32) : Prop := ∀ p c, p ≠ 12 → p ≠ 16 → p ≠ 17 → S' p c = S p c
theorem frH.tw {mem : zM} {S S' : Nat → Nat → Int32} {T : List Nat} (hf : frH S S') (hT : TW mem S T) : TW mem S' T := ⟨(hf 9 5 (by decide) (by decide) (by decide)).trans hT.1, (hf 10 0 (by decide) (by decide) (by decide)).trans hT.2.1, hT.2.2.1, fun i hi => ⟨(hT.2.2.2 i hi).1, (hf 15 i (by decide) (by decide) (by decide)).trans (hT.2.2.2 i hi).2.1, (hT.2.2.2 i hi).2.2⟩⟩
theorem frT.tw {mem : zM} {S S' : Nat → Nat → Int32} {T : List Nat} (hf : frT S S') (hT : TW mem S T) : TW mem S' T := ⟨(hf 9 5 (by decide) (by decide) (by decide) (by decide) (by decide)).trans hT.1, (hf 10 0 (by decide) (by decide) (by decide) (by decide) (by decide)).trans hT.2.1, hT.2.2.1, fun i hi => ⟨(hT.2.2.2 i hi).1, (hf 15 i (by decide) (by decide) (by decide) (by decide) (by decide)).trans (hT.2.2.2 i hi).2.1, (hT.2.2.2 i hi).2.2⟩⟩
theorem fr11.tw {mem : zM} {S S' : Nat → Nat → Int32} {T : List Nat} (hf : fr11 S S') (hT : TW mem S T) : TW mem S' T := ⟨(hf 9 5 (by decide)).trans hT.1, (hf 10 0 (by decide)).trans hT.2.1, hT.2.2.1, fun i hi => ⟨(hT.2.2.2 i hi).1, (hf 15 i (by decide)).trans (hT.2.2.2 i hi).2.1, (hT.2.2.2 i hi).2.2⟩⟩
theorem pr_inj {i j i' j' : Nat} (hi : i < j) (hj : j < 4) (hi' : i' < j') (hj' : j' < 4) (h : prN i j = prN i' j') : i = i' ∧ j = j' := by
  have h1 := pr_ok j hj i hi
  have h2 := pr_ok j' hj' i' hi'
  exact ⟨by rw [← h1.2.2.1, ← h2.2.2.1, h], by rw [← h1.2.2.2, ← h2.2.2.2, h]⟩
section T4
variable {l : Launch} {ι : zE} {mem : zM} {Post : Option zV → zM → Prop} {S : Nat → Nat → Int32} {n : Nat} {Λ : Option (List lLn)} {C : Nat → Nat → Nat} {T : List Nat} {τ : Nat → Nat}
theorem c_Tower_fitAll (hH : zHas ι pX) (hT : TW mem S T) (hC : CO mem C) (hM : MY mem Λ) (h : ∀ S', frH S S' → (∀ i j t, i < j → j < T.length → t < 24 → S' 12 (prN i j * 24 + t) = mkI (fpW Λ C T i j t) 24) → Post none (tw mem S')) : zC l ι M_Tower_fitAll 3 [zP 9 0] (tw mem S) Post := by
  have h4 := hT.2.2.1
  refine z_enter hH (by decide) (by simp [z_ent, M_Tower_fitAll]) (fun X hXl hX hR => ?_)
  refine z_iconst (v := 1) hX (D_Tower_fitAll (i := 0) rfl) (by decide) ?_
  refine z_istore_n hX (D_Tower_fitAll (i := 1) rfl) (by decide) rfl ?_
  suffices LJ : ∀ (d j : Nat) (S1 : Nat → Nat → Int32) (v2 : Option zV), j + d = (if T.length = 0 then 1 else T.length) → 1 ≤ j → frH S S1 → (∀ i' j' t, i' < j' → j' < j → t < 24 → S1 12 (prN i' j' * 24 + t) = mkI (fpW Λ C T i' j' t) 24) → zW ι M_Tower_fitAll X 2 [some (zP 9 0), some (zI (nI j)), v2] [] (tw mem S1) by
    by_cases e : T.length = 0
    · exact LJ 0 1 S none (by rw [if_pos e]) (Nat.le_refl _) (fun _ _ _ _ _ => rfl) (fun i' j' t h1 h2 => by omega)
    · exact LJ (T.length - 1) 1 S none (by rw [if_neg e]; omega) (Nat.le_refl _) (fun _ _ _ _ _ => rfl) (fun i' j' t h1 h2 => by omega)
  intro d
  induction d with
  | zero =>
    intro j S1 v2 hj h1j hf hv
    have hjn : T.length ≤ j := by split at hj <;> omega
    refine z_iload_n hX (D_Tower_fitAll (i := 2) rfl) rfl ?_
    refine z_aload_n hX (D_Tower_fitAll (i := 3) rfl) rfl ?_
    refine z_geti hX (D_Tower_fitAll (i := 4) rfl) f_Tower_45 rfl (by decide) (by first | exact Nat.one_pos | assumption | omega) rfl ?_
    rw [show (tw mem S1).1 9 0 5 = nI T.length from (hf.tw hT).1]
    refine z_icmp_ge (tgt := 38) hX (D_Tower_fitAll (i := 5) rfl) (by decide) (fun _ => ?_) (fun hcc => absurd (nI_le hjn (by split at hj <;> omega)) hcc)
    exact z_ret hX hR (D_Tower_fitAll (i := 20) rfl) rfl (h S1 hf (fun i' j' t q1 q2 q3 => hv i' j' t q1 (by omega) q3))
  | succ d ih =>
    intro j S1 v2 hj h1j hf hv
    have hjn : j < T.length := by split at hj <;> omega
    refine z_iload_n hX (D_Tower_fitAll (i := 2) rfl) rfl ?_
    refine z_aload_n hX (D_Tower_fitAll (i := 3) rfl) rfl ?_
    refine z_geti hX (D_Tower_fitAll (i := 4) rfl) f_Tower_45 rfl (by decide) (by first | exact Nat.one_pos | assumption | omega) rfl ?_
    rw [show (tw mem S1).1 9 0 5 = nI T.length from (hf.tw hT).1]
    refine z_icmp_ge (tgt := 38) hX (D_Tower_fitAll (i := 5) rfl) (by decide) (fun hcc => absurd hcc (nI_ge hjn (by omega))) (fun _ => ?_)
    refine z_iconst (v := 0) hX (D_Tower_fitAll (i := 6) rfl) (by decide) ?_
    refine z_istore_n hX (D_Tower_fitAll (i := 7) rfl) (by decide) rfl ?_
    suffices LI : ∀ (e i : Nat) (S2 : Nat → Nat → Int32), i + e = j → frH S S2 → (∀ i' j' t, i' < j' → (j' < j ∨ (j' = j ∧ i' < i)) → t < 24 → S2 12 (prN i' j' * 24 + t) = mkI (fpW Λ C T i' j' t) 24) → zW ι M_Tower_fitAll X 12 [some (zP 9 0), some (zI (nI j)), some (zI (nI i))] [] (tw mem S2) from LI j 0 S1 (Nat.zero_add _) hf (fun i' j' t q1 q2 q3 => hv i' j' t q1 (by omega) q3)
    intro e
    induction e with
    | zero =>
      intro i S2 hi hf2 hv2
      obtain rfl : i = j := hi
      refine z_iload_n hX (D_Tower_fitAll (i := 8) rfl) rfl ?_
      refine z_iload_n hX (D_Tower_fitAll (i := 9) rfl) rfl ?_
      refine z_icmp_ge (tgt := 32) hX (D_Tower_fitAll (i := 10) rfl) (by decide) (fun _ => ?_) (fun hcc => absurd (Int32.le_refl _) hcc)
      first | refine z_inc1 hX (D_Tower_fitAll (i := 18) rfl) rfl (by decide) rfl ?_ | refine z_iinc hX (D_Tower_fitAll (i := 18) rfl) rfl rfl (by decide) rfl ?_
      refine z_goto (tgt := 2) hX (D_Tower_fitAll (i := 19) rfl) (by decide) ?_
      exact ih (i + 1) S2 _ (by omega) (by omega) hf2 (fun i' j' t q1 q2 q3 => hv2 i' j' t q1 (by omega) q3)
    | succ e ihe =>
      intro i S2 hi hf2 hv2
      have hij : i < j := by omega
      have hp := pr_ok j (by omega) i hij
      refine z_iload_n hX (D_Tower_fitAll (i := 8) rfl) rfl ?_
      refine z_iload_n hX (D_Tower_fitAll (i := 9) rfl) rfl ?_
      refine z_icmp_ge (tgt := 32) hX (D_Tower_fitAll (i := 10) rfl) (by decide) (fun hcc => absurd hcc (nI_ge hij (by omega))) (fun _ => ?_)
      refine z_aload_n hX (D_Tower_fitAll (i := 11) rfl) rfl ?_
      refine z_iload_n hX (D_Tower_fitAll (i := 12) rfl) rfl ?_
      refine z_iload_n hX (D_Tower_fitAll (i := 13) rfl) rfl ?_
      refine z_cS2 hX (D_Tower_fitAll (i := 14) rfl) ms_Search_pairOf l_Tower_59 (by first | decide | omega) (Nat.le_of_ble_eq_true rfl) (c_Search_pairOf hij (by omega) ?_)
      refine z_cV1 hX (D_Tower_fitAll (i := 15) rfl) mi_Tower_fitPair l_Tower_73 rfl rfl (by decide) (by first | exact Nat.one_pos | assumption | omega) (by first | decide | omega) (Nat.le_of_ble_eq_true rfl) (c_Tower_fitPair hH (hf2.tw hT) hC hM hp.2.1 (by rw [hp.2.2.2]; exact hjn) ?_)
      intro S3 hf3 hv3
      rw [hp.2.2.1, hp.2.2.2] at hv3
      first | refine z_inc1 hX (D_Tower_fitAll (i := 16) rfl) rfl (by decide) rfl ?_ | refine z_iinc hX (D_Tower_fitAll (i := 16) rfl) rfl rfl (by decide) rfl ?_
      refine z_goto (tgt := 12) hX (D_Tower_fitAll (i := 17) rfl) (by decide) ?_
      refine ihe (i + 1) S3 (by omega) (fun p c q1 q2 q3 => (hf3 p c q2 q3 (fun w => q1 w.1)).trans (hf2 p c q1 q2 q3)) (fun i' j' t q1 q2 q3 => ?_)
      by_cases e1 : i' = i ∧ j' = j
      · obtain ⟨rfl, rfl⟩ := e1
        exact hv3 t q3
      · have hne : prN i' j' ≠ prN i j := fun w => e1 (pr_inj q1 (by omega) hij (by omega) w)
        rw [hf3 12 _ (by decide) (by decide) (by omega)]
        exact hv2 i' j' t q1 (by omega) q3
/-- whether there is a way, none held -/
def hW (Λ : Option (List lLn)) (C : Nat → Nat → Nat) (T : List Nat) : Bool := (fstS (trW 0 T (fun _ => 0)) (fpW Λ C T) T.length 0 (fun _ => 0)).isSome
theorem trW_0 (T : List Nat) (τ σ : Nat → Nat) : trW 0 T τ = trW 0 T σ := by
  funext i t
  unfold trW
  rw [Nat.zero_testBit]
  rfl
theorem c_Tower_goes (hH : zHas ι pX) (hT : TW mem S T) (hτ : TU mem τ) (hC : CO mem C) (hM : MY mem Λ) (h : ∀ S', frT S S' → Post (some (zI (bI (hW Λ C T)))) (tw mem S')) : zC l ι M_Tower_goes 9 [zP 9 0] (tw mem S) Post := by
  refine z_enter hH (by decide) (by simp [z_ent, M_Tower_goes]) (fun X hXl hX hR => ?_)
  refine z_aload_n hX (D_Tower_goes (i := 0) rfl) rfl ?_
  refine z_iconst (v := 0) hX (D_Tower_goes (i := 1) rfl) (by decide) ?_
  refine z_cV1 hX (D_Tower_goes (i := 2) rfl) mi_Tower_startFrom l_Tower_102 rfl rfl (by decide) (by first | exact Nat.one_pos | assumption | omega) (by first | decide | omega) (Nat.le_of_ble_eq_true rfl) (c_Tower_startFrom (hb := 0) hH (by decide) hT hτ ?_)
  intro S1 hf1 h11
  rw [trW_0 T τ (fun _ => 0)] at h11
  refine z_aload_n hX (D_Tower_goes (i := 3) rfl) rfl ?_
  refine z_cV0 hX (D_Tower_goes (i := 4) rfl) mi_Tower_fitAll l_Tower_105 rfl rfl (by decide) (by first | exact Nat.one_pos | assumption | omega) (by first | decide | omega) (Nat.le_of_ble_eq_true rfl) (c_Tower_fitAll hH (hf1.tw hT) hC hM ?_)
  intro S2 hf2 h12
  refine z_aload_n hX (D_Tower_goes (i := 5) rfl) rfl ?_
  refine z_getc hX (D_Tower_goes (i := 6) rfl) f_Tower_41 rfl (by decide) (by first | exact Nat.one_pos | assumption | omega) rfl ?_
  have hSR : SR S2 T.length (trW 0 T (fun _ => 0)) (fpW Λ C T) := ⟨(hf2.tw (hf1.tw hT)).2.1, hT.2.2.1, fun i hi => (hf2 11 i (by decide) (by decide) (by decide)).trans (h11 i hi), h12⟩
  refine z_cV0 hX (D_Tower_goes (i := 7) rfl) mi_Search_hasAny l_Tower_108 rfl rfl (by decide) (by first | exact Nat.one_pos | assumption | omega) (by first | decide | omega) (Nat.le_of_ble_eq_true rfl) (c_Search_hasAny hH hSR ?_)
  intro S3 hf3
  exact z_zret hX hR (D_Tower_goes (i := 8) rfl) rfl (bI_or _) (h S3 (fun p c q1 q2 q3 q4 q5 => (hf3 p c q3).trans ((hf2 p c q2 q4 q5).trans (hf1 p c q1))))
/-- a face painted -/
def cU (C : Nat → Nat → Nat) (k f v : Nat) : Nat → Nat → Nat := fun a b => if a = k ∧ b = f then v else C a b
theorem CO.up {k f v : Nat} (hC : CO mem C) (hv : v ≤ 6) : CO (upI mem 3 k f (nI v)) (cU C k f v) := by
  intro a ha b hb
  rw [upI_get]
  unfold cU
  by_cases e : a = k ∧ b = f
  · rw [if_pos ⟨rfl, e⟩, if_pos e]; exact ⟨rfl, hv⟩
  · rw [if_neg (fun w => e w.2), if_neg e]; exact hC a ha b hb
theorem upI_back {mem : zM} {p k j : Nat} {v u : Int32} (h : mem.1 p k j = u) : upI (upI mem p k j v) p k j u = mem := by
  refine Prod.ext ?_ rfl
  funext a b c
  rw [upI_get, upI_get]
  by_cases e : a = p ∧ b = k ∧ c = j
  · rw [if_pos e, e.1, e.2.1, e.2.2, h]
  · rw [if_neg e, if_neg e]
theorem c_Tower_goesWith (hH : zHas ι pX) (hT : TW mem S T) (hτ : TU mem τ) (hC : CO mem C) (hM : MY mem Λ) {k f v : Nat} (hk : k < 8) (hf : f < 6) (hv : v ≤ 6) (h : ∀ S', frT S S' → Post (some (zI (bI (hW Λ (cU C k f v) T)))) (tw mem S')) : zC l ι M_Tower_goesWith 10 [zP 9 0, zP 2 k, zI (nI f), zI (nI v)] (tw mem S) Post := by
  refine z_enter hH (by decide) (by simp [z_ent, M_Tower_goesWith]) (fun X hXl hX hR => ?_)
  refine z_aload_n hX (D_Tower_goesWith (i := 0) rfl) rfl ?_
  refine z_getc hX (D_Tower_goesWith (i := 1) rfl) f_Tower_99 rfl (by decide) (by first | exact Nat.one_pos | assumption | omega) rfl ?_
  refine z_iload_n hX (D_Tower_goesWith (i := 2) rfl) rfl ?_
  refine z_iald (j := f) hX (D_Tower_goesWith (i := 3) rfl) rfl (by decide) (by first | exact Nat.one_pos | assumption | omega) (by decide) rfl hf ?_
  rw [show (tw mem S).1 3 k f = mem.1 3 k f from rfl]
  refine z_istore hX (D_Tower_goesWith (i := 4) rfl) (by decide) rfl ?_
  refine z_aload_n hX (D_Tower_goesWith (i := 5) rfl) rfl ?_
  refine z_getc hX (D_Tower_goesWith (i := 6) rfl) f_Tower_99 rfl (by decide) (by first | exact Nat.one_pos | assumption | omega) rfl ?_
  refine z_iload_n hX (D_Tower_goesWith (i := 7) rfl) rfl ?_
  refine z_iload_n hX (D_Tower_goesWith (i := 8) rfl) rfl ?_
  refine z_iast (j := f) hX (D_Tower_goesWith (i := 9) rfl) rfl (by decide) (by first | exact Nat.one_pos | assumption | omega) (by decide) rfl hf ?_
  rw [tw_out rfl]
  refine z_aload_n hX (D_Tower_goesWith (i := 10) rfl) rfl ?_
  have hτ' : TU (upI mem 3 k f (nI v)) τ := fun a ha => hτ a ha
  have hM' : MY (upI mem 3 k f (nI v)) Λ := fun a ha => hM a ha
  refine z_cV0 hX (D_Tower_goesWith (i := 11) rfl) mi_Tower_goes l_Tower_112 rfl rfl (by decide) (by first | exact Nat.one_pos | assumption | omega) (by first | decide | omega) (Nat.le_of_ble_eq_true rfl) (c_Tower_goes (mem := upI mem 3 k f (nI v)) (T := T) hH hT hτ' (hC.up hv) hM' ?_)
  intro S1 hf1
  refine z_istore hX (D_Tower_goesWith (i := 12) rfl) (by decide) rfl ?_
  refine z_aload_n hX (D_Tower_goesWith (i := 13) rfl) rfl ?_
  refine z_getc hX (D_Tower_goesWith (i := 14) rfl) f_Tower_99 rfl (by decide) (by first | exact Nat.one_pos | assumption | omega) rfl ?_
  refine z_iload_n hX (D_Tower_goesWith (i := 15) rfl) rfl ?_
  refine z_iload hX (D_Tower_goesWith (i := 16) rfl) rfl ?_
  refine z_iast (j := f) hX (D_Tower_goesWith (i := 17) rfl) rfl (by decide) (by first | exact Nat.one_pos | assumption | omega) (by decide) rfl hf ?_
  rw [tw_out rfl, upI_back rfl]
  refine z_iload hX (D_Tower_goesWith (i := 18) rfl) rfl ?_
  exact z_zret hX hR (D_Tower_goesWith (i := 19) rfl) rfl (bI_or _) (h S1 hf1)
end T4
