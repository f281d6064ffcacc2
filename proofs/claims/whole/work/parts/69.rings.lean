/-! the wall, the rings: as the class does them -/
def fpV (C : Nat → Nat → Nat) (T : List Nat) (i j t u : Nat) : Bool :=
  if (i = 0 ∧ j = 1) ∨ (i = 2 ∧ j = 3) then tcB (C (T.getD i 0) (stN t 1)) (C (T.getD j 0) (stN u 3)) else
  if (i = 0 ∧ j = 2) ∨ (i = 1 ∧ j = 3) then tcB (C (T.getD i 0) (stN t 4)) (C (T.getD j 0) (stN u 5)) else true
def frV (S S' : Nat → Nat → Int32) : Prop := ∀ p c, p ≠ 11 → p ≠ 12 → S' p c = S p c
theorem frV.tw {mem : zM} {S S' : Nat → Nat → Int32} {T : List Nat} (hf : frV S S') (hT : TW mem S T) : TW mem S' T := ⟨(hf 9 5 (by decide) (by decide)).trans hT.1, (hf 10 0 (by decide) (by decide)).trans hT.2.1, hT.2.2.1, fun i hi => ⟨(hT.2.2.2 i hi).1, (hf 15 i (by decide) (by decide)).trans (hT.2.2.2 i hi).2.1, (hT.2.2.2 i hi).2.2⟩⟩
theorem frK.tw {mem : zM} {S S' : Nat → Nat → Int32} {T : List Nat} {pr : Nat} (hf : frK pr S S') (hT : TW mem S T) : TW mem S' T := ⟨(hf 9 5 (by omega)).trans hT.1, (hf 10 0 (by omega)).trans hT.2.1, hT.2.2.1, fun i hi => ⟨(hT.2.2.2 i hi).1, (hf 15 i (by omega)).trans (hT.2.2.2 i hi).2.1, (hT.2.2.2 i hi).2.2⟩⟩
section T9
variable {l : Launch} {ι : zE} {mem : zM} {Post : Option zV → zM → Prop} {S : Nat → Nat → Int32} {C : Nat → Nat → Nat} {T : List Nat}
theorem c_Tower_fitWall (hH : zHas ι pX) (hT : TW mem S T) (hC : CO mem C) (h4 : T.length = 4) (h : ∀ S', SR S' 4 (fun _ _ => true) (fpV C T) → Post none (tw mem S')) : zC l ι M_Tower_fitWall 4 [zP 9 0] (tw mem S) Post := by
  refine z_enter hH (by decide) (by simp [z_ent, M_Tower_fitWall]) (fun X hXl hX hR => ?_)
  refine z_iconst (v := 0) hX (D_Tower_fitWall (i := 0) rfl) (by decide) ?_
  refine z_istore_n hX (D_Tower_fitWall (i := 1) rfl) (by decide) rfl ?_
  -- where the search may start
  suffices L1 : ∀ (d i : Nat) (S1 : Nat → Nat → Int32), i + d = 4 → frV S S1 → (∀ i', i' < i → S1 11 i' = mkI (fun _ => true) 24) → zW ι M_Tower_fitWall X 2 [some (zP 9 0), some (zI (nI i))] [] (tw mem S1) from L1 4 0 S rfl (fun _ _ _ _ => rfl) (fun i' hi => absurd hi (Nat.not_lt_zero _))
  intro d
  induction d with
  | succ d ih =>
    intro i S1 hi hf hv
    have hi4 : i < 4 := by omega
    refine z_iload_n hX (D_Tower_fitWall (i := 2) rfl) rfl ?_
    refine z_iconst (v := 4) hX (D_Tower_fitWall (i := 3) rfl) (by decide) ?_
    refine z_icmp_ge (tgt := 24) hX (D_Tower_fitWall (i := 4) rfl) (by decide) (fun hcc => absurd hcc (nI_ge (b := 4) hi4 (by decide))) (fun _ => ?_)
    refine z_aload_n hX (D_Tower_fitWall (i := 5) rfl) rfl ?_
    refine z_getc hX (D_Tower_fitWall (i := 6) rfl) f_Tower_41 rfl (by decide) (by first | exact Nat.one_pos | assumption | omega) rfl ?_
    refine z_getc hX (D_Tower_fitWall (i := 7) rfl) f_Tower_68 rfl (by decide) (by first | exact Nat.one_pos | assumption | omega) rfl ?_
    refine z_iload_n hX (D_Tower_fitWall (i := 8) rfl) rfl ?_
    refine z_ldc (v := 16777215) hX (D_Tower_fitWall (i := 9) rfl) k_Tower_72 ?_
    refine z_iast (j := i) hX (D_Tower_fitWall (i := 10) rfl) rfl (by decide) (by first | exact Nat.one_pos | assumption | omega) (by decide) rfl (by omega) ?_
    rw [tw_up rfl]
    first | refine z_inc1 hX (D_Tower_fitWall (i := 11) rfl) rfl (by decide) rfl ?_ | refine z_iinc hX (D_Tower_fitWall (i := 11) rfl) rfl rfl (by decide) rfl ?_
    refine z_goto (tgt := 2) hX (D_Tower_fitWall (i := 12) rfl) (by decide) ?_
    refine ih (i + 1) _ (by omega) (fun p c r1 r2 => by rw [sU_ne (Or.inl r1)]; exact hf p c r1 r2) (fun i' hi' => ?_)
    by_cases e : i' = i
    · rw [e, sU_at, mkI_all]
    · rw [sU_ne (Or.inr e)]; exact hv i' (by omega)
  | zero =>
    intro i S1 hi hf hv
    obtain rfl : i = 4 := hi
    refine z_iload_n hX (D_Tower_fitWall (i := 2) rfl) rfl ?_
    refine z_iconst (v := 4) hX (D_Tower_fitWall (i := 3) rfl) (by decide) ?_
    refine z_icmp_ge (tgt := 24) hX (D_Tower_fitWall (i := 4) rfl) (by decide) (fun _ => ?_) (fun hcc => absurd (Int32.le_refl _) hcc)
    refine z_iconst (v := 0) hX (D_Tower_fitWall (i := 13) rfl) (by decide) ?_
    refine z_istore_n hX (D_Tower_fitWall (i := 14) rfl) (by decide) rfl ?_
    suffices L2 : ∀ (e pr : Nat) (S2 : Nat → Nat → Int32), pr + e = 6 → frV S S2 → (∀ i', i' < 4 → S2 11 i' = mkI (fun _ => true) 24) → (∀ c, c < pr * 24 → S2 12 c = mkI (fun _ => true) 24) → zW ι M_Tower_fitWall X 26 [some (zP 9 0), some (zI (nI pr))] [] (tw mem S2) from L2 6 0 S1 rfl hf hv (fun c hc => by omega)
    intro e
    induction e with
    | succ e ihe =>
      intro pr S2 hp hf2 h11 h12
      have hp6 : pr < 6 := by omega
      refine z_iload_n hX (D_Tower_fitWall (i := 15) rfl) rfl ?_
      refine z_bipush (v := 6) hX (D_Tower_fitWall (i := 16) rfl) (by decide) ?_
      refine z_icmp_ge (tgt := 46) hX (D_Tower_fitWall (i := 17) rfl) (by decide) (fun hcc => absurd hcc (nI_ge (b := 6) hp6 (by decide))) (fun _ => ?_)
      refine z_aload_n hX (D_Tower_fitWall (i := 18) rfl) rfl ?_
      refine z_getc hX (D_Tower_fitWall (i := 19) rfl) f_Tower_41 rfl (by decide) (by first | exact Nat.one_pos | assumption | omega) rfl ?_
      refine z_iload_n hX (D_Tower_fitWall (i := 20) rfl) rfl ?_
      refine z_cV1 hX (D_Tower_fitWall (i := 21) rfl) mi_Search_fitAny l_Tower_80 rfl rfl (by decide) (by first | exact Nat.one_pos | assumption | omega) (by first | decide | omega) (Nat.le_of_ble_eq_true rfl) (c_Search_fitAny hH hp6 ?_)
      first | refine z_inc1 hX (D_Tower_fitWall (i := 22) rfl) rfl (by decide) rfl ?_ | refine z_iinc hX (D_Tower_fitWall (i := 22) rfl) rfl rfl (by decide) rfl ?_
      refine z_goto (tgt := 26) hX (D_Tower_fitWall (i := 23) rfl) (by decide) ?_
      refine ihe (pr + 1) _ (by omega) (fun p c r1 r2 => (if_neg (fun w => r2 w.1)).trans (hf2 p c r1 r2)) (fun i' hi' => (if_neg (fun w => by omega)).trans (h11 i' hi')) (fun c hc => ?_)
      unfold fiM
      by_cases e2 : pr * 24 ≤ c
      · rw [if_pos ⟨rfl, e2, by omega⟩, mkI_all]
      · rw [if_neg (by omega)]; exact h12 c (by omega)
    | zero =>
      intro pr S2 hp hf2 h11 h12
      obtain rfl : pr = 6 := hp
      have hT2 := hf2.tw hT
      refine z_iload_n hX (D_Tower_fitWall (i := 15) rfl) rfl ?_
      refine z_bipush (v := 6) hX (D_Tower_fitWall (i := 16) rfl) (by decide) ?_
      refine z_icmp_ge (tgt := 46) hX (D_Tower_fitWall (i := 17) rfl) (by decide) (fun _ => ?_) (fun hcc => absurd (Int32.le_refl _) hcc)
      refine z_aload_n hX (D_Tower_fitWall (i := 24) rfl) rfl ?_
      refine z_iconst (v := 0) hX (D_Tower_fitWall (i := 25) rfl) (by decide) ?_
      refine z_iconst (v := 1) hX (D_Tower_fitWall (i := 26) rfl) (by decide) ?_
      refine z_cS2 hX (D_Tower_fitWall (i := 27) rfl) ms_Search_pairOf l_Tower_59 (by first | decide | omega) (Nat.le_of_ble_eq_true rfl) (c_Search_pairOf (i := 0) (j := 1) (by decide) (by decide) ?_)
      refine z_iconst (v := 1) hX (D_Tower_fitWall (i := 28) rfl) (by decide) ?_
      refine z_iconst (v := 3) hX (D_Tower_fitWall (i := 29) rfl) (by decide) ?_
      refine z_cV3 hX (D_Tower_fitWall (i := 30) rfl) mi_Tower_touch l_Tower_160 rfl rfl (by decide) (by first | exact Nat.one_pos | assumption | omega) (by first | decide | omega) (Nat.le_of_ble_eq_true rfl) (c_Tower_touch (pr := 0) (w := 1) (w2 := 3) hH hT2 hC (by decide) (by rw [h4]; decide) (by decide) (by decide) ?_)
      intro S3 f3 v3
      have hT3 := f3.tw hT2
      refine z_aload_n hX (D_Tower_fitWall (i := 31) rfl) rfl ?_
      refine z_iconst (v := 2) hX (D_Tower_fitWall (i := 32) rfl) (by decide) ?_
      refine z_iconst (v := 3) hX (D_Tower_fitWall (i := 33) rfl) (by decide) ?_
      refine z_cS2 hX (D_Tower_fitWall (i := 34) rfl) ms_Search_pairOf l_Tower_59 (by first | decide | omega) (Nat.le_of_ble_eq_true rfl) (c_Search_pairOf (i := 2) (j := 3) (by decide) (by decide) ?_)
      refine z_iconst (v := 1) hX (D_Tower_fitWall (i := 35) rfl) (by decide) ?_
      refine z_iconst (v := 3) hX (D_Tower_fitWall (i := 36) rfl) (by decide) ?_
      refine z_cV3 hX (D_Tower_fitWall (i := 37) rfl) mi_Tower_touch l_Tower_160 rfl rfl (by decide) (by first | exact Nat.one_pos | assumption | omega) (by first | decide | omega) (Nat.le_of_ble_eq_true rfl) (c_Tower_touch (pr := 5) (w := 1) (w2 := 3) hH hT3 hC (by decide) (by rw [h4]; decide) (by decide) (by decide) ?_)
      intro S4 f4 v4
      have hT4 := f4.tw hT3
      refine z_aload_n hX (D_Tower_fitWall (i := 38) rfl) rfl ?_
      refine z_iconst (v := 0) hX (D_Tower_fitWall (i := 39) rfl) (by decide) ?_
      refine z_iconst (v := 2) hX (D_Tower_fitWall (i := 40) rfl) (by decide) ?_
      refine z_cS2 hX (D_Tower_fitWall (i := 41) rfl) ms_Search_pairOf l_Tower_59 (by first | decide | omega) (Nat.le_of_ble_eq_true rfl) (c_Search_pairOf (i := 0) (j := 2) (by decide) (by decide) ?_)
      refine z_iconst (v := 4) hX (D_Tower_fitWall (i := 42) rfl) (by decide) ?_
      refine z_iconst (v := 5) hX (D_Tower_fitWall (i := 43) rfl) (by decide) ?_
      refine z_cV3 hX (D_Tower_fitWall (i := 44) rfl) mi_Tower_touch l_Tower_160 rfl rfl (by decide) (by first | exact Nat.one_pos | assumption | omega) (by first | decide | omega) (Nat.le_of_ble_eq_true rfl) (c_Tower_touch (pr := 1) (w := 4) (w2 := 5) hH hT4 hC (by decide) (by rw [h4]; decide) (by decide) (by decide) ?_)
      intro S5 f5 v5
      have hT5 := f5.tw hT4
      refine z_aload_n hX (D_Tower_fitWall (i := 45) rfl) rfl ?_
      refine z_iconst (v := 1) hX (D_Tower_fitWall (i := 46) rfl) (by decide) ?_
      refine z_iconst (v := 3) hX (D_Tower_fitWall (i := 47) rfl) (by decide) ?_
      refine z_cS2 hX (D_Tower_fitWall (i := 48) rfl) ms_Search_pairOf l_Tower_59 (by first | decide | omega) (Nat.le_of_ble_eq_true rfl) (c_Search_pairOf (i := 1) (j := 3) (by decide) (by decide) ?_)
      refine z_iconst (v := 4) hX (D_Tower_fitWall (i := 49) rfl) (by decide) ?_
      refine z_iconst (v := 5) hX (D_Tower_fitWall (i := 50) rfl) (by decide) ?_
      refine z_cV3 hX (D_Tower_fitWall (i := 51) rfl) mi_Tower_touch l_Tower_160 rfl rfl (by decide) (by first | exact Nat.one_pos | assumption | omega) (by first | decide | omega) (Nat.le_of_ble_eq_true rfl) (c_Tower_touch (pr := 4) (w := 4) (w2 := 5) hH hT5 hC (by decide) (by rw [h4]; decide) (by decide) (by decide) ?_)
      intro S6 f6 v6
      have hT6 := f6.tw hT5
      refine z_ret hX hR (D_Tower_fitWall (i := 52) rfl) rfl (h S6 ⟨by rw [← h4]; exact hT6.2.1, Nat.le_refl _, fun i' hi' => ?_, fun i j t r1 r2 r3 => ?_⟩)
      · rw [f6 11 i' (by omega), f5 11 i' (by omega), f4 11 i' (by omega), f3 11 i' (by omega)]; exact h11 i' hi'
      · have cs : (i = 0 ∧ j = 1) ∨ (i = 0 ∧ j = 2) ∨ (i = 1 ∧ j = 2) ∨ (i = 0 ∧ j = 3) ∨ (i = 1 ∧ j = 3) ∨ (i = 2 ∧ j = 3) := by omega
        rcases cs with ⟨rfl, rfl⟩ | ⟨rfl, rfl⟩ | ⟨rfl, rfl⟩ | ⟨rfl, rfl⟩ | ⟨rfl, rfl⟩ | ⟨rfl, rfl⟩
        · rw [show prN 0 1 = 0 from rfl, f6 12 _ (by omega), f5 12 _ (by omega), f4 12 _ (by omega)]; exact v3 t r3
        · rw [show prN 0 2 = 1 from rfl, f6 12 _ (by omega)]; exact v5 t r3
        · rw [show prN 1 2 = 2 from rfl, f6 12 _ (by omega), f5 12 _ (by omega), f4 12 _ (by omega), f3 12 _ (by omega)]; exact h12 _ (by omega)
        · rw [show prN 0 3 = 3 from rfl, f6 12 _ (by omega), f5 12 _ (by omega), f4 12 _ (by omega), f3 12 _ (by omega)]; exact h12 _ (by omega)
        · rw [show prN 1 3 = 4 from rfl]; exact v6 t r3
        · rw [show prN 2 3 = 5 from rfl, f6 12 _ (by omega), f5 12 _ (by omega)]; exact v4 t r3
end T9
/-! rings -/
section R0
variable (C : Nat → Nat → Nat) (T : List Nat) (dg : Nat → Nat)
def lmn (k : Nat) : Nat := if C (T.getD k 0) (opN (edN (dg k))) < C (T.getD k 0) (edN (dg k)) then C (T.getD k 0) (opN (edN (dg k))) else C (T.getD k 0) (edN (dg k))
def lmx (k : Nat) : Nat := if C (T.getD k 0) (edN (dg k)) < C (T.getD k 0) (opN (edN (dg k))) then C (T.getD k 0) (opN (edN (dg k))) else C (T.getD k 0) (edN (dg k))
def eN : Nat → Nat → Nat
  | 0, _ => 0
  | k + 1, c => eN k c + (if lmn C T dg k = c then 1 else 0) + (if lmx C T dg k = c then 1 else 0)
def rgB : Bool := alI (fun c => decide (eN C T dg T.length c = 2)) T.length
end R0
theorem eN_le (C : Nat → Nat → Nat) (T : List Nat) (dg : Nat → Nat) (c : Nat) : ∀ k, eN C T dg k c ≤ 2 * k
  | 0 => Nat.le_refl _
  | k + 1 => by
    have := eN_le C T dg c k
    rw [eN]
    repeat' split
    all_goals omega
theorem eN_cong (C : Nat → Nat → Nat) (T : List Nat) {dg dh : Nat → Nat} (c : Nat) : ∀ k, (∀ i, i < k → dg i = dh i) → eN C T dg k c = eN C T dh k c
  | 0, _ => rfl
  | k + 1, h => by
    rw [eN, eN, eN_cong C T c k (fun i hi => h i (by omega)), lmn, lmn, lmx, lmx, h k (Nat.lt_succ_self k)]
theorem rgB_cong (C : Nat → Nat → Nat) (T : List Nat) {dg dh : Nat → Nat} (h : ∀ i, i < T.length → dg i = dh i) : rgB C T dg = rgB C T dh := by
  unfold rgB
  exact alI_cong (fun c _ => by rw [eN_cong C T c _ h])
def chB (v : Nat) : Bool := decide (((v &&& v / 2) &&& 85) = 0)
theorem ch_ok : ∀ v, v < 256 → (decide ((nI v &&& (nI v >>> ((1 : Int32) &&& 31))) &&& 85 = 0) = chB v) := by decide +kernel
def d4 (v k : Nat) : Nat := v / 4 ^ k % 4
theorem d4_ok : ∀ v, v < 256 → ∀ k, k < 4 → (nI v >>> (((2 : Int32) * nI k) &&& 31)) &&& 3 = nI (d4 v k) := by decide +kernel
theorem d4_lt : ∀ v, v < 256 → chB v = true → ∀ k, k < 4 → d4 v k < 3 := by decide +kernel
theorem ch_81 : ∀ v, v < 256 → chB v = true → cnI chB v < 81 := by decide +kernel
def rgL (C : Nat → Nat → Nat) (T : List Nat) (v : Nat) : List Nat := (List.range v).filter (fun v => chB v && rgB C T (d4 v))
theorem rgL_s (C : Nat → Nat → Nat) (T : List Nat) (v : Nat) : rgL C T (v + 1) = if (chB v && rgB C T (d4 v)) = true then rgL C T v ++ [v] else rgL C T v := by
  unfold rgL
  rw [List.range_succ, List.filter_append]
  cases h : (chB v && rgB C T (d4 v))
  · simp [List.filter, h]
  · simp [List.filter, h]
theorem rgL_le (C : Nat → Nat → Nat) (T : List Nat) : ∀ v, (rgL C T v).length ≤ cnI chB v
  | 0 => Nat.le_refl _
  | v + 1 => by
    have := rgL_le C T v
    rw [rgL_s, cnI]
    split
    · next h =>
      rw [Bool.and_eq_true] at h
      rw [List.length_append, h.1, List.length_singleton]
      exact Nat.succ_le_succ this
    · exact Nat.le_trans this (Nat.le_add_right _ _)
section T10
variable {l : Launch} {ι : zE} {mem : zM} {Post : Option zV → zM → Prop} {S : Nat → Nat → Int32} {C : Nat → Nat → Nat} {T : List Nat}
theorem c_Rings_isChoice {v : Nat} (hv : v < 256) (h : Post (some (zI (bI (chB v)))) mem) : zC l ι M_Rings_isChoice 0 [zI (nI v)] mem Post := by
  have hH : zHas ι [] := zHas.nil
  have e := ch_ok v hv
  refine z_enter hH (by decide) (by simp [z_ent, M_Rings_isChoice]) (fun X hXl hX hR => ?_)
  refine z_iload_n hX (D_Rings_isChoice (i := 0) rfl) rfl ?_
  refine z_iload_n hX (D_Rings_isChoice (i := 1) rfl) rfl ?_
  refine z_iconst (v := 1) hX (D_Rings_isChoice (i := 2) rfl) (by decide) ?_
  refine z_ishr hX (D_Rings_isChoice (i := 3) rfl) ?_
  refine z_iand hX (D_Rings_isChoice (i := 4) rfl) ?_
  refine z_bipush (v := 85) hX (D_Rings_isChoice (i := 5) rfl) (by decide) ?_
  refine z_iand hX (D_Rings_isChoice (i := 6) rfl) ?_
  refine z_if_ne (tgt := 15) hX (D_Rings_isChoice (i := 7) rfl) (by decide) (fun h1 => ?_) (fun h1 => ?_)
  · refine z_iconst (v := 0) hX (D_Rings_isChoice (i := 10) rfl) (by decide) ?_
    rw [← e, decide_eq_false h1] at h
    exact z_zret hX hR (D_Rings_isChoice (i := 11) rfl) rfl (by first | exact Or.inl rfl | exact Or.inr rfl | assumption) (by assumption)
  · refine z_iconst (v := 1) hX (D_Rings_isChoice (i := 8) rfl) (by decide) ?_
    refine z_goto (tgt := 16) hX (D_Rings_isChoice (i := 9) rfl) (by decide) ?_
    rw [← e, decide_eq_true h1] at h
    exact z_zret hX hR (D_Rings_isChoice (i := 11) rfl) rfl (by first | exact Or.inl rfl | exact Or.inr rfl | assumption) (by assumption)
theorem ln_dm {a b : Nat} (ha : a ≤ 6) (hb : b ≤ 6) : lnN a b / 10 = (if b < a then b else a) ∧ lnN a b % 10 = (if a < b then b else a) ∧ lnN a b < 70 := by
  unfold lnN
  split <;> split <;> omega
def frR (S S' : Nat → Nat → Int32) : Prop := ∀ p c, p ≠ 22 → S' p c = S p c
/-- the tower's parts are there -/
def PT (mem : zM) (T : List Nat) : Prop := T.length ≤ 4 ∧ ∀ i, i < T.length → mem.2.2 14 0 i = T.getD i 0 ∧ T.getD i 0 < 8
theorem c_Rings_isRing (hH : zHas ι pX) (hT : PT mem T) (hC : CO mem C) (h3 : S 20 3 = nI T.length) {v : Nat} (hv : v < 256) (hc : chB v = true) (h : ∀ S', frR S S' → Post (some (zI (bI (rgB C T (d4 v))))) (tw mem S')) : zC l ι M_Rings_isRing 2 [zP 20 0, zP 14 0, zI (nI v)] (tw mem S) Post := by
  have h4 := hT.1
  refine z_enter hH (by decide) (by simp [z_ent, M_Rings_isRing]) (fun X hXl hX hR => ?_)
  refine z_aload_n hX (D_Rings_isRing (i := 0) rfl) rfl ?_
  refine z_getc hX (D_Rings_isRing (i := 1) rfl) f_Rings_15 rfl (by decide) (by first | exact Nat.one_pos | assumption | omega) rfl ?_
  refine z_iconst (v := 0) hX (D_Rings_isRing (i := 2) rfl) (by decide) ?_
  refine z_cS2 hX (D_Rings_isRing (i := 3) rfl) ms_Arrays_fill_53178 l_Rings_33 (by first | decide | omega) (Nat.le_of_ble_eq_true rfl) (c_fillI hH rfl (by decide) Nat.one_pos (by decide) ?_)
  rw [tw_fl rfl]
  generalize hS0 : (fun a c => if a = 22 ∧ c < 7 then (0 : Int32) else S a c) = S0
  have f0 : frR S S0 := by intro p c h1; rw [← hS0]; exact if_neg (fun w => h1 w.1)
  have z0 : ∀ c, c < 7 → S0 22 c = nI 0 := by intro c hc; rw [← hS0]; exact if_pos ⟨rfl, hc⟩
  clear hS0
  refine z_iconst (v := 0) hX (D_Rings_isRing (i := 4) rfl) (by decide) ?_
  refine z_istore_n hX (D_Rings_isRing (i := 5) rfl) (by decide) rfl ?_
  suffices L1 : ∀ (d k : Nat) (S1 : Nat → Nat → Int32) (v4 : Option zV), k + d = T.length → frR S S1 → (∀ c, c < 7 → S1 22 c = nI (eN C T (d4 v) k c)) → zW ι M_Rings_isRing X 10 [some (zP 20 0), some (zP 14 0), some (zI (nI v)), some (zI (nI k)), v4] [] (tw mem S1) from L1 _ 0 S0 none (Nat.zero_add _) f0 z0
  intro d
  induction d with
  | zero =>
    intro k S1 v4 hk hf hv1
    obtain rfl : k = T.length := hk
    refine z_iload_n hX (D_Rings_isRing (i := 6) rfl) rfl ?_
    refine z_aload_n hX (D_Rings_isRing (i := 7) rfl) rfl ?_
    refine z_geti hX (D_Rings_isRing (i := 8) rfl) f_Rings_18 rfl (by decide) (by first | exact Nat.one_pos | assumption | omega) rfl ?_
    rw [show (tw mem S1).1 20 0 3 = nI T.length from (hf 20 3 (by decide)).trans h3]
    refine z_icmp_ge (tgt := 67) hX (D_Rings_isRing (i := 9) rfl) (by decide) (fun _ => ?_) (fun hcc => absurd (Int32.le_refl _) hcc)
    refine z_iconst (v := 0) hX (D_Rings_isRing (i := 44) rfl) (by decide) ?_
    refine z_istore_n hX (D_Rings_isRing (i := 45) rfl) (by decide) rfl ?_
    suffices L2 : ∀ (e c : Nat), c + e = T.length → (∀ c', c' < c → decide (eN C T (d4 v) T.length c' = 2) = true) → zW ι M_Rings_isRing X 69 [some (zP 20 0), some (zP 14 0), some (zI (nI v)), some (zI (nI c)), v4] [] (tw mem S1) from L2 _ 0 (Nat.zero_add _) (fun c' hc' => absurd hc' (Nat.not_lt_zero _))
    intro e
    induction e with
    | zero =>
      intro c hc hall
      obtain rfl : c = T.length := hc
      refine z_iload_n hX (D_Rings_isRing (i := 46) rfl) rfl ?_
      refine z_aload_n hX (D_Rings_isRing (i := 47) rfl) rfl ?_
      refine z_geti hX (D_Rings_isRing (i := 48) rfl) f_Rings_18 rfl (by decide) (by first | exact Nat.one_pos | assumption | omega) rfl ?_
      rw [show (tw mem S1).1 20 0 3 = nI T.length from (hf 20 3 (by decide)).trans h3]
      refine z_icmp_ge (tgt := 95) hX (D_Rings_isRing (i := 49) rfl) (by decide) (fun _ => ?_) (fun hcc => absurd (Int32.le_refl _) hcc)
      refine z_iconst (v := 1) hX (D_Rings_isRing (i := 60) rfl) (by decide) ?_
      have := h S1 hf
      rw [show rgB C T (d4 v) = true from alI_true.mpr hall] at this
      exact z_zret hX hR (D_Rings_isRing (i := 61) rfl) rfl (by first | exact Or.inl rfl | exact Or.inr rfl | assumption) this
    | succ e ihe =>
      intro c hc hall
      have hcn : c < T.length := by omega
      have hle := eN_le C T (d4 v) c T.length
      refine z_iload_n hX (D_Rings_isRing (i := 46) rfl) rfl ?_
      refine z_aload_n hX (D_Rings_isRing (i := 47) rfl) rfl ?_
      refine z_geti hX (D_Rings_isRing (i := 48) rfl) f_Rings_18 rfl (by decide) (by first | exact Nat.one_pos | assumption | omega) rfl ?_
      rw [show (tw mem S1).1 20 0 3 = nI T.length from (hf 20 3 (by decide)).trans h3]
      refine z_icmp_ge (tgt := 95) hX (D_Rings_isRing (i := 49) rfl) (by decide) (fun hcc => absurd hcc (nI_ge hcn (by omega))) (fun _ => ?_)
      refine z_aload_n hX (D_Rings_isRing (i := 50) rfl) rfl ?_
      refine z_getc hX (D_Rings_isRing (i := 51) rfl) f_Rings_15 rfl (by decide) (by first | exact Nat.one_pos | assumption | omega) rfl ?_
      refine z_iload_n hX (D_Rings_isRing (i := 52) rfl) rfl ?_
      refine z_iald (j := c) hX (D_Rings_isRing (i := 53) rfl) rfl (by decide) (by first | exact Nat.one_pos | assumption | omega) (by decide) rfl (by omega) ?_
      rw [show (tw mem S1).1 22 0 c = nI (eN C T (d4 v) T.length c) from hv1 c (by omega)]
      refine z_iconst (v := 2) hX (D_Rings_isRing (i := 54) rfl) (by decide) ?_
      refine z_icmp_eq (tgt := 89) hX (D_Rings_isRing (i := 55) rfl) (by decide) (fun h2 => ?_) (fun h2 => ?_)
      · first | refine z_inc1 hX (D_Rings_isRing (i := 58) rfl) rfl (by decide) rfl ?_ | refine z_iinc hX (D_Rings_isRing (i := 58) rfl) rfl rfl (by decide) rfl ?_
        refine z_goto (tgt := 69) hX (D_Rings_isRing (i := 59) rfl) (by decide) ?_
        refine ihe (c + 1) (by omega) (fun c' hc' => ?_)
        by_cases e2 : c' = c
        · rw [e2]; exact decide_eq_true ((nI_eq (b := 2) (by omega) (by decide)).mp h2)
        · exact hall c' (by omega)
      · refine z_iconst (v := 0) hX (D_Rings_isRing (i := 56) rfl) (by decide) ?_
        have := h S1 hf
        rw [show rgB C T (d4 v) = false from alI_false hcn (decide_eq_false (fun w => h2 (by rw [w]; rfl)))] at this
        exact z_zret hX hR (D_Rings_isRing (i := 57) rfl) rfl (by first | exact Or.inl rfl | exact Or.inr rfl | assumption) this
  | succ d ih =>
    intro k S1 v4 hk hf hv1
    have hkn : k < T.length := by omega
    obtain ⟨t1, t2⟩ := hT.2 k hkn
    have hd := d4_lt v hv hc k (by omega)
    obtain ⟨o1, o2⟩ := ed_ok _ hd
    obtain ⟨c1, c2⟩ := hC _ t2 _ o1
    obtain ⟨b1, b2⟩ := hC _ t2 _ o2
    obtain ⟨l1, l2, l3⟩ := ln_dm c2 b2
    have hmn : lmn C T (d4 v) k < 7 := by unfold lmn; split <;> omega
    have hmx : lmx C T (d4 v) k < 7 := by unfold lmx; split <;> omega
    have e10 : nI (lnN (C (T.getD k 0) (edN (d4 v k))) (C (T.getD k 0) (opN (edN (d4 v k))))) / 10 = nI (lmn C T (d4 v) k) := by rw [show (10 : Int32) = nI 10 from rfl, pk_div (by omega) (by decide) (by decide), l1]; rfl
    have em : nI (lnN (C (T.getD k 0) (edN (d4 v k))) (C (T.getD k 0) (opN (edN (d4 v k))))) - nI (lnN (C (T.getD k 0) (edN (d4 v k))) (C (T.getD k 0) (opN (edN (d4 v k))))) / 10 * 10 = nI (lmx C T (d4 v) k) := by rw [show (10 : Int32) = nI 10 from rfl, pk_rem (by omega) (by decide) (by decide), l2]; rfl
    refine z_iload_n hX (D_Rings_isRing (i := 6) rfl) rfl ?_
    refine z_aload_n hX (D_Rings_isRing (i := 7) rfl) rfl ?_
    refine z_geti hX (D_Rings_isRing (i := 8) rfl) f_Rings_18 rfl (by decide) (by first | exact Nat.one_pos | assumption | omega) rfl ?_
    rw [show (tw mem S1).1 20 0 3 = nI T.length from (hf 20 3 (by decide)).trans h3]
    refine z_icmp_ge (tgt := 67) hX (D_Rings_isRing (i := 9) rfl) (by decide) (fun hcc => absurd hcc (nI_ge hkn (by omega))) (fun _ => ?_)
    refine z_aload_n hX (D_Rings_isRing (i := 10) rfl) rfl ?_
    refine z_iload_n hX (D_Rings_isRing (i := 11) rfl) rfl ?_
    refine z_aldCubev (j := k) hX (D_Rings_isRing (i := 12) rfl) rfl (by decide) (by first | exact Nat.one_pos | assumption | omega) (by decide) rfl (by omega) ?_
    rw [show (tw mem S1).2.2 14 0 k = T.getD k 0 from t1]
    refine z_iload_n hX (D_Rings_isRing (i := 13) rfl) rfl ?_
    refine z_iconst (v := 2) hX (D_Rings_isRing (i := 14) rfl) (by decide) ?_
    refine z_iload_n hX (D_Rings_isRing (i := 15) rfl) rfl ?_
    refine z_imul hX (D_Rings_isRing (i := 16) rfl) ?_
    refine z_ishr hX (D_Rings_isRing (i := 17) rfl) ?_
    refine z_iconst (v := 3) hX (D_Rings_isRing (i := 18) rfl) (by decide) ?_
    refine z_iand hX (D_Rings_isRing (i := 19) rfl) ?_
    rw [d4_ok v hv k (by omega)]
    refine z_cV1 hX (D_Rings_isRing (i := 20) rfl) mi_Cube_line l_Rings_39 rfl rfl (by decide) (by first | exact Nat.one_pos | assumption | omega) (by first | decide | omega) (Nat.le_of_ble_eq_true rfl) (c_Cube_line hH t2 hd c1 b1 c2 b2 ?_)
    refine z_istore hX (D_Rings_isRing (i := 21) rfl) (by decide) rfl ?_
    refine z_aload_n hX (D_Rings_isRing (i := 22) rfl) rfl ?_
    refine z_getc hX (D_Rings_isRing (i := 23) rfl) f_Rings_15 rfl (by decide) (by first | exact Nat.one_pos | assumption | omega) rfl ?_
    refine z_iload hX (D_Rings_isRing (i := 24) rfl) rfl ?_
    refine z_bipush (v := 10) hX (D_Rings_isRing (i := 25) rfl) (by decide) ?_
    refine z_idiv hX (D_Rings_isRing (i := 26) rfl) (by decide) ?_
    rw [e10]
    refine z_dup2 hX (D_Rings_isRing (i := 27) rfl) ?_
    refine z_iald (j := lmn C T (d4 v) k) hX (D_Rings_isRing (i := 28) rfl) rfl (by decide) (by first | exact Nat.one_pos | assumption | omega) (by decide) rfl hmn ?_
    rw [show (tw mem S1).1 22 0 (lmn C T (d4 v) k) = _ from hv1 _ hmn]
    refine z_iconst (v := 1) hX (D_Rings_isRing (i := 29) rfl) (by decide) ?_
    refine z_iadd hX (D_Rings_isRing (i := 30) rfl) ?_
    rw [show nI (eN C T (d4 v) k (lmn C T (d4 v) k)) + 1 = nI (eN C T (d4 v) k (lmn C T (d4 v) k) + 1) from nI_add _ 1]
    refine z_iast (j := lmn C T (d4 v) k) hX (D_Rings_isRing (i := 31) rfl) rfl (by decide) (by first | exact Nat.one_pos | assumption | omega) (by decide) rfl hmn ?_
    rw [tw_up rfl]
    have v2 : ∀ c, c < 7 → sU S1 22 (lmn C T (d4 v) k) (nI (eN C T (d4 v) k (lmn C T (d4 v) k) + 1)) 22 c = nI (eN C T (d4 v) k c + (if lmn C T (d4 v) k = c then 1 else 0)) := by
      intro c hc
      by_cases e : c = lmn C T (d4 v) k
      · rw [e, sU_at, if_pos rfl]
      · rw [sU_ne (Or.inr e), if_neg (fun w => e w.symm)]; exact hv1 c hc
    refine z_aload_n hX (D_Rings_isRing (i := 32) rfl) rfl ?_
    refine z_getc hX (D_Rings_isRing (i := 33) rfl) f_Rings_15 rfl (by decide) (by first | exact Nat.one_pos | assumption | omega) rfl ?_
    refine z_iload hX (D_Rings_isRing (i := 34) rfl) rfl ?_
    refine z_bipush (v := 10) hX (D_Rings_isRing (i := 35) rfl) (by decide) ?_
    refine z_irem hX (D_Rings_isRing (i := 36) rfl) (by decide) ?_
    rw [em]
    refine z_dup2 hX (D_Rings_isRing (i := 37) rfl) ?_
    refine z_iald (j := lmx C T (d4 v) k) hX (D_Rings_isRing (i := 38) rfl) rfl (by decide) (by first | exact Nat.one_pos | assumption | omega) (by decide) rfl hmx ?_
    rw [show (tw mem (sU S1 22 (lmn C T (d4 v) k) (nI (eN C T (d4 v) k (lmn C T (d4 v) k) + 1)))).1 22 0 (lmx C T (d4 v) k) = _ from v2 _ hmx]
    refine z_iconst (v := 1) hX (D_Rings_isRing (i := 39) rfl) (by decide) ?_
    refine z_iadd hX (D_Rings_isRing (i := 40) rfl) ?_
    rw [show ∀ a : Nat, nI a + 1 = nI (a + 1) from fun a => nI_add a 1]
    refine z_iast (j := lmx C T (d4 v) k) hX (D_Rings_isRing (i := 41) rfl) rfl (by decide) (by first | exact Nat.one_pos | assumption | omega) (by decide) rfl hmx ?_
    rw [tw_up rfl]
    first | refine z_inc1 hX (D_Rings_isRing (i := 42) rfl) rfl (by decide) rfl ?_ | refine z_iinc hX (D_Rings_isRing (i := 42) rfl) rfl rfl (by decide) rfl ?_
    refine z_goto (tgt := 10) hX (D_Rings_isRing (i := 43) rfl) (by decide) ?_
    refine ih (k + 1) _ _ (by omega) (fun p c r1 => by rw [sU_ne (Or.inl r1), sU_ne (Or.inl r1)]; exact hf p c r1) (fun c hc => ?_)
    rw [eN]
    by_cases e : c = lmx C T (d4 v) k
    · rw [e, sU_at, if_pos (rfl : lmx C T (d4 v) k = lmx C T (d4 v) k)]
    · rw [sU_ne (Or.inr e), v2 c hc, if_neg (show ¬ lmx C T (d4 v) k = c from fun w => e w.symm), Nat.add_zero]
theorem c_Rings_gather (hH : zHas ι pX) (hT : PT mem T) (hC : CO mem C) (h : ∀ S', S' 20 3 = nI T.length → S' 20 2 = nI (rgL C T (4 ^ T.length)).length → (∀ i, i < (rgL C T (4 ^ T.length)).length → S' 21 i = nI ((rgL C T (4 ^ T.length)).getD i 0)) → Post none (tw mem S')) : zC l ι M_Rings_gather 3 [zP 20 0, zP 14 0, zI (nI T.length)] (tw mem S) Post := by
  have h4 := hT.1
  have hp4 : ∀ n, n ≤ 4 → (1 : Int32) <<< (((2 : Int32) * nI n) &&& 31) = nI (4 ^ n) ∧ 4 ^ n ≤ 256 := by decide +kernel
  obtain ⟨e4, l4⟩ := hp4 _ h4
  refine z_enter hH (by decide) (by simp [z_ent, M_Rings_gather]) (fun X hXl hX hR => ?_)
  refine z_aload_n hX (D_Rings_gather (i := 0) rfl) rfl ?_
  refine z_iload_n hX (D_Rings_gather (i := 1) rfl) rfl ?_
  refine z_puti hX (D_Rings_gather (i := 2) rfl) g_Rings_18 rfl (by decide) (by first | exact Nat.one_pos | assumption | omega) rfl ?_
  refine z_aload_n hX (D_Rings_gather (i := 3) rfl) rfl ?_
  refine z_iconst (v := 0) hX (D_Rings_gather (i := 4) rfl) (by decide) ?_
  refine z_puti hX (D_Rings_gather (i := 5) rfl) g_Rings_22 rfl (by decide) (by first | exact Nat.one_pos | assumption | omega) rfl ?_
  refine z_iconst (v := 0) hX (D_Rings_gather (i := 6) rfl) (by decide) ?_
  refine z_istore_n hX (D_Rings_gather (i := 7) rfl) (by decide) rfl ?_
  rw [tw_up rfl, tw_up rfl]
  suffices LP : ∀ (d v : Nat) (S1 : Nat → Nat → Int32), v + d = 4 ^ T.length → S1 20 3 = nI T.length → S1 20 2 = nI (rgL C T v).length → (∀ i, i < (rgL C T v).length → S1 21 i = nI ((rgL C T v).getD i 0)) → zW ι M_Rings_gather X 12 [some (zP 20 0), some (zP 14 0), some (zI (nI T.length)), some (zI (nI v))] [] (tw mem S1) from LP _ 0 _ (Nat.zero_add _) (by rw [sU_ne (by omega), sU_at]) sU_at (fun i hi => absurd hi (Nat.not_lt_zero _))
  intro d
  induction d with
  | zero =>
    intro v S1 hv h3 h2 h21
    refine z_iload_n hX (D_Rings_gather (i := 8) rfl) rfl ?_
    refine z_iconst (v := 1) hX (D_Rings_gather (i := 9) rfl) (by decide) ?_
    refine z_iconst (v := 2) hX (D_Rings_gather (i := 10) rfl) (by decide) ?_
    refine z_aload_n hX (D_Rings_gather (i := 11) rfl) rfl ?_
    refine z_geti hX (D_Rings_gather (i := 12) rfl) f_Rings_18 rfl (by decide) (by first | exact Nat.one_pos | assumption | omega) rfl ?_
    refine z_imul hX (D_Rings_gather (i := 13) rfl) ?_
    refine z_ishl hX (D_Rings_gather (i := 14) rfl) ?_
    rw [show (tw mem S1).1 20 0 3 = nI T.length from h3, e4, ← (show v = 4 ^ T.length from hv)]
    refine z_icmp_ge (tgt := 75) hX (D_Rings_gather (i := 15) rfl) (by decide) (fun _ => ?_) (fun hcc => absurd (Int32.le_refl _) hcc)
    rw [← (show v = 4 ^ T.length from hv)] at h
    exact z_ret hX hR (D_Rings_gather (i := 42) rfl) rfl (h S1 h3 h2 h21)
  | succ d ih =>
    intro v S1 hv h3 h2 h21
    have hv4 : v < 4 ^ T.length := by omega
    have hle := rgL_le C T v
    have es := rgL_s C T v
    have nx : ∀ S2, (chB v && rgB C T (d4 v)) = false → S2 20 3 = nI T.length → S2 20 2 = nI (rgL C T v).length → (∀ i, i < (rgL C T v).length → S2 21 i = nI ((rgL C T v).getD i 0)) → zW ι M_Rings_gather X 69 [some (zP 20 0), some (zP 14 0), some (zI (nI T.length)), some (zI (nI v))] [] (tw mem S2) := by
      intro S2 hno g3 g2 g21
      rw [hno] at es
      have es : rgL C T (v + 1) = rgL C T v := es
      first | refine z_inc1 hX (D_Rings_gather (i := 40) rfl) rfl (by decide) rfl ?_ | refine z_iinc hX (D_Rings_gather (i := 40) rfl) rfl rfl (by decide) rfl ?_
      refine z_goto (tgt := 12) hX (D_Rings_gather (i := 41) rfl) (by decide) ?_
      exact ih (v + 1) S2 (by omega) g3 (by rw [es]; exact g2) (by rw [es]; exact g21)
    refine z_iload_n hX (D_Rings_gather (i := 8) rfl) rfl ?_
    refine z_iconst (v := 1) hX (D_Rings_gather (i := 9) rfl) (by decide) ?_
    refine z_iconst (v := 2) hX (D_Rings_gather (i := 10) rfl) (by decide) ?_
    refine z_aload_n hX (D_Rings_gather (i := 11) rfl) rfl ?_
    refine z_geti hX (D_Rings_gather (i := 12) rfl) f_Rings_18 rfl (by decide) (by first | exact Nat.one_pos | assumption | omega) rfl ?_
    refine z_imul hX (D_Rings_gather (i := 13) rfl) ?_
    refine z_ishl hX (D_Rings_gather (i := 14) rfl) ?_
    rw [show (tw mem S1).1 20 0 3 = nI T.length from h3, e4]
    refine z_icmp_ge (tgt := 75) hX (D_Rings_gather (i := 15) rfl) (by decide) (fun hcc => absurd hcc (nI_ge hv4 (by omega))) (fun _ => ?_)
    refine z_iload_n hX (D_Rings_gather (i := 16) rfl) rfl ?_
    refine z_cS1 hX (D_Rings_gather (i := 17) rfl) ms_Rings_isChoice l_Rings_25 (by first | decide | omega) (Nat.le_of_ble_eq_true rfl) (c_Rings_isChoice (by omega) ?_)
    cases hch : chB v with
    | false =>
      refine z_if_eq (tgt := 69) hX (D_Rings_gather (i := 18) rfl) (by decide) (fun _ => ?_) (fun hcc => absurd (rfl) hcc)
      exact nx S1 (by rw [hch]; rfl) h3 h2 h21
    | true =>
      have h81 := ch_81 v (by omega) hch
      refine z_if_eq (tgt := 69) hX (D_Rings_gather (i := 18) rfl) (by decide) (fun hcc => absurd hcc (by decide)) (fun _ => ?_)
      refine z_aload_n hX (D_Rings_gather (i := 19) rfl) rfl ?_
      refine z_aload_n hX (D_Rings_gather (i := 20) rfl) rfl ?_
      refine z_iload_n hX (D_Rings_gather (i := 21) rfl) rfl ?_
      refine z_cV2 hX (D_Rings_gather (i := 22) rfl) mi_Rings_isRing l_Rings_29 rfl rfl (by decide) (by first | exact Nat.one_pos | assumption | omega) (by first | decide | omega) (Nat.le_of_ble_eq_true rfl) (c_Rings_isRing hH hT hC h3 (by omega) hch ?_)
      intro S2 hf2
      cases hrg : rgB C T (d4 v) with
      | false =>
        refine z_if_eq (tgt := 69) hX (D_Rings_gather (i := 23) rfl) (by decide) (fun _ => ?_) (fun hcc => absurd (rfl) hcc)
        exact nx S2 (by rw [hch, hrg]; rfl) ((hf2 20 3 (by decide)).trans h3) ((hf2 20 2 (by decide)).trans h2) (fun i hi => (hf2 21 i (by decide)).trans (h21 i hi))
      | true =>
        rw [hch, hrg] at es
        have es : rgL C T (v + 1) = rgL C T v ++ [v] := es
        refine z_if_eq (tgt := 69) hX (D_Rings_gather (i := 23) rfl) (by decide) (fun hcc => absurd hcc (by decide)) (fun _ => ?_)
        refine z_aload_n hX (D_Rings_gather (i := 24) rfl) rfl ?_
        refine z_geti hX (D_Rings_gather (i := 25) rfl) f_Rings_22 rfl (by decide) (by first | exact Nat.one_pos | assumption | omega) rfl ?_
        refine z_bipush (v := 81) hX (D_Rings_gather (i := 26) rfl) (by decide) ?_
        rw [show (tw mem S2).1 20 0 2 = nI (rgL C T v).length from (hf2 20 2 (by decide)).trans h2]
        refine z_icmp_ge (tgt := 69) hX (D_Rings_gather (i := 27) rfl) (by decide) (fun hcc => absurd hcc (nI_ge (b := 81) (by omega) (by decide))) (fun _ => ?_)
        refine z_aload_n hX (D_Rings_gather (i := 28) rfl) rfl ?_
        refine z_getc hX (D_Rings_gather (i := 29) rfl) f_Rings_11 rfl (by decide) (by first | exact Nat.one_pos | assumption | omega) rfl ?_
        refine z_aload_n hX (D_Rings_gather (i := 30) rfl) rfl ?_
        refine z_geti hX (D_Rings_gather (i := 31) rfl) f_Rings_22 rfl (by decide) (by first | exact Nat.one_pos | assumption | omega) rfl ?_
        refine z_iload_n hX (D_Rings_gather (i := 32) rfl) rfl ?_
        rw [show (tw mem S2).1 20 0 2 = nI (rgL C T v).length from (hf2 20 2 (by decide)).trans h2]
        refine z_iast (j := (rgL C T v).length) hX (D_Rings_gather (i := 33) rfl) rfl (by decide) (by first | exact Nat.one_pos | assumption | omega) (by decide) rfl (by omega) ?_
        rw [tw_up rfl]
        refine z_aload_n hX (D_Rings_gather (i := 34) rfl) rfl ?_
        refine z_dupP hX (D_Rings_gather (i := 35) rfl) ?_
        refine z_geti hX (D_Rings_gather (i := 36) rfl) f_Rings_22 rfl (by decide) (by first | exact Nat.one_pos | assumption | omega) rfl ?_
        refine z_iconst (v := 1) hX (D_Rings_gather (i := 37) rfl) (by decide) ?_
        refine z_iadd hX (D_Rings_gather (i := 38) rfl) ?_
        rw [show (tw mem (sU S2 21 (rgL C T v).length (nI v))).1 20 0 2 = nI (rgL C T v).length from (hf2 20 2 (by decide)).trans h2, show nI (rgL C T v).length + 1 = nI ((rgL C T v).length + 1) from nI_add _ 1]
        refine z_puti hX (D_Rings_gather (i := 39) rfl) g_Rings_22 rfl (by decide) (by first | exact Nat.one_pos | assumption | omega) rfl ?_
        rw [tw_up rfl]
        first | refine z_inc1 hX (D_Rings_gather (i := 40) rfl) rfl (by decide) rfl ?_ | refine z_iinc hX (D_Rings_gather (i := 40) rfl) rfl rfl (by decide) rfl ?_
        refine z_goto (tgt := 12) hX (D_Rings_gather (i := 41) rfl) (by decide) ?_
        refine ih (v + 1) _ (by omega) (by rw [sU_ne (by omega), sU_ne (by omega), hf2 20 3 (by decide)]; exact h3) (by rw [sU_at, es, List.length_append]; rfl) (fun i hi => ?_)
        rw [es, List.length_append, List.length_singleton] at hi
        rw [es, getD_app, sU_ne (by omega)]
        by_cases e : i = (rgL C T v).length
        · rw [if_pos e, e, sU_at]
        · rw [if_neg e, sU_ne (Or.inr e), hf2 21 i (by decide)]; exact h21 i (by omega)
def snB (n a b : Nat) : Bool := decide (pcN (((a ^^^ b) ||| (a ^^^ b) / 2) &&& 85) 8 = n)
theorem sn_ok : ∀ x, x < 256 → ((nI x ||| (nI x >>> ((1 : Int32) &&& 31))) &&& 85) = nI ((x ||| x / 2) &&& 85) ∧ (x ||| x / 2) &&& 85 < 256 := by decide +kernel
theorem nI_xor (a b : Nat) : nI a ^^^ nI b = nI (a ^^^ b) := by
  apply Int32.toBitVec_inj.mp
  rw [Int32.toBitVec_xor]
  exact (BitVec.ofNat_xor).symm
theorem c_Rings_shareNone (hH : zHas ι pX) {n a b : Nat} (hn : n ≤ 4) (h3 : S 20 3 = nI n) (ha : a < 256) (hb : b < 256) (h : Post (some (zI (bI (snB n a b)))) (tw mem S)) : zC l ι M_Rings_shareNone 1 [zP 20 0, zI (nI a ^^^ nI b)] (tw mem S) Post := by
  have hx : a ^^^ b < 256 := Nat.xor_lt_two_pow (n := 8) ha hb
  obtain ⟨e1, e2⟩ := sn_ok _ hx
  obtain ⟨e3, e4⟩ := bc8 _ e2
  rw [nI_xor]
  refine z_enter hH (by decide) (by simp [z_ent, M_Rings_shareNone]) (fun X hXl hX hR => ?_)
  refine z_iload_n hX (D_Rings_shareNone (i := 0) rfl) rfl ?_
  refine z_iload_n hX (D_Rings_shareNone (i := 1) rfl) rfl ?_
  refine z_iconst (v := 1) hX (D_Rings_shareNone (i := 2) rfl) (by decide) ?_
  refine z_ishr hX (D_Rings_shareNone (i := 3) rfl) ?_
  refine z_ior hX (D_Rings_shareNone (i := 4) rfl) ?_
  refine z_bipush (v := 85) hX (D_Rings_shareNone (i := 5) rfl) (by decide) ?_
  refine z_iand hX (D_Rings_shareNone (i := 6) rfl) ?_
  rw [e1]
  refine z_istore_n hX (D_Rings_shareNone (i := 7) rfl) (by decide) rfl ?_
  refine z_iload_n hX (D_Rings_shareNone (i := 8) rfl) rfl ?_
  refine z_cS1 hX (D_Rings_shareNone (i := 9) rfl) ms_Integer_bitCount_0f7a4 l_Rings_48 (by first | decide | omega) (Nat.le_of_ble_eq_true rfl) (c_bitCount ?_)
  rw [e3]
  refine z_aload_n hX (D_Rings_shareNone (i := 10) rfl) rfl ?_
  refine z_geti hX (D_Rings_shareNone (i := 11) rfl) f_Rings_18 rfl (by decide) (by first | exact Nat.one_pos | assumption | omega) rfl ?_
  rw [show (tw mem S).1 20 0 3 = nI n from h3]
  unfold snB at h
  refine z_icmp_ne (tgt := 24) hX (D_Rings_shareNone (i := 12) rfl) (by decide) (fun h1 => ?_) (fun h1 => ?_)
  · refine z_iconst (v := 0) hX (D_Rings_shareNone (i := 15) rfl) (by decide) ?_
    rw [decide_eq_false (fun w => h1 (by rw [w]))] at h
    exact z_zret hX hR (D_Rings_shareNone (i := 16) rfl) rfl (by first | exact Or.inl rfl | exact Or.inr rfl | assumption) (by assumption)
  · refine z_iconst (v := 1) hX (D_Rings_shareNone (i := 13) rfl) (by decide) ?_
    refine z_goto (tgt := 25) hX (D_Rings_shareNone (i := 14) rfl) (by decide) ?_
    rw [decide_eq_true ((nI_eq (by omega) (by omega)).mp h1)] at h
    exact z_zret hX hR (D_Rings_shareNone (i := 16) rfl) rfl (by first | exact Or.inl rfl | exact Or.inr rfl | assumption) (by assumption)
/-- how many pairs -/
def prC (g : Nat → Nat → Bool) (m : Nat) : Nat := sumI (fun i => sumI (fun k => if g i (i + 1 + k) = true then 1 else 0) (m - (i + 1))) m
theorem c_Rings_parted (hH : zHas ι pX) {n : Nat} {R : List Nat} (hn : n ≤ 4) (hR81 : R.length ≤ 81) (h3 : S 20 3 = nI n) (h2 : S 20 2 = nI R.length) (h21 : ∀ i, i < R.length → S 21 i = nI (R.getD i 0) ∧ R.getD i 0 < 256) (h : Post (some (zI (nI (prC (fun i j => snB n (R.getD i 0) (R.getD j 0)) R.length)))) (tw mem S)) : zC l ι M_Rings_parted 2 [zP 20 0] (tw mem S) Post := by
  refine z_enter hH (by decide) (by simp [z_ent, M_Rings_parted]) (fun X hXl hX hR => ?_)
  refine z_iconst (v := 0) hX (D_Rings_parted (i := 0) rfl) (by decide) ?_
  refine z_istore_n hX (D_Rings_parted (i := 1) rfl) (by decide) rfl ?_
  refine z_iconst (v := 0) hX (D_Rings_parted (i := 2) rfl) (by decide) ?_
  refine z_istore_n hX (D_Rings_parted (i := 3) rfl) (by decide) rfl ?_
  suffices LI : ∀ (d i : Nat) (v3 : Option zV), i + d = R.length → zW ι M_Rings_parted X 4 [some (zP 20 0), some (zI (nI (sumI (fun i => sumI (fun k => if snB n (R.getD i 0) (R.getD (i + 1 + k) 0) = true then 1 else 0) (R.length - (i + 1))) i))), some (zI (nI i)), v3] [] (tw mem S) from LI _ 0 none (Nat.zero_add _)
  intro d
  induction d with
  | zero =>
    intro i v3 hi
    obtain rfl : i = R.length := hi
    refine z_iload_n hX (D_Rings_parted (i := 4) rfl) rfl ?_
    refine z_aload_n hX (D_Rings_parted (i := 5) rfl) rfl ?_
    refine z_geti hX (D_Rings_parted (i := 6) rfl) f_Rings_22 rfl (by decide) (by first | exact Nat.one_pos | assumption | omega) rfl ?_
    rw [show (tw mem S).1 20 0 2 = nI R.length from h2]
    refine z_icmp_ge (tgt := 59) hX (D_Rings_parted (i := 7) rfl) (by decide) (fun _ => ?_) (fun hcc => absurd (Int32.le_refl _) hcc)
    refine z_iload_n hX (D_Rings_parted (i := 33) rfl) rfl ?_
    exact z_iret hX hR (D_Rings_parted (i := 34) rfl) rfl h
  | succ d ih =>
    intro i v3 hi
    have hin : i < R.length := by omega
    refine z_iload_n hX (D_Rings_parted (i := 4) rfl) rfl ?_
    refine z_aload_n hX (D_Rings_parted (i := 5) rfl) rfl ?_
    refine z_geti hX (D_Rings_parted (i := 6) rfl) f_Rings_22 rfl (by decide) (by first | exact Nat.one_pos | assumption | omega) rfl ?_
    rw [show (tw mem S).1 20 0 2 = nI R.length from h2]
    refine z_icmp_ge (tgt := 59) hX (D_Rings_parted (i := 7) rfl) (by decide) (fun hcc => absurd hcc (nI_ge hin (by omega))) (fun _ => ?_)
    refine z_iload_n hX (D_Rings_parted (i := 8) rfl) rfl ?_
    refine z_iconst (v := 1) hX (D_Rings_parted (i := 9) rfl) (by decide) ?_
    refine z_iadd hX (D_Rings_parted (i := 10) rfl) ?_
    rw [show nI i + 1 = nI (i + 1) from nI_add i 1]
    refine z_istore_n hX (D_Rings_parted (i := 11) rfl) (by decide) rfl ?_
    suffices LJ : ∀ (e k : Nat), k + e = R.length - (i + 1) → zW ι M_Rings_parted X 16 [some (zP 20 0), some (zI (nI (sumI (fun i => sumI (fun k => if snB n (R.getD i 0) (R.getD (i + 1 + k) 0) = true then 1 else 0) (R.length - (i + 1))) i + sumI (fun k => if snB n (R.getD i 0) (R.getD (i + 1 + k) 0) = true then 1 else 0) k))), some (zI (nI i)), some (zI (nI (i + 1 + k)))] [] (tw mem S) from LJ _ 0 (Nat.zero_add _)
    intro e
    induction e with
    | zero =>
      intro k hk
      obtain rfl : k = R.length - (i + 1) := hk
      have hkk : i + 1 + (R.length - (i + 1)) = R.length := by omega
      refine z_iload_n hX (D_Rings_parted (i := 12) rfl) rfl ?_
      refine z_aload_n hX (D_Rings_parted (i := 13) rfl) rfl ?_
      refine z_geti hX (D_Rings_parted (i := 14) rfl) f_Rings_22 rfl (by decide) (by first | exact Nat.one_pos | assumption | omega) rfl ?_
      rw [show (tw mem S).1 20 0 2 = nI R.length from h2]
      refine z_icmp_ge (tgt := 53) hX (D_Rings_parted (i := 15) rfl) (by decide) (fun _ => ?_) (fun hcc => absurd (nI_le (by omega) (by omega)) hcc)
      first | refine z_inc1 hX (D_Rings_parted (i := 31) rfl) rfl (by decide) rfl ?_ | refine z_iinc hX (D_Rings_parted (i := 31) rfl) rfl rfl (by decide) rfl ?_
      refine z_goto (tgt := 4) hX (D_Rings_parted (i := 32) rfl) (by decide) ?_
      exact ih (i + 1) _ (by omega)
    | succ e ihe =>
      intro k hk
      have hjn : i + 1 + k < R.length := by omega
      refine z_iload_n hX (D_Rings_parted (i := 12) rfl) rfl ?_
      refine z_aload_n hX (D_Rings_parted (i := 13) rfl) rfl ?_
      refine z_geti hX (D_Rings_parted (i := 14) rfl) f_Rings_22 rfl (by decide) (by first | exact Nat.one_pos | assumption | omega) rfl ?_
      rw [show (tw mem S).1 20 0 2 = nI R.length from h2]
      refine z_icmp_ge (tgt := 53) hX (D_Rings_parted (i := 15) rfl) (by decide) (fun hcc => absurd hcc (nI_ge hjn (by omega))) (fun _ => ?_)
      refine z_aload_n hX (D_Rings_parted (i := 16) rfl) rfl ?_
      refine z_aload_n hX (D_Rings_parted (i := 17) rfl) rfl ?_
      refine z_getc hX (D_Rings_parted (i := 18) rfl) f_Rings_11 rfl (by decide) (by first | exact Nat.one_pos | assumption | omega) rfl ?_
      refine z_iload_n hX (D_Rings_parted (i := 19) rfl) rfl ?_
      refine z_iald (j := i) hX (D_Rings_parted (i := 20) rfl) rfl (by decide) (by first | exact Nat.one_pos | assumption | omega) (by decide) rfl (by omega) ?_
      rw [show (tw mem S).1 21 0 i = _ from (h21 i hin).1]
      refine z_aload_n hX (D_Rings_parted (i := 21) rfl) rfl ?_
      refine z_getc hX (D_Rings_parted (i := 22) rfl) f_Rings_11 rfl (by decide) (by first | exact Nat.one_pos | assumption | omega) rfl ?_
      refine z_iload_n hX (D_Rings_parted (i := 23) rfl) rfl ?_
      refine z_iald (j := i + 1 + k) hX (D_Rings_parted (i := 24) rfl) rfl (by decide) (by first | exact Nat.one_pos | assumption | omega) (by decide) rfl (by omega) ?_
      rw [show (tw mem S).1 21 0 (i + 1 + k) = _ from (h21 _ hjn).1]
      refine z_ixor hX (D_Rings_parted (i := 25) rfl) ?_
      refine z_cV1 hX (D_Rings_parted (i := 26) rfl) mi_Rings_shareNone l_Rings_45 rfl rfl (by decide) (by first | exact Nat.one_pos | assumption | omega) (by first | decide | omega) (Nat.le_of_ble_eq_true rfl) (c_Rings_shareNone hH hn h3 (h21 i hin).2 (h21 _ hjn).2 ?_)
      cases hs : snB n (R.getD i 0) (R.getD (i + 1 + k) 0) with
      | false =>
        refine z_if_eq (tgt := 47) hX (D_Rings_parted (i := 27) rfl) (by decide) (fun _ => ?_) (fun hcc => absurd (rfl) hcc)
        first | refine z_inc1 hX (D_Rings_parted (i := 29) rfl) rfl (by decide) rfl ?_ | refine z_iinc hX (D_Rings_parted (i := 29) rfl) rfl rfl (by decide) rfl ?_
        refine z_goto (tgt := 16) hX (D_Rings_parted (i := 30) rfl) (by decide) ?_
        have := ihe (k + 1) (by omega)
        rw [sumI, hs] at this
        exact this
      | true =>
        refine z_if_eq (tgt := 47) hX (D_Rings_parted (i := 27) rfl) (by decide) (fun hcc => absurd hcc (by decide)) (fun _ => ?_)
        first | refine z_inc1 hX (D_Rings_parted (i := 28) rfl) rfl (by decide) rfl ?_ | refine z_iinc hX (D_Rings_parted (i := 28) rfl) rfl rfl (by decide) rfl ?_
        first | refine z_inc1 hX (D_Rings_parted (i := 29) rfl) rfl (by decide) rfl ?_ | refine z_iinc hX (D_Rings_parted (i := 29) rfl) rfl rfl (by decide) rfl ?_
        refine z_goto (tgt := 16) hX (D_Rings_parted (i := 30) rfl) (by decide) ?_
        have := ihe (k + 1) (by omega)
        rw [sumI, hs] at this
        exact this
end T10
