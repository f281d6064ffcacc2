/-! the cubes -/
def stN (t w : Nat) : Nat := (zstf 91 (6 * t + w)).toNatClampNeg
theorem st_ok : ∀ t, t < 24 → ∀ w, w < 6 → zstf 91 (6 * t + w) = nI (stN t w) ∧ stN t w < 6 := by decide +kernel
def opN (f : Nat) : Nat := (zstf 90 f).toNatClampNeg
theorem op_ok : ∀ f, f < 6 → zstf 90 f = nI (opN f) ∧ opN f < 6 := by decide +kernel
theorem c_Cube_seen {l : Launch} {ι : zE} {mem : zM} {Post : Option zV → zM → Prop} (hH : zHas ι pX) {k t w : Nat} (hk : k < 8) (ht : t < 24) (hw : w < 6) (h : Post (some (zI (mem.1 3 k (stN t w)))) mem) : zC l ι M_Cube_seen 0 [zP 2 k, zI (nI t), zI (nI w)] mem Post := by
  refine z_enter hH (by decide) (by simp [z_ent, M_Cube_seen]) (fun X hXl hX hR => ?_)
  refine z_aload_n hX (D_Cube_seen (i := 0) rfl) rfl ?_
  refine z_getc hX (D_Cube_seen (i := 1) rfl) f_Cube_9 rfl (by decide) (by first | exact Nat.one_pos | assumption | omega) rfl ?_
  refine z_getsN (p := 91) hX (D_Cube_seen (i := 2) rfl) (by decide) (by decide) s_Cube_19 ?_
  refine z_bipush (v := 6) hX (D_Cube_seen (i := 3) rfl) (by decide) ?_
  refine z_iload_n hX (D_Cube_seen (i := 4) rfl) rfl ?_
  refine z_imul hX (D_Cube_seen (i := 5) rfl) ?_
  refine z_iload_n hX (D_Cube_seen (i := 6) rfl) rfl ?_
  refine z_iadd hX (D_Cube_seen (i := 7) rfl) ?_
  refine z_tald (p := 91) (j := 6 * t + w) hX (D_Cube_seen (i := 8) rfl) (by decide) (by decide) (by decide +kernel) (by first | (simp only [nlit, nI_add, pk_mul]; done) | rfl) (show 6 * t + w < 144 by omega) ?_
  refine z_iald (j := stN t w) hX (D_Cube_seen (i := 9) rfl) rfl (by decide) (by first | exact Nat.one_pos | assumption | omega) (by decide) (st_ok t ht w hw).1 (st_ok t ht w hw).2 ?_
  exact z_iret hX hR (D_Cube_seen (i := 10) rfl) rfl h
theorem c_Cube_endOf {l : Launch} {ι : zE} {mem : zM} {Post : Option zV → zM → Prop} {i : Nat} (hi : i < 3) (h : Post (some (zI (nI (if i = 2 then 4 else i)))) mem) : zC l ι M_Cube_endOf 0 [zI (nI i)] mem Post := by
  have hH : zHas ι [] := zHas.nil
  refine z_enter hH (by decide) (by simp [z_ent, M_Cube_endOf]) (fun X hXl hX hR => ?_)
  refine z_iload_n hX (D_Cube_endOf (i := 0) rfl) rfl ?_
  refine z_iconst (v := 2) hX (D_Cube_endOf (i := 1) rfl) (by decide) ?_
  refine z_icmp_ne (tgt := 9) hX (D_Cube_endOf (i := 2) rfl) (by decide) (fun hc => ?_) (fun hc => ?_)
  · refine z_iload_n hX (D_Cube_endOf (i := 5) rfl) rfl ?_
    rw [if_neg (fun e => hc (by rw [e]; rfl))] at h
    exact z_iret hX hR (D_Cube_endOf (i := 6) rfl) rfl (by assumption)
  · refine z_iconst (v := 4) hX (D_Cube_endOf (i := 3) rfl) (by decide) ?_
    refine z_goto (tgt := 10) hX (D_Cube_endOf (i := 4) rfl) (by decide) ?_
    rw [if_pos ((nI_eq (b := 2) (by omega) (by decide)).mp hc)] at h
    exact z_iret hX hR (D_Cube_endOf (i := 6) rfl) rfl (by assumption)
def edN (i : Nat) : Nat := if i = 2 then 4 else i
theorem ed_ok : ∀ i, i < 3 → edN i < 6 ∧ opN (edN i) < 6 := by decide +kernel
def lnN (a b : Nat) : Nat := 10 * (if b < a then b else a) + (if a < b then b else a)
theorem nI_iflt {a b x y : Nat} (ha : a < 2 ^ 31) (hb : b < 2 ^ 31) : (if nI a < nI b then nI x else nI y) = nI (if a < b then x else y) := by
  by_cases h : a < b
  · rw [if_pos h, if_pos ((nI_ltI ha hb).mpr h)]
  · rw [if_neg h, if_neg (fun z => h ((nI_ltI ha hb).mp z))]
theorem c_Cube_line {l : Launch} {ι : zE} {mem : zM} {Post : Option zV → zM → Prop} (hH : zHas ι pX) {k i a b : Nat} (hk : k < 8) (hi : i < 3) (ha : mem.1 3 k (edN i) = nI a) (hb : mem.1 3 k (opN (edN i)) = nI b) (la : a ≤ 6) (lb : b ≤ 6) (h : Post (some (zI (nI (lnN a b)))) mem) : zC l ι M_Cube_line 1 [zP 2 k, zI (nI i)] mem Post := by
  refine z_enter hH (by decide) (by simp [z_ent, M_Cube_line]) (fun X hXl hX hR => ?_)
  refine z_iload_n hX (D_Cube_line (i := 0) rfl) rfl ?_
  refine z_cS1 hX (D_Cube_line (i := 1) rfl) ms_Cube_endOf l_Cube_22 (by first | decide | omega) (Nat.le_of_ble_eq_true rfl) (c_Cube_endOf hi ?_)
  refine z_istore_n hX (D_Cube_line (i := 2) rfl) (by decide) rfl ?_
  refine z_aload_n hX (D_Cube_line (i := 3) rfl) rfl ?_
  refine z_getc hX (D_Cube_line (i := 4) rfl) f_Cube_9 rfl (by decide) (by first | exact Nat.one_pos | assumption | omega) rfl ?_
  refine z_iload_n hX (D_Cube_line (i := 5) rfl) rfl ?_
  refine z_iald (j := edN i) hX (D_Cube_line (i := 6) rfl) rfl (by decide) (by first | exact Nat.one_pos | assumption | omega) (by decide) rfl (ed_ok i hi).1 ?_
  refine z_istore_n hX (D_Cube_line (i := 7) rfl) (by decide) rfl ?_
  refine z_aload_n hX (D_Cube_line (i := 8) rfl) rfl ?_
  refine z_getc hX (D_Cube_line (i := 9) rfl) f_Cube_9 rfl (by decide) (by first | exact Nat.one_pos | assumption | omega) rfl ?_
  refine z_getsN (p := 90) hX (D_Cube_line (i := 10) rfl) (by decide) (by decide) s_Cube_26 ?_
  refine z_iload_n hX (D_Cube_line (i := 11) rfl) rfl ?_
  refine z_tald (p := 90) (j := edN i) hX (D_Cube_line (i := 12) rfl) (by decide) (by decide) (by decide +kernel) rfl (ed_ok i hi).1 ?_
  refine z_iald (j := opN (edN i)) hX (D_Cube_line (i := 13) rfl) rfl (by decide) (by first | exact Nat.one_pos | assumption | omega) (by decide) (op_ok _ (ed_ok i hi).1).1 (ed_ok i hi).2 ?_
  refine z_istore hX (D_Cube_line (i := 14) rfl) (by decide) rfl ?_
  refine z_bipush (v := 10) hX (D_Cube_line (i := 15) rfl) (by decide) ?_
  refine z_iload_n hX (D_Cube_line (i := 16) rfl) rfl ?_
  refine z_iload hX (D_Cube_line (i := 17) rfl) rfl ?_
  refine z_min hX (D_Cube_line (i := 18) rfl) l_Cube_29 (by first | decide | omega) (Nat.le_of_ble_eq_true rfl) ?_
  refine z_imul hX (D_Cube_line (i := 19) rfl) ?_
  refine z_iload_n hX (D_Cube_line (i := 20) rfl) rfl ?_
  refine z_iload hX (D_Cube_line (i := 21) rfl) rfl ?_
  refine z_max hX (D_Cube_line (i := 22) rfl) l_Cube_35 (by first | decide | omega) (Nat.le_of_ble_eq_true rfl) ?_
  refine z_iadd hX (D_Cube_line (i := 23) rfl) ?_
  have e : (10 : Int32) * (if mem.1 3 k (opN (edN i)) < mem.1 3 k (edN i) then mem.1 3 k (opN (edN i)) else mem.1 3 k (edN i)) + (if mem.1 3 k (edN i) < mem.1 3 k (opN (edN i)) then mem.1 3 k (opN (edN i)) else mem.1 3 k (edN i)) = nI (lnN a b) := by
    rw [ha, hb, nI_iflt (by omega) (by omega), nI_iflt (by omega) (by omega), nlit, pk_mul, nI_add]; rfl
  exact z_iret hX hR (D_Cube_line (i := 24) rfl) rfl (by rw [e]; exact h)
theorem c_Cube_mayBe {l : Launch} {ι : zE} {mem : zM} {Post : Option zV → zM → Prop} (hH : zHas ι pX) {k f : Nat} {c : Int32} (hk : k < 8) (hf : f < 6) (h : Post (some (zI (bI (decide (mem.1 3 k f = c ∨ mem.1 3 k f = 6))))) mem) : zC l ι M_Cube_mayBe 0 [zP 2 k, zI (nI f), zI c] mem Post := by
  refine z_enter hH (by decide) (by simp [z_ent, M_Cube_mayBe]) (fun X hXl hX hR => ?_)
  refine z_aload_n hX (D_Cube_mayBe (i := 0) rfl) rfl ?_
  refine z_getc hX (D_Cube_mayBe (i := 1) rfl) f_Cube_9 rfl (by decide) (by first | exact Nat.one_pos | assumption | omega) rfl ?_
  refine z_iload_n hX (D_Cube_mayBe (i := 2) rfl) rfl ?_
  refine z_iald hX (D_Cube_mayBe (i := 3) rfl) rfl (by decide) (by first | exact Nat.one_pos | assumption | omega) (by decide) rfl (by omega) ?_
  refine z_iload_n hX (D_Cube_mayBe (i := 4) rfl) rfl ?_
  refine z_icmp_eq (tgt := 21) hX (D_Cube_mayBe (i := 5) rfl) (by decide) (fun hc => ?_) (fun hc => ?_)
  · refine z_iconst (v := 1) hX (D_Cube_mayBe (i := 12) rfl) (by decide) ?_
    refine z_goto (tgt := 26) hX (D_Cube_mayBe (i := 13) rfl) (by decide) ?_
    rw [decide_eq_true (Or.inl hc)] at h
    exact z_zret hX hR (D_Cube_mayBe (i := 15) rfl) rfl (by first | exact Or.inl rfl | exact Or.inr rfl | assumption) (by assumption)
  · refine z_aload_n hX (D_Cube_mayBe (i := 6) rfl) rfl ?_
    refine z_getc hX (D_Cube_mayBe (i := 7) rfl) f_Cube_9 rfl (by decide) (by first | exact Nat.one_pos | assumption | omega) rfl ?_
    refine z_iload_n hX (D_Cube_mayBe (i := 8) rfl) rfl ?_
    refine z_iald hX (D_Cube_mayBe (i := 9) rfl) rfl (by decide) (by first | exact Nat.one_pos | assumption | omega) (by decide) rfl (by omega) ?_
    refine z_bipush (v := 6) hX (D_Cube_mayBe (i := 10) rfl) (by decide) ?_
    refine z_icmp_ne (tgt := 25) hX (D_Cube_mayBe (i := 11) rfl) (by decide) (fun h6 => ?_) (fun h6 => ?_)
    · refine z_iconst (v := 0) hX (D_Cube_mayBe (i := 14) rfl) (by decide) ?_
      rw [decide_eq_false (fun z => z.elim hc h6)] at h
      exact z_zret hX hR (D_Cube_mayBe (i := 15) rfl) rfl (by first | exact Or.inl rfl | exact Or.inr rfl | assumption) (by assumption)
    · refine z_iconst (v := 1) hX (D_Cube_mayBe (i := 12) rfl) (by decide) ?_
      refine z_goto (tgt := 26) hX (D_Cube_mayBe (i := 13) rfl) (by decide) ?_
      rw [decide_eq_true (Or.inr h6)] at h
      exact z_zret hX hR (D_Cube_mayBe (i := 15) rfl) rfl (by first | exact Or.inl rfl | exact Or.inr rfl | assumption) (by assumption)
def msC (mem : zM) (k t w : Nat) (c : Int32) : Bool := decide (mem.1 3 k (stN t w) = c ∨ mem.1 3 k (stN t w) = 6)
theorem c_Cube_mayShow {l : Launch} {ι : zE} {mem : zM} {Post : Option zV → zM → Prop} (hH : zHas ι pX) {k t w : Nat} {c : Int32} (hk : k < 8) (ht : t < 24) (hw : w < 6) (h : Post (some (zI (bI (msC mem k t w c)))) mem) : zC l ι M_Cube_mayShow 1 [zP 2 k, zI (nI t), zI (nI w), zI c] mem Post := by
  refine z_enter hH (by decide) (by simp [z_ent, M_Cube_mayShow]) (fun X hXl hX hR => ?_)
  refine z_aload_n hX (D_Cube_mayShow (i := 0) rfl) rfl ?_
  refine z_getsN (p := 91) hX (D_Cube_mayShow (i := 1) rfl) (by decide) (by decide) s_Cube_19 ?_
  refine z_bipush (v := 6) hX (D_Cube_mayShow (i := 2) rfl) (by decide) ?_
  refine z_iload_n hX (D_Cube_mayShow (i := 3) rfl) rfl ?_
  refine z_imul hX (D_Cube_mayShow (i := 4) rfl) ?_
  refine z_iload_n hX (D_Cube_mayShow (i := 5) rfl) rfl ?_
  refine z_iadd hX (D_Cube_mayShow (i := 6) rfl) ?_
  refine z_tald (p := 91) (j := 6 * t + w) hX (D_Cube_mayShow (i := 7) rfl) (by decide) (by decide) (by decide +kernel) (by first | (simp only [nlit, nI_add, pk_mul]; done) | rfl) (show 6 * t + w < 144 by omega) ?_
  rw [(st_ok t ht w hw).1]
  refine z_iload_n hX (D_Cube_mayShow (i := 8) rfl) rfl ?_
  refine z_cV2 hX (D_Cube_mayShow (i := 9) rfl) mi_Cube_mayBe l_Cube_46 rfl rfl (by decide) (by first | exact Nat.one_pos | assumption | omega) (by first | decide | omega) (Nat.le_of_ble_eq_true rfl) (c_Cube_mayBe hH hk (st_ok t ht w hw).2 ?_)
  exact z_zret hX hR (D_Cube_mayShow (i := 10) rfl) rfl (bI_or _) h
def glN (g : Bool) (f : Nat) : Nat := if g = true ∧ (f = 1 ∨ f = 3) then opN f else f
def lkC (mem : zM) (k k2 t : Nat) (g : Bool) (w : Nat) : Bool := decide (mem.1 3 k (glN g (stN t w)) = mem.1 3 k2 w)
theorem c_Cube_isLike {l : Launch} {ι : zE} {mem : zM} {Post : Option zV → zM → Prop} (hH : zHas ι pX) {k k2 t : Nat} {g : Bool} (hk : k < 8) (hk2 : k2 < 8) (ht : t < 24) (h : Post (some (zI (bI (alI (lkC mem k k2 t g) 6)))) mem) : zC l ι M_Cube_isLike 0 [zP 2 k, zP 2 k2, zI (nI t), zI (bI g)] mem Post := by
  refine z_enter hH (by decide) (by simp [z_ent, M_Cube_isLike]) (fun X hXl hX hR => ?_)
  refine z_iconst (v := 0) hX (D_Cube_isLike (i := 0) rfl) (by decide) ?_
  refine z_istore hX (D_Cube_isLike (i := 1) rfl) (by decide) rfl ?_
  suffices H : ∀ (d i : Nat) (v5 v6 : Option zV), z_isJ (some v5) = false → i + d = 6 → (∀ w, w < i → lkC mem k k2 t g w = true) → zW ι M_Cube_isLike X 3 [some (zP 2 k), some (zP 2 k2), some (zI (nI t)), some (zI (bI g)), some (zI (nI i)), v5, v6] [] mem from H 6 0 none none rfl rfl (fun _ h => absurd h (Nat.not_lt_zero _))
  intro d
  induction d with
  | zero =>
    intro i v5 v6 hJ hi hinv
    obtain rfl : i = 6 := by omega
    refine z_iload hX (D_Cube_isLike (i := 2) rfl) rfl ?_
    refine z_bipush (v := 6) hX (D_Cube_isLike (i := 3) rfl) (by decide) ?_
    refine z_icmp_ge (tgt := 85) hX (D_Cube_isLike (i := 4) rfl) (by decide) (fun _ => ?_) (fun hcc => absurd (Int32.le_refl _) hcc)
    refine z_iconst (v := 1) hX (D_Cube_isLike (i := 44) rfl) (by decide) ?_
    rw [alI_true.mpr hinv] at h
    exact z_zret hX hR (D_Cube_isLike (i := 45) rfl) rfl (by first | exact Or.inl rfl | exact Or.inr rfl | assumption) (by assumption)
  | succ d ih =>
    intro i v5 v6 hJ hi hinv
    have hi6 : i < 6 := by omega
    obtain ⟨e1, e2⟩ := st_ok t ht i hi6
    refine z_iload hX (D_Cube_isLike (i := 2) rfl) rfl ?_
    refine z_bipush (v := 6) hX (D_Cube_isLike (i := 3) rfl) (by decide) ?_
    refine z_icmp_ge (tgt := 85) hX (D_Cube_isLike (i := 4) rfl) (by decide) (fun hcc => absurd hcc (nI_ge (b := 6) hi6 (by decide))) (fun _ => ?_)
    refine z_getsN (p := 91) hX (D_Cube_isLike (i := 5) rfl) (by decide) (by decide) s_Cube_19 ?_
    refine z_bipush (v := 6) hX (D_Cube_isLike (i := 6) rfl) (by decide) ?_
    refine z_iload_n hX (D_Cube_isLike (i := 7) rfl) rfl ?_
    refine z_imul hX (D_Cube_isLike (i := 8) rfl) ?_
    refine z_iload hX (D_Cube_isLike (i := 9) rfl) rfl ?_
    refine z_iadd hX (D_Cube_isLike (i := 10) rfl) ?_
    refine z_tald (p := 91) (j := 6 * t + i) hX (D_Cube_isLike (i := 11) rfl) (by decide) (by decide) (by decide +kernel) (by first | (simp only [nlit, nI_add, pk_mul]; done) | rfl) (show 6 * t + i < 144 by omega) ?_
    rw [e1]
    refine z_istore hX (D_Cube_isLike (i := 12) rfl) (by decide) rfl ?_
    refine z_iload_n hX (D_Cube_isLike (i := 13) rfl) rfl ?_
    have key : ∀ (v6 : Option zV), zW ι M_Cube_isLike X 66 [some (zP 2 k), some (zP 2 k2), some (zI (nI t)), some (zI (bI g)), some (zI (nI i)), some (zI (nI (stN t i))), v6] [zI (nI (glN g (stN t i))), zP 3 k] mem := by
      intro v6
      have e3 : glN g (stN t i) < 6 := by
        unfold glN
        split
        · exact (op_ok _ e2).2
        · exact e2
      refine z_iald (j := glN g (stN t i)) hX (D_Cube_isLike (i := 34) rfl) rfl (by decide) (by first | exact Nat.one_pos | assumption | omega) (by decide) rfl e3 ?_
      refine z_aload_n hX (D_Cube_isLike (i := 35) rfl) rfl ?_
      refine z_getc hX (D_Cube_isLike (i := 36) rfl) f_Cube_9 rfl (by decide) (by first | exact Nat.one_pos | assumption | omega) rfl ?_
      refine z_iload hX (D_Cube_isLike (i := 37) rfl) rfl ?_
      refine z_iald (j := i) hX (D_Cube_isLike (i := 38) rfl) rfl (by decide) (by first | exact Nat.one_pos | assumption | omega) (by decide) rfl hi6 ?_
      refine z_icmp_eq (tgt := 79) hX (D_Cube_isLike (i := 39) rfl) (by decide) (fun hc => ?_) (fun hc => ?_)
      · first | refine z_inc1 hX (D_Cube_isLike (i := 42) rfl) rfl (by decide) rfl ?_ | refine z_iinc hX (D_Cube_isLike (i := 42) rfl) rfl rfl (by decide) rfl ?_
        refine z_goto (tgt := 3) hX (D_Cube_isLike (i := 43) rfl) (by decide) ?_
        exact ih (i + 1) _ _ rfl (by omega) (fun w hw => if e : w = i then by subst e; exact decide_eq_true hc else hinv w (by omega))
      · refine z_iconst (v := 0) hX (D_Cube_isLike (i := 40) rfl) (by decide) ?_
        rw [alI_false hi6 (decide_eq_false hc)] at h
        exact z_zret hX hR (D_Cube_isLike (i := 41) rfl) rfl (by first | exact Or.inl rfl | exact Or.inr rfl | assumption) (by assumption)
    have k0 : ¬ (g = true ∧ (stN t i = 1 ∨ stN t i = 3)) → ∀ v6 : Option zV, zW ι M_Cube_isLike X 43 [some (zP 2 k), some (zP 2 k2), some (zI (nI t)), some (zI (bI g)), some (zI (nI i)), some (zI (nI (stN t i))), v6] [] mem := by
      intro hn v6
      have e3 : glN g (stN t i) = stN t i := by unfold glN; rw [if_neg hn]
      refine z_iconst (v := 0) hX (D_Cube_isLike (i := 23) rfl) (by decide) ?_
      refine z_istore hX (D_Cube_isLike (i := 24) rfl) (by decide) rfl ?_
      refine z_aload_n hX (D_Cube_isLike (i := 25) rfl) rfl ?_
      refine z_getc hX (D_Cube_isLike (i := 26) rfl) f_Cube_9 rfl (by decide) (by first | exact Nat.one_pos | assumption | omega) rfl ?_
      refine z_iload hX (D_Cube_isLike (i := 27) rfl) rfl ?_
      refine z_if_eq (tgt := 64) hX (D_Cube_isLike (i := 28) rfl) (by decide) (fun _ => ?_) (fun hcc => absurd (rfl) hcc)
      refine z_iload hX (D_Cube_isLike (i := 33) rfl) rfl ?_
      rw [← e3]
      have := key (some (zI 0))
      rw [e3] at this ⊢
      exact this
    have k1 : (g = true ∧ (stN t i = 1 ∨ stN t i = 3)) → ∀ v6 : Option zV, zW ι M_Cube_isLike X 39 [some (zP 2 k), some (zP 2 k2), some (zI (nI t)), some (zI (bI g)), some (zI (nI i)), some (zI (nI (stN t i))), v6] [] mem := by
      intro hn v6
      have e3 : glN g (stN t i) = opN (stN t i) := by unfold glN; rw [if_pos hn]
      refine z_iconst (v := 1) hX (D_Cube_isLike (i := 21) rfl) (by decide) ?_
      refine z_goto (tgt := 44) hX (D_Cube_isLike (i := 22) rfl) (by decide) ?_
      refine z_istore hX (D_Cube_isLike (i := 24) rfl) (by decide) rfl ?_
      refine z_aload_n hX (D_Cube_isLike (i := 25) rfl) rfl ?_
      refine z_getc hX (D_Cube_isLike (i := 26) rfl) f_Cube_9 rfl (by decide) (by first | exact Nat.one_pos | assumption | omega) rfl ?_
      refine z_iload hX (D_Cube_isLike (i := 27) rfl) rfl ?_
      refine z_if_eq (tgt := 64) hX (D_Cube_isLike (i := 28) rfl) (by decide) (fun hcc => absurd hcc (by decide)) (fun _ => ?_)
      refine z_getsN (p := 90) hX (D_Cube_isLike (i := 29) rfl) (by decide) (by decide) s_Cube_26 ?_
      refine z_iload hX (D_Cube_isLike (i := 30) rfl) rfl ?_
      refine z_tald (p := 90) (j := stN t i) hX (D_Cube_isLike (i := 31) rfl) (by decide) (by decide) (by decide +kernel) rfl e2 ?_
      rw [(op_ok _ e2).1, ← e3]
      refine z_goto (tgt := 66) hX (D_Cube_isLike (i := 32) rfl) (by decide) ?_
      exact key _
    refine z_if_eq (tgt := 43) hX (D_Cube_isLike (i := 14) rfl) (by decide) (fun hg => ?_) (fun hg => ?_)
    · skip
      exact k0 (fun z => by rw [z.1] at hg; exact absurd hg (by decide)) _
    · refine z_iload hX (D_Cube_isLike (i := 15) rfl) rfl ?_
      refine z_iconst (v := 1) hX (D_Cube_isLike (i := 16) rfl) (by decide) ?_
      refine z_icmp_eq (tgt := 39) hX (D_Cube_isLike (i := 17) rfl) (by decide) (fun h1 => ?_) (fun h1 => ?_)
      · skip
        exact k1 ⟨bI_n.mp hg, Or.inl ((nI_eq (b := 1) (by omega) (by decide)).mp h1)⟩ _
      · refine z_iload hX (D_Cube_isLike (i := 18) rfl) rfl ?_
        refine z_iconst (v := 3) hX (D_Cube_isLike (i := 19) rfl) (by decide) ?_
        refine z_icmp_ne (tgt := 43) hX (D_Cube_isLike (i := 20) rfl) (by decide) (fun h3 => ?_) (fun h3 => ?_)
        · skip
          refine k0 (fun z => ?_) _
          rcases z.2 with e | e
          · exact h1 (by rw [e]; rfl)
          · exact h3 (by rw [e]; rfl)
        · skip
          exact k1 ⟨bI_n.mp hg, Or.inr ((nI_eq (b := 3) (by omega) (by decide)).mp h3)⟩ _
theorem c_Cube_turnsInto {l : Launch} {ι : zE} {mem : zM} {Post : Option zV → zM → Prop} (hH : zHas ι pX) {k k2 : Nat} {g : Bool} (hk : k < 8) (hk2 : k2 < 8) (h : Post (some (zI (bI (exI (fun t => alI (lkC mem k k2 t g) 6) 24)))) mem) : zC l ι M_Cube_turnsInto 1 [zP 2 k, zP 2 k2, zI (bI g)] mem Post := by
  refine z_enter hH (by decide) (by simp [z_ent, M_Cube_turnsInto]) (fun X hXl hX hR => ?_)
  refine z_iconst (v := 0) hX (D_Cube_turnsInto (i := 0) rfl) (by decide) ?_
  refine z_istore_n hX (D_Cube_turnsInto (i := 1) rfl) (by decide) rfl ?_
  suffices H : ∀ (d i : Nat), i + d = 24 → (∀ w, w < i → alI (lkC mem k k2 w g) 6 = false) → zW ι M_Cube_turnsInto X 2 [some (zP 2 k), some (zP 2 k2), some (zI (bI g)), some (zI (nI i))] [] mem from H 24 0 rfl (fun _ h => absurd h (Nat.not_lt_zero _))
  intro d
  induction d with
  | zero =>
    intro i hi hinv
    obtain rfl : i = 24 := by omega
    refine z_iload_n hX (D_Cube_turnsInto (i := 2) rfl) rfl ?_
    refine z_bipush (v := 24) hX (D_Cube_turnsInto (i := 3) rfl) (by decide) ?_
    refine z_icmp_ge (tgt := 26) hX (D_Cube_turnsInto (i := 4) rfl) (by decide) (fun _ => ?_) (fun hcc => absurd (Int32.le_refl _) hcc)
    refine z_iconst (v := 0) hX (D_Cube_turnsInto (i := 15) rfl) (by decide) ?_
    rw [exI_false.mpr hinv] at h
    exact z_zret hX hR (D_Cube_turnsInto (i := 16) rfl) rfl (by first | exact Or.inl rfl | exact Or.inr rfl | assumption) (by assumption)
  | succ d ih =>
    intro i hi hinv
    have hi6 : i < 24 := by omega
    refine z_iload_n hX (D_Cube_turnsInto (i := 2) rfl) rfl ?_
    refine z_bipush (v := 24) hX (D_Cube_turnsInto (i := 3) rfl) (by decide) ?_
    refine z_icmp_ge (tgt := 26) hX (D_Cube_turnsInto (i := 4) rfl) (by decide) (fun hcc => absurd hcc (nI_ge (b := 24) hi6 (by decide))) (fun _ => ?_)
    refine z_aload_n hX (D_Cube_turnsInto (i := 5) rfl) rfl ?_
    refine z_aload_n hX (D_Cube_turnsInto (i := 6) rfl) rfl ?_
    refine z_iload_n hX (D_Cube_turnsInto (i := 7) rfl) rfl ?_
    refine z_iload_n hX (D_Cube_turnsInto (i := 8) rfl) rfl ?_
    refine z_cV3 hX (D_Cube_turnsInto (i := 9) rfl) mi_Cube_isLike l_Cube_38 rfl rfl (by decide) (by first | exact Nat.one_pos | assumption | omega) (by first | decide | omega) (Nat.le_of_ble_eq_true rfl) (c_Cube_isLike hH hk hk2 hi6 ?_)
    refine z_if_eq (tgt := 20) hX (D_Cube_turnsInto (i := 10) rfl) (by decide) (fun hc => ?_) (fun hc => ?_)
    · first | refine z_inc1 hX (D_Cube_turnsInto (i := 13) rfl) rfl (by decide) rfl ?_ | refine z_iinc hX (D_Cube_turnsInto (i := 13) rfl) rfl rfl (by decide) rfl ?_
      refine z_goto (tgt := 2) hX (D_Cube_turnsInto (i := 14) rfl) (by decide) ?_
      exact ih (i + 1) (by omega) (fun w hw => if e : w = i then by subst e; exact bI_0.mp hc else hinv w (by omega))
    · refine z_iconst (v := 1) hX (D_Cube_turnsInto (i := 11) rfl) (by decide) ?_
      rw [exI_true.mpr ⟨i, hi6, bI_n.mp hc⟩] at h
      exact z_zret hX hR (D_Cube_turnsInto (i := 12) rfl) rfl (by first | exact Or.inl rfl | exact Or.inr rfl | assumption) (by assumption)
def tsC (mem : zM) (k : Nat) (c : Int32) (t : Nat) : Bool := msC mem k t 4 (c / 100) && (msC mem k t 0 (c / 10 - c / 10 / 10 * 10) && msC mem k t 1 (c - c / 10 * 10))
theorem c_Cube_turningsThatShow {l : Launch} {ι : zE} {mem : zM} {Post : Option zV → zM → Prop} (hH : zHas ι pX) {k : Nat} {c : Int32} (hk : k < 8) (h : Post (some (zI (mkI (tsC mem k c) 24))) mem) : zC l ι M_Cube_turningsThatShow 2 [zP 2 k, zI c] mem Post := by
  refine z_enter hH (by decide) (by simp [z_ent, M_Cube_turningsThatShow]) (fun X hXl hX hR => ?_)
  refine z_iconst (v := 0) hX (D_Cube_turningsThatShow (i := 0) rfl) (by decide) ?_
  refine z_istore_n hX (D_Cube_turningsThatShow (i := 1) rfl) (by decide) rfl ?_
  refine z_iconst (v := 0) hX (D_Cube_turningsThatShow (i := 2) rfl) (by decide) ?_
  refine z_istore_n hX (D_Cube_turningsThatShow (i := 3) rfl) (by decide) rfl ?_
  suffices H : ∀ (d i : Nat), i + d = 24 → zW ι M_Cube_turningsThatShow X 4 [some (zP 2 k), some (zI c), some (zI (mkI (tsC mem k c) i)), some (zI (nI i))] [] mem from H 24 0 rfl
  intro d
  induction d with
  | zero =>
    intro i hi
    obtain rfl : i = 24 := by omega
    refine z_iload_n hX (D_Cube_turningsThatShow (i := 4) rfl) rfl ?_
    refine z_bipush (v := 24) hX (D_Cube_turningsThatShow (i := 5) rfl) (by decide) ?_
    refine z_icmp_ge (tgt := 64) hX (D_Cube_turningsThatShow (i := 6) rfl) (by decide) (fun _ => ?_) (fun hcc => absurd (Int32.le_refl _) hcc)
    refine z_iload_n hX (D_Cube_turningsThatShow (i := 41) rfl) rfl ?_
    exact z_iret hX hR (D_Cube_turningsThatShow (i := 42) rfl) rfl (by assumption)
  | succ d ih =>
    intro i hi
    have hi6 : i < 24 := by omega
    have no : tsC mem k c i = false → zW ι M_Cube_turningsThatShow X 58 [some (zP 2 k), some (zI c), some (zI (mkI (tsC mem k c) i)), some (zI (nI i))] [] mem := by
      intro hf
      have e : mkI (tsC mem k c) (i + 1) = mkI (tsC mem k c) i := by rw [mkI, hf]; rfl
      first | refine z_inc1 hX (D_Cube_turningsThatShow (i := 39) rfl) rfl (by decide) rfl ?_ | refine z_iinc hX (D_Cube_turningsThatShow (i := 39) rfl) rfl rfl (by decide) rfl ?_
      refine z_goto (tgt := 4) hX (D_Cube_turningsThatShow (i := 40) rfl) (by decide) ?_
      rw [← e]
      exact ih (i + 1) (by omega)
    refine z_iload_n hX (D_Cube_turningsThatShow (i := 4) rfl) rfl ?_
    refine z_bipush (v := 24) hX (D_Cube_turningsThatShow (i := 5) rfl) (by decide) ?_
    refine z_icmp_ge (tgt := 64) hX (D_Cube_turningsThatShow (i := 6) rfl) (by decide) (fun hcc => absurd hcc (nI_ge (b := 24) hi6 (by decide))) (fun _ => ?_)
    refine z_aload_n hX (D_Cube_turningsThatShow (i := 7) rfl) rfl ?_
    refine z_iload_n hX (D_Cube_turningsThatShow (i := 8) rfl) rfl ?_
    refine z_iconst (v := 4) hX (D_Cube_turningsThatShow (i := 9) rfl) (by decide) ?_
    refine z_iload_n hX (D_Cube_turningsThatShow (i := 10) rfl) rfl ?_
    refine z_bipush (v := 100) hX (D_Cube_turningsThatShow (i := 11) rfl) (by decide) ?_
    refine z_idiv hX (D_Cube_turningsThatShow (i := 12) rfl) (by decide) ?_
    refine z_cV3 hX (D_Cube_turningsThatShow (i := 13) rfl) mi_Cube_mayShow l_Cube_42 rfl rfl (by decide) (by first | exact Nat.one_pos | assumption | omega) (by first | decide | omega) (Nat.le_of_ble_eq_true rfl) (c_Cube_mayShow (w := 4) hH hk hi6 (by decide) ?_)
    refine z_if_eq (tgt := 58) hX (D_Cube_turningsThatShow (i := 14) rfl) (by decide) (fun hc => ?_) (fun hc => ?_)
    · skip
      exact no (by unfold tsC; rw [bI_0.mp hc]; rfl)
    · refine z_aload_n hX (D_Cube_turningsThatShow (i := 15) rfl) rfl ?_
      refine z_iload_n hX (D_Cube_turningsThatShow (i := 16) rfl) rfl ?_
      refine z_iconst (v := 0) hX (D_Cube_turningsThatShow (i := 17) rfl) (by decide) ?_
      refine z_iload_n hX (D_Cube_turningsThatShow (i := 18) rfl) rfl ?_
      refine z_bipush (v := 10) hX (D_Cube_turningsThatShow (i := 19) rfl) (by decide) ?_
      refine z_idiv hX (D_Cube_turningsThatShow (i := 20) rfl) (by decide) ?_
      refine z_bipush (v := 10) hX (D_Cube_turningsThatShow (i := 21) rfl) (by decide) ?_
      refine z_irem hX (D_Cube_turningsThatShow (i := 22) rfl) (by decide) ?_
      refine z_cV3 hX (D_Cube_turningsThatShow (i := 23) rfl) mi_Cube_mayShow l_Cube_42 rfl rfl (by decide) (by first | exact Nat.one_pos | assumption | omega) (by first | decide | omega) (Nat.le_of_ble_eq_true rfl) (c_Cube_mayShow (w := 0) hH hk hi6 (by decide) ?_)
      refine z_if_eq (tgt := 58) hX (D_Cube_turningsThatShow (i := 24) rfl) (by decide) (fun hc2 => ?_) (fun hc2 => ?_)
      · skip
        exact no (by unfold tsC; rw [bI_0.mp hc2]; simp)
      · refine z_aload_n hX (D_Cube_turningsThatShow (i := 25) rfl) rfl ?_
        refine z_iload_n hX (D_Cube_turningsThatShow (i := 26) rfl) rfl ?_
        refine z_iconst (v := 1) hX (D_Cube_turningsThatShow (i := 27) rfl) (by decide) ?_
        refine z_iload_n hX (D_Cube_turningsThatShow (i := 28) rfl) rfl ?_
        refine z_bipush (v := 10) hX (D_Cube_turningsThatShow (i := 29) rfl) (by decide) ?_
        refine z_irem hX (D_Cube_turningsThatShow (i := 30) rfl) (by decide) ?_
        refine z_cV3 hX (D_Cube_turningsThatShow (i := 31) rfl) mi_Cube_mayShow l_Cube_42 rfl rfl (by decide) (by first | exact Nat.one_pos | assumption | omega) (by first | decide | omega) (Nat.le_of_ble_eq_true rfl) (c_Cube_mayShow (w := 1) hH hk hi6 (by decide) ?_)
        refine z_if_eq (tgt := 58) hX (D_Cube_turningsThatShow (i := 32) rfl) (by decide) (fun hc3 => ?_) (fun hc3 => ?_)
        · skip
          exact no (by unfold tsC; rw [bI_0.mp hc3]; simp)
        · refine z_iload_n hX (D_Cube_turningsThatShow (i := 33) rfl) rfl ?_
          refine z_iconst (v := 1) hX (D_Cube_turningsThatShow (i := 34) rfl) (by decide) ?_
          refine z_iload_n hX (D_Cube_turningsThatShow (i := 35) rfl) rfl ?_
          refine z_ishl hX (D_Cube_turningsThatShow (i := 36) rfl) ?_
          refine z_ior hX (D_Cube_turningsThatShow (i := 37) rfl) ?_
          refine z_istore_n hX (D_Cube_turningsThatShow (i := 38) rfl) (by decide) rfl ?_
          first | refine z_inc1 hX (D_Cube_turningsThatShow (i := 39) rfl) rfl (by decide) rfl ?_ | refine z_iinc hX (D_Cube_turningsThatShow (i := 39) rfl) rfl rfl (by decide) rfl ?_
          refine z_goto (tgt := 4) hX (D_Cube_turningsThatShow (i := 40) rfl) (by decide) ?_
          have e : mkI (tsC mem k c) (i + 1) = mkI (tsC mem k c) i ||| ((1 : Int32) <<< (nI i &&& 31)) := by
            rw [mkI, if_pos]
            unfold tsC; rw [bI_n.mp hc, bI_n.mp hc2, bI_n.mp hc3]; rfl
          rw [← e]
          exact ih (i + 1) (by omega)
def twC (mem : zM) (k w : Nat) (c : Int32) (t : Nat) : Bool := decide (c = 6) || msC mem k t w c
theorem c_Cube_turningsWith {l : Launch} {ι : zE} {mem : zM} {Post : Option zV → zM → Prop} (hH : zHas ι pX) {k w : Nat} {c : Int32} (hk : k < 8) (hw : w < 6) (h : Post (some (zI (mkI (twC mem k w c) 24))) mem) : zC l ι M_Cube_turningsWith 2 [zP 2 k, zI (nI w), zI c] mem Post := by
  refine z_enter hH (by decide) (by simp [z_ent, M_Cube_turningsWith]) (fun X hXl hX hR => ?_)
  refine z_iconst (v := 0) hX (D_Cube_turningsWith (i := 0) rfl) (by decide) ?_
  refine z_istore_n hX (D_Cube_turningsWith (i := 1) rfl) (by decide) rfl ?_
  refine z_iconst (v := 0) hX (D_Cube_turningsWith (i := 2) rfl) (by decide) ?_
  refine z_istore hX (D_Cube_turningsWith (i := 3) rfl) (by decide) rfl ?_
  suffices H : ∀ (d i : Nat), i + d = 24 → zW ι M_Cube_turningsWith X 5 [some (zP 2 k), some (zI (nI w)), some (zI c), some (zI (mkI (twC mem k w c) i)), some (zI (nI i))] [] mem from H 24 0 rfl
  intro d
  induction d with
  | zero =>
    intro i hi
    obtain rfl : i = 24 := by omega
    refine z_iload hX (D_Cube_turningsWith (i := 4) rfl) rfl ?_
    refine z_bipush (v := 24) hX (D_Cube_turningsWith (i := 5) rfl) (by decide) ?_
    refine z_icmp_ge (tgt := 42) hX (D_Cube_turningsWith (i := 6) rfl) (by decide) (fun _ => ?_) (fun hcc => absurd (Int32.le_refl _) hcc)
    refine z_iload_n hX (D_Cube_turningsWith (i := 24) rfl) rfl ?_
    exact z_iret hX hR (D_Cube_turningsWith (i := 25) rfl) rfl (by assumption)
  | succ d ih =>
    intro i hi
    have hi6 : i < 24 := by omega
    have yes : twC mem k w c i = true → zW ι M_Cube_turningsWith X 29 [some (zP 2 k), some (zI (nI w)), some (zI c), some (zI (mkI (twC mem k w c) i)), some (zI (nI i))] [] mem := by
      intro hf
      have e : mkI (twC mem k w c) (i + 1) = mkI (twC mem k w c) i ||| ((1 : Int32) <<< (nI i &&& 31)) := by rw [mkI, if_pos hf]
      refine z_iload_n hX (D_Cube_turningsWith (i := 16) rfl) rfl ?_
      refine z_iconst (v := 1) hX (D_Cube_turningsWith (i := 17) rfl) (by decide) ?_
      refine z_iload hX (D_Cube_turningsWith (i := 18) rfl) rfl ?_
      refine z_ishl hX (D_Cube_turningsWith (i := 19) rfl) ?_
      refine z_ior hX (D_Cube_turningsWith (i := 20) rfl) ?_
      refine z_istore_n hX (D_Cube_turningsWith (i := 21) rfl) (by decide) rfl ?_
      first | refine z_inc1 hX (D_Cube_turningsWith (i := 22) rfl) rfl (by decide) rfl ?_ | refine z_iinc hX (D_Cube_turningsWith (i := 22) rfl) rfl rfl (by decide) rfl ?_
      refine z_goto (tgt := 5) hX (D_Cube_turningsWith (i := 23) rfl) (by decide) ?_
      rw [← e]
      exact ih (i + 1) (by omega)
    refine z_iload hX (D_Cube_turningsWith (i := 4) rfl) rfl ?_
    refine z_bipush (v := 24) hX (D_Cube_turningsWith (i := 5) rfl) (by decide) ?_
    refine z_icmp_ge (tgt := 42) hX (D_Cube_turningsWith (i := 6) rfl) (by decide) (fun hcc => absurd hcc (nI_ge (b := 24) hi6 (by decide))) (fun _ => ?_)
    refine z_iload_n hX (D_Cube_turningsWith (i := 7) rfl) rfl ?_
    refine z_bipush (v := 6) hX (D_Cube_turningsWith (i := 8) rfl) (by decide) ?_
    refine z_icmp_eq (tgt := 29) hX (D_Cube_turningsWith (i := 9) rfl) (by decide) (fun h6 => ?_) (fun h6 => ?_)
    · skip
      exact yes (by unfold twC; rw [decide_eq_true h6]; rfl)
    · refine z_aload_n hX (D_Cube_turningsWith (i := 10) rfl) rfl ?_
      refine z_iload hX (D_Cube_turningsWith (i := 11) rfl) rfl ?_
      refine z_iload_n hX (D_Cube_turningsWith (i := 12) rfl) rfl ?_
      refine z_iload_n hX (D_Cube_turningsWith (i := 13) rfl) rfl ?_
      refine z_cV3 hX (D_Cube_turningsWith (i := 14) rfl) mi_Cube_mayShow l_Cube_42 rfl rfl (by decide) (by first | exact Nat.one_pos | assumption | omega) (by first | decide | omega) (Nat.le_of_ble_eq_true rfl) (c_Cube_mayShow hH hk hi6 hw ?_)
      refine z_if_eq (tgt := 36) hX (D_Cube_turningsWith (i := 15) rfl) (by decide) (fun hc => ?_) (fun hc => ?_)
      · first | refine z_inc1 hX (D_Cube_turningsWith (i := 22) rfl) rfl (by decide) rfl ?_ | refine z_iinc hX (D_Cube_turningsWith (i := 22) rfl) rfl rfl (by decide) rfl ?_
        refine z_goto (tgt := 5) hX (D_Cube_turningsWith (i := 23) rfl) (by decide) ?_
        have e : mkI (twC mem k w c) (i + 1) = mkI (twC mem k w c) i := by
          rw [mkI, if_neg]
          unfold twC; rw [decide_eq_false h6, bI_0.mp hc]; decide
        rw [← e]
        exact ih (i + 1) (by omega)
      · skip
        exact yes (by unfold twC; rw [bI_n.mp hc]; simp)
def ofC (mem : zM) (k f : Nat) (c : Int32) : Bool := decide (mem.1 3 k f = c ∨ mem.1 3 k f = 6)
def crC (mem : zM) (k : Nat) (c : Int32) (i : Nat) : Bool := ofC mem k (edN i) c || ofC mem k (opN (edN i)) c
theorem c_Cube_hasCornerOf {l : Launch} {ι : zE} {mem : zM} {Post : Option zV → zM → Prop} (hH : zHas ι pX) {k : Nat} {c : Int32} (hk : k < 8) (h : Post (some (zI (bI (alI (crC mem k c) 3)))) mem) : zC l ι M_Cube_hasCornerOf 1 [zP 2 k, zI c] mem Post := by
  refine z_enter hH (by decide) (by simp [z_ent, M_Cube_hasCornerOf]) (fun X hXl hX hR => ?_)
  refine z_iconst (v := 0) hX (D_Cube_hasCornerOf (i := 0) rfl) (by decide) ?_
  refine z_istore_n hX (D_Cube_hasCornerOf (i := 1) rfl) (by decide) rfl ?_
  suffices H : ∀ (d i : Nat) (v3 : Option zV), i + d = 3 → (∀ w, w < i → crC mem k c w = true) → zW ι M_Cube_hasCornerOf X 2 [some (zP 2 k), some (zI c), some (zI (nI i)), v3] [] mem from H 3 0 none rfl (fun _ h => absurd h (Nat.not_lt_zero _))
  intro d
  induction d with
  | zero =>
    intro i v3 hi hinv
    obtain rfl : i = 3 := by omega
    refine z_iload_n hX (D_Cube_hasCornerOf (i := 2) rfl) rfl ?_
    refine z_iconst (v := 3) hX (D_Cube_hasCornerOf (i := 3) rfl) (by decide) ?_
    refine z_icmp_ge (tgt := 42) hX (D_Cube_hasCornerOf (i := 4) rfl) (by decide) (fun _ => ?_) (fun hcc => absurd (Int32.le_refl _) hcc)
    refine z_iconst (v := 1) hX (D_Cube_hasCornerOf (i := 24) rfl) (by decide) ?_
    rw [alI_true.mpr hinv] at h
    exact z_zret hX hR (D_Cube_hasCornerOf (i := 25) rfl) rfl (by first | exact Or.inl rfl | exact Or.inr rfl | assumption) (by assumption)
  | succ d ih =>
    intro i v3 hi hinv
    have hi3 : i < 3 := by omega
    have yes : crC mem k c i = true → zW ι M_Cube_hasCornerOf X 36 [some (zP 2 k), some (zI c), some (zI (nI i)), some (zI (nI (edN i)))] [] mem := by
      intro hf
      first | refine z_inc1 hX (D_Cube_hasCornerOf (i := 22) rfl) rfl (by decide) rfl ?_ | refine z_iinc hX (D_Cube_hasCornerOf (i := 22) rfl) rfl rfl (by decide) rfl ?_
      refine z_goto (tgt := 2) hX (D_Cube_hasCornerOf (i := 23) rfl) (by decide) ?_
      exact ih (i + 1) _ (by omega) (fun w hw => if e : w = i then by subst e; exact hf else hinv w (by omega))
    refine z_iload_n hX (D_Cube_hasCornerOf (i := 2) rfl) rfl ?_
    refine z_iconst (v := 3) hX (D_Cube_hasCornerOf (i := 3) rfl) (by decide) ?_
    refine z_icmp_ge (tgt := 42) hX (D_Cube_hasCornerOf (i := 4) rfl) (by decide) (fun hcc => absurd hcc (nI_ge (b := 3) hi3 (by decide))) (fun _ => ?_)
    refine z_iload_n hX (D_Cube_hasCornerOf (i := 5) rfl) rfl ?_
    refine z_cS1 hX (D_Cube_hasCornerOf (i := 6) rfl) ms_Cube_endOf l_Cube_22 (by first | decide | omega) (Nat.le_of_ble_eq_true rfl) (c_Cube_endOf hi3 ?_)
    refine z_istore_n hX (D_Cube_hasCornerOf (i := 7) rfl) (by decide) rfl ?_
    refine z_aload_n hX (D_Cube_hasCornerOf (i := 8) rfl) rfl ?_
    refine z_iload_n hX (D_Cube_hasCornerOf (i := 9) rfl) rfl ?_
    refine z_iload_n hX (D_Cube_hasCornerOf (i := 10) rfl) rfl ?_
    refine z_cV2 hX (D_Cube_hasCornerOf (i := 11) rfl) mi_Cube_mayBe l_Cube_46 rfl rfl (by decide) (by first | exact Nat.one_pos | assumption | omega) (by first | decide | omega) (Nat.le_of_ble_eq_true rfl) (c_Cube_mayBe (f := edN i) hH hk (ed_ok i hi3).1 ?_)
    refine z_if_ne (tgt := 36) hX (D_Cube_hasCornerOf (i := 12) rfl) (by decide) (fun hc => ?_) (fun hc => ?_)
    · skip
      exact yes (by unfold crC ofC; rw [bI_n.mp hc]; rfl)
    · refine z_aload_n hX (D_Cube_hasCornerOf (i := 13) rfl) rfl ?_
      refine z_getsN (p := 90) hX (D_Cube_hasCornerOf (i := 14) rfl) (by decide) (by decide) s_Cube_26 ?_
      refine z_iload_n hX (D_Cube_hasCornerOf (i := 15) rfl) rfl ?_
      refine z_tald (p := 90) (j := edN i) hX (D_Cube_hasCornerOf (i := 16) rfl) (by decide) (by decide) (by decide +kernel) rfl (ed_ok i hi3).1 ?_
      rw [(op_ok _ (ed_ok i hi3).1).1]
      refine z_iload_n hX (D_Cube_hasCornerOf (i := 17) rfl) rfl ?_
      refine z_cV2 hX (D_Cube_hasCornerOf (i := 18) rfl) mi_Cube_mayBe l_Cube_46 rfl rfl (by decide) (by first | exact Nat.one_pos | assumption | omega) (by first | decide | omega) (Nat.le_of_ble_eq_true rfl) (c_Cube_mayBe (f := opN (edN i)) hH hk (ed_ok i hi3).2 ?_)
      refine z_if_ne (tgt := 36) hX (D_Cube_hasCornerOf (i := 19) rfl) (by decide) (fun hc2 => ?_) (fun hc2 => ?_)
      · skip
        exact yes (by unfold crC ofC; rw [bI_n.mp hc2]; simp)
      · refine z_iconst (v := 0) hX (D_Cube_hasCornerOf (i := 20) rfl) (by decide) ?_
        rw [alI_false hi3 (by unfold crC ofC; rw [bI_0.mp hc, bI_0.mp hc2]; rfl)] at h
        exact z_zret hX hR (D_Cube_hasCornerOf (i := 21) rfl) rfl (by first | exact Or.inl rfl | exact Or.inr rfl | assumption) (by assumption)
