/-! shelves -/
def flJ (mem : zM) (p k N : Nat) (v : Int64) : zM := (mem.1, fun a b c => if a = p ∧ b = k ∧ c < N then v else mem.2.1 a b c, mem.2.2)
theorem flJ_0 (mem : zM) (p k : Nat) (v : Int64) : flJ mem p k 0 v = mem := by
  refine Prod.ext rfl (Prod.ext ?_ rfl)
  funext a b c
  show (if a = p ∧ b = k ∧ c < 0 then v else mem.2.1 a b c) = mem.2.1 a b c
  rw [if_neg (by omega)]
theorem flJ_s (mem : zM) (p k i : Nat) (v : Int64) : upJ (flJ mem p k i v) p k i v = flJ mem p k (i + 1) v := by
  refine Prod.ext rfl (Prod.ext ?_ rfl)
  funext a b c
  show (if a = p ∧ b = k ∧ c = i then v else (if a = p ∧ b = k ∧ c < i then v else mem.2.1 a b c)) = if a = p ∧ b = k ∧ c < i + 1 then v else mem.2.1 a b c
  by_cases h : a = p ∧ b = k ∧ c < i + 1
  · rw [if_pos h]
    by_cases h2 : c = i
    · rw [if_pos ⟨h.1, h.2.1, h2⟩]
    · rw [if_neg (fun z => h2 z.2.2), if_pos ⟨h.1, h.2.1, by omega⟩]
  · rw [if_neg h, if_neg (fun z => h ⟨z.1, z.2.1, by omega⟩), if_neg (fun z => h ⟨z.1, z.2.1, by omega⟩)]
section F2
variable {l : Launch} {ι : zE} {mem : zM} {Post : Option zV → zM → Prop} {x y : Int32}
theorem c_fillJ {ps : List Nat} (hH : zHas ι ps) {p k cnt N q0 : Nat} {f0 : Nat → Nat → Nat} {v : Int64} (hsh : zsh p = (cnt, .inr (.long, N, (1, q0, f0)))) (hp : p ∈ ps) (hk : k < cnt) (hN : N < 2 ^ 31) (h : Post none (flJ mem p k N v)) : zC l ι M_Arrays_fill_d0a16 0 [zP p k, zJ v] mem Post := by
  refine z_enter hH (by decide) (by simp [z_ent, M_Arrays_fill_d0a16]) (fun X hXl hX hR => ?_)
  refine z_iconst (v := 0) hX (D_Arrays_fill_d0a16 (i := 0) rfl) (by decide) ?_
  refine z_istore_n hX (D_Arrays_fill_d0a16 (i := 1) rfl) (by decide) rfl ?_
  refine z_aload_n hX (D_Arrays_fill_d0a16 (i := 2) rfl) rfl ?_
  refine z_alen (t0 := 4) (v := nI N) hX (D_Arrays_fill_d0a16 (i := 3) rfl) hsh hp hk rfl rfl ?_
  refine z_istore hX (D_Arrays_fill_d0a16 (i := 4) rfl) (by decide) rfl ?_
  suffices H : ∀ (d i : Nat), i + d = N → zW ι M_Arrays_fill_d0a16 X 6 [some (zP p k), some (zJ v), none, some (zI (nI i)), some (zI (nI N))] [] (flJ mem p k i v) by
    have := H N 0 (by omega)
    rw [flJ_0] at this
    exact this
  intro d
  induction d with
  | zero =>
    intro i hi
    obtain rfl : i = N := by omega
    refine z_iload_n hX (D_Arrays_fill_d0a16 (i := 5) rfl) rfl ?_
    refine z_iload hX (D_Arrays_fill_d0a16 (i := 6) rfl) rfl ?_
    refine z_icmp_ge (tgt := 22) hX (D_Arrays_fill_d0a16 (i := 7) rfl) (by decide) (fun _ => ?_) (fun hc => absurd (nI_le (Nat.le_refl i) hN) hc)
    exact z_ret hX hR (D_Arrays_fill_d0a16 (i := 14) rfl) rfl h
  | succ d ih =>
    intro i hi
    refine z_iload_n hX (D_Arrays_fill_d0a16 (i := 5) rfl) rfl ?_
    refine z_iload hX (D_Arrays_fill_d0a16 (i := 6) rfl) rfl ?_
    refine z_icmp_ge (tgt := 22) hX (D_Arrays_fill_d0a16 (i := 7) rfl) (by decide) (fun hc => absurd hc (nI_ge (by omega) hN)) (fun _ => ?_)
    refine z_aload_n hX (D_Arrays_fill_d0a16 (i := 8) rfl) rfl ?_
    refine z_iload_n hX (D_Arrays_fill_d0a16 (i := 9) rfl) rfl ?_
    refine z_lload_n hX (D_Arrays_fill_d0a16 (i := 10) rfl) rfl ?_
    refine z_last hX (D_Arrays_fill_d0a16 (i := 11) rfl) hsh hp hk hN rfl (by omega) ?_
    rw [flJ_s]
    refine z_inc1 hX (D_Arrays_fill_d0a16 (i := 12) rfl) rfl (by decide) rfl ?_
    refine z_goto (tgt := 6) hX (D_Arrays_fill_d0a16 (i := 13) rfl) (by decide) ?_
    exact ih (i + 1) (by omega)
theorem c_Shelf_isBare (hH : zHas ι pX) {k : Nat} (hk : k < 6) (h : Post (some (zI (bI (decide (mem.1 31 k 0 = 0))))) mem) : zC l ι M_Shelf_isBare 0 [zP 31 k] mem Post := by
  refine z_enter hH (by decide) (by simp [z_ent, M_Shelf_isBare]) (fun X hXl hX hR => ?_)
  refine z_aload_n hX (D_Shelf_isBare (i := 0) rfl) rfl ?_
  refine z_geti hX (D_Shelf_isBare (i := 1) rfl) f_Shelf_11 rfl (by decide) (by first | exact Nat.one_pos | assumption | omega) rfl ?_
  refine z_if_ne (tgt := 11) hX (D_Shelf_isBare (i := 2) rfl) (by decide) (fun h1 => ?_) (fun h1 => ?_)
  · refine z_iconst (v := 0) hX (D_Shelf_isBare (i := 5) rfl) (by decide) ?_
    rw [decide_eq_false h1] at h
    exact z_zret hX hR (D_Shelf_isBare (i := 6) rfl) rfl (by first | exact Or.inl rfl | exact Or.inr rfl | assumption) (by assumption)
  · refine z_iconst (v := 1) hX (D_Shelf_isBare (i := 3) rfl) (by decide) ?_
    refine z_goto (tgt := 12) hX (D_Shelf_isBare (i := 4) rfl) (by decide) ?_
    rw [decide_eq_true h1] at h
    exact z_zret hX hR (D_Shelf_isBare (i := 6) rfl) rfl (by first | exact Or.inl rfl | exact Or.inr rfl | assumption) (by assumption)
theorem c_Shelf_isRow (hH : zHas ι pX) {k : Nat} (hk : k < 6) (h : Post (some (zI (bI (decide (mem.1 31 k 0 = 2))))) mem) : zC l ι M_Shelf_isRow 0 [zP 31 k] mem Post := by
  refine z_enter hH (by decide) (by simp [z_ent, M_Shelf_isRow]) (fun X hXl hX hR => ?_)
  refine z_aload_n hX (D_Shelf_isRow (i := 0) rfl) rfl ?_
  refine z_geti hX (D_Shelf_isRow (i := 1) rfl) f_Shelf_11 rfl (by decide) (by first | exact Nat.one_pos | assumption | omega) rfl ?_
  refine z_iconst (v := 2) hX (D_Shelf_isRow (i := 2) rfl) (by decide) ?_
  refine z_icmp_ne (tgt := 12) hX (D_Shelf_isRow (i := 3) rfl) (by decide) (fun h1 => ?_) (fun h1 => ?_)
  · refine z_iconst (v := 0) hX (D_Shelf_isRow (i := 6) rfl) (by decide) ?_
    rw [decide_eq_false h1] at h
    exact z_zret hX hR (D_Shelf_isRow (i := 7) rfl) rfl (by first | exact Or.inl rfl | exact Or.inr rfl | assumption) (by assumption)
  · refine z_iconst (v := 1) hX (D_Shelf_isRow (i := 4) rfl) (by decide) ?_
    refine z_goto (tgt := 13) hX (D_Shelf_isRow (i := 5) rfl) (by decide) ?_
    rw [decide_eq_true h1] at h
    exact z_zret hX hR (D_Shelf_isRow (i := 7) rfl) rfl (by first | exact Or.inl rfl | exact Or.inr rfl | assumption) (by assumption)
theorem c_Shelf_clear (hH : zHas ι pX) {k : Nat} (hk : k < 6) (h : Post none (upI mem 31 k 0 0)) : zC l ι M_Shelf_clear 0 [zP 31 k] mem Post := by
  refine z_enter hH (by decide) (by simp [z_ent, M_Shelf_clear]) (fun X hXl hX hR => ?_)
  refine z_aload_n hX (D_Shelf_clear (i := 0) rfl) rfl ?_
  refine z_iconst (v := 0) hX (D_Shelf_clear (i := 1) rfl) (by decide) ?_
  refine z_puti hX (D_Shelf_clear (i := 2) rfl) g_Shelf_11 rfl (by decide) (by first | exact Nat.one_pos | assumption | omega) rfl ?_
  exact z_ret hX hR (D_Shelf_clear (i := 3) rfl) rfl (by assumption)
theorem c_Shelf_holdBody (hH : zHas ι pX) {k : Nat} (hk : k < 6) (h : Post none (upI (upI mem 31 k 0 1) 31 k 1 x)) : zC l ι M_Shelf_holdBody 0 [zP 31 k, zI x] mem Post := by
  refine z_enter hH (by decide) (by simp [z_ent, M_Shelf_holdBody]) (fun X hXl hX hR => ?_)
  refine z_aload_n hX (D_Shelf_holdBody (i := 0) rfl) rfl ?_
  refine z_iconst (v := 1) hX (D_Shelf_holdBody (i := 1) rfl) (by decide) ?_
  refine z_puti hX (D_Shelf_holdBody (i := 2) rfl) g_Shelf_11 rfl (by decide) (by first | exact Nat.one_pos | assumption | omega) rfl ?_
  refine z_aload_n hX (D_Shelf_holdBody (i := 3) rfl) rfl ?_
  refine z_iload_n hX (D_Shelf_holdBody (i := 4) rfl) rfl ?_
  refine z_puti hX (D_Shelf_holdBody (i := 5) rfl) g_Shelf_19 rfl (by decide) (by first | exact Nat.one_pos | assumption | omega) rfl ?_
  exact z_ret hX hR (D_Shelf_holdBody (i := 6) rfl) rfl (by assumption)
theorem c_Shelf_holdRow (hH : zHas ι pX) {k : Nat} (hk : k < 6) (h : Post none (flJ (upI (upI (upI mem 31 k 0 2) 31 k 2 x) 31 k 3 y) 32 k 60 0)) : zC l ι M_Shelf_holdRow 1 [zP 31 k, zI x, zI y] mem Post := by
  refine z_enter hH (by decide) (by simp [z_ent, M_Shelf_holdRow]) (fun X hXl hX hR => ?_)
  refine z_aload_n hX (D_Shelf_holdRow (i := 0) rfl) rfl ?_
  refine z_iconst (v := 2) hX (D_Shelf_holdRow (i := 1) rfl) (by decide) ?_
  refine z_puti hX (D_Shelf_holdRow (i := 2) rfl) g_Shelf_11 rfl (by decide) (by first | exact Nat.one_pos | assumption | omega) rfl ?_
  refine z_aload_n hX (D_Shelf_holdRow (i := 3) rfl) rfl ?_
  refine z_iload_n hX (D_Shelf_holdRow (i := 4) rfl) rfl ?_
  refine z_puti hX (D_Shelf_holdRow (i := 5) rfl) g_Shelf_22 rfl (by decide) (by first | exact Nat.one_pos | assumption | omega) rfl ?_
  refine z_aload_n hX (D_Shelf_holdRow (i := 6) rfl) rfl ?_
  refine z_iload_n hX (D_Shelf_holdRow (i := 7) rfl) rfl ?_
  refine z_puti hX (D_Shelf_holdRow (i := 8) rfl) g_Shelf_25 rfl (by decide) (by first | exact Nat.one_pos | assumption | omega) rfl ?_
  refine z_aload_n hX (D_Shelf_holdRow (i := 9) rfl) rfl ?_
  refine z_getc hX (D_Shelf_holdRow (i := 10) rfl) f_Shelf_15 rfl (by decide) (by first | exact Nat.one_pos | assumption | omega) rfl ?_
  refine z_lconst (v := 0) hX (D_Shelf_holdRow (i := 11) rfl) (by decide) ?_
  refine z_cS2 hX (D_Shelf_holdRow (i := 12) rfl) ms_Arrays_fill_d0a16 l_Shelf_28 (by first | decide | omega) (Nat.le_of_ble_eq_true rfl) (c_fillJ hH (p := 32) rfl (by decide) hk (by decide) ?_)
  exact z_ret hX hR (D_Shelf_holdRow (i := 13) rfl) rfl (by assumption)
def snJ (s : Nat) (v : Int64) : Int64 := match s with
  | 0 => v.toInt32.toInt8.toInt32.toInt64
  | 1 => v.toInt32.toInt16.toInt32.toInt64
  | 2 => v.toInt32.toInt64
  | 3 => v
  | _ => if v = 0 then 0 else 1
theorem c_Shelf_store (hH : zHas ι pX) {k i s : Nat} {v : Int64} (hk : k < 6) (hi : i < 60) (hs : mem.1 31 k 2 = nI s) (h5 : s < 5) (h : Post none (upJ mem 32 k i (snJ s v))) : zC l ι M_Shelf_store 0 [zP 31 k, zI (nI i), zJ v] mem Post := by
  refine z_enter hH (by decide) (by simp [z_ent, M_Shelf_store]) (fun X hXl hX hR => ?_)
  refine z_aload_n hX (D_Shelf_store (i := 0) rfl) rfl ?_
  refine z_geti hX (D_Shelf_store (i := 1) rfl) f_Shelf_22 rfl (by decide) (by first | exact Nat.one_pos | assumption | omega) rfl ?_
  rw [hs]
  match s, h5, h with
  | 0, _, h =>
    refine z_tabIn (off := 32) (tgt := 36) hX (D_Shelf_store (i := 2) rfl) (by decide) (by decide) (by decide) (by decide) ?_
    refine z_aload_n hX (D_Shelf_store (i := 3) rfl) rfl ?_
    refine z_getc hX (D_Shelf_store (i := 4) rfl) f_Shelf_15 rfl (by decide) (by first | exact Nat.one_pos | assumption | omega) rfl ?_
    refine z_iload_n hX (D_Shelf_store (i := 5) rfl) rfl ?_
    refine z_lload_n hX (D_Shelf_store (i := 6) rfl) rfl ?_
    refine z_l2i hX (D_Shelf_store (i := 7) rfl) ?_
    refine z_i2b hX (D_Shelf_store (i := 8) rfl) ?_
    refine z_i2l hX (D_Shelf_store (i := 9) rfl) ?_
    refine z_last (j := i) hX (D_Shelf_store (i := 10) rfl) rfl (by decide) (by first | exact Nat.one_pos | assumption | omega) (by decide) rfl hi ?_
    refine z_goto (tgt := 101) hX (D_Shelf_store (i := 11) rfl) (by decide) ?_
    exact z_ret hX hR (D_Shelf_store (i := 46) rfl) rfl (by assumption)
  | 1, _, h =>
    refine z_tabIn (off := 45) (tgt := 49) hX (D_Shelf_store (i := 2) rfl) (by decide) (by decide) (by decide) (by decide) ?_
    refine z_aload_n hX (D_Shelf_store (i := 12) rfl) rfl ?_
    refine z_getc hX (D_Shelf_store (i := 13) rfl) f_Shelf_15 rfl (by decide) (by first | exact Nat.one_pos | assumption | omega) rfl ?_
    refine z_iload_n hX (D_Shelf_store (i := 14) rfl) rfl ?_
    refine z_lload_n hX (D_Shelf_store (i := 15) rfl) rfl ?_
    refine z_l2i hX (D_Shelf_store (i := 16) rfl) ?_
    refine z_i2s hX (D_Shelf_store (i := 17) rfl) ?_
    refine z_i2l hX (D_Shelf_store (i := 18) rfl) ?_
    refine z_last (j := i) hX (D_Shelf_store (i := 19) rfl) rfl (by decide) (by first | exact Nat.one_pos | assumption | omega) (by decide) rfl hi ?_
    refine z_goto (tgt := 101) hX (D_Shelf_store (i := 20) rfl) (by decide) ?_
    exact z_ret hX hR (D_Shelf_store (i := 46) rfl) rfl (by assumption)
  | 2, _, h =>
    refine z_tabIn (off := 58) (tgt := 62) hX (D_Shelf_store (i := 2) rfl) (by decide) (by decide) (by decide) (by decide) ?_
    refine z_aload_n hX (D_Shelf_store (i := 21) rfl) rfl ?_
    refine z_getc hX (D_Shelf_store (i := 22) rfl) f_Shelf_15 rfl (by decide) (by first | exact Nat.one_pos | assumption | omega) rfl ?_
    refine z_iload_n hX (D_Shelf_store (i := 23) rfl) rfl ?_
    refine z_lload_n hX (D_Shelf_store (i := 24) rfl) rfl ?_
    refine z_l2i hX (D_Shelf_store (i := 25) rfl) ?_
    refine z_i2l hX (D_Shelf_store (i := 26) rfl) ?_
    refine z_last (j := i) hX (D_Shelf_store (i := 27) rfl) rfl (by decide) (by first | exact Nat.one_pos | assumption | omega) (by decide) rfl hi ?_
    refine z_goto (tgt := 101) hX (D_Shelf_store (i := 28) rfl) (by decide) ?_
    exact z_ret hX hR (D_Shelf_store (i := 46) rfl) rfl (by assumption)
  | 3, _, h =>
    refine z_tabIn (off := 70) (tgt := 74) hX (D_Shelf_store (i := 2) rfl) (by decide) (by decide) (by decide) (by decide) ?_
    refine z_aload_n hX (D_Shelf_store (i := 29) rfl) rfl ?_
    refine z_getc hX (D_Shelf_store (i := 30) rfl) f_Shelf_15 rfl (by decide) (by first | exact Nat.one_pos | assumption | omega) rfl ?_
    refine z_iload_n hX (D_Shelf_store (i := 31) rfl) rfl ?_
    refine z_lload_n hX (D_Shelf_store (i := 32) rfl) rfl ?_
    refine z_last (j := i) hX (D_Shelf_store (i := 33) rfl) rfl (by decide) (by first | exact Nat.one_pos | assumption | omega) (by decide) rfl hi ?_
    refine z_goto (tgt := 101) hX (D_Shelf_store (i := 34) rfl) (by decide) ?_
    exact z_ret hX hR (D_Shelf_store (i := 46) rfl) rfl (by assumption)
  | 4, _, h =>
    refine z_tabOut (tgt := 84) hX (D_Shelf_store (i := 2) rfl) (by decide) (by decide) ?_
    refine z_aload_n hX (D_Shelf_store (i := 35) rfl) rfl ?_
    refine z_getc hX (D_Shelf_store (i := 36) rfl) f_Shelf_15 rfl (by decide) (by first | exact Nat.one_pos | assumption | omega) rfl ?_
    refine z_iload_n hX (D_Shelf_store (i := 37) rfl) rfl ?_
    refine z_lload_n hX (D_Shelf_store (i := 38) rfl) rfl ?_
    refine z_lconst (v := 0) hX (D_Shelf_store (i := 39) rfl) (by decide) ?_
    refine z_lcmp hX (D_Shelf_store (i := 40) rfl) ?_
    refine z_if_eq (tgt := 99) hX (D_Shelf_store (i := 41) rfl) (by decide) (fun h0 => ?_) (fun h0 => ?_)
    · refine z_lconst (v := 0) hX (D_Shelf_store (i := 44) rfl) (by decide) ?_
      refine z_last (j := i) hX (D_Shelf_store (i := 45) rfl) rfl (by decide) (by first | exact Nat.one_pos | assumption | omega) (by decide) rfl hi ?_
      have e : snJ 4 v = 0 := if_pos ((lg_cmp_eq _ _).mp h0)
      rw [e] at h
      exact z_ret hX hR (D_Shelf_store (i := 46) rfl) rfl (by assumption)
    · refine z_lconst (v := 1) hX (D_Shelf_store (i := 42) rfl) (by decide) ?_
      refine z_goto (tgt := 100) hX (D_Shelf_store (i := 43) rfl) (by decide) ?_
      refine z_last (j := i) hX (D_Shelf_store (i := 45) rfl) rfl (by decide) (by first | exact Nat.one_pos | assumption | omega) (by decide) rfl hi ?_
      have e : snJ 4 v = 1 := if_neg (fun z => h0 ((lg_cmp_eq _ _).mpr z))
      rw [e] at h
      exact z_ret hX hR (D_Shelf_store (i := 46) rfl) rfl (by assumption)
def hsB (L : Nat) (x n : Int32) : Bool := decide (0 ≤ x.toInt ∧ x.toInt ≤ L ∧ 0 ≤ n.toInt ∧ n.toInt ≤ L - x.toInt)
theorem c_Shelf_hasStretch (hH : zHas ι pX) {k L : Nat} (hk : k < 6) (hL : mem.1 31 k 3 = nI L) (h60 : L ≤ 60) (h : Post (some (zI (bI (hsB L x y)))) mem) : zC l ι M_Shelf_hasStretch 0 [zP 31 k, zI x, zI y] mem Post := by
  have n1 : ∀ a b : Int32, a < b ↔ a.toInt < b.toInt := fun a b => Int32.lt_iff_toInt_lt
  refine z_enter hH (by decide) (by simp [z_ent, M_Shelf_hasStretch]) (fun X hXl hX hR => ?_)
  refine z_iload_n hX (D_Shelf_hasStretch (i := 0) rfl) rfl ?_
  refine z_if_lt (tgt := 30) hX (D_Shelf_hasStretch (i := 1) rfl) (by decide) (fun h1 => ?_) (fun h1 => ?_)
  · refine z_iconst (v := 0) hX (D_Shelf_hasStretch (i := 16) rfl) (by decide) ?_
    rw [n1, i32_0] at h1
    rw [show hsB L x y = false from decide_eq_false (by omega)] at h
    exact z_zret hX hR (D_Shelf_hasStretch (i := 17) rfl) rfl (by first | exact Or.inl rfl | exact Or.inr rfl | assumption) (by assumption)
  · skip
    obtain ⟨j, hj, rfl⟩ := nI_of h1
    refine z_iload_n hX (D_Shelf_hasStretch (i := 2) rfl) rfl ?_
    refine z_aload_n hX (D_Shelf_hasStretch (i := 3) rfl) rfl ?_
    refine z_geti hX (D_Shelf_hasStretch (i := 4) rfl) f_Shelf_25 rfl (by decide) (by first | exact Nat.one_pos | assumption | omega) rfl ?_
    rw [hL]
    refine z_icmp_gt (tgt := 30) hX (D_Shelf_hasStretch (i := 5) rfl) (by decide) (fun h2 => ?_) (fun h2 => ?_)
    · refine z_iconst (v := 0) hX (D_Shelf_hasStretch (i := 16) rfl) (by decide) ?_
      rw [n1, nI_toInt (by omega), nI_toInt hj] at h2
      rw [show hsB L (nI j) y = false from decide_eq_false (by rw [nI_toInt hj]; omega)] at h
      exact z_zret hX hR (D_Shelf_hasStretch (i := 17) rfl) rfl (by first | exact Or.inl rfl | exact Or.inr rfl | assumption) (by assumption)
    · refine z_iload_n hX (D_Shelf_hasStretch (i := 6) rfl) rfl ?_
      rw [n1, nI_toInt (by omega), nI_toInt hj] at h2
      refine z_if_lt (tgt := 30) hX (D_Shelf_hasStretch (i := 7) rfl) (by decide) (fun h3 => ?_) (fun h3 => ?_)
      · refine z_iconst (v := 0) hX (D_Shelf_hasStretch (i := 16) rfl) (by decide) ?_
        rw [n1, i32_0] at h3
        rw [show hsB L (nI j) y = false from decide_eq_false (by omega)] at h
        exact z_zret hX hR (D_Shelf_hasStretch (i := 17) rfl) rfl (by first | exact Or.inl rfl | exact Or.inr rfl | assumption) (by assumption)
      · refine z_iload_n hX (D_Shelf_hasStretch (i := 8) rfl) rfl ?_
        refine z_aload_n hX (D_Shelf_hasStretch (i := 9) rfl) rfl ?_
        refine z_geti hX (D_Shelf_hasStretch (i := 10) rfl) f_Shelf_25 rfl (by decide) (by first | exact Nat.one_pos | assumption | omega) rfl ?_
        refine z_iload_n hX (D_Shelf_hasStretch (i := 11) rfl) rfl ?_
        refine z_isub hX (D_Shelf_hasStretch (i := 12) rfl) ?_
        rw [hL, pk_sub (by omega)]
        rw [n1, i32_0] at h3
        refine z_icmp_gt (tgt := 30) hX (D_Shelf_hasStretch (i := 13) rfl) (by decide) (fun h4 => ?_) (fun h4 => ?_)
        · refine z_iconst (v := 0) hX (D_Shelf_hasStretch (i := 16) rfl) (by decide) ?_
          rw [n1, nI_toInt (by omega)] at h4
          rw [show hsB L (nI j) y = false from decide_eq_false (by rw [nI_toInt hj]; omega)] at h
          exact z_zret hX hR (D_Shelf_hasStretch (i := 17) rfl) rfl (by first | exact Or.inl rfl | exact Or.inr rfl | assumption) (by assumption)
        · refine z_iconst (v := 1) hX (D_Shelf_hasStretch (i := 14) rfl) (by decide) ?_
          refine z_goto (tgt := 31) hX (D_Shelf_hasStretch (i := 15) rfl) (by decide) ?_
          rw [n1, nI_toInt (by omega)] at h4
          rw [show hsB L (nI j) y = true from decide_eq_true (by rw [nI_toInt hj]; omega)] at h
          exact z_zret hX hR (D_Shelf_hasStretch (i := 17) rfl) rfl (by first | exact Or.inl rfl | exact Or.inr rfl | assumption) (by assumption)
def elB (mem : zM) (k j i : Nat) : Bool := decide (0 ≤ mem.2.1 32 k (j + i) ∧ mem.2.1 32 k (j + i) ≤ 6)
theorem c_Shelf_hasSixColours (hH : zHas ι pX) {k L : Nat} (hk : k < 6) (hL : mem.1 31 k 3 = nI L) (h60 : L ≤ 60) (h : Post (some (zI (bI (hsB L x 6 && alI (elB mem k x.toInt.toNat) 6)))) mem) : zC l ι M_Shelf_hasSixColours 1 [zP 31 k, zI x] mem Post := by
  refine z_enter hH (by decide) (by simp [z_ent, M_Shelf_hasSixColours]) (fun X hXl hX hR => ?_)
  refine z_aload_n hX (D_Shelf_hasSixColours (i := 0) rfl) rfl ?_
  refine z_iload_n hX (D_Shelf_hasSixColours (i := 1) rfl) rfl ?_
  refine z_bipush (v := 6) hX (D_Shelf_hasSixColours (i := 2) rfl) (by decide) ?_
  refine z_cV2 hX (D_Shelf_hasSixColours (i := 3) rfl) mi_Shelf_hasStretch l_Shelf_34 rfl rfl (by decide) (by first | exact Nat.one_pos | assumption | omega) (by first | decide | omega) (Nat.le_of_ble_eq_true rfl) (c_Shelf_hasStretch hH hk hL h60 ?_)
  refine z_if_ne (tgt := 12) hX (D_Shelf_hasSixColours (i := 4) rfl) (by decide) (fun h1 => ?_) (fun h1 => ?_)
  · skip
    have h2 := of_decide_eq_true (bI_n.mp h1)
    rw [bI_n.mp h1, Bool.true_and] at h
    have e6 : (6 : Int32).toInt = 6 := rfl
    rw [e6] at h2
    obtain ⟨j, hj, rfl⟩ : ∃ j : Nat, j + 6 ≤ L ∧ x = nI j := by
      refine ⟨x.toInt.toNat, by omega, Int32.toInt_inj.mp ?_⟩
      rw [nI_toInt (by omega)]
      omega
    have e7 : (nI j).toInt.toNat = j := by rw [nI_toInt (by omega)]; rfl
    rw [e7] at h
    refine z_iload_n hX (D_Shelf_hasSixColours (i := 7) rfl) rfl ?_
    refine z_istore_n hX (D_Shelf_hasSixColours (i := 8) rfl) (by decide) rfl ?_
    suffices H : ∀ (d i : Nat), i + d = 6 → (∀ w, w < i → elB mem k j w = true) → zW ι M_Shelf_hasSixColours X 14 [some (zP 31 k), some (zI (nI j)), some (zI (nI (j + i)))] [] mem from H 6 0 rfl (fun _ h => absurd h (Nat.not_lt_zero _))
    intro d
    induction d with
    | zero =>
      intro i hi hinv
      obtain rfl : i = 6 := by omega
      refine z_iload_n hX (D_Shelf_hasSixColours (i := 9) rfl) rfl ?_
      refine z_iload_n hX (D_Shelf_hasSixColours (i := 10) rfl) rfl ?_
      refine z_bipush (v := 6) hX (D_Shelf_hasSixColours (i := 11) rfl) (by decide) ?_
      refine z_iadd hX (D_Shelf_hasSixColours (i := 12) rfl) ?_
      rw [nlit, nI_add]
      refine z_icmp_ge (tgt := 54) hX (D_Shelf_hasSixColours (i := 13) rfl) (by decide) (fun _ => ?_) (fun hcc => absurd (Int32.le_refl _) hcc)
      refine z_iconst (v := 1) hX (D_Shelf_hasSixColours (i := 32) rfl) (by decide) ?_
      rw [alI_true.mpr hinv] at h
      exact z_zret hX hR (D_Shelf_hasSixColours (i := 33) rfl) rfl (by first | exact Or.inl rfl | exact Or.inr rfl | assumption) (by assumption)
    | succ d ih =>
      intro i hi hinv
      refine z_iload_n hX (D_Shelf_hasSixColours (i := 9) rfl) rfl ?_
      refine z_iload_n hX (D_Shelf_hasSixColours (i := 10) rfl) rfl ?_
      refine z_bipush (v := 6) hX (D_Shelf_hasSixColours (i := 11) rfl) (by decide) ?_
      refine z_iadd hX (D_Shelf_hasSixColours (i := 12) rfl) ?_
      rw [nlit, nI_add]
      refine z_icmp_ge (tgt := 54) hX (D_Shelf_hasSixColours (i := 13) rfl) (by decide) (fun hcc => absurd hcc (nI_ge (by omega) (by omega))) (fun _ => ?_)
      refine z_aload_n hX (D_Shelf_hasSixColours (i := 14) rfl) rfl ?_
      refine z_getc hX (D_Shelf_hasSixColours (i := 15) rfl) f_Shelf_15 rfl (by decide) (by first | exact Nat.one_pos | assumption | omega) rfl ?_
      refine z_iload_n hX (D_Shelf_hasSixColours (i := 16) rfl) rfl ?_
      refine z_lald (j := j + i) hX (D_Shelf_hasSixColours (i := 17) rfl) rfl (by decide) (by first | exact Nat.one_pos | assumption | omega) (by decide) rfl (by omega) ?_
      refine z_lconst (v := 0) hX (D_Shelf_hasSixColours (i := 18) rfl) (by decide) ?_
      refine z_lcmp hX (D_Shelf_hasSixColours (i := 19) rfl) ?_
      refine z_if_lt (tgt := 46) hX (D_Shelf_hasSixColours (i := 20) rfl) (by decide) (fun h3 => ?_) (fun h3 => ?_)
      · refine z_iconst (v := 0) hX (D_Shelf_hasSixColours (i := 28) rfl) (by decide) ?_
        rw [alI_false (k := i) (by omega) (decide_eq_false (fun z => by
          have a1 := Int64.lt_iff_toInt_lt.mp ((lg_cmp_lt _ _).mp h3)
          have a2 := Int64.le_iff_toInt_le.mp z.1
          omega))] at h
        exact z_zret hX hR (D_Shelf_hasSixColours (i := 29) rfl) rfl (by first | exact Or.inl rfl | exact Or.inr rfl | assumption) (by assumption)
      · refine z_aload_n hX (D_Shelf_hasSixColours (i := 21) rfl) rfl ?_
        refine z_getc hX (D_Shelf_hasSixColours (i := 22) rfl) f_Shelf_15 rfl (by decide) (by first | exact Nat.one_pos | assumption | omega) rfl ?_
        refine z_iload_n hX (D_Shelf_hasSixColours (i := 23) rfl) rfl ?_
        refine z_lald (j := j + i) hX (D_Shelf_hasSixColours (i := 24) rfl) rfl (by decide) (by first | exact Nat.one_pos | assumption | omega) (by decide) rfl (by omega) ?_
        refine z_ldc2 (v := 6) hX (D_Shelf_hasSixColours (i := 25) rfl) k_Shelf_38 ?_
        refine z_lcmp hX (D_Shelf_hasSixColours (i := 26) rfl) ?_
        refine z_if_le (tgt := 48) hX (D_Shelf_hasSixColours (i := 27) rfl) (by decide) (fun h4 => ?_) (fun h4 => ?_)
        · first | refine z_inc1 hX (D_Shelf_hasSixColours (i := 30) rfl) rfl (by decide) rfl ?_ | refine z_iinc hX (D_Shelf_hasSixColours (i := 30) rfl) rfl rfl (by decide) rfl ?_
          refine z_goto (tgt := 14) hX (D_Shelf_hasSixColours (i := 31) rfl) (by decide) ?_
          refine ih (i + 1) (by omega) (fun w hw => if e : w = i then ?_ else hinv w (by omega))
          subst e
          refine decide_eq_true ⟨?_, (lg_cmp_le _ _).mp h4⟩
          have a1 := fun z => h3 ((lg_cmp_lt _ _).mpr (Int64.lt_iff_toInt_lt.mpr z))
          exact Int64.le_iff_toInt_le.mpr (Int.not_lt.mp a1)
        · refine z_iconst (v := 0) hX (D_Shelf_hasSixColours (i := 28) rfl) (by decide) ?_
          rw [alI_false (k := i) (by omega) (decide_eq_false (fun z => h4 ((lg_cmp_le _ _).mpr z.2)))] at h
          exact z_zret hX hR (D_Shelf_hasSixColours (i := 29) rfl) rfl (by first | exact Or.inl rfl | exact Or.inr rfl | assumption) (by assumption)
  · refine z_iconst (v := 0) hX (D_Shelf_hasSixColours (i := 5) rfl) (by decide) ?_
    rw [bI_0.mp h1, Bool.false_and] at h
    exact z_zret hX hR (D_Shelf_hasSixColours (i := 6) rfl) rfl (by first | exact Or.inl rfl | exact Or.inr rfl | assumption) (by assumption)
end F2
