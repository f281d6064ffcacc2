/-! bodies and acts -/
def fndL : List (List (Nat × Nat)) := [[(1, 0), (10, 0), (11, 0), (2, 0)], [(20, 1), (10, 0), (11, 0), (2, 0)], [(1, 0), (30, 2), (11, 0), (2, 0)], [(1, 0), (41, 3), (40, 3), (2, 0)], [(20, 1), (10, 0), (11, 0), (50, 4)], [(20, 1), (10, 0), (60, 5), (61, 5)], [(70, 6), (10, 0), (11, 0), (2, 0)], [(81, 7), (80, 7), (11, 0), (2, 0)]]
def fnd (k d : Nat) : Nat × Nat := (fndL.getD k []).getD d (0, 0)
def abN (a : Nat) : Nat := (zstf 94 a).toNatClampNeg
def owN (a d : Nat) : Nat := (zstf 95 (4 * a + d)).toNatClampNeg
def depK (a : Nat) : Nat := [0, 1, 1, 2, 2, 3, 1, 2].getD a 0
theorem own_ok : ∀ a, a < 8 → ∀ d, d < 4 → zstf 95 (4 * a + d) = nI (owN a d) ∧ (owN a d = 0 ∨ fnd a d = (owN a d, a)) ∧ (¬ owN a d = 0 ∨ (fnd a d = fnd (abN a) d ∧ zstf 94 a = nI (abN a) ∧ abN a < 8 ∧ depK a = depK (abN a) + 1)) := by decide +kernel
def vpL : List (Nat × Nat) := [(1, 0), (2, 0), (10, 0), (11, 0), (20, 1), (30, 2), (40, 3), (41, 3), (50, 4), (60, 5), (61, 5), (70, 6), (80, 7), (81, 7)]
theorem fnd_vp : ∀ k, k < 8 → ∀ d, d < 4 → fnd k d ∈ vpL ∧ depK k ≤ 3 := by decide +kernel
theorem vp_ok : ∀ q ∈ vpL, q.1 < 100 ∧ q.2 < 8 ∧ ∀ a, a < 8 → ∃ y, zstf 94 a = y := by
  intro q hq
  refine ⟨?_, ?_, fun a _ => ⟨_, rfl⟩⟩
  · revert q; decide
  · revert q; decide
def rnP : Nat → Nat → Int32 → Nat → Nat → Int32 → Int32 × List Int32
  | 0, _, _, _, _, _ => (0, [])
  | n + 1, κ, s, f, a, x => match f with
    | 1 => (x + s, [1])
    | 2 => ((rnP n κ s (fnd κ 1).1 (fnd κ 1).2 x).1 - (rnP n κ s (fnd κ 2).1 (fnd κ 2).2 1).1, 2 :: ((rnP n κ s (fnd κ 1).1 (fnd κ 1).2 x).2 ++ (rnP n κ s (fnd κ 2).1 (fnd κ 2).2 1).2))
    | 10 => ((rnP n κ s (fnd κ 0).1 (fnd κ 0).2 x).1 * 2, 10 :: (rnP n κ s (fnd κ 0).1 (fnd κ 0).2 x).2)
    | 11 => (x ^^^ s, [11])
    | 20 => ((rnP n κ s (fnd 0 0).1 (fnd 0 0).2 x).1 + 3, 20 :: (rnP n κ s (fnd 0 0).1 (fnd 0 0).2 x).2)
    | 30 => (-(rnP n κ s (fnd 0 1).1 (fnd 0 1).2 x).1, 30 :: (rnP n κ s (fnd 0 1).1 (fnd 0 1).2 x).2)
    | 40 => ((rnP n κ s (fnd 2 2).1 (fnd 2 2).2 x).1 * 3, 40 :: (rnP n κ s (fnd 2 2).1 (fnd 2 2).2 x).2)
    | 41 => ((rnP n κ s (fnd 2 1).1 (fnd 2 1).2 (x + 1)).1, 41 :: (rnP n κ s (fnd 2 1).1 (fnd 2 1).2 (x + 1)).2)
    | 50 => ((rnP n κ s (fnd 1 3).1 (fnd 1 3).2 x).1 ^^^ 5, 50 :: (rnP n κ s (fnd 1 3).1 (fnd 1 3).2 x).2)
    | 60 => ((rnP n κ s (fnd 4 2).1 (fnd 4 2).2 x).1 - (rnP n κ s (fnd κ 0).1 (fnd κ 0).2 2).1, 60 :: ((rnP n κ s (fnd 4 2).1 (fnd 4 2).2 x).2 ++ (rnP n κ s (fnd κ 0).1 (fnd κ 0).2 2).2))
    | 61 => ((rnP n κ s (fnd 4 3).1 (fnd 4 3).2 x).1 + 1, 61 :: (rnP n κ s (fnd 4 3).1 (fnd 4 3).2 x).2)
    | 70 => ((rnP n κ s (fnd 0 0).1 (fnd 0 0).2 x).1 * 2, 70 :: (rnP n κ s (fnd 0 0).1 (fnd 0 0).2 x).2)
    | 80 => ((rnP n κ s (fnd 6 1).1 (fnd 6 1).2 x).1 + (rnP n κ s (fnd κ 2).1 (fnd κ 2).2 2).1, 80 :: ((rnP n κ s (fnd 6 1).1 (fnd 6 1).2 x).2 ++ (rnP n κ s (fnd κ 2).1 (fnd κ 2).2 2).2))
    | 81 => ((rnP n κ s (fnd 6 0).1 (fnd 6 0).2 x).1 - 1, 81 :: (rnP n κ s (fnd 6 0).1 (fnd 6 0).2 x).2)
    | _ => (0, [])
abbrev rfP (n κ : Nat) (s : Int32) (k d : Nat) (x : Int32) : Int32 × List Int32 := rnP n κ s (fnd k d).1 (fnd k d).2 x
def aT (mem : zM) (r : Nat) (b : Int32) : zM := upI (if r < 24 then upI mem 29 0 r b else mem) 27 0 3 (nI (r + 1))
def trM : zM → Nat → List Int32 → zM
  | mem, _, [] => mem
  | mem, r, b :: t => trM (aT mem r b) (r + 1) t
theorem trM_app : ∀ (mem : zM) (r : Nat) (a b : List Int32), trM mem r (a ++ b) = trM (trM mem r a) (r + a.length) b
  | mem, r, [], b => rfl
  | mem, r, x :: a, b => by
    show trM (aT mem r x) (r + 1) (a ++ b) = trM (trM (aT mem r x) (r + 1) a) (r + (a.length + 1)) b
    rw [trM_app, show r + (a.length + 1) = r + 1 + a.length by omega]
def BodyOK (mem : zM) (s κ r : Nat) : Prop := mem.1 27 0 4 = nI s ∧ s < 50 ∧ mem.1 28 0 s = nI κ ∧ κ < 8 ∧ mem.1 27 0 3 = nI r
theorem BodyOK.aT {mem : zM} {s κ r : Nat} (b : Int32) (h : BodyOK mem s κ r) : BodyOK (aT mem r b) s κ (r + 1) := by
  obtain ⟨h1, h2, h3, h4, h5⟩ := h
  show BodyOK (upI (if r < 24 then upI mem 29 0 r b else mem) 27 0 3 (nI (r + 1))) s κ (r + 1)
  refine ⟨?_, h2, ?_, h4, ?_⟩
  · split
    · simp [upI_get, h1]
    · simp [upI_get, h1]
  · split
    · simp [upI_get, h3]
    · simp [upI_get, h3]
  · simp [upI_get]
theorem BodyOK.tr {s κ : Nat} : ∀ (bs : List Int32) {mem : zM} {r : Nat}, BodyOK mem s κ r → BodyOK (trM mem r bs) s κ (r + bs.length)
  | [], mem, r, h => h
  | b :: t, mem, r, h => by
    have := BodyOK.tr t (h.aT b)
    rw [show r + 1 + t.length = r + (b :: t).length by simp; omega] at this
    exact this
section F3
variable {l : Launch} {ι : zE}
theorem c_Bodies_run_step (hH : zHas ι pX) (n : Nat)
    (ihF : ∀ {mem : zM} {Post : Option zV → zM → Prop} {k d : Nat} {x : Int32} {dp s κ r : Nat}, k < 8 → d < 4 → dp + n = 20 → BodyOK mem s κ r → r + (rfP n κ (nI s) k d x).2.length < 1000000 → Post (some (zI (rfP n κ (nI s) k d x).1)) (trM mem r (rfP n κ (nI s) k d x).2) → zC l ι M_Bodies_runFrom (2 * n + 1) [zP 27 0, zI (nI k), zI (nI d), zI x, zI (nI dp)] mem Post)
    {mem : zM} {Post : Option zV → zM → Prop} {f a : Nat} {x : Int32} {dp s κ r : Nat} (hv : (f, a) ∈ vpL) (hdp : dp + (n + 1) = 20) (hB : BodyOK mem s κ r) (hlen : r + (rnP (n + 1) κ (nI s) f a x).2.length < 1000000) (h : Post (some (zI (rnP (n + 1) κ (nI s) f a x).1)) (trM mem r (rnP (n + 1) κ (nI s) f a x).2)) : zC l ι M_Bodies_run (2 * n + 2) [zP 27 0, zI (nI f), zI (nI a), zI x, zI (nI dp)] mem Post := by
  have hva := (vp_ok _ hv).2.1
  refine z_enter hH (by decide) (by simp [z_ent, M_Bodies_run]) (fun X hXl hX hR => ?_)
  subst hXl
  refine z_iload hX (D_Bodies_run (i := 0) rfl) rfl ?_
  refine z_bipush (v := 20) hX (D_Bodies_run (i := 1) rfl) (by decide) ?_
  refine z_icmp_lt (tgt := 9) hX (D_Bodies_run (i := 2) rfl) (by decide) (fun _ => ?_) (fun hcc => absurd (nI_lt (b := 20) (by omega) (by decide)) hcc)
  refine z_aload_n hX (D_Bodies_run (i := 5) rfl) rfl ?_
  refine z_geti hX (D_Bodies_run (i := 6) rfl) f_Bodies_25 rfl (by decide) (by first | exact Nat.one_pos | assumption | omega) rfl ?_
  refine z_bipush (v := 24) hX (D_Bodies_run (i := 7) rfl) (by decide) ?_
  rw [hB.2.2.2.2]
  have hB1 := hB.aT (nI f)
  have main : zW ι M_Bodies_run X 28 [some (zP 27 0), some (zI (nI f)), some (zI (nI a)), some (zI x), some (zI (nI dp)), none, none, none] [] (if r < 24 then upI mem 29 0 r (nI f) else mem) := by
    refine z_aload_n hX (D_Bodies_run (i := 15) rfl) rfl ?_
    refine z_dupP hX (D_Bodies_run (i := 16) rfl) ?_
    refine z_geti hX (D_Bodies_run (i := 17) rfl) f_Bodies_25 rfl (by decide) (by first | exact Nat.one_pos | assumption | omega) rfl ?_
    refine z_iconst (v := 1) hX (D_Bodies_run (i := 18) rfl) (by decide) ?_
    have e : (if r < 24 then upI mem 29 0 r (nI f) else mem).1 27 0 3 = nI r := by
      split
      · simp [upI_get, hB.2.2.2.2]
      · exact hB.2.2.2.2
    rw [e]
    refine z_iadd hX (D_Bodies_run (i := 19) rfl) ?_
    rw [nI_1]
    refine z_puti hX (D_Bodies_run (i := 20) rfl) g_Bodies_25 rfl (by decide) (by first | exact Nat.one_pos | assumption | omega) rfl ?_
    refine z_aload_n hX (D_Bodies_run (i := 21) rfl) rfl ?_
    refine z_getc hX (D_Bodies_run (i := 22) rfl) f_Bodies_11 rfl (by decide) (by first | exact Nat.one_pos | assumption | omega) rfl ?_
    refine z_aload_n hX (D_Bodies_run (i := 23) rfl) rfl ?_
    refine z_geti hX (D_Bodies_run (i := 24) rfl) f_Bodies_34 rfl (by decide) (by first | exact Nat.one_pos | assumption | omega) rfl ?_
    have e2 : (upI (if r < 24 then upI mem 29 0 r (nI f) else mem) 27 0 3 (nI (r + 1))) = aT mem r (nI f) := rfl
    rw [e2, hB1.1]
    refine z_iald (j := s) hX (D_Bodies_run (i := 25) rfl) rfl (by decide) (by first | exact Nat.one_pos | assumption | omega) (by decide) rfl hB.2.1 ?_
    rw [hB1.2.2.1]
    refine z_istore hX (D_Bodies_run (i := 26) rfl) (by decide) rfl ?_
    refine z_gets (p := 94) hX (D_Bodies_run (i := 27) rfl) (by decide) (by decide) s_Bodies_22 ?_
    refine z_iload_n hX (D_Bodies_run (i := 28) rfl) rfl ?_
    refine z_tald (p := 94) (j := a) hX (D_Bodies_run (i := 29) rfl) (by decide) (by decide) (by decide +kernel) rfl hva ?_
    refine z_istore hX (D_Bodies_run (i := 30) rfl) (by decide) rfl ?_
    refine z_iload hX (D_Bodies_run (i := 31) rfl) rfl ?_
    refine z_iconst (v := 1) hX (D_Bodies_run (i := 32) rfl) (by decide) ?_
    refine z_iadd hX (D_Bodies_run (i := 33) rfl) ?_
    rw [nI_1]
    refine z_istore hX (D_Bodies_run (i := 34) rfl) (by decide) rfl ?_
    refine z_iload_n hX (D_Bodies_run (i := 35) rfl) rfl ?_
    simp only [vpL, List.mem_cons, Prod.mk.injEq, List.not_mem_nil, or_false] at hv
    rcases hv with ⟨rfl, rfl⟩ | ⟨rfl, rfl⟩ | ⟨rfl, rfl⟩ | ⟨rfl, rfl⟩ | ⟨rfl, rfl⟩ | ⟨rfl, rfl⟩ | ⟨rfl, rfl⟩ | ⟨rfl, rfl⟩ | ⟨rfl, rfl⟩ | ⟨rfl, rfl⟩ | ⟨rfl, rfl⟩ | ⟨rfl, rfl⟩ | ⟨rfl, rfl⟩ | ⟨rfl, rfl⟩
    · refine z_lookup (off := 121) (tgt := 184) hX (D_Bodies_run (i := 36) rfl) (by decide) (by decide) (by decide) ?_
      refine z_iload_n hX (D_Bodies_run (i := 37) rfl) rfl ?_
      refine z_aload_n hX (D_Bodies_run (i := 38) rfl) rfl ?_
      refine z_geti hX (D_Bodies_run (i := 39) rfl) f_Bodies_34 rfl (by decide) (by first | exact Nat.one_pos | assumption | omega) rfl ?_
      refine z_iadd hX (D_Bodies_run (i := 40) rfl) ?_
      rw [hB1.1]
      exact z_iret hX hR (D_Bodies_run (i := 41) rfl) rfl (by assumption)
    · refine z_lookup (off := 128) (tgt := 191) hX (D_Bodies_run (i := 36) rfl) (by decide) (by decide) (by decide) ?_
      refine z_aload_n hX (D_Bodies_run (i := 42) rfl) rfl ?_
      refine z_iload hX (D_Bodies_run (i := 43) rfl) rfl ?_
      refine z_iconst (v := 1) hX (D_Bodies_run (i := 44) rfl) (by decide) ?_
      refine z_iload_n hX (D_Bodies_run (i := 45) rfl) rfl ?_
      refine z_iload hX (D_Bodies_run (i := 46) rfl) rfl ?_
      refine z_cV4 hX (D_Bodies_run (i := 47) rfl) mi_Bodies_runFrom l_Bodies_37 rfl rfl (by decide) (by first | exact Nat.one_pos | assumption | omega) (by first | decide | omega) (Nat.le_of_ble_eq_true rfl) (ihF (k := κ) (d := 1) (x := x) (dp := dp + 1) hB.2.2.2.1 (by decide) (by omega) hB1 (by simp only [rnP, rfP, List.length_cons, List.length_append] at hlen ⊢; omega) ?_)
      have hB2 := BodyOK.tr (rfP n κ (nI s) κ 1 x).2 hB1
      refine z_aload_n hX (D_Bodies_run (i := 48) rfl) rfl ?_
      refine z_iload hX (D_Bodies_run (i := 49) rfl) rfl ?_
      refine z_iconst (v := 2) hX (D_Bodies_run (i := 50) rfl) (by decide) ?_
      refine z_iconst (v := 1) hX (D_Bodies_run (i := 51) rfl) (by decide) ?_
      refine z_iload hX (D_Bodies_run (i := 52) rfl) rfl ?_
      refine z_cV4 hX (D_Bodies_run (i := 53) rfl) mi_Bodies_runFrom l_Bodies_37 rfl rfl (by decide) (by first | exact Nat.one_pos | assumption | omega) (by first | decide | omega) (Nat.le_of_ble_eq_true rfl) (ihF (k := κ) (d := 2) (x := 1) (dp := dp + 1) hB.2.2.2.1 (by decide) (by omega) hB2 (by simp only [rnP, rfP, List.length_cons, List.length_append] at hlen ⊢; omega) ?_)
      refine z_isub hX (D_Bodies_run (i := 54) rfl) ?_
      rw [← trM_app]
      exact z_iret hX hR (D_Bodies_run (i := 55) rfl) rfl (by assumption)
    · refine z_lookup (off := 150) (tgt := 213) hX (D_Bodies_run (i := 36) rfl) (by decide) (by decide) (by decide) ?_
      refine z_aload_n hX (D_Bodies_run (i := 56) rfl) rfl ?_
      refine z_iload hX (D_Bodies_run (i := 57) rfl) rfl ?_
      refine z_iconst (v := 0) hX (D_Bodies_run (i := 58) rfl) (by decide) ?_
      refine z_iload_n hX (D_Bodies_run (i := 59) rfl) rfl ?_
      refine z_iload hX (D_Bodies_run (i := 60) rfl) rfl ?_
      refine z_cV4 hX (D_Bodies_run (i := 61) rfl) mi_Bodies_runFrom l_Bodies_37 rfl rfl (by decide) (by first | exact Nat.one_pos | assumption | omega) (by first | decide | omega) (Nat.le_of_ble_eq_true rfl) (ihF (k := κ) (d := 0) (x := x) (dp := dp + 1) hB.2.2.2.1 (by decide) (by omega) hB1 (by simp only [rnP, rfP, List.length_cons, List.length_append] at hlen ⊢; omega) ?_)
      refine z_iconst (v := 2) hX (D_Bodies_run (i := 62) rfl) (by decide) ?_
      refine z_imul hX (D_Bodies_run (i := 63) rfl) ?_
      exact z_iret hX hR (D_Bodies_run (i := 64) rfl) rfl (by assumption)
    · refine z_lookup (off := 163) (tgt := 226) hX (D_Bodies_run (i := 36) rfl) (by decide) (by decide) (by decide) ?_
      refine z_iload_n hX (D_Bodies_run (i := 65) rfl) rfl ?_
      refine z_aload_n hX (D_Bodies_run (i := 66) rfl) rfl ?_
      refine z_geti hX (D_Bodies_run (i := 67) rfl) f_Bodies_34 rfl (by decide) (by first | exact Nat.one_pos | assumption | omega) rfl ?_
      refine z_ixor hX (D_Bodies_run (i := 68) rfl) ?_
      rw [hB1.1]
      exact z_iret hX hR (D_Bodies_run (i := 69) rfl) rfl (by assumption)
    · refine z_lookup (off := 170) (tgt := 233) hX (D_Bodies_run (i := 36) rfl) (by decide) (by decide) (by decide) ?_
      refine z_aload_n hX (D_Bodies_run (i := 70) rfl) rfl ?_
      refine z_iload hX (D_Bodies_run (i := 71) rfl) rfl ?_
      refine z_iconst (v := 0) hX (D_Bodies_run (i := 72) rfl) (by decide) ?_
      refine z_iload_n hX (D_Bodies_run (i := 73) rfl) rfl ?_
      refine z_iload hX (D_Bodies_run (i := 74) rfl) rfl ?_
      refine z_cV4 hX (D_Bodies_run (i := 75) rfl) mi_Bodies_runFrom l_Bodies_37 rfl rfl (by decide) (by first | exact Nat.one_pos | assumption | omega) (by first | decide | omega) (Nat.le_of_ble_eq_true rfl) (ihF (k := 0) (d := 0) (x := x) (dp := dp + 1) (by decide) (by decide) (by omega) hB1 (by simp only [rnP, rfP, List.length_cons, List.length_append] at hlen ⊢; omega) ?_)
      refine z_iconst (v := 3) hX (D_Bodies_run (i := 76) rfl) (by decide) ?_
      refine z_iadd hX (D_Bodies_run (i := 77) rfl) ?_
      exact z_iret hX hR (D_Bodies_run (i := 78) rfl) rfl (by assumption)
    · refine z_lookup (off := 183) (tgt := 246) hX (D_Bodies_run (i := 36) rfl) (by decide) (by decide) (by decide) ?_
      refine z_aload_n hX (D_Bodies_run (i := 79) rfl) rfl ?_
      refine z_iload hX (D_Bodies_run (i := 80) rfl) rfl ?_
      refine z_iconst (v := 1) hX (D_Bodies_run (i := 81) rfl) (by decide) ?_
      refine z_iload_n hX (D_Bodies_run (i := 82) rfl) rfl ?_
      refine z_iload hX (D_Bodies_run (i := 83) rfl) rfl ?_
      refine z_cV4 hX (D_Bodies_run (i := 84) rfl) mi_Bodies_runFrom l_Bodies_37 rfl rfl (by decide) (by first | exact Nat.one_pos | assumption | omega) (by first | decide | omega) (Nat.le_of_ble_eq_true rfl) (ihF (k := 0) (d := 1) (x := x) (dp := dp + 1) (by decide) (by decide) (by omega) hB1 (by simp only [rnP, rfP, List.length_cons, List.length_append] at hlen ⊢; omega) ?_)
      refine z_ineg hX (D_Bodies_run (i := 85) rfl) ?_
      exact z_iret hX hR (D_Bodies_run (i := 86) rfl) rfl (by assumption)
    · refine z_lookup (off := 195) (tgt := 258) hX (D_Bodies_run (i := 36) rfl) (by decide) (by decide) (by decide) ?_
      refine z_aload_n hX (D_Bodies_run (i := 87) rfl) rfl ?_
      refine z_iload hX (D_Bodies_run (i := 88) rfl) rfl ?_
      refine z_iconst (v := 2) hX (D_Bodies_run (i := 89) rfl) (by decide) ?_
      refine z_iload_n hX (D_Bodies_run (i := 90) rfl) rfl ?_
      refine z_iload hX (D_Bodies_run (i := 91) rfl) rfl ?_
      refine z_cV4 hX (D_Bodies_run (i := 92) rfl) mi_Bodies_runFrom l_Bodies_37 rfl rfl (by decide) (by first | exact Nat.one_pos | assumption | omega) (by first | decide | omega) (Nat.le_of_ble_eq_true rfl) (ihF (k := 2) (d := 2) (x := x) (dp := dp + 1) (by decide) (by decide) (by omega) hB1 (by simp only [rnP, rfP, List.length_cons, List.length_append] at hlen ⊢; omega) ?_)
      refine z_iconst (v := 3) hX (D_Bodies_run (i := 93) rfl) (by decide) ?_
      refine z_imul hX (D_Bodies_run (i := 94) rfl) ?_
      exact z_iret hX hR (D_Bodies_run (i := 95) rfl) rfl (by assumption)
    · refine z_lookup (off := 208) (tgt := 271) hX (D_Bodies_run (i := 36) rfl) (by decide) (by decide) (by decide) ?_
      refine z_aload_n hX (D_Bodies_run (i := 96) rfl) rfl ?_
      refine z_iload hX (D_Bodies_run (i := 97) rfl) rfl ?_
      refine z_iconst (v := 1) hX (D_Bodies_run (i := 98) rfl) (by decide) ?_
      refine z_iload_n hX (D_Bodies_run (i := 99) rfl) rfl ?_
      refine z_iconst (v := 1) hX (D_Bodies_run (i := 100) rfl) (by decide) ?_
      refine z_iadd hX (D_Bodies_run (i := 101) rfl) ?_
      refine z_iload hX (D_Bodies_run (i := 102) rfl) rfl ?_
      refine z_cV4 hX (D_Bodies_run (i := 103) rfl) mi_Bodies_runFrom l_Bodies_37 rfl rfl (by decide) (by first | exact Nat.one_pos | assumption | omega) (by first | decide | omega) (Nat.le_of_ble_eq_true rfl) (ihF (k := 2) (d := 1) (x := (x + 1)) (dp := dp + 1) (by decide) (by decide) (by omega) hB1 (by simp only [rnP, rfP, List.length_cons, List.length_append] at hlen ⊢; omega) ?_)
      exact z_iret hX hR (D_Bodies_run (i := 104) rfl) rfl (by assumption)
    · refine z_lookup (off := 221) (tgt := 284) hX (D_Bodies_run (i := 36) rfl) (by decide) (by decide) (by decide) ?_
      refine z_aload_n hX (D_Bodies_run (i := 105) rfl) rfl ?_
      refine z_iload hX (D_Bodies_run (i := 106) rfl) rfl ?_
      refine z_iconst (v := 3) hX (D_Bodies_run (i := 107) rfl) (by decide) ?_
      refine z_iload_n hX (D_Bodies_run (i := 108) rfl) rfl ?_
      refine z_iload hX (D_Bodies_run (i := 109) rfl) rfl ?_
      refine z_cV4 hX (D_Bodies_run (i := 110) rfl) mi_Bodies_runFrom l_Bodies_37 rfl rfl (by decide) (by first | exact Nat.one_pos | assumption | omega) (by first | decide | omega) (Nat.le_of_ble_eq_true rfl) (ihF (k := 1) (d := 3) (x := x) (dp := dp + 1) (by decide) (by decide) (by omega) hB1 (by simp only [rnP, rfP, List.length_cons, List.length_append] at hlen ⊢; omega) ?_)
      refine z_iconst (v := 5) hX (D_Bodies_run (i := 111) rfl) (by decide) ?_
      refine z_ixor hX (D_Bodies_run (i := 112) rfl) ?_
      exact z_iret hX hR (D_Bodies_run (i := 113) rfl) rfl (by assumption)
    · refine z_lookup (off := 234) (tgt := 297) hX (D_Bodies_run (i := 36) rfl) (by decide) (by decide) (by decide) ?_
      refine z_aload_n hX (D_Bodies_run (i := 114) rfl) rfl ?_
      refine z_iload hX (D_Bodies_run (i := 115) rfl) rfl ?_
      refine z_iconst (v := 2) hX (D_Bodies_run (i := 116) rfl) (by decide) ?_
      refine z_iload_n hX (D_Bodies_run (i := 117) rfl) rfl ?_
      refine z_iload hX (D_Bodies_run (i := 118) rfl) rfl ?_
      refine z_cV4 hX (D_Bodies_run (i := 119) rfl) mi_Bodies_runFrom l_Bodies_37 rfl rfl (by decide) (by first | exact Nat.one_pos | assumption | omega) (by first | decide | omega) (Nat.le_of_ble_eq_true rfl) (ihF (k := 4) (d := 2) (x := x) (dp := dp + 1) (by decide) (by decide) (by omega) hB1 (by simp only [rnP, rfP, List.length_cons, List.length_append] at hlen ⊢; omega) ?_)
      have hB2 := BodyOK.tr (rfP n κ (nI s) 4 2 x).2 hB1
      refine z_aload_n hX (D_Bodies_run (i := 120) rfl) rfl ?_
      refine z_iload hX (D_Bodies_run (i := 121) rfl) rfl ?_
      refine z_iconst (v := 0) hX (D_Bodies_run (i := 122) rfl) (by decide) ?_
      refine z_iconst (v := 2) hX (D_Bodies_run (i := 123) rfl) (by decide) ?_
      refine z_iload hX (D_Bodies_run (i := 124) rfl) rfl ?_
      refine z_cV4 hX (D_Bodies_run (i := 125) rfl) mi_Bodies_runFrom l_Bodies_37 rfl rfl (by decide) (by first | exact Nat.one_pos | assumption | omega) (by first | decide | omega) (Nat.le_of_ble_eq_true rfl) (ihF (k := κ) (d := 0) (x := 2) (dp := dp + 1) hB.2.2.2.1 (by decide) (by omega) hB2 (by simp only [rnP, rfP, List.length_cons, List.length_append] at hlen ⊢; omega) ?_)
      refine z_isub hX (D_Bodies_run (i := 126) rfl) ?_
      rw [← trM_app]
      exact z_iret hX hR (D_Bodies_run (i := 127) rfl) rfl (by assumption)
    · refine z_lookup (off := 256) (tgt := 319) hX (D_Bodies_run (i := 36) rfl) (by decide) (by decide) (by decide) ?_
      refine z_aload_n hX (D_Bodies_run (i := 128) rfl) rfl ?_
      refine z_iload hX (D_Bodies_run (i := 129) rfl) rfl ?_
      refine z_iconst (v := 3) hX (D_Bodies_run (i := 130) rfl) (by decide) ?_
      refine z_iload_n hX (D_Bodies_run (i := 131) rfl) rfl ?_
      refine z_iload hX (D_Bodies_run (i := 132) rfl) rfl ?_
      refine z_cV4 hX (D_Bodies_run (i := 133) rfl) mi_Bodies_runFrom l_Bodies_37 rfl rfl (by decide) (by first | exact Nat.one_pos | assumption | omega) (by first | decide | omega) (Nat.le_of_ble_eq_true rfl) (ihF (k := 4) (d := 3) (x := x) (dp := dp + 1) (by decide) (by decide) (by omega) hB1 (by simp only [rnP, rfP, List.length_cons, List.length_append] at hlen ⊢; omega) ?_)
      refine z_iconst (v := 1) hX (D_Bodies_run (i := 134) rfl) (by decide) ?_
      refine z_iadd hX (D_Bodies_run (i := 135) rfl) ?_
      exact z_iret hX hR (D_Bodies_run (i := 136) rfl) rfl (by assumption)
    · refine z_lookup (off := 269) (tgt := 332) hX (D_Bodies_run (i := 36) rfl) (by decide) (by decide) (by decide) ?_
      refine z_aload_n hX (D_Bodies_run (i := 137) rfl) rfl ?_
      refine z_iload hX (D_Bodies_run (i := 138) rfl) rfl ?_
      refine z_iconst (v := 0) hX (D_Bodies_run (i := 139) rfl) (by decide) ?_
      refine z_iload_n hX (D_Bodies_run (i := 140) rfl) rfl ?_
      refine z_iload hX (D_Bodies_run (i := 141) rfl) rfl ?_
      refine z_cV4 hX (D_Bodies_run (i := 142) rfl) mi_Bodies_runFrom l_Bodies_37 rfl rfl (by decide) (by first | exact Nat.one_pos | assumption | omega) (by first | decide | omega) (Nat.le_of_ble_eq_true rfl) (ihF (k := 0) (d := 0) (x := x) (dp := dp + 1) (by decide) (by decide) (by omega) hB1 (by simp only [rnP, rfP, List.length_cons, List.length_append] at hlen ⊢; omega) ?_)
      refine z_iconst (v := 2) hX (D_Bodies_run (i := 143) rfl) (by decide) ?_
      refine z_imul hX (D_Bodies_run (i := 144) rfl) ?_
      exact z_iret hX hR (D_Bodies_run (i := 145) rfl) rfl (by assumption)
    · refine z_lookup (off := 282) (tgt := 345) hX (D_Bodies_run (i := 36) rfl) (by decide) (by decide) (by decide) ?_
      refine z_aload_n hX (D_Bodies_run (i := 146) rfl) rfl ?_
      refine z_iload hX (D_Bodies_run (i := 147) rfl) rfl ?_
      refine z_iconst (v := 1) hX (D_Bodies_run (i := 148) rfl) (by decide) ?_
      refine z_iload_n hX (D_Bodies_run (i := 149) rfl) rfl ?_
      refine z_iload hX (D_Bodies_run (i := 150) rfl) rfl ?_
      refine z_cV4 hX (D_Bodies_run (i := 151) rfl) mi_Bodies_runFrom l_Bodies_37 rfl rfl (by decide) (by first | exact Nat.one_pos | assumption | omega) (by first | decide | omega) (Nat.le_of_ble_eq_true rfl) (ihF (k := 6) (d := 1) (x := x) (dp := dp + 1) (by decide) (by decide) (by omega) hB1 (by simp only [rnP, rfP, List.length_cons, List.length_append] at hlen ⊢; omega) ?_)
      have hB2 := BodyOK.tr (rfP n κ (nI s) 6 1 x).2 hB1
      refine z_aload_n hX (D_Bodies_run (i := 152) rfl) rfl ?_
      refine z_iload hX (D_Bodies_run (i := 153) rfl) rfl ?_
      refine z_iconst (v := 2) hX (D_Bodies_run (i := 154) rfl) (by decide) ?_
      refine z_iconst (v := 2) hX (D_Bodies_run (i := 155) rfl) (by decide) ?_
      refine z_iload hX (D_Bodies_run (i := 156) rfl) rfl ?_
      refine z_cV4 hX (D_Bodies_run (i := 157) rfl) mi_Bodies_runFrom l_Bodies_37 rfl rfl (by decide) (by first | exact Nat.one_pos | assumption | omega) (by first | decide | omega) (Nat.le_of_ble_eq_true rfl) (ihF (k := κ) (d := 2) (x := 2) (dp := dp + 1) hB.2.2.2.1 (by decide) (by omega) hB2 (by simp only [rnP, rfP, List.length_cons, List.length_append] at hlen ⊢; omega) ?_)
      refine z_iadd hX (D_Bodies_run (i := 158) rfl) ?_
      rw [← trM_app]
      exact z_iret hX hR (D_Bodies_run (i := 159) rfl) rfl (by assumption)
    · refine z_lookup (off := 304) (tgt := 367) hX (D_Bodies_run (i := 36) rfl) (by decide) (by decide) (by decide) ?_
      refine z_aload_n hX (D_Bodies_run (i := 160) rfl) rfl ?_
      refine z_iload hX (D_Bodies_run (i := 161) rfl) rfl ?_
      refine z_iconst (v := 0) hX (D_Bodies_run (i := 162) rfl) (by decide) ?_
      refine z_iload_n hX (D_Bodies_run (i := 163) rfl) rfl ?_
      refine z_iload hX (D_Bodies_run (i := 164) rfl) rfl ?_
      refine z_cV4 hX (D_Bodies_run (i := 165) rfl) mi_Bodies_runFrom l_Bodies_37 rfl rfl (by decide) (by first | exact Nat.one_pos | assumption | omega) (by first | decide | omega) (Nat.le_of_ble_eq_true rfl) (ihF (k := 6) (d := 0) (x := x) (dp := dp + 1) (by decide) (by decide) (by omega) hB1 (by simp only [rnP, rfP, List.length_cons, List.length_append] at hlen ⊢; omega) ?_)
      refine z_iconst (v := 1) hX (D_Bodies_run (i := 166) rfl) (by decide) ?_
      refine z_isub hX (D_Bodies_run (i := 167) rfl) ?_
      exact z_iret hX hR (D_Bodies_run (i := 168) rfl) rfl (by assumption)
  refine z_icmp_ge (tgt := 28) hX (D_Bodies_run (i := 8) rfl) (by decide) (fun hc => ?_) (fun hc => ?_)
  · have hr : ¬ r < 24 := fun z => absurd hc (nI_ge (b := 24) z (by decide))
    rw [if_neg hr] at main
    exact main
  · have hr : r < 24 := Nat.not_le.mp (fun z => hc (nI_le (a := 24) z (by omega)))
    rw [if_pos hr] at main
    refine z_aload_n hX (D_Bodies_run (i := 9) rfl) rfl ?_
    refine z_getc hX (D_Bodies_run (i := 10) rfl) f_Bodies_15 rfl (by decide) (by first | exact Nat.one_pos | assumption | omega) rfl ?_
    refine z_aload_n hX (D_Bodies_run (i := 11) rfl) rfl ?_
    refine z_geti hX (D_Bodies_run (i := 12) rfl) f_Bodies_25 rfl (by decide) (by first | exact Nat.one_pos | assumption | omega) rfl ?_
    refine z_iload_n hX (D_Bodies_run (i := 13) rfl) rfl ?_
    rw [hB.2.2.2.2]
    refine z_iast (j := r) hX (D_Bodies_run (i := 14) rfl) rfl (by decide) (by first | exact Nat.one_pos | assumption | omega) (by decide) rfl hr ?_
    exact main
end F3
