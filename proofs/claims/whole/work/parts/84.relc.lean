/-! side by side: shift, cubes, changes, the law -/
theorem nI_low {a b : Nat} (h : nI a = nI b) (hb : b < 2 ^ 32) : b ≤ a := by
  have := congrArg (fun q : Int32 => q.toBitVec.toNat) h
  have e1 : (nI a).toBitVec.toNat = a % 2 ^ 32 := rfl
  have e2 : (nI b).toBitVec.toNat = b % 2 ^ 32 := rfl
  simp only [e1, e2] at this
  omega
theorem hsB_mono {L L0 : Nat} {x n : Int32} (h : L ≤ L0) (hs : hsB L x n = true) : hsB L0 x n = true := by
  unfold hsB at hs ⊢
  have := of_decide_eq_true hs
  exact decide_eq_true (by omega)
theorem hsB_ok {L i n : Nat} (h : L ≤ 60) (h2 : i + n ≤ L) : hsB L (nI i) (nI n) = true := by
  unfold hsB
  rw [nI_toInt (by omega), nI_toInt (by omega)]
  exact decide_eq_true (by omega)
section Q5
variable {l : Launch} {ι : zE} {mem : zM} {x y z xi xj xn : Int32}
theorem p_shift (hX : zHas ι pX) (hM : zHas ι pM) (hR : RR mem) : PPi ι l M_Four_shift M_Model_shift 2 2 [zP 0 0, zI x, zI xi, zI y, zI xj, zI xn] [zP 40 0, zI x, zI xi, zI y, zI xj, zI xn] mem := by
  intro PX h
  obtain ⟨sz, bx, C, τ, Λ, n, K, d, e, nb, r, hC, hm, h16, hT, hP, hB, hS⟩ := id hR
  have hnb := hB.2.2.1
  have nn : ∀ b, b < 50 → ¬ nI b = -1 ∧ ¬ nI b < 0 := by decide +kernel
  -- what a shelf holds, on both sides
  have k0 : ∀ k, k < 6 → (mem.1 31 k 0 = 0 ↔ mem.1 64 0 k = -1) := fun k hk => by
    obtain ⟨L, s, L2, a1, a2, a3, a4, a5, a6, a7⟩ := hS k hk
    rcases a7 with ⟨b1, b2⟩ | ⟨b1, b, b2, b3, b4⟩ | ⟨b1, b2, b3⟩
    · exact ⟨fun _ => b2, fun _ => b1⟩
    · exact ⟨fun w => by rw [b1] at w; exact absurd w (by decide), fun w => by rw [b4] at w; exact absurd w (nn b (by omega)).1⟩
    · exact ⟨fun w => by rw [b1] at w; exact absurd w (by decide), fun w => by rw [b2] at w; exact absurd w (ho_neg s a2).2.1⟩
  have k2 : ∀ k, k < 6 → ¬ mem.1 64 0 k = -1 → (mem.1 31 k 0 = 2 ↔ ¬ 0 ≤ mem.1 64 0 k) := fun k hk hne => by
    obtain ⟨L, s, L2, a1, a2, a3, a4, a5, a6, a7⟩ := hS k hk
    rcases a7 with ⟨b1, b2⟩ | ⟨b1, b, b2, b3, b4⟩ | ⟨b1, b2, b3⟩
    · exact absurd b2 hne
    · exact ⟨fun w => by rw [b1] at w; exact absurd w (by decide), fun w => by rw [b4] at w; exact absurd (Int32.not_lt.mp (nn b (by omega)).2) w⟩
    · exact ⟨fun _ => by rw [b2]; exact Int32.not_le.mpr (ho_neg s a2).1, fun _ => b1⟩
  have ks : ∀ k o, k < 6 → o < 6 → mem.1 31 k 0 = 2 → ((mem.1 31 o 0 = 2 ∧ mem.1 31 k 2 = mem.1 31 o 2) ↔ mem.1 64 0 k = mem.1 64 0 o) := fun k o hk ho h2 => by
    obtain ⟨L, s, L2, a1, a2, a3, a4, a5, a6, a7⟩ := hS k hk
    obtain ⟨L', s', L2', a1', a2', a3', a4', a5', a6', a7'⟩ := hS o ho
    have e64 : mem.1 64 0 k = -(nI (s + 2)) := by
      rcases a7 with ⟨b1, b2⟩ | ⟨b1, b, b2, b3, b4⟩ | ⟨b1, b2, b3⟩
      · rw [b1] at h2; exact absurd h2 (by decide)
      · rw [b1] at h2; exact absurd h2 (by decide)
      · exact b2
    rcases a7' with ⟨b1, b2⟩ | ⟨b1, b, b2, b3, b4⟩ | ⟨b1, b2, b3⟩
    · refine ⟨fun w => by rw [b1] at w; exact absurd w.1 (by decide), fun w => ?_⟩
      rw [e64, b2] at w; exact absurd w (ho_neg s a2).2.1
    · refine ⟨fun w => by rw [b1] at w; exact absurd w.1 (by decide), fun w => ?_⟩
      rw [e64, b4] at w; exact absurd (by rw [← w]; exact (ho_neg s a2).1) (nn b (by omega)).2
    · refine ⟨fun w => ?_, fun w => ⟨b1, ?_⟩⟩
      · rw [a5, a5'] at w
        obtain rfl := (nI_eq (by omega) (by omega)).mp w.2
        rw [e64, b2]
      · rw [e64, b2] at w
        have := congrArg (fun q => (-2 : Int32) - q) w
        simp only [(ho_neg s a2).2.2, (ho_neg s' a2').2.2] at this
        rw [a5, a5', this]
  have kL : ∀ k, k < 6 → mem.1 31 k 0 = 2 → mem.1 31 k 3 = mem.1 65 0 k := fun k hk h2 => by
    obtain ⟨L, s, L2, a1, a2, a3, a4, a5, a6, a7⟩ := hS k hk
    rcases a7 with ⟨b1, b2⟩ | ⟨b1, b, b2, b3, b4⟩ | ⟨b1, b2, b3, b4⟩
    · rw [b1] at h2; exact absurd h2 (by decide)
    · rw [b1] at h2; exact absurd h2 (by decide)
    · rw [a4, a6, b3]
  have lb : ∀ k, k < 6 → ∃ L : Nat, L ≤ 60 ∧ mem.1 65 0 k = nI L := hS.ml
  refine c_Four_shift hX hS.sh ?_ ?_ ?_ ?_ ?_
  · intro hc
    refine h _ _ (fun PM k => d_shift hM hS.ml (fun _ => k _ hR) ?_ ?_ ?_ ?_)
    · rintro k' o hk ho rfl rfl _
      rw [inN_nI hk (by decide), inN_nI ho (by decide)] at hc; cases hc
    · rintro k' o hk ho rfl rfl _ _ _
      rw [inN_nI hk (by decide), inN_nI ho (by decide)] at hc; cases hc
    · rintro k' o L L2 hk ho rfl rfl _ _ _ _ _ _
      rw [inN_nI hk (by decide), inN_nI ho (by decide)] at hc; cases hc
    · rintro k' o L L2 i j n' hk ho rfl rfl
      rw [inN_nI hk (by decide), inN_nI ho (by decide)] at hc; cases hc
  · rintro k0' o0 hk ho rfl rfl hc
    have hc' : mem.1 64 0 k0' = -1 ∨ mem.1 64 0 o0 = -1 := hc.imp (k0 _ hk).mp (k0 _ ho).mp
    refine h _ _ (fun PM k => d_shift hM hS.ml ?_ (fun _ _ _ _ _ _ _ => k _ hR) ?_ ?_ ?_)
    · intro w; rw [inN_nI hk (by decide), inN_nI ho (by decide)] at w; cases w
    · intro k' o hk' ho' e1 e2 w1 w2 _
      obtain rfl := uno hk hk' (by decide) rfl e1
      obtain rfl := uno ho ho' (by decide) rfl e2
      exact hc'.elim (fun w => absurd w w1) (fun w => absurd w w2)
    · intro k' o L L2 hk' ho' e1 e2 _ w1 w3 _ _ _
      obtain rfl := uno hk hk' (by decide) rfl e1
      obtain rfl := uno ho ho' (by decide) rfl e2
      exact hc'.elim (fun w => absurd w w1) (fun w => absurd (w3.trans w) w1)
    · intro k' o L L2 i j n' hk' ho' e1 e2 _ w1 w3 _ _ _ _ _ _ _ _ _
      obtain rfl := uno hk hk' (by decide) rfl e1
      obtain rfl := uno ho ho' (by decide) rfl e2
      exact hc'.elim (fun w => absurd w w1) (fun w => absurd (w3.trans w) w1)
  · rintro k0' o0 hk ho rfl rfl n1 n2 hc
    have n1' := fun w => n1 ((k0 _ hk).mpr w)
    have n2' := fun w => n2 ((k0 _ ho).mpr w)
    have bad : ¬ 0 ≤ mem.1 64 0 k0' → mem.1 64 0 k0' = mem.1 64 0 o0 → False := by
      intro w1 w2
      have g1 := (k2 _ hk n1').mpr w1
      have g2 := (ks _ _ hk ho g1).mpr w2
      rcases hc with w | w | w
      · exact w g1
      · exact w g2.1
      · exact w g2.2
    refine h _ _ (fun PM k => d_shift hM hS.ml ?_ ?_ (fun _ _ _ _ _ _ _ _ _ => k _ hR) ?_ ?_)
    · intro w; rw [inN_nI hk (by decide), inN_nI ho (by decide)] at w; cases w
    · intro k' o hk' ho' e1 e2 w
      obtain rfl := uno hk hk' (by decide) rfl e1
      obtain rfl := uno ho ho' (by decide) rfl e2
      exact (w.elim n1' n2').elim
    · intro k' o L L2 hk' ho' e1 e2 w0 w1 w3 _ _ _
      obtain rfl := uno hk hk' (by decide) rfl e1
      obtain rfl := uno ho ho' (by decide) rfl e2
      exact (bad w0 w3).elim
    · intro k' o L L2 i j n' hk' ho' e1 e2 w0 w1 w3 _ _ _ _ _ _ _ _ _
      obtain rfl := uno hk hk' (by decide) rfl e1
      obtain rfl := uno ho ho' (by decide) rfl e2
      exact (bad w0 w3).elim
  · rintro k0' o0 L0 L20 hk ho rfl rfl h2 h2o hss eL eL2 hc
    have n1' : ¬ mem.1 64 0 k0' = -1 := fun w => by rw [(k0 _ hk).mpr w] at h2; exact absurd h2 (by decide)
    have n2' : ¬ mem.1 64 0 o0 = -1 := fun w => by rw [(k0 _ ho).mpr w] at h2o; exact absurd h2o (by decide)
    have g0 := (k2 _ hk n1').mp h2
    have gs := (ks _ _ hk ho h2).mp ⟨h2o, hss⟩
    obtain ⟨La, la1, la2⟩ := lb _ hk
    obtain ⟨Lb, lb1, lb2⟩ := lb _ ho
    obtain ⟨Lc, sc, lc1, _, lc2, _⟩ := hS.sh _ hk
    obtain ⟨Ld, sd, ld1, _, ld2, _⟩ := hS.sh _ ho
    refine h _ _ (fun PM k => d_shift hM hS.ml ?_ ?_ ?_ (fun _ _ _ _ _ _ _ _ _ _ _ _ _ _ => k _ hR) ?_)
    · intro w; rw [inN_nI hk (by decide), inN_nI ho (by decide)] at w; cases w
    · intro k' o hk' ho' e1 e2 w
      obtain rfl := uno hk hk' (by decide) rfl e1
      obtain rfl := uno ho ho' (by decide) rfl e2
      exact (w.elim n1' n2').elim
    · intro k' o hk' ho' e1 e2 _ _ w
      obtain rfl := uno hk hk' (by decide) rfl e1
      obtain rfl := uno ho ho' (by decide) rfl e2
      exact (w.elim (fun w => g0 w) (fun w => w gs)).elim
    · intro k' o L L2 i j n' hk' ho' e1 e2 _ _ _ q1 q2 q3 q4 q5 q6 rfl rfl rfl
      obtain rfl := uno hk hk' (by decide) rfl e1
      obtain rfl := uno ho ho' (by decide) rfl e2
      rw [← kL _ hk h2] at q1
      rw [← kL _ ho h2o] at q2
      have g1 := hsB_ok (L := L) (i := i) (n := n') q3 q5
      have g2 := hsB_ok (L := L2) (i := j) (n := n') q4 q6
      rw [hsB_mono (nI_low (eL.symm.trans q1) (by omega)) g1, hsB_mono (nI_low (eL2.symm.trans q2) (by omega)) g2] at hc
      cases hc
  · rintro k0' o0 L0 L20 i0 j0 n0 hk ho rfl rfl h2 h2o hss eL eL2 q3 q4 q5 q6 rfl rfl rfl
    have n1' : ¬ mem.1 64 0 k0' = -1 := fun w => by rw [(k0 _ hk).mpr w] at h2; exact absurd h2 (by decide)
    have n2' : ¬ mem.1 64 0 o0 = -1 := fun w => by rw [(k0 _ ho).mpr w] at h2o; exact absurd h2o (by decide)
    have g0 := (k2 _ hk n1').mp h2
    have gs := (ks _ _ hk ho h2).mp ⟨h2o, hss⟩
    refine h _ _ (fun PM k => d_shift (mem := cpJ mem 32 k0' o0 i0 j0 n0) hM hS.ml ?_ ?_ ?_ ?_ ?_)
    · intro w; rw [inN_nI hk (by decide), inN_nI ho (by decide)] at w; cases w
    · intro k' o hk' ho' e1 e2 w
      obtain rfl := uno hk hk' (by decide) rfl e1
      obtain rfl := uno ho ho' (by decide) rfl e2
      exact (w.elim n1' n2').elim
    · intro k' o hk' ho' e1 e2 _ _ w
      obtain rfl := uno hk hk' (by decide) rfl e1
      obtain rfl := uno ho ho' (by decide) rfl e2
      exact (w.elim (fun w => g0 w) (fun w => w gs)).elim
    · intro k' o L L2 hk' ho' e1 e2 _ _ _ w1 w2 hc
      obtain rfl := uno hk hk' (by decide) rfl e1
      obtain rfl := uno ho ho' (by decide) rfl e2
      have w1 : mem.1 65 0 k' = nI L := w1
      have w2 : mem.1 65 0 o = nI L2 := w2
      rw [← kL _ hk h2] at w1
      rw [← kL _ ho h2o] at w2
      rw [hsB_mono (nI_low (w1.symm.trans eL) (by omega)) (hsB_ok q3 q5), hsB_mono (nI_low (w2.symm.trans eL2) (by omega)) (hsB_ok q4 q6)] at hc
      cases hc
    · intro k' o L L2 i j n' hk' ho' e1 e2 _ _ _ w1 w2 r3 r4 r5 r6 f1 f2 f3
      obtain rfl := uno hk hk' (by decide) rfl e1
      obtain rfl := uno ho ho' (by decide) rfl e2
      obtain rfl : i = i0 := uno (n := 100) (by omega) (by omega) (by decide) rfl f1
      obtain rfl : j = j0 := uno (n := 100) (by omega) (by omega) (by decide) rfl f2
      obtain rfl : n' = n0 := uno (n := 100) (by omega) (by omega) (by decide) rfl f3
      refine k _ ⟨sz, bx, C, τ, Λ, n, K, d, e, nb, r, hC, hm, h16, hT, hP, hB, fun c hc => ?_⟩
      obtain ⟨Lx, sx, L2x, a1, a2, a3, a4, a5, a6, a7⟩ := hS c hc
      refine ⟨Lx, sx, L2x, a1, a2, a3, a4, a5, a6, ?_⟩
      rcases a7 with w | w | ⟨b1, b2, b3, b4⟩
      · exact Or.inl w
      · exact Or.inr (Or.inl w)
      · refine Or.inr (Or.inr ⟨b1, b2, b3, fun t ht => ?_⟩)
        obtain ⟨Ly, sy, L2y, y1, y2, y3, y4, y5, y6, y7⟩ := hS k' hk
        have ysrc : ∀ j, j < 60 → mem.2.1 32 k' j = mem.2.1 66 0 (60 * k' + j) := by
          rcases y7 with ⟨z1, _⟩ | ⟨z1, _⟩ | ⟨_, _, _, z4⟩
          · rw [z1] at h2; exact absurd h2 (by decide)
          · rw [z1] at h2; exact absurd h2 (by decide)
          · exact z4
        show (if 32 = 32 ∧ c = o then va_cpy (mem.2.1 32 k') (mem.2.1 32 o) i j n' t else mem.2.1 32 c t) = (if 66 = 66 ∧ 0 = 0 ∧ 60 * o + j ≤ 60 * c + t ∧ 60 * c + t < 60 * o + j + n' then mem.2.1 66 0 (60 * k' + i + (60 * c + t - (60 * o + j))) else mem.2.1 66 0 (60 * c + t))
        by_cases q : c = o
        · subst q
          rw [if_pos ⟨rfl, rfl⟩]
          by_cases q2 : j ≤ t ∧ t < j + n'
          · rw [pk_cpy_in q2.1 q2.2, if_pos (by omega), ysrc _ (by omega)]
            rw [show 60 * k' + (i + (t - j)) = 60 * k' + i + (60 * c + t - (60 * c + j)) by omega]
          · rw [pk_cpy_out (by omega), if_neg (by omega)]
            exact b4 t ht
        · rw [if_neg (fun w => q w.2), if_neg (by omega)]
          exact b4 t ht
end Q5
