/-! side by side: cubes, changes, the law -/
section Q6
variable {l : Launch} {ι : zE} {mem : zM} {x y z : Int32}
theorem RP.up {sz sz' d e : Nat} (h : sz ≤ sz') (hP : RP mem sz d e) : RP mem sz' d e := by
  obtain ⟨p1, p2, p3, p4, p5, p6, p7⟩ := hP
  refine ⟨p1, p2, p3, p4, p5, p6, fun i hi => ?_⟩
  obtain ⟨k, f, b, a, w1, w2⟩ := p7 i hi
  exact ⟨k, f, b, a, by omega, w2⟩
theorem six_dig {j : Nat} (hj : j ≤ 777777) (h : sixB (nI j) = true) : ∀ i, i < 6 → 1 ≤ j / 10 ^ i % 10 ∧ j / 10 ^ i % 10 ≤ 7 := by
  intro i hi
  unfold sixB at h
  rw [Bool.and_eq_true, alI_true, nI_toInt (by omega)] at h
  have := h.2 i hi
  unfold digB at this
  exact of_decide_eq_true this
theorem pow_le8 {a b n : Nat} (h : a < 2 ^ n) (hn : n ≤ b) : a < 2 ^ b := Nat.lt_of_lt_of_le h (Nat.pow_le_pow_right (by decide) hn)
theorem p_cube (hX : zHas ι pX) (hM : zHas ι pM) (hR : RR mem) : PPi ι l M_Four_cube M_Model_cube 1 1 [zP 0 0, zI x] [zP 40 0, zI x] mem := by
  intro PX h
  obtain ⟨sz, bx, C, τ, Λ, n, K, d, e, nb, r, hC, hm, h16, hT, hP, hB, hS⟩ := id hR
  have h8 := hC.2.1
  refine c_Four_cube hX hC.1 h8 ?_ ?_ ?_
  · intro hc
    exact h _ _ (fun PM k => d_cube hM hm.1 h8 (fun _ => k _ hR) (fun w => by rw [hc] at w; cases w) (fun j _ w => by rw [hc] at w; cases w))
  · intro hc hn
    exact h _ _ (fun PM k => d_cube hM hm.1 h8 (fun w => by rw [hc] at w; cases w) (fun _ _ => k _ hR) (fun _ _ _ _ w => by omega))
  · rintro j rfl hc hj hn
    refine h _ _ (fun PM k => d_cube (mem := upI (cbM mem sz j 6) 0 0 1 (nI (sz + 1))) hM hm.1 h8 (fun w => by rw [hc] at w; cases w) (fun _ w => by omega) ?_)
    intro j' e1 _ hj' _
    obtain rfl : j' = j := uno (n := 777778) (by omega) (by omega) (by decide) rfl e1
    have dg := six_dig hj hc
    refine k _ ⟨sz + 1, bx, fun a f => if a = sz ∧ f < 6 then j' / 10 ^ (5 - f) % 10 - 1 else C a f, τ, Λ, n, K, d, e, nb, r, ⟨rfl, by omega, hC.2.2.1, pow_le8 hC.2.2.2.1 (by omega), hC.2.2.2.2.1, fun a ha f hf => ?_, hC.2.2.2.2.2.2.1, hC.2.2.2.2.2.2.2⟩, ⟨rfl, by omega, hm.2.2.1, pow_le8 hm.2.2.2.1 (by omega), hm.2.2.2.2.1, fun a ha f hf => ?_, fun a ha => ?_, hm.2.2.2.2.2.2.2.1, hm.2.2.2.2.2.2.2.2⟩, fun a h1 h2 => h16 a (by omega) h2, hT, RP.up (by omega) hP, hB, hS⟩
    · show (if 3 = 3 ∧ a = sz ∧ 6 - 6 ≤ f ∧ f < 6 then nI (j' / 10 ^ (5 - f) % 10 - 1) else mem.1 3 a f) = nI (if a = sz ∧ f < 6 then j' / 10 ^ (5 - f) % 10 - 1 else C a f) ∧ (if a = sz ∧ f < 6 then j' / 10 ^ (5 - f) % 10 - 1 else C a f) ≤ 6
      by_cases q : a = sz
      · have := dg (5 - f) (by omega)
        rw [if_pos (by omega), if_pos ⟨q, hf⟩]
        exact ⟨rfl, by omega⟩
      · rw [if_neg (fun w => q w.2.1), if_neg (fun w => q w.1)]
        exact hC.2.2.2.2.2.1 a ha f hf
    · show (if 41 = 41 ∧ 0 = 0 ∧ 6 * sz + (6 - 6) ≤ 6 * a + f ∧ 6 * a + f < 6 * sz + 6 then nI (j' / 10 ^ (5 - (6 * a + f - 6 * sz)) % 10 - 1) else mem.1 41 0 (6 * a + f)) = nI (if a = sz ∧ f < 6 then j' / 10 ^ (5 - f) % 10 - 1 else C a f) ∧ (if a = sz ∧ f < 6 then j' / 10 ^ (5 - f) % 10 - 1 else C a f) ≤ 6
      by_cases q : a = sz
      · subst q
        have := dg (5 - f) (by omega)
        rw [if_pos (by omega), if_pos ⟨rfl, hf⟩, show 6 * a + f - 6 * a = f by omega]
        exact ⟨rfl, by omega⟩
      · rw [if_neg (by omega), if_neg (fun w => q w.1)]
        exact hm.2.2.2.2.2.1 a ha f hf
    · show (if 42 = 42 ∧ 0 = 0 ∧ a = sz then (16 : Int32) else mem.1 42 0 a) = nI (τ a) ∧ τ a < 24
      by_cases q : a = sz
      · rw [if_pos ⟨rfl, rfl, q⟩, q, h16 sz (by omega) (by omega)]; exact ⟨rfl, by decide⟩
      · rw [if_neg (fun w => q w.2.2)]; exact hm.2.2.2.2.2.2.1 a (by omega)
theorem c_cubes_no {Post : Option zV → zM → Prop} (hH : zHas ι pX) (hc : inN x 6 = false ∨ z < 1 ∨ ¬ z ≤ 8) (h : Post (some (zI (-1))) mem) : zC l ι M_Four_cubes 3 [zP 0 0, zI x, zI y, zI z] mem Post := by
  refine z_enter hH (by decide) (by simp [z_ent, M_Four_cubes]) (fun X hXl hX hR => ?_)
  refine z_iload_n hX (D_Four_cubes (i := 0) rfl) rfl ?_
  refine z_cS1 hX (D_Four_cubes (i := 1) rfl) ms_Four_isShelf l_Four_75 (by first | decide | omega) (Nat.le_of_ble_eq_true rfl) (c_Four_isShelf ?_)
  refine z_if_eq (tgt := 18) hX (D_Four_cubes (i := 2) rfl) (by decide) (fun h1 => ?_) (fun h1 => ?_)
  · refine z_iconst (v := -1) hX (D_Four_cubes (i := 9) rfl) (by decide) ?_
    exact z_iret hX hR (D_Four_cubes (i := 10) rfl) rfl h
  · refine z_iload_n hX (D_Four_cubes (i := 3) rfl) rfl ?_
    refine z_iconst (v := 1) hX (D_Four_cubes (i := 4) rfl) (by decide) ?_
    refine z_icmp_lt (tgt := 18) hX (D_Four_cubes (i := 5) rfl) (by decide) (fun h2 => ?_) (fun h2 => ?_)
    · refine z_iconst (v := -1) hX (D_Four_cubes (i := 9) rfl) (by decide) ?_
      exact z_iret hX hR (D_Four_cubes (i := 10) rfl) rfl h
    · refine z_iload_n hX (D_Four_cubes (i := 6) rfl) rfl ?_
      refine z_bipush (v := 8) hX (D_Four_cubes (i := 7) rfl) (by decide) ?_
      refine z_icmp_le (tgt := 20) hX (D_Four_cubes (i := 8) rfl) (by decide) (fun h3 => ?_) (fun h3 => ?_)
      · skip
        rcases hc with w | w | w
        · exact absurd (by rw [w]; rfl) h1
        · exact absurd w h2
        · exact absurd h3 w
      · refine z_iconst (v := -1) hX (D_Four_cubes (i := 9) rfl) (by decide) ?_
        exact z_iret hX hR (D_Four_cubes (i := 10) rfl) rfl h
theorem d_cubes_no {Post : Option zV → zM → Prop} (hH : zHas ι pM) (hc : inN x 6 = false ∨ z < 1 ∨ ¬ z ≤ 8) (h : Post (some (zI (-1))) mem) : zC l ι M_Model_cubes 3 [zP 40 0, zI x, zI y, zI z] mem Post := by
  refine z_enter hH (by decide) (by simp [z_ent, M_Model_cubes]) (fun X hXl hX hR => ?_)
  refine z_iload_n hX (D_Model_cubes (i := 0) rfl) rfl ?_
  refine z_cS1 hX (D_Model_cubes (i := 1) rfl) ms_Model_isShelf l_Model_112 (by first | decide | omega) (Nat.le_of_ble_eq_true rfl) (d_isShelf ?_)
  refine z_if_eq (tgt := 17) hX (D_Model_cubes (i := 2) rfl) (by decide) (fun h1 => ?_) (fun h1 => ?_)
  · refine z_iconst (v := -1) hX (D_Model_cubes (i := 8) rfl) (by decide) ?_
    exact z_iret hX hR (D_Model_cubes (i := 9) rfl) rfl h
  · refine z_iload_n hX (D_Model_cubes (i := 3) rfl) rfl ?_
    refine z_iconst (v := 1) hX (D_Model_cubes (i := 4) rfl) (by decide) ?_
    refine z_bipush (v := 8) hX (D_Model_cubes (i := 5) rfl) (by decide) ?_
    refine z_cS3 hX (D_Model_cubes (i := 6) rfl) ms_Model_in l_Model_102 (by first | decide | omega) (Nat.le_of_ble_eq_true rfl) (d_in ?_)
    refine z_if_ne (tgt := 19) hX (D_Model_cubes (i := 7) rfl) (by decide) (fun h2 => ?_) (fun h2 => ?_)
    · skip
      have a := of_decide_eq_true (bI_n.mp h2)
      rcases hc with w | w | w
      · exact absurd (by rw [w]; rfl) h1
      · exact absurd w (Int32.not_lt.mpr a.1)
      · exact absurd a.2 w
    · refine z_iconst (v := -1) hX (D_Model_cubes (i := 8) rfl) (by decide) ?_
      exact z_iret hX hR (D_Model_cubes (i := 9) rfl) rfl h
theorem p_cubes (hX : zHas ι pX) (hM : zHas ι pM) (hR : RR mem) : PPi ι l M_Four_cubes M_Model_cubes 3 3 [zP 0 0, zI x, zI y, zI z] [zP 40 0, zI x, zI y, zI z] mem := by
  intro PX h
  obtain ⟨sz, bx, C, τ, Λ, n, K, d, e, nb, r, hC, hm, h16, hT, hP, hB, hS⟩ := id hR
  have h8 := hC.2.1
  have hnb := hB.2.2.1
  have nn : ∀ b, b < 50 → ¬ nI b = -1 ∧ ¬ nI b = -2 := by decide +kernel
  have n5 : ∀ s, s < 5 → (-(nI (s + 2)) = -2 ↔ s = 0) := by decide
  have kk : ∀ k, k < 6 → (mem.1 31 k 0 = 0 ↔ mem.1 64 0 k = -1) ∧ ((mem.1 31 k 0 = 2 ∧ mem.1 31 k 2 = 0) ↔ mem.1 64 0 k = -2) ∧ (mem.1 31 k 0 = 2 → mem.1 31 k 3 = mem.1 65 0 k ∧ ∀ j, j < 60 → mem.2.1 32 k j = mem.2.1 66 0 (60 * k + j)) := fun k hk => by
    obtain ⟨L, s, L2, a1, a2, a3, a4, a5, a6, a7⟩ := hS k hk
    rcases a7 with ⟨b1, b2⟩ | ⟨b1, b, b2, b3, b4⟩ | ⟨b1, b2, b3, b4⟩
    · refine ⟨⟨fun _ => b2, fun _ => b1⟩, ⟨fun w => ?_, fun w => ?_⟩, fun w => ?_⟩
      · rw [b1] at w; exact absurd w.1 (by decide)
      · rw [b2] at w; exact absurd w (by decide)
      · rw [b1] at w; exact absurd w (by decide)
    · refine ⟨⟨fun w => ?_, fun w => ?_⟩, ⟨fun w => ?_, fun w => ?_⟩, fun w => ?_⟩
      · rw [b1] at w; exact absurd w (by decide)
      · rw [b4] at w; exact absurd w (nn b (by omega)).1
      · rw [b1] at w; exact absurd w.1 (by decide)
      · rw [b4] at w; exact absurd w (nn b (by omega)).2
      · rw [b1] at w; exact absurd w (by decide)
    · refine ⟨⟨fun w => ?_, fun w => ?_⟩, ⟨fun w => ?_, fun w => ⟨b1, ?_⟩⟩, fun _ => ⟨by rw [a4, a6, b3], b4⟩⟩
      · rw [b1] at w; exact absurd w (by decide)
      · rw [b2] at w; exact absurd w (ho_neg s a2).2.1
      · rw [b2]
        rw [a5] at w
        exact (n5 s a2).mpr ((nI_eq (b := 0) (by omega) (by decide)).mp w.2)
      · rw [b2] at w
        rw [a5, (n5 s a2).mp w]; rfl
  by_cases hc : inN x 6 = false ∨ z < 1 ∨ ¬ z ≤ 8
  · exact c_cubes_no hX hc (h _ _ (fun PM k => d_cubes_no hM hc (k _ hR)))
  have csE : ∀ k L n' t, k < 6 → L ≤ 60 → (∀ j, j < 60 → mem.2.1 32 k j = mem.2.1 66 0 (60 * k + j)) → csB mem sz k L n' y t = csN mem sz k L n' y t := by
    intro k L n' t hk hL he
    unfold csB csN
    cases hs : hsB L (y + nI (6 * t)) 6 with
    | false => rw [Bool.false_and, Bool.false_and]
    | true =>
      have h2 := of_decide_eq_true hs
      have h6 : (6 : Int32).toInt = 6 := by decide
      rw [h6] at h2
      congr 3
      exact alI_cong (fun i hi => by
        unfold elB elN
        rw [he _ (by omega), Nat.add_assoc])
  refine c_Four_cubes hX hC.1 h8 hS.sh (fun w => absurd w hc) ?_ ?_ ?_
  · rintro k0 hk rfl q1 q2 q3
    have e1 := (kk k0 hk).1.mp q3
    refine h _ _ (fun PM k => d_cubes hM hm.1 h8 hS.ml (fun w => absurd w hc) (fun _ _ _ _ _ _ => k _ hR) ?_ ?_)
    · intro k' hk' f1 _ _ w _
      obtain rfl := uno hk hk' (by decide) rfl f1
      exact absurd e1 w
    · intro k' L n' c hk' f1 _ _ _ w _ _ _
      obtain rfl := uno hk hk' (by decide) rfl f1
      rw [e1] at w; exact absurd w (by decide)
  · rintro k0 hk rfl q1 q2 q3 q4
    refine h _ _ (fun PM k => d_cubes hM hm.1 h8 hS.ml (fun w => absurd w hc) ?_ (fun _ _ _ _ _ _ _ => k _ hR) ?_)
    · intro k' hk' f1 _ _ w
      obtain rfl := uno hk hk' (by decide) rfl f1
      exact absurd ((kk k' hk).1.mpr w) q3
    · intro k' L n' c hk' f1 _ _ _ w _ _ _
      obtain rfl := uno hk hk' (by decide) rfl f1
      have := (kk k' hk).2.1.mpr w
      rcases q4 with w | w
      · exact absurd this.1 w
      · exact absurd this.2 w
  · rintro k0 L n0 c hk rfl hn rfl hL q1 q2 q3 q4 q5
    have e64 := (kk k0 hk).2.1.mp ⟨q1, q2⟩
    obtain ⟨eL, eJ⟩ := (kk k0 hk).2.2 q1
    have hc8 : sz + c ≤ 8 := by
      rcases Nat.eq_zero_or_pos c with w | w
      · omega
      · have := q4 (c - 1) (by omega)
        unfold csB at this
        rw [Bool.and_eq_true, Bool.and_eq_true] at this
        have := of_decide_eq_true this.2.1
        omega
    -- the colours that came
    have cv0 : ∀ t f, t < c → f < 6 → ∃ v : Nat, v ≤ 6 ∧ csP mem k0 y t f = nI v ∧ cnP mem k0 y t f = nI v := by
      intro t f ht hf
      have w := q4 t ht
      unfold csB at w
      rw [Bool.and_eq_true, Bool.and_eq_true, Bool.and_eq_true, alI_true] at w
      have h2 := of_decide_eq_true w.2.2.1
      have h6 : (6 : Int32).toInt = 6 := by decide
      rw [h6] at h2
      have h3 := w.2.2.2 f hf
      unfold elB at h3
      have h3 := of_decide_eq_true h3
      have e1 : csP mem k0 y t f = (mem.2.1 32 k0 ((y + nI (6 * t)).toInt.toNat + f)).toInt32 := rfl
      have e2 : cnP mem k0 y t f = csP mem k0 y t f := by
        rw [e1]
        unfold cnP
        rw [eJ _ (by omega), Nat.add_assoc]
      generalize mem.2.1 32 k0 ((y + nI (6 * t)).toInt.toNat + f) = v at *
      have a1 := Int64.le_iff_toInt_le.mp h3.1
      have a2 := Int64.le_iff_toInt_le.mp h3.2
      have z0 : (0 : Int64).toInt = 0 := by decide
      have z6 : (6 : Int64).toInt = 6 := by decide
      rw [z0] at a1
      rw [z6] at a2
      refine ⟨v.toInt.toNat, by omega, ?_, ?_⟩
      · rw [e1]
        apply Int32.toInt_inj.mp
        rw [nI_toInt (by omega), Int64.toInt_toInt32, Int.bmod_eq_of_le (by omega) (by omega)]
        omega
      · rw [e2, e1]
        apply Int32.toInt_inj.mp
        rw [nI_toInt (by omega), Int64.toInt_toInt32, Int.bmod_eq_of_le (by omega) (by omega)]
        omega
    refine h _ _ (fun PM k => d_cubes (mem := csM mem sz k0 y c) hM hm.1 h8 hS.ml (fun w => absurd w hc) ?_ ?_ ?_)
    · intro k' hk' f1 _ _ w
      obtain rfl := uno hk hk' (by decide) rfl f1
      have w : mem.1 64 0 k' = -1 := w
      rw [e64] at w; exact absurd w (by decide)
    · intro k' hk' f1 _ _ _ w
      obtain rfl := uno hk hk' (by decide) rfl f1
      exact absurd e64 w
    · intro k' L' n' c' hk' f1 hn' f2 hL' _ f3 f4 f5
      obtain rfl := uno hk hk' (by decide) rfl f1
      obtain rfl : n' = n0 := uno (n := 9) (by omega) (by omega) (by decide) rfl f2
      have f3 : mem.1 65 0 k' = nI L' := f3
      rw [← eL, q3] at f3
      obtain rfl : L = L' := (nI_eq (by omega) (by omega)).mp f3
      have f4 : ∀ t, t < c' → csN mem sz k' L n' y t = true := f4
      have f5 : csN mem sz k' L n' y c' = false := f5
      obtain rfl : c' = c := by
        rcases Nat.lt_trichotomy c' c with w | w | w
        · have := q4 c' w
          rw [csE k' L n' c' hk hL eJ, f5] at this; cases this
        · exact w
        · have := f4 c w
          rw [← csE k' L n' c hk hL eJ, q5] at this; cases this
      refine k _ ⟨sz + c', bx, fun a f => if sz ≤ a ∧ a < sz + c' ∧ f < 6 then (csP mem k' y (a - sz) f).toNatClampNeg else C a f, τ, Λ, n, K, d, e, nb, r, ⟨rfl, hc8, hC.2.2.1, pow_le8 hC.2.2.2.1 (by omega), hC.2.2.2.2.1, fun a ha f hf => ?_, hC.2.2.2.2.2.2.1, hC.2.2.2.2.2.2.2⟩, ⟨rfl, hc8, hm.2.2.1, pow_le8 hm.2.2.2.1 (by omega), hm.2.2.2.2.1, fun a ha f hf => ?_, fun a ha => ?_, hm.2.2.2.2.2.2.2.1, hm.2.2.2.2.2.2.2.2⟩, fun a h1 h2 => h16 a (by omega) h2, hT, RP.up (by omega) hP, hB, hS⟩
      · show (if 3 = 3 ∧ sz ≤ a ∧ a < sz + c' ∧ f < 6 then csP mem k' y (a - sz) f else if 3 = 0 ∧ a = 0 ∧ f = 1 then nI (sz + c') else mem.1 3 a f) = nI (if sz ≤ a ∧ a < sz + c' ∧ f < 6 then (csP mem k' y (a - sz) f).toNatClampNeg else C a f) ∧ (if sz ≤ a ∧ a < sz + c' ∧ f < 6 then (csP mem k' y (a - sz) f).toNatClampNeg else C a f) ≤ 6
        by_cases q : sz ≤ a ∧ a < sz + c'
        · obtain ⟨v, v1, v2, v3⟩ := cv0 (a - sz) f (by omega) hf
          rw [if_pos ⟨rfl, q.1, q.2, hf⟩, if_pos ⟨q.1, q.2, hf⟩, v2, nI_clamp (by omega)]
          exact ⟨rfl, v1⟩
        · rw [if_neg (by omega), if_neg (by omega), if_neg (by omega)]
          exact hC.2.2.2.2.2.1 a ha f hf
      · show (if 41 = 41 ∧ 0 = 0 ∧ 6 * sz ≤ 6 * a + f ∧ 6 * a + f < 6 * (sz + c') then cnP (csM mem sz k' y c') k' y ((6 * a + f - 6 * sz) / 6) ((6 * a + f - 6 * sz) % 6) else if 41 = 42 ∧ 0 = 0 ∧ sz ≤ 6 * a + f ∧ 6 * a + f < sz + c' then (16 : Int32) else if 41 = 40 ∧ 0 = 0 ∧ 6 * a + f = 1 then nI (sz + c') else mem.1 41 0 (6 * a + f)) = nI (if sz ≤ a ∧ a < sz + c' ∧ f < 6 then (csP mem k' y (a - sz) f).toNatClampNeg else C a f) ∧ (if sz ≤ a ∧ a < sz + c' ∧ f < 6 then (csP mem k' y (a - sz) f).toNatClampNeg else C a f) ≤ 6
        by_cases q : sz ≤ a ∧ a < sz + c'
        · obtain ⟨v, v1, v2, v3⟩ := cv0 (a - sz) f (by omega) hf
          rw [if_pos (by omega), if_pos ⟨q.1, q.2, hf⟩, show (6 * a + f - 6 * sz) / 6 = a - sz by omega, show (6 * a + f - 6 * sz) % 6 = f by omega, show cnP (csM mem sz k' y c') k' y (a - sz) f = cnP mem k' y (a - sz) f from rfl, v3, v2, nI_clamp (by omega)]
          exact ⟨rfl, v1⟩
        · rw [if_neg (by omega), if_neg (by omega), if_neg (by omega), if_neg (by omega)]
          exact hm.2.2.2.2.2.1 a ha f hf
      · show (if 42 = 41 ∧ 0 = 0 ∧ 6 * sz ≤ a ∧ a < 6 * (sz + c') then cnP (csM mem sz k' y c') k' y ((a - 6 * sz) / 6) ((a - 6 * sz) % 6) else if 42 = 42 ∧ 0 = 0 ∧ sz ≤ a ∧ a < sz + c' then (16 : Int32) else if 42 = 40 ∧ 0 = 0 ∧ a = 1 then nI (sz + c') else mem.1 42 0 a) = nI (τ a) ∧ τ a < 24
        rw [if_neg (by omega)]
        by_cases q : sz ≤ a
        · rw [if_pos ⟨rfl, rfl, q, ha⟩, h16 a q (by omega)]; exact ⟨rfl, by decide⟩
        · rw [if_neg (by omega), if_neg (by omega)]; exact hm.2.2.2.2.2.2.1 a (by omega)
end Q6
