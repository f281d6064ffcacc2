/-! side by side: changes, the law -/
section Q7
variable {l : Launch} {ι : zE} {mem : zM} {x y z : Int32}
theorem RP.c {sz d e : Nat} (h : RP mem sz d e) : PaOK mem sz d e := by
  obtain ⟨p1, p2, p3, p4, p5, p6, p7⟩ := h
  refine ⟨p1, p2, p5, p6, fun i hi => ?_⟩
  obtain ⟨k, f, b, a, w1, w2, w3, w4, w5, w6, w7, _⟩ := p7 i hi
  exact ⟨k, f, b, a, w1, w2, w3, w4, w5, w6, w7⟩
theorem RP.m {sz d e : Nat} (h : RP mem sz d e) : PaM mem sz d e := by
  obtain ⟨p1, p2, p3, p4, p5, p6, p7⟩ := h
  refine ⟨p3, p4, p5, p6, fun i hi => ?_⟩
  obtain ⟨k, f, b, a, w1, w2, w3, w4, w5, w6, w7, w8, w9, w10, w11⟩ := p7 i hi
  exact ⟨k, f, b, a, w1, w2, w3, w4, w8, w9, w10, w11⟩
/-- a face that got a colour, on both sides -/
theorem CO.face {C : Nat → Nat → Nat} {m : zM} {k f v : Nat} (hC : CO mem C) (h3 : ∀ a b, m.1 3 a b = if a = k ∧ b = f then nI v else mem.1 3 a b) (hv : v ≤ 6) : CO m (cU C k f v) := by
  intro a ha b hb
  rw [h3]
  unfold cU
  by_cases q : a = k ∧ b = f
  · rw [if_pos q, if_pos q]; exact ⟨rfl, hv⟩
  · rw [if_neg q, if_neg q]; exact hC a ha b hb
theorem COM.face {C : Nat → Nat → Nat} {m : zM} {k f v : Nat} (hC : COM mem C) (hf : f < 6) (h3 : ∀ c, m.1 41 0 c = if c = 6 * k + f then nI v else mem.1 41 0 c) (hv : v ≤ 6) : COM m (cU C k f v) := by
  intro a ha b hb
  rw [h3]
  unfold cU
  by_cases q : a = k ∧ b = f
  · rw [if_pos (by omega), if_pos q]; exact ⟨rfl, hv⟩
  · rw [if_neg (by omega), if_neg q]; exact hC a ha b hb
theorem p_undo (hX : zHas ι pX) (hM : zHas ι pM) (hR : RR mem) : PPi ι l M_Four_undo M_Model_undo 1 1 [zP 0 0] [zP 40 0] mem := by
  intro PX h
  obtain ⟨sz, bx, C, τ, Λ, n, K, d, e, nb, r, hC, hm, h16, hT, hP, hB, hS⟩ := id hR
  have h8 := hC.2.1
  refine c_Four_undo hX h8 hP.c ?_ ?_
  · intro h0
    exact h _ _ (fun PM k => d_undo hM h8 hP.m (fun _ => k _ hR) (fun _ _ _ _ w => by omega))
  · intro k0 f hk hf hd e24
    obtain ⟨p1, p2, p3, p4, p5, p6, p7⟩ := id hP
    obtain ⟨k1, f1, b, a, w1, w2, w3, w4, w5, w6, w7, w8, w9, w10, w11⟩ := p7 (d - 1) (by omega)
    have := uno (n := 1000) (a := 10 * k1 + f1) (by omega) (by omega) (by decide) w5 e24
    obtain rfl : k0 = k1 := by omega
    obtain rfl : f = f1 := by omega
    refine h _ _ (fun PM k => d_undo (mem := upI (upI mem 23 0 3 (nI (d - 1))) 3 k0 f (mem.1 25 0 (d - 1))) (sz := sz) (d := d) (e := e) hM h8 hP.m (fun w => by omega) ?_)
    intro k' f' hk' hf' _ e45
    have e45 : mem.1 45 0 (d - 1) = nI (6 * k' + f') := e45
    have := uno (n := 1000) (a := 6 * k0 + f) (by omega) (by omega) (by decide) w9 e45
    obtain rfl : k' = k0 := by omega
    obtain rfl : f' = f := by omega
    refine k _ ⟨sz, bx, cU C k' f' b, τ, Λ, n, K, d - 1, e, nb, r, ⟨hC.1, h8, hC.2.2.1, hC.2.2.2.1, hC.2.2.2.2.1, CO.face hC.2.2.2.2.2.1 (fun a b' => ?_) w3, hC.2.2.2.2.2.2.1, hC.2.2.2.2.2.2.2⟩, ⟨hm.1, h8, hm.2.2.1, hm.2.2.2.1, hm.2.2.2.2.1, COM.face hm.2.2.2.2.2.1 hf (fun c => ?_) w3, hm.2.2.2.2.2.2.1, hm.2.2.2.2.2.2.2.1, hm.2.2.2.2.2.2.2.2⟩, h16, hT, ⟨rfl, p2, rfl, ?_, by omega, p6, p7⟩, hB, hS⟩
    · show (if 3 = 3 ∧ a = k' ∧ b' = f' then mem.1 25 0 (d - 1) else mem.1 3 a b') = _
      rw [w6]
      by_cases q : a = k' ∧ b' = f'
      · rw [if_pos ⟨rfl, q⟩, if_pos q]
      · rw [if_neg (fun w => q w.2), if_neg q]
    · show (if 41 = 41 ∧ 0 = 0 ∧ c = 6 * k' + f' then mem.1 46 0 (d - 1) else mem.1 41 0 c) = _
      rw [w10]
      by_cases q : c = 6 * k' + f'
      · rw [if_pos ⟨rfl, rfl, q⟩, if_pos q]
      · rw [if_neg (fun w => q w.2.2), if_neg q]
    · show nI (e - d + 1) = nI (e - (d - 1))
      congr 1; omega
theorem p_redo (hX : zHas ι pX) (hM : zHas ι pM) (hR : RR mem) : PPi ι l M_Four_redo M_Model_redo 1 1 [zP 0 0] [zP 40 0] mem := by
  intro PX h
  obtain ⟨sz, bx, C, τ, Λ, n, K, d, e, nb, r, hC, hm, h16, hT, hP, hB, hS⟩ := id hR
  have h8 := hC.2.1
  refine c_Four_redo hX h8 hP.c ?_ ?_
  · intro h0
    exact h _ _ (fun PM k => d_redo hM h8 hP.m (fun _ => k _ hR) (fun _ _ _ _ w => by omega))
  · intro k0 f hk hf hd e24
    obtain ⟨p1, p2, p3, p4, p5, p6, p7⟩ := id hP
    obtain ⟨k1, f1, b, a, w1, w2, w3, w4, w5, w6, w7, w8, w9, w10, w11⟩ := p7 d hd
    have := uno (n := 1000) (a := 10 * k1 + f1) (by omega) (by omega) (by decide) w5 e24
    obtain rfl : k0 = k1 := by omega
    obtain rfl : f = f1 := by omega
    refine h _ _ (fun PM k => d_redo (mem := upI (upI mem 3 k0 f (mem.1 26 0 d)) 23 0 3 (nI (d + 1))) (sz := sz) (d := d) (e := e) hM h8 hP.m (fun w => by omega) ?_)
    intro k' f' hk' hf' _ e45
    have e45 : mem.1 45 0 d = nI (6 * k' + f') := e45
    have := uno (n := 1000) (a := 6 * k0 + f) (by omega) (by omega) (by decide) w9 e45
    obtain rfl : k' = k0 := by omega
    obtain rfl : f' = f := by omega
    refine k _ ⟨sz, bx, cU C k' f' a, τ, Λ, n, K, d + 1, e, nb, r, ⟨hC.1, h8, hC.2.2.1, hC.2.2.2.1, hC.2.2.2.2.1, CO.face hC.2.2.2.2.2.1 (fun a' b' => ?_) w4, hC.2.2.2.2.2.2.1, hC.2.2.2.2.2.2.2⟩, ⟨hm.1, h8, hm.2.2.1, hm.2.2.2.1, hm.2.2.2.2.1, COM.face hm.2.2.2.2.2.1 hf (fun c => ?_) w4, hm.2.2.2.2.2.2.1, hm.2.2.2.2.2.2.2.1, hm.2.2.2.2.2.2.2.2⟩, h16, hT, ⟨rfl, p2, rfl, rfl, by omega, p6, p7⟩, hB, hS⟩
    · show (if 3 = 3 ∧ a' = k' ∧ b' = f' then mem.1 26 0 d else mem.1 3 a' b') = _
      rw [w7]
      by_cases q : a' = k' ∧ b' = f'
      · rw [if_pos ⟨rfl, q⟩, if_pos q]
      · rw [if_neg (fun w => q w.2), if_neg q]
    · show (if 41 = 41 ∧ 0 = 0 ∧ c = 6 * k' + f' then mem.1 47 0 d else mem.1 41 0 c) = _
      rw [w11]
      by_cases q : c = 6 * k' + f'
      · rw [if_pos ⟨rfl, rfl, q⟩, if_pos q]
      · rw [if_neg (fun w => q w.2.2), if_neg q]
theorem p_paint (hX : zHas ι pX) (hM : zHas ι pM) (hR : RR mem) : PPi ι l M_Four_paint M_Model_paint 2 3 [zP 0 0, zI x, zI y] [zP 40 0, zI x, zI y] mem := by
  intro PX h
  obtain ⟨sz, bx, C, τ, Λ, n, K, d, e, nb, r, hC, hm, h16, hT, hP, hB, hS⟩ := id hR
  have h8 := hC.2.1
  obtain ⟨p1, p2, p3, p4, p5, p6, p7⟩ := id hP
  have cc : ∀ k, k < 8 → ∀ f, f < 6 → (cv mem).1 3 k f = mem.1 3 k f := fun k hk f hf => ((hm.2.2.2.2.2.1 k hk f hf).1).trans (hC.2.2.2.2.2.1 k hk f hf).1.symm
  have yes : ∀ k f, k < sz → f < 6 → inN y 7 = true → (fcB (nI (10 * k + f)) sz && inN y 7) = false → False := by
    intro k f hk hf hy w
    rw [fcB_nI (by omega), show (10 * k + f) / 10 = k by omega, show (10 * k + f) % 10 = f by omega, decide_eq_true hk, decide_eq_true hf, hy] at w
    cases w
  have same : ∀ k f k' f', k < sz → f < 6 → k' < sz → f' < 6 → nI (10 * k + f) = nI (10 * k' + f') → k' = k ∧ f' = f := by
    intro k f k' f' h1 h2 h3 h4 w
    have := (nI_eq (by omega) (by omega)).mp w
    omega
  refine c_Four_paint hX hC.1 h8 p1 (by omega) ?_ ?_ ?_ ?_
  · intro hc
    refine h _ _ (fun PM k => d_paint hM hm.1 h8 p3 (by omega) (fun _ => k _ hR) ?_ ?_ ?_)
    · rintro k' f hk hf rfl hy _
      exact (yes k' f hk hf hy hc).elim
    · rintro k' f hk hf rfl hy _ _
      exact (yes k' f hk hf hy hc).elim
    · rintro k' f hk hf rfl hy _ _
      exact (yes k' f hk hf hy hc).elim
  · rintro k0 f hk hf rfl hy he
    refine h _ _ (fun PM k => d_paint hM hm.1 h8 p3 (by omega) (fun w => (yes k0 f hk hf hy w).elim) ?_ ?_ ?_)
    · intro k' f' hk' hf' e1 _ _
      obtain ⟨rfl, rfl⟩ := same k0 f k' f' hk hf hk' hf' e1
      rw [cc k' (by omega) f' hf]
      exact k _ hR
    · intro k' f' hk' hf' e1 _ w _
      obtain ⟨rfl, rfl⟩ := same k0 f k' f' hk hf hk' hf' e1
      rw [cc k' (by omega) f' hf] at w
      exact absurd he.symm w
    · intro k' f' hk' hf' e1 _ w _
      obtain ⟨rfl, rfl⟩ := same k0 f k' f' hk hf hk' hf' e1
      rw [cc k' (by omega) f' hf] at w
      exact absurd he.symm w
  · rintro k0 f hk hf rfl hy hne hd
    obtain ⟨v, hv, rfl⟩ := inN_ex hy (by decide)
    obtain ⟨c1, c2⟩ := hC.2.2.2.2.2.1 k0 (by omega) f hf
    have c3 := cc k0 (by omega) f hf
    refine h _ _ (fun PM k => d_paint (mem := upI (adM mem d (nI (10 * k0 + f)) (mem.1 3 k0 f) (nI v)) 3 k0 f (nI v)) hM hm.1 h8 p3 (by omega) (fun w => (yes k0 f hk hf hy w).elim) ?_ ?_ ?_)
    · intro k' f' hk' hf' e1 _ w
      obtain ⟨rfl, rfl⟩ := same k0 f k' f' hk hf hk' hf' e1
      have w : (cv mem).1 3 k' f' = nI v := w
      rw [c3] at w
      exact absurd w.symm hne
    · intro k' f' hk' hf' e1 _ _ _
      obtain ⟨rfl, rfl⟩ := same k0 f k' f' hk hf hk' hf' e1
      rw [show (cv (upI (adM mem d (nI (10 * k' + f')) (mem.1 3 k' f') (nI v)) 3 k' f' (nI v))).1 3 k' f' = mem.1 3 k' f' from c3]
      refine k _ ⟨sz, bx, cU C k' f' v, τ, Λ, n, K, d + 1, d + 1, nb, r, ⟨hC.1, h8, hC.2.2.1, hC.2.2.2.1, hC.2.2.2.2.1, CO.face hC.2.2.2.2.2.1 (fun a b' => ?_) (by omega), hC.2.2.2.2.2.2.1, hC.2.2.2.2.2.2.2⟩, ⟨hm.1, h8, hm.2.2.1, hm.2.2.2.1, hm.2.2.2.2.1, COM.face hm.2.2.2.2.2.1 hf (fun c => ?_) (by omega), hm.2.2.2.2.2.2.1, hm.2.2.2.2.2.2.2.1, hm.2.2.2.2.2.2.2.2⟩, h16, hT, ⟨rfl, rfl, rfl, ?_, Nat.le_refl _, by omega, fun i hi => ?_⟩, hB, hS⟩
      · show (if 3 = 3 ∧ a = k' ∧ b' = f' then nI v else mem.1 3 a b') = _
        by_cases q : a = k' ∧ b' = f'
        · rw [if_pos ⟨rfl, q⟩, if_pos q]
        · rw [if_neg (fun w => q w.2), if_neg q]
      · show (if 41 = 41 ∧ 0 = 0 ∧ c = 6 * k' + f' then nI v else mem.1 41 0 c) = _
        by_cases q : c = 6 * k' + f'
        · rw [if_pos ⟨rfl, rfl, q⟩, if_pos q]
        · rw [if_neg (fun w => q w.2.2), if_neg q]
      · show (0 : Int32) = nI (d + 1 - (d + 1))
        rw [Nat.sub_self]; rfl
      · show ∃ k f b a : Nat, k < sz ∧ f < 6 ∧ b ≤ 6 ∧ a ≤ 6 ∧ (if 24 = 24 ∧ 0 = 0 ∧ i = d then nI (10 * k' + f') else mem.1 24 0 i) = nI (10 * k + f) ∧ (if 25 = 25 ∧ 0 = 0 ∧ i = d then mem.1 3 k' f' else mem.1 25 0 i) = nI b ∧ (if 26 = 26 ∧ 0 = 0 ∧ i = d then nI v else mem.1 26 0 i) = nI a ∧ (if 44 = 44 ∧ 0 = 0 ∧ i = d then (0 : Int32) else mem.1 44 0 i) = 0 ∧ (if 45 = 45 ∧ 0 = 0 ∧ i = d then nI (6 * k' + f') else mem.1 45 0 i) = nI (6 * k + f) ∧ (if 46 = 46 ∧ 0 = 0 ∧ i = d then mem.1 3 k' f' else mem.1 46 0 i) = nI b ∧ (if 47 = 47 ∧ 0 = 0 ∧ i = d then nI v else mem.1 47 0 i) = nI a
        by_cases q : i = d
        · have q3 : ∀ p : Nat, (p = p ∧ 0 = 0 ∧ i = d) := fun p => ⟨rfl, rfl, q⟩
          rw [if_pos (q3 24), if_pos (q3 25), if_pos (q3 26), if_pos (q3 44), if_pos (q3 45), if_pos (q3 46), if_pos (q3 47)]
          exact ⟨k', f', C k' f', v, hk, hf, c2, by omega, rfl, c1, rfl, rfl, rfl, c1, rfl⟩
        · have q3 : ∀ p : Nat, ¬ (p = p ∧ 0 = 0 ∧ i = d) := fun p w => q w.2.2
          rw [if_neg (q3 24), if_neg (q3 25), if_neg (q3 26), if_neg (q3 44), if_neg (q3 45), if_neg (q3 46), if_neg (q3 47)]
          exact p7 i (by omega)
    · intro k' f' _ _ _ _ _ w
      omega
  · rintro k0 f hk hf rfl hy hne hd
    subst hd
    obtain ⟨v, hv, rfl⟩ := inN_ex hy (by decide)
    obtain ⟨c1, c2⟩ := hC.2.2.2.2.2.1 k0 (by omega) f hf
    have c3 := cc k0 (by omega) f hf
    refine h _ _ (fun PM k => d_paint (mem := upI (adM (upI (fgM mem 40) 23 0 3 (nI 39)) 39 (nI (10 * k0 + f)) (mem.1 3 k0 f) (nI v)) 3 k0 f (nI v)) (d := 40) hM hm.1 h8 p3 (by omega) (fun w => (yes k0 f hk hf hy w).elim) ?_ ?_ ?_)
    · intro k' f' hk' hf' e1 _ w
      obtain ⟨rfl, rfl⟩ := same k0 f k' f' hk hf hk' hf' e1
      have w : (cv mem).1 3 k' f' = nI v := w
      rw [c3] at w
      exact absurd w.symm hne
    · intro k' f' _ _ _ _ _ w
      omega
    · intro k' f' hk' hf' e1 _ _ _
      obtain ⟨rfl, rfl⟩ := same k0 f k' f' hk hf hk' hf' e1
      rw [show (cv (upI (adM (upI (fgM mem 40) 23 0 3 (nI 39)) 39 (nI (10 * k' + f')) (mem.1 3 k' f') (nI v)) 3 k' f' (nI v))).1 3 k' f' = mem.1 3 k' f' from c3]
      refine k _ ⟨sz, bx, cU C k' f' v, τ, Λ, n, K, 40, 40, nb, r, ⟨hC.1, h8, hC.2.2.1, hC.2.2.2.1, hC.2.2.2.2.1, CO.face hC.2.2.2.2.2.1 (fun a b' => ?_) (by omega), hC.2.2.2.2.2.2.1, hC.2.2.2.2.2.2.2⟩, ⟨hm.1, h8, hm.2.2.1, hm.2.2.2.1, hm.2.2.2.2.1, COM.face hm.2.2.2.2.2.1 hf (fun c => ?_) (by omega), hm.2.2.2.2.2.2.1, hm.2.2.2.2.2.2.2.1, hm.2.2.2.2.2.2.2.2⟩, h16, hT, ⟨rfl, rfl, rfl, rfl, Nat.le_refl _, Nat.le_refl _, fun i hi => ?_⟩, hB, hS⟩
      · show (if 3 = 3 ∧ a = k' ∧ b' = f' then nI v else mem.1 3 a b') = _
        by_cases q : a = k' ∧ b' = f'
        · rw [if_pos ⟨rfl, q⟩, if_pos q]
        · rw [if_neg (fun w => q w.2), if_neg q]
      · show (if 41 = 41 ∧ 0 = 0 ∧ c = 6 * k' + f' then nI v else mem.1 41 0 c) = _
        by_cases q : c = 6 * k' + f'
        · rw [if_pos ⟨rfl, rfl, q⟩, if_pos q]
        · rw [if_neg (fun w => q w.2.2), if_neg q]
      · show ∃ k f b a : Nat, k < sz ∧ f < 6 ∧ b ≤ 6 ∧ a ≤ 6 ∧ (if 24 = 24 ∧ 0 = 0 ∧ i = 39 then nI (10 * k' + f') else (fgM mem 40).1 24 0 i) = nI (10 * k + f) ∧ (if 25 = 25 ∧ 0 = 0 ∧ i = 39 then mem.1 3 k' f' else (fgM mem 40).1 25 0 i) = nI b ∧ (if 26 = 26 ∧ 0 = 0 ∧ i = 39 then nI v else (fgM mem 40).1 26 0 i) = nI a ∧ (if 44 = 44 ∧ 0 = 0 ∧ i = 39 then (0 : Int32) else (fgN mem 40).1 44 0 i) = 0 ∧ (if 45 = 45 ∧ 0 = 0 ∧ i = 39 then nI (6 * k' + f') else (fgN mem 40).1 45 0 i) = nI (6 * k + f) ∧ (if 46 = 46 ∧ 0 = 0 ∧ i = 39 then mem.1 3 k' f' else (fgN mem 40).1 46 0 i) = nI b ∧ (if 47 = 47 ∧ 0 = 0 ∧ i = 39 then nI v else (fgN mem 40).1 47 0 i) = nI a
        by_cases q : i = 39
        · have q3 : ∀ p : Nat, (p = p ∧ 0 = 0 ∧ i = 39) := fun p => ⟨rfl, rfl, q⟩
          rw [if_pos (q3 24), if_pos (q3 25), if_pos (q3 26), if_pos (q3 44), if_pos (q3 45), if_pos (q3 46), if_pos (q3 47)]
          exact ⟨k', f', C k' f', v, hk, hf, c2, by omega, rfl, c1, rfl, rfl, rfl, c1, rfl⟩
        · have q3 : ∀ p : Nat, ¬ (p = p ∧ 0 = 0 ∧ i = 39) := fun p w => q w.2.2
          rw [if_neg (q3 24), if_neg (q3 25), if_neg (q3 26), if_neg (q3 44), if_neg (q3 45), if_neg (q3 46), if_neg (q3 47)]
          have gM : ∀ p, (p = 24 ∨ p = 25 ∨ p = 26) → (fgM mem 40).1 p 0 i = mem.1 p 0 (i + 1) := fun p hp => if_pos ⟨hp, rfl, by omega⟩
          have gN : ∀ p, (p = 44 ∨ p = 45 ∨ p = 46 ∨ p = 47) → (fgN mem 40).1 p 0 i = mem.1 p 0 (i + 1) := fun p hp => if_pos ⟨hp, rfl, by omega⟩
          rw [gM 24 (by omega), gM 25 (by omega), gM 26 (by omega), gN 44 (by omega), gN 45 (by omega), gN 46 (by omega), gN 47 (by omega)]
          exact p7 (i + 1) (by omega)
end Q7
