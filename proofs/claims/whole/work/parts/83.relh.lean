/-! side by side: shelves -/
section Q4
variable {l : Launch} {ι : zE} {mem : zM} {x y z : Int32}
theorem rs_k {k k' : Nat} {v u : Int32} {c c' : Nat} (h : k' ≠ k) : (upI mem 31 k c v).1 31 k' c' = mem.1 31 k' c' := by rw [upI_get, if_neg (fun w => h w.2.1)]
theorem p_keep (hX : zHas ι pX) (hM : zHas ι pM) (hR : RR mem) : PPi ι l M_Four_keep M_Model_keep 1 2 [zP 0 0, zI x, zI y] [zP 40 0, zI x, zI y] mem := by
  intro PX h
  obtain ⟨sz, bx, C, τ, Λ, n, K, d, e, nb, r, hC, hm, h16, hT, hP, hB, hS⟩ := id hR
  obtain ⟨q1, q2, q3, q4, q5, q6, q7, q8⟩ := id hB
  have m1 : ∀ b, b < 50 → ¬ nI b = -1 := by decide +kernel
  refine c_Four_keep hX q1 q3 ?_ ?_ ?_
  · intro hc
    refine h _ _ (fun PM k => d_keep hM q2 q3 (fun _ => k _ hR) ?_ ?_)
    · rintro k' hk rfl rfl
      rcases hc with w | w
      · exact (nope w hk rfl (by decide)).elim
      · exact absurd rfl w.1
    · rintro k' b hk hb rfl rfl
      rcases hc with w | w
      · exact (nope w hk rfl (by decide)).elim
      · exact (nope w.2 hb rfl (by omega)).elim
  · rintro k0 hk rfl rfl
    refine h _ _ (fun PM k => d_keep (mem := upI mem 31 k0 0 0) hM q2 q3 ?_ ?_ ?_)
    · rintro (w | w)
      · exact (nope w hk rfl (by decide)).elim
      · exact absurd rfl w.1
    · intro k' hk' e1 _
      obtain rfl := uno hk hk' (by decide) rfl e1
      refine k _ ⟨sz, bx, C, τ, Λ, n, K, d, e, nb, r, hC, hm, h16, hT, hP, hB, fun j hj => ?_⟩
      by_cases q : j = k'
      · subst q
        obtain ⟨L, s, L2, a1, a2, a3, a4, a5, a6, a7⟩ := hS j hj
        refine ⟨L, s, L2, a1, a2, a3, ?_, ?_, a6, Or.inl ⟨?_, ?_⟩⟩
        · show (if 31 = 31 ∧ j = j ∧ 3 = 0 then (0 : Int32) else mem.1 31 j 3) = _
          rw [if_neg (by omega)]; exact a4
        · show (if 31 = 31 ∧ j = j ∧ 2 = 0 then (0 : Int32) else mem.1 31 j 2) = _
          rw [if_neg (by omega)]; exact a5
        · show (if 31 = 31 ∧ j = j ∧ 0 = 0 then (0 : Int32) else mem.1 31 j 0) = _
          rw [if_pos ⟨rfl, rfl, rfl⟩]
        · show (if 64 = 64 ∧ 0 = 0 ∧ j = j then (-1 : Int32) else mem.1 64 0 j) = _
          rw [if_pos ⟨rfl, rfl, rfl⟩]
      · refine RS1.fr (mem := mem) (fun c => ?_) ?_ rfl (fun _ _ => rfl) (fun _ _ => rfl) (hS j hj)
        · show (if 31 = 31 ∧ j = k' ∧ c = 0 then (0 : Int32) else mem.1 31 j c) = _
          rw [if_neg (fun w => q w.2.1)]
        · show (if 64 = 64 ∧ 0 = 0 ∧ j = k' then (-1 : Int32) else mem.1 64 0 j) = _
          rw [if_neg (fun w => q w.2.2)]
    · intro k' b hk' hb _ e2
      exact absurd e2.symm (m1 b (by omega))
  · rintro k0 b hk hb rfl rfl
    refine h _ _ (fun PM k => d_keep (mem := upI (upI mem 31 k0 0 1) 31 k0 1 (nI b)) hM q2 q3 ?_ ?_ ?_)
    · rintro (w | w)
      · exact (nope w hk rfl (by decide)).elim
      · exact (nope w.2 hb rfl (by omega)).elim
    · intro k' hk' _ e2
      exact absurd e2 (m1 b (by omega))
    · intro k' b' hk' hb' e1 e2
      obtain rfl := uno hk hk' (by decide) rfl e1
      obtain rfl := uno hb hb' (by omega) rfl e2
      refine k _ ⟨sz, bx, C, τ, Λ, n, K, d, e, nb, r, hC, hm, h16, hT, hP, hB, fun j hj => ?_⟩
      by_cases q : j = k'
      · subst q
        obtain ⟨L, s, L2, a1, a2, a3, a4, a5, a6, a7⟩ := hS j hj
        refine ⟨L, s, L2, a1, a2, a3, ?_, ?_, a6, Or.inr (Or.inl ⟨?_, b', hb, ?_, ?_⟩)⟩
        · show (if 31 = 31 ∧ j = j ∧ 3 = 1 then nI b' else if 31 = 31 ∧ j = j ∧ 3 = 0 then (1 : Int32) else mem.1 31 j 3) = _
          rw [if_neg (by omega), if_neg (by omega)]; exact a4
        · show (if 31 = 31 ∧ j = j ∧ 2 = 1 then nI b' else if 31 = 31 ∧ j = j ∧ 2 = 0 then (1 : Int32) else mem.1 31 j 2) = _
          rw [if_neg (by omega), if_neg (by omega)]; exact a5
        · show (if 31 = 31 ∧ j = j ∧ 0 = 1 then nI b' else if 31 = 31 ∧ j = j ∧ 0 = 0 then (1 : Int32) else mem.1 31 j 0) = _
          rw [if_neg (by omega), if_pos ⟨rfl, rfl, rfl⟩]
        · show (if 31 = 31 ∧ j = j ∧ 1 = 1 then nI b' else if 31 = 31 ∧ j = j ∧ 1 = 0 then (1 : Int32) else mem.1 31 j 1) = _
          rw [if_pos ⟨rfl, rfl, rfl⟩]
        · show (if 64 = 64 ∧ 0 = 0 ∧ j = j then nI b' else mem.1 64 0 j) = _
          rw [if_pos ⟨rfl, rfl, rfl⟩]
      · refine RS1.fr (mem := mem) (fun c => ?_) ?_ rfl (fun _ _ => rfl) (fun _ _ => rfl) (hS j hj)
        · show (if 31 = 31 ∧ j = k' ∧ c = 1 then nI b' else if 31 = 31 ∧ j = k' ∧ c = 0 then (1 : Int32) else mem.1 31 j c) = _
          rw [if_neg (fun w => q w.2.1), if_neg (fun w => q w.2.1)]
        · show (if 64 = 64 ∧ 0 = 0 ∧ j = k' then nI b' else mem.1 64 0 j) = _
          rw [if_neg (fun w => q w.2.2)]
theorem p_row (hX : zHas ι pX) (hM : zHas ι pM) (hR : RR mem) : PPi ι l M_Four_row M_Model_row 2 2 [zP 0 0, zI x, zI y, zI z] [zP 40 0, zI x, zI y, zI z] mem := by
  intro PX h
  obtain ⟨sz, bx, C, τ, Λ, n, K, d, e, nb, r, hC, hm, h16, hT, hP, hB, hS⟩ := id hR
  refine c_Four_row hX ?_ ?_ ?_
  · intro hc
    refine h _ _ (fun PM k => d_row hM (fun _ => k _ hR) ?_ ?_)
    · intro a b c
      rcases hc with w | w | w
      · rw [a] at w; cases w
      · rw [b] at w; cases w
      · have := Int32.lt_of_le_of_lt w c
        exact absurd this (by decide)
    · rintro k' s n' hk hs hn rfl rfl rfl
      rcases hc with w | w | w
      · exact (nope w hk rfl (by decide)).elim
      · exact (nope w hs rfl (by decide)).elim
      · exact absurd w (nI_ge (by omega) (by decide))
  · intro a b c
    refine h _ _ (fun PM k => d_row hM ?_ (fun _ _ _ => k _ hR) ?_)
    · rintro (w | w | w)
      · rw [a] at w; cases w
      · rw [b] at w; cases w
      · have := Int32.lt_of_le_of_lt w c
        exact absurd this (by decide)
    · rintro k' s n' hk hs hn rfl rfl rfl
      exact absurd c (nI_pos (by omega))
  · rintro k0 s n0 hk hs hn rfl rfl rfl
    refine h _ _ (fun PM k => d_row hM ?_ ?_ ?_)
    · rintro (w | w | w)
      · exact (nope w hk rfl (by decide)).elim
      · exact (nope w hs rfl (by decide)).elim
      · exact absurd w (nI_ge (by omega) (by decide))
    · intro _ _ w
      exact absurd w (nI_pos (by omega))
    · intro k' s' n' hk' hs' hn' e1 e2 e3
      obtain rfl := uno hk hk' (by decide) rfl e1
      obtain rfl := uno hs hs' (by decide) rfl e2
      obtain rfl := uno (n := 61) (by omega) (by omega) (by decide) rfl e3
      refine k _ ⟨sz, bx, C, τ, Λ, n, K, d, e, nb, r, hC, hm, h16, hT, hP, hB, fun j hj => ?_⟩
      by_cases q : j = k'
      · subst q
        refine ⟨n', s', n', hn, hs, hn, ?_, ?_, ?_, Or.inr (Or.inr ⟨?_, ?_, rfl, fun i hi => ?_⟩)⟩
        · show (if 31 = 31 ∧ j = j ∧ 3 = 3 then nI n' else _) = _
          rw [if_pos ⟨rfl, rfl, rfl⟩]
        · show (if 31 = 31 ∧ j = j ∧ 2 = 3 then nI n' else if 31 = 31 ∧ j = j ∧ 2 = 2 then nI s' else _) = _
          rw [if_neg (by omega), if_pos ⟨rfl, rfl, rfl⟩]
        · show (if 65 = 65 ∧ 0 = 0 ∧ j = j then nI n' else _) = _
          rw [if_pos ⟨rfl, rfl, rfl⟩]
        · show (if 31 = 31 ∧ j = j ∧ 0 = 3 then nI n' else if 31 = 31 ∧ j = j ∧ 0 = 2 then nI s' else if 31 = 31 ∧ j = j ∧ 0 = 0 then (2 : Int32) else _) = _
          rw [if_neg (by omega), if_neg (by omega), if_pos ⟨rfl, rfl, rfl⟩]
        · show (if 64 = 64 ∧ 0 = 0 ∧ j = j then -(nI (s' + 2)) else _) = _
          rw [if_pos ⟨rfl, rfl, rfl⟩]
        · show (if 32 = 32 ∧ j = j ∧ i < 60 then (0 : Int64) else _) = (if 66 = 66 ∧ 0 = 0 ∧ 60 * j ≤ 60 * j + i ∧ 60 * j + i < 60 * j + 60 then (0 : Int64) else _)
          rw [if_pos ⟨rfl, rfl, hi⟩, if_pos (by omega)]
      · refine RS1.fr (mem := mem) (fun c => ?_) ?_ ?_ (fun i hi => ?_) (fun i hi => ?_) (hS j hj)
        · show (if 31 = 31 ∧ j = k' ∧ c = 3 then nI n' else if 31 = 31 ∧ j = k' ∧ c = 2 then nI s' else if 31 = 31 ∧ j = k' ∧ c = 0 then (2 : Int32) else mem.1 31 j c) = _
          rw [if_neg (fun w => q w.2.1), if_neg (fun w => q w.2.1), if_neg (fun w => q w.2.1)]
        · show (if 64 = 64 ∧ 0 = 0 ∧ j = k' then -(nI (s' + 2)) else mem.1 64 0 j) = _
          rw [if_neg (fun w => q w.2.2)]
        · show (if 65 = 65 ∧ 0 = 0 ∧ j = k' then nI n' else mem.1 65 0 j) = _
          rw [if_neg (fun w => q w.2.2)]
        · show (if 32 = 32 ∧ j = k' ∧ i < 60 then (0 : Int64) else mem.2.1 32 j i) = _
          rw [if_neg (fun w => q w.2.1)]
        · show (if 66 = 66 ∧ 0 = 0 ∧ 60 * k' ≤ 60 * j + i ∧ 60 * j + i < 60 * k' + 60 then (0 : Int64) else mem.2.1 66 0 (60 * j + i)) = _
          rw [if_neg (by omega)]
theorem rf_wp {nb : Nat} (hnb : nb ≤ 50) (hS : RS mem nb) : rfV mem x y = wpV mem x y := by
  unfold rfV wpV
  cases hx : inN x 6 with
  | false => rw [if_neg (by decide), if_neg (by decide)]
  | true =>
    obtain ⟨k, hk, rfl⟩ := inN_ex hx (by decide)
    rw [if_pos rfl, if_pos rfl, nI_clamp (by omega)]
    obtain ⟨L, s, L2, a1, a2, a3, a4, a5, a6, a7⟩ := hS k hk
    have nn : ∀ b, b < 50 → ¬ nI b = -1 ∧ ¬ nI b < 0 := by decide +kernel
    rcases a7 with ⟨b1, b2⟩ | ⟨b1, b, b2, b3, b4⟩ | ⟨b1, b2, b3, b4⟩
    · rw [if_pos b1, if_pos b2]
    · rw [b1, b4, if_neg (by decide), if_pos (by decide), if_neg (nn b (by omega)).1, if_pos (nn b (by omega)).2]
    · have hh := ho_neg s a2
      rw [b1, b2, if_neg (by decide), if_neg (by decide), if_neg hh.2.1, if_neg (show ¬ ¬ (-(nI (s + 2)) : Int32) < 0 from fun w => w hh.1), a4, a6, b3]
theorem rfV_cases : rfV mem x y = 0 ∨ rfV mem x y < 0 := by
  unfold rfV
  repeat' split
  all_goals decide
theorem p_put {v : Int64} (hX : zHas ι pX) (hM : zHas ι pM) (hR : RR mem) : PPi ι l M_Four_put M_Model_put 2 3 [zP 0 0, zI x, zI y, zJ v] [zP 40 0, zI x, zI y, zJ v] mem := by
  intro PX h
  obtain ⟨sz, bx, C, τ, Λ, n, K, d, e, nb, r, hC, hm, h16, hT, hP, hB, hS⟩ := id hR
  have ew := rf_wp (x := x) (y := y) hB.2.2.1 hS
  refine c_Four_put hX hS.sh ?_ ?_
  · intro hc
    refine h _ _ (fun PM k => d_put (nb := nb) hM hS.ml hS.ho hB.2.2.1 (fun _ => ?_) ?_)
    · rw [← ew]; exact k _ hR
    · intro k' j s _ _ _ _ _ _ w
      rw [← ew] at w
      exact absurd w hc
  · rintro k0 j s hk hj hs rfl rfl es hz
    have e64 : mem.1 64 0 k0 = -(nI (s + 2)) := by
      obtain ⟨L, s', L2, a1, a2, a3, a4, a5, a6, a7⟩ := hS k0 hk
      obtain rfl := uno hs a2 (by decide) es a5
      obtain ⟨k2, j2, L', s2, g1, g2, g3, g4, g5, g6, g7, _⟩ := rfV_0 hS.sh hz
      obtain rfl := uno hk g1 (by decide) rfl g2
      rcases a7 with ⟨b1, _⟩ | ⟨b1, _⟩ | ⟨b1, b2, _⟩
      · rw [b1] at g7; exact absurd g7 (by decide)
      · rw [b1] at g7; exact absurd g7 (by decide)
      · exact b2
    have ew' : wpV (upJ mem 32 k0 j (snJ s v)) (nI k0) (nI j) = 0 := by rw [hz] at ew; exact ew.symm
    refine h _ _ (fun PM k => d_put (mem := upJ mem 32 k0 j (snJ s v)) (nb := nb) hM hS.ml hS.ho hB.2.2.1 ?_ ?_)
    · intro w
      rw [ew'] at w
      exact absurd w (by decide)
    · intro k' j' s' hk' hj' hs' e1 e2 e3 _
      obtain rfl := uno hk hk' (by decide) rfl e1
      obtain rfl := uno hj hj' (by decide) rfl e2
      have e3 : mem.1 64 0 k' = -(nI (s' + 2)) := e3
      obtain rfl : s' = s := by
        rw [e64] at e3
        have := congrArg (fun q => (-2 : Int32) - q) e3
        simp only [(ho_neg s hs).2.2, (ho_neg s' hs').2.2] at this
        exact ((nI_eq (by omega) (by omega)).mp this).symm
      refine k _ ⟨sz, bx, C, τ, Λ, n, K, d, e, nb, r, hC, hm, h16, hT, hP, hB, fun i hi => ?_⟩
      obtain ⟨L, s2, L2, a1, a2, a3, a4, a5, a6, a7⟩ := hS i hi
      refine ⟨L, s2, L2, a1, a2, a3, a4, a5, a6, ?_⟩
      rcases a7 with w | w | ⟨b1, b2, b3, b4⟩
      · exact Or.inl w
      · exact Or.inr (Or.inl w)
      · refine Or.inr (Or.inr ⟨b1, b2, b3, fun c hc => ?_⟩)
        show (if 32 = 32 ∧ i = k' ∧ c = j' then snJ s' v else mem.2.1 32 i c) = (if 66 = 66 ∧ 0 = 0 ∧ 60 * i + c = 60 * k' + j' then snJ s' v else mem.2.1 66 0 (60 * i + c))
        by_cases q : i = k' ∧ c = j'
        · rw [if_pos ⟨rfl, q⟩, if_pos (by omega)]
        · rw [if_neg (fun w => q w.2), if_neg (by omega)]
          exact b4 c hc
theorem p_element (hX : zHas ι pX) (hM : zHas ι pM) (hR : RR mem) : PPj ι l M_Four_element M_Model_element 2 3 [zP 0 0, zI x, zI y] [zP 40 0, zI x, zI y] mem := by
  intro PX h
  obtain ⟨sz, bx, C, τ, Λ, n, K, d, e, nb, r, hC, hm, h16, hT, hP, hB, hS⟩ := id hR
  have ew := rf_wp (x := x) (y := y) hB.2.2.1 hS
  refine c_Four_element hX hS.sh ?_ ?_
  · intro hc
    refine h _ _ (fun PM k => d_element hM hS.ml (fun _ => k _ hR) ?_)
    intro k' j _ _ _ _ w
    rw [← ew] at w
    exact absurd w hc
  · rintro k0 j hk hj rfl rfl hz
    refine h _ _ (fun PM k => d_element hM hS.ml ?_ ?_)
    · intro w
      rw [← ew, hz] at w
      exact absurd w (by decide)
    · intro k' j' hk' hj' e1 e2 _
      obtain rfl := uno hk hk' (by decide) rfl e1
      obtain rfl := uno hj hj' (by decide) rfl e2
      obtain ⟨L, s', L2, a1, a2, a3, a4, a5, a6, a7⟩ := hS k' hk
      obtain ⟨k2, j2, L', s2, g1, g2, g3, g4, g5, g6, g7, _⟩ := rfV_0 hS.sh hz
      obtain rfl := uno hk g1 (by decide) rfl g2
      rcases a7 with ⟨b1, _⟩ | ⟨b1, _⟩ | ⟨b1, b2, b3, b4⟩
      · rw [b1] at g7; exact absurd g7 (by decide)
      · rw [b1] at g7; exact absurd g7 (by decide)
      · rw [← b4 j' hj]
        exact k _ hR
theorem p_taken (hX : zHas ι pX) (hM : zHas ι pM) (hR : RR mem) : PPi ι l M_Four_taken M_Model_taken 2 2 [zP 0 0, zI x, zI y] [zP 40 0, zI x, zI y] mem := by
  intro PX h
  obtain ⟨sz, bx, C, τ, Λ, n, K, d, e, nb, r, hC, hm, h16, hT, hP, hB, hS⟩ := id hR
  obtain ⟨q1, q2, q3, q4, q5, q6, q7, q8⟩ := id hB
  have hbd : ∀ k, k < 6 → mem.1 31 k 0 = 0 ∨ mem.1 31 k 0 = 2 ∨ (mem.1 31 k 0 = 1 ∧ ∃ b, b < nb ∧ mem.1 31 k 1 = nI b) := fun k hk => by
    obtain ⟨L, s, L2, a1, a2, a3, a4, a5, a6, a7⟩ := hS k hk
    rcases a7 with ⟨b1, b2⟩ | ⟨b1, b, b2, b3, b4⟩ | ⟨b1, b2, b3⟩
    · exact Or.inl b1
    · exact Or.inr (Or.inr ⟨b1, b, b2, b3⟩)
    · exact Or.inr (Or.inl b1)
  have nn : ∀ b, b < 50 → ¬ nI b = -1 ∧ ¬ nI b < 0 := by decide +kernel
  have kinds : ∀ k, k < 6 → (mem.1 31 k 0 = 0 ↔ mem.1 64 0 k = -1) ∧ (∀ s, s < 5 → mem.1 64 0 k = -(nI (s + 2)) → mem.1 31 k 0 = 2) ∧ (∀ b, b < nb → mem.1 64 0 k = nI b → mem.1 31 k 0 = 1 ∧ mem.1 31 k 1 = nI b) := fun k hk => by
    obtain ⟨L, s, L2, a1, a2, a3, a4, a5, a6, a7⟩ := hS k hk
    rcases a7 with ⟨b1, b2⟩ | ⟨b1, b, b2, b3, b4⟩ | ⟨b1, b2, b3⟩
    · refine ⟨⟨fun _ => b2, fun _ => b1⟩, fun s' hs' w => ?_, fun b hb w => ?_⟩
      · rw [b2] at w; exact absurd w.symm (ho_neg s' hs').2.1
      · rw [b2] at w; exact absurd w.symm (nn b (by omega)).1
    · refine ⟨⟨fun w => ?_, fun w => ?_⟩, fun s' hs' w => ?_, fun b' hb w => ?_⟩
      · rw [b1] at w; exact absurd w (by decide)
      · rw [b4] at w; exact absurd w (nn b (by omega)).1
      · rw [b4] at w; exact absurd (by rw [w]; exact (ho_neg s' hs').1) (nn b (by omega)).2
      · rw [b4] at w
        obtain rfl := (nI_eq (by omega) (by omega)).mp w
        exact ⟨b1, b3⟩
    · refine ⟨⟨fun w => ?_, fun w => ?_⟩, fun s' hs' w => b1, fun b' hb w => ?_⟩
      · rw [b1] at w; exact absurd w (by decide)
      · rw [b2] at w; exact absurd w (ho_neg s a2).2.1
      · rw [b2] at w; exact absurd (by rw [← w]; exact (ho_neg s a2).1) (nn b' (by omega)).2
  refine c_Four_taken hX q1 q3 (fun b hb => (q4 b hb).imp (fun κ w => ⟨w.1, w.2.1⟩)) hbd ?_ ?_ ?_ ?_
  · intro hc
    refine h _ _ (fun PM k => d_taken hM q2 q3 (fun b hb => (q4 b hb).imp (fun κ w => ⟨w.1, w.2.2⟩)) hS.ho (fun _ => k _ hR) ?_ ?_ ?_)
    · rintro k' hk rfl w _
      rw [inN_nI hk (by decide), w] at hc; cases hc
    · rintro k' s hk _ rfl w _
      rw [inN_nI hk (by decide), w] at hc; cases hc
    · rintro k' t b κ hk ht _ _ rfl rfl _ _
      rw [inN_nI hk (by decide), inN_nI ht (by decide)] at hc; cases hc
  · rintro k0 hk rfl hy h0
    have e1 := (kinds k0 hk).1.mp h0
    refine h _ _ (fun PM k => d_taken hM q2 q3 (fun b hb => (q4 b hb).imp (fun κ w => ⟨w.1, w.2.2⟩)) hS.ho ?_ (fun _ _ _ _ _ => k _ hR) ?_ ?_)
    · intro w; rw [inN_nI hk (by decide), hy] at w; cases w
    · intro k' s hk' hs e2 _ w
      obtain rfl := uno hk hk' (by decide) rfl e2
      rw [e1] at w; exact absurd w.symm (ho_neg s hs).2.1
    · intro k' t b κ hk' _ hb _ e2 _ w _
      obtain rfl := uno hk hk' (by decide) rfl e2
      rw [e1] at w; exact absurd w.symm (nn b (by omega)).1
  · rintro k0 hk rfl hy h2
    refine h _ _ (fun PM k => d_taken hM q2 q3 (fun b hb => (q4 b hb).imp (fun κ w => ⟨w.1, w.2.2⟩)) hS.ho ?_ ?_ (fun _ _ _ _ _ _ _ => k _ hR) ?_)
    · intro w; rw [inN_nI hk (by decide), hy] at w; cases w
    · intro k' hk' e2 _ w
      obtain rfl := uno hk hk' (by decide) rfl e2
      rw [(kinds k' hk).1.mpr w] at h2; exact absurd h2 (by decide)
    · intro k' t b κ hk' _ hb _ e2 _ w _
      obtain rfl := uno hk hk' (by decide) rfl e2
      rw [((kinds k' hk).2.2 b hb w).1] at h2; exact absurd h2 (by decide)
  · rintro k0 t b κ hk ht hb hκ rfl rfl h1 eb eκ
    refine h _ _ (fun PM k => d_taken hM q2 q3 (fun b hb => (q4 b hb).imp (fun κ w => ⟨w.1, w.2.2⟩)) hS.ho ?_ ?_ ?_ ?_)
    · intro w; rw [inN_nI hk (by decide), inN_nI ht (by decide)] at w; cases w
    · intro k' hk' e2 _ w
      obtain rfl := uno hk hk' (by decide) rfl e2
      rw [(kinds k' hk).1.mpr w] at h1; exact absurd h1 (by decide)
    · intro k' s hk' hs e2 _ w
      obtain rfl := uno hk hk' (by decide) rfl e2
      rw [(kinds k' hk).2.1 s hs w] at h1; exact absurd h1 (by decide)
    · intro k' t' b' κ' hk' ht' hb' hκ' e2 e3 e4 e5
      obtain rfl := uno hk hk' (by decide) rfl e2
      obtain rfl := uno ht ht' (by decide) rfl e3
      have := ((kinds k' hk).2.2 b' hb' e4).2
      obtain rfl := uno hb hb' (by omega) eb this
      obtain ⟨κ2, w1, w2, w3⟩ := q4 b' hb
      obtain rfl := uno w1 hκ (by decide) w2 eκ
      obtain rfl := uno w1 hκ' (by decide) w3 e5
      exact k _ hR
end Q4
