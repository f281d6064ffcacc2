/-! side by side: the law -/
section Q8
variable {l : Launch} {ι : zE} {mem : zM}
theorem R0.law {mem m : zM} {sz bx : Nat} {C : Nat → Nat → Nat} {τ : Nat → Nat} {Λ Λ' : Option (List lLn)} {n : Nat} {K : Nat → Nat} {d e nb r : Nat} (h : R0 mem sz bx C τ Λ n K d e nb r) (G : ∀ a b c, (a ≠ 4 ∧ a ≠ 6 ∧ a ≠ 7 ∧ a ≠ 8 ∧ ¬ (49 ≤ a ∧ a ≤ 53) ∧ ¬ (a = 40 ∧ ((13 ≤ c ∧ c ≤ 17) ∨ c = 25))) → m.1 a b c = mem.1 a b c) (G2 : m.2.1 = mem.2.1) (hMY : MY m Λ') (hML : ML m Λ') (t1 : m.1 4 0 1 = 0) (u1 : m.1 40 0 13 = 0) : R0 m sz bx C τ Λ' 0 (fun _ => 999) d e nb r := by
  obtain ⟨⟨a1, a2, a3, a4, a5, a6, a7, a8⟩, ⟨b1, b2, b3, b4, b5, b6, b7, b8, b9⟩, h16, _, ⟨p1, p2, p3, p4, p5, p6, p7⟩, ⟨q1, q2, q3, q4, q5, q6, q7, q8⟩, hS⟩ := h
  exact ⟨⟨(G 0 0 1 (by omega)).trans a1, a2, (G 0 0 2 (by omega)).trans a3, a4, a5, fun k hk f hf => by rw [G 3 k f (by omega)]; exact a6 k hk f hf, fun k hk => by rw [G 2 k 1 (by omega)]; exact a7 k hk, hMY⟩, ⟨(G 40 0 1 (by omega)).trans b1, b2, (G 40 0 4 (by omega)).trans b3, b4, b5, fun k hk f hf => by rw [G 41 0 _ (by omega)]; exact b6 k hk f hf, fun k hk => by rw [G 42 0 k (by omega)]; exact b7 k hk, hML, fun j hj => by rw [G 43 0 j (by omega)]; exact b9 j hj⟩, h16, ⟨⟨t1, by omega, fun _ _ => rfl, fun p hp => absurd hp (Nat.not_lt_zero _)⟩, ⟨u1, by omega, fun _ _ => rfl, fun p hp => absurd hp (Nat.not_lt_zero _)⟩⟩, ⟨(G 23 0 3 (by omega)).trans p1, (G 23 0 4 (by omega)).trans p2, (G 40 0 6 (by omega)).trans p3, (G 40 0 7 (by omega)).trans p4, p5, p6, fun i hi => by rw [G 24 0 i (by omega), G 25 0 i (by omega), G 26 0 i (by omega), G 44 0 i (by omega), G 45 0 i (by omega), G 46 0 i (by omega), G 47 0 i (by omega)]; exact p7 i hi⟩, ⟨(G 27 0 1 (by omega)).trans q1, (G 40 0 37 (by omega)).trans q2, q3, fun b hb => by rw [G 28 0 b (by omega), G 62 0 b (by omega)]; exact q4 b hb, (G 27 0 3 (by omega)).trans q5, (G 40 0 39 (by omega)).trans q6, q7, fun i h1 h2 => by rw [G 29 0 i (by omega), G 63 0 i (by omega)]; exact q8 i h1 h2⟩, fun k hk => RS1.fr (mem := mem) (fun c => G 31 k c (by omega)) (G 64 0 k (by omega)) (G 65 0 k (by omega)) (fun j _ => by rw [G2]) (fun j _ => by rw [G2]) (hS k hk)⟩
theorem p_law (hX : zHas ι pX) (hM : zHas ι pM) (hR : RR mem) : PPi ι l M_Four_law M_Model_law 60 46 [zP 0 0] [zP 40 0] mem := by
  intro PX h
  obtain ⟨sz, bx, C, τ, Λ, n, K, d, e, nb, r, h0⟩ := id hR
  have hT := h0.2.2.2.1
  have hMT : ∀ m1, tkO mem m1 → MT m1 n K := fun m1 t => by
    obtain ⟨u1, u2, u3, u4⟩ := hT.2
    exact ⟨(t.2.1 40 0 13 (by decide) (by decide) (by decide) (by decide)).trans u1, u2, u3, fun p hp => by rw [t.2.1 48 0 p (by decide) (by decide) (by decide) (by decide)]; exact u4 p hp⟩
  refine c_Four_law hX hT.1 ?_ ?_
  · intro q Λ1 m1 e1 t htab
    refine h _ _ (fun PM k => d_law hM (hMT m1 t) ?_ ?_)
    · intro q' Λ2 m2 e2 hr hl
      rw [e1] at e2
      obtain ⟨rfl, e3⟩ := Prod.mk.inj e2
      obtain rfl := Option.some.inj e3
      refine k _ ⟨sz, bx, C, τ, some Λ1, 0, _, d, e, nb, r, h0.law (fun a b c w => ?_) ?_ (fun j hj => ?_) ⟨rfl, hl⟩ ?_ ?_⟩
      · rw [upI_get, if_neg (by omega), hr.2.2 a b c (by omega) (by omega) (by omega) (by omega) (by omega) (by omega)]
        exact t.2.1 a b c w.1 w.2.1 w.2.2.1 w.2.2.2.1
      · show m2.2.1 = _
        rw [hr.1]; exact t.1
      · show (upI m2 40 0 25 1).1 8 0 j = _
        rw [upI_get, if_neg (by omega), hr.2.2 8 0 j (by omega) (by decide) (by decide) (by decide) (by decide) (by decide)]
        exact htab j hj
      · rw [upI_get, if_neg (by omega), hr.2.2 4 0 1 (by omega) (by decide) (by decide) (by decide) (by decide) (by decide)]
        exact t.2.2
      · rw [upI_get, if_neg (by omega)]
        exact hr.2.1
    · intro q' m2 e2 _
      rw [e1] at e2
      cases (Prod.mk.inj e2).2
  · intro q m1 e1 t htab
    refine h _ _ (fun PM k => d_law hM (hMT m1 t) ?_ ?_)
    · intro q' Λ2 m2 e2 _ _
      rw [e1] at e2
      cases (Prod.mk.inj e2).2
    · intro q' m2 e2 hr
      rw [e1] at e2
      obtain ⟨rfl, _⟩ := Prod.mk.inj e2
      have hG : ∀ a b c, (¬ (a = 40 ∧ 13 ≤ c ∧ c ≤ 17) ∧ ¬ ((a = 49 ∨ a = 50) ∧ 130 ≤ c) ∧ ¬ (a = 51 ∧ c = 1) ∧ ¬ ((a = 52 ∨ a = 53) ∧ 61 ≤ c)) → m2.1 a b c = m1.1 a b c := fun a b c w => hr.2.2 a b c w.1 w.2.1 w.2.2.1 w.2.2.2
      refine k _ ⟨sz, bx, C, τ, Λ, 0, _, d, e, nb, r, h0.law (fun a b c w => ?_) ?_ (fun j hj => ?_) ?_ ?_ hr.2.1⟩
      · rw [hG a b c (by omega)]
        exact t.2.1 a b c w.1 w.2.1 w.2.2.1 w.2.2.2.1
      · rw [hr.1]; exact t.1
      · rw [hG 8 0 j (by omega), htab j]
        exact h0.1.2.2.2.2.2.2.2 j hj
      · have b8 := h0.2.1.2.2.2.2.2.2.2.1
        have T := fun a b c (w : a ≠ 4 ∧ a ≠ 6 ∧ a ≠ 7 ∧ a ≠ 8) => t.2.1 a b c w.1 w.2.1 w.2.2.1 w.2.2.2
        cases Λ with
        | none => exact ((hG 40 0 25 (by omega)).trans (T 40 0 25 (by omega))).trans b8
        | some Λ =>
          obtain ⟨c0, c1, c2, c3, c4, c5, c6⟩ := b8
          exact ⟨((hG 40 0 25 (by omega)).trans (T 40 0 25 (by omega))).trans c0, c1, c2, c3, ((hG 51 0 0 (by omega)).trans (T 51 0 0 (by omega))).trans c4, fun i hi => by rw [hG 49 0 i (by omega), hG 50 0 i (by omega), T 49 0 i (by omega), T 50 0 i (by omega)]; exact c5 i hi, fun i hi => by rw [hG 52 0 i (by omega), hG 53 0 i (by omega), T 52 0 i (by omega), T 53 0 i (by omega)]; exact c6 i hi⟩
      · rw [hG 4 0 1 (by omega)]; exact t.2.2
end Q8
