/-! class and reference side by side: what holds between their memories -/
def RT (mem : zM) (n : Nat) (K : Nat → Nat) : Prop := LT mem n K ∧ MT mem n K
def RP (mem : zM) (sz d e : Nat) : Prop := mem.1 23 0 3 = nI d ∧ mem.1 23 0 4 = nI e ∧ mem.1 40 0 6 = nI d ∧ mem.1 40 0 7 = nI (e - d) ∧ d ≤ e ∧ e ≤ 40 ∧ ∀ i, i < e → ∃ k f b a : Nat, k < sz ∧ f < 6 ∧ b ≤ 6 ∧ a ≤ 6 ∧ mem.1 24 0 i = nI (10 * k + f) ∧ mem.1 25 0 i = nI b ∧ mem.1 26 0 i = nI a ∧ mem.1 44 0 i = 0 ∧ mem.1 45 0 i = nI (6 * k + f) ∧ mem.1 46 0 i = nI b ∧ mem.1 47 0 i = nI a
def RB (mem : zM) (nb r : Nat) : Prop := mem.1 27 0 1 = nI nb ∧ mem.1 40 0 37 = nI nb ∧ nb ≤ 50 ∧ (∀ b, b < nb → ∃ κ, κ < 8 ∧ mem.1 28 0 b = nI κ ∧ mem.1 62 0 b = nI κ) ∧ mem.1 27 0 3 = nI r ∧ mem.1 40 0 39 = nI r ∧ r ≤ 100 ∧ ∀ i, i < 24 → i < r → mem.1 29 0 i = mem.1 63 0 i
def RS1 (mem : zM) (nb k : Nat) : Prop := ∃ L s L2 : Nat, L ≤ 60 ∧ s < 5 ∧ L2 ≤ 60 ∧ mem.1 31 k 3 = nI L ∧ mem.1 31 k 2 = nI s ∧ mem.1 65 0 k = nI L2 ∧ ((mem.1 31 k 0 = 0 ∧ mem.1 64 0 k = -1) ∨ (mem.1 31 k 0 = 1 ∧ ∃ b, b < nb ∧ mem.1 31 k 1 = nI b ∧ mem.1 64 0 k = nI b) ∨ (mem.1 31 k 0 = 2 ∧ mem.1 64 0 k = -(nI (s + 2)) ∧ L = L2 ∧ ∀ j, j < 60 → mem.2.1 32 k j = mem.2.1 66 0 (60 * k + j)))
def RS (mem : zM) (nb : Nat) : Prop := ∀ k, k < 6 → RS1 mem nb k
def R0 (mem : zM) (sz bx : Nat) (C : Nat → Nat → Nat) (τ : Nat → Nat) (Λ : Option (List lLn)) (n : Nat) (K : Nat → Nat) (d e nb r : Nat) : Prop := CS mem sz bx C τ Λ ∧ MS mem sz bx C τ Λ ∧ (∀ k, sz ≤ k → k < 8 → τ k = 16) ∧ RT mem n K ∧ RP mem sz d e ∧ RB mem nb r ∧ RS mem nb
def RR (mem : zM) : Prop := ∃ (sz bx : Nat) (C : Nat → Nat → Nat) (τ : Nat → Nat) (Λ : Option (List lLn)) (n : Nat) (K : Nat → Nat) (d e nb r : Nat), R0 mem sz bx C τ Λ n K d e nb r
theorem R0.cong {mem m : zM} {sz bx : Nat} {C : Nat → Nat → Nat} {τ : Nat → Nat} {Λ : Option (List lLn)} {n : Nat} {K : Nat → Nat} {d e nb r : Nat} (G : ∀ a b c, (¬ (9 ≤ a ∧ a ≤ 22) ∧ ¬ (54 ≤ a ∧ a ≤ 61) ∧ ¬ (a = 40 ∧ (c = 28 ∨ (31 ≤ c ∧ c ≤ 34)))) → m.1 a b c = mem.1 a b c) (G2 : m.2.1 = mem.2.1) (G3 : ∀ a b c, a ≠ 14 → m.2.2 a b c = mem.2.2 a b c) (h : R0 mem sz bx C τ Λ n K d e nb r) : R0 m sz bx C τ Λ n K d e nb r := by
  obtain ⟨⟨a1, a2, a3, a4, a5, a6, a7, a8⟩, ⟨b1, b2, b3, b4, b5, b6, b7, b8, b9⟩, h16, ⟨⟨t1, t2, t3, t4⟩, ⟨u1, u2, u3, u4⟩⟩, ⟨p1, p2, p3, p4, p5, p6, p7⟩, ⟨q1, q2, q3, q4, q5, q6, q7, q8⟩, hS⟩ := h
  refine ⟨⟨(G 0 0 1 (by omega)).trans a1, a2, (G 0 0 2 (by omega)).trans a3, a4, a5, fun k hk f hf => by rw [G 3 k f (by omega)]; exact a6 k hk f hf, fun k hk => by rw [G 2 k 1 (by omega)]; exact a7 k hk, fun k hk => by rw [G 8 0 k (by omega)]; exact a8 k hk⟩, ⟨(G 40 0 1 (by omega)).trans b1, b2, (G 40 0 4 (by omega)).trans b3, b4, b5, fun k hk f hf => by rw [G 41 0 _ (by omega)]; exact b6 k hk f hf, fun k hk => by rw [G 42 0 k (by omega)]; exact b7 k hk, ?_, fun j hj => by rw [G 43 0 j (by omega)]; exact b9 j hj⟩, h16, ⟨⟨(G 4 0 1 (by omega)).trans t1, t2, t3, fun p hp => by rw [G 5 0 p (by omega)]; exact t4 p hp⟩, ⟨(G 40 0 13 (by omega)).trans u1, u2, u3, fun p hp => by rw [G 48 0 p (by omega)]; exact u4 p hp⟩⟩, ⟨(G 23 0 3 (by omega)).trans p1, (G 23 0 4 (by omega)).trans p2, (G 40 0 6 (by omega)).trans p3, (G 40 0 7 (by omega)).trans p4, p5, p6, fun i hi => by rw [G 24 0 i (by omega), G 25 0 i (by omega), G 26 0 i (by omega), G 44 0 i (by omega), G 45 0 i (by omega), G 46 0 i (by omega), G 47 0 i (by omega)]; exact p7 i hi⟩, ⟨(G 27 0 1 (by omega)).trans q1, (G 40 0 37 (by omega)).trans q2, q3, fun b hb => by rw [G 28 0 b (by omega), G 62 0 b (by omega)]; exact q4 b hb, (G 27 0 3 (by omega)).trans q5, (G 40 0 39 (by omega)).trans q6, q7, fun i h1 h2 => by rw [G 29 0 i (by omega), G 63 0 i (by omega)]; exact q8 i h1 h2⟩, fun k hk => ?_⟩
  · cases Λ with
    | none => exact (G 40 0 25 (by omega)).trans b8
    | some Λ =>
      obtain ⟨c0, c1, c2, c3, c4, c5, c6⟩ := b8
      exact ⟨(G 40 0 25 (by omega)).trans c0, c1, c2, c3, (G 51 0 0 (by omega)).trans c4, fun i hi => by rw [G 49 0 i (by omega), G 50 0 i (by omega)]; exact c5 i hi, fun i hi => by rw [G 52 0 i (by omega), G 53 0 i (by omega)]; exact c6 i hi⟩
  · have := hS k hk
    unfold RS1 at this ⊢
    rw [G 31 k 3 (by omega), G 31 k 2 (by omega), G 65 0 k (by omega), G 31 k 0 (by omega), G 64 0 k (by omega), G 31 k 1 (by omega), G2]
    exact this
theorem RR.cong {mem m : zM} (G : ∀ a b c, (¬ (9 ≤ a ∧ a ≤ 22) ∧ ¬ (54 ≤ a ∧ a ≤ 61) ∧ ¬ (a = 40 ∧ (c = 28 ∨ (31 ≤ c ∧ c ≤ 34)))) → m.1 a b c = mem.1 a b c) (G2 : m.2.1 = mem.2.1) (G3 : ∀ a b c, a ≠ 14 → m.2.2 a b c = mem.2.2 a b c) (h : RR mem) : RR m := by
  obtain ⟨sz, bx, C, τ, Λ, n, K, d, e, nb, r, h⟩ := h
  exact ⟨sz, bx, C, τ, Λ, n, K, d, e, nb, r, h.cong G G2 G3⟩
theorem R0.tO {mem m : zM} {sz bx : Nat} {C : Nat → Nat → Nat} {τ : Nat → Nat} {Λ : Option (List lLn)} {n : Nat} {K : Nat → Nat} {d e nb r : Nat} (h : R0 mem sz bx C τ Λ n K d e nb r) (ht : tO mem m) : R0 m sz bx C τ Λ n K d e nb r := h.cong (fun a b c q => ht.2.1 a b c q.1) ht.1 ht.2.2
theorem RR.tO {mem m : zM} (h : RR mem) (ht : tO mem m) : RR m := h.cong (fun a b c q => ht.2.1 a b c q.1) ht.1 ht.2.2
theorem tm_far {mem : zM} {S : Nat → Nat → Int32} {a b c : Nat} (q : ¬ (54 ≤ a ∧ a ≤ 61) ∧ ¬ (a = 40 ∧ (c = 28 ∨ (31 ≤ c ∧ c ≤ 34)))) : (tm mem S).1 a b c = mem.1 a b c := by
  show (if smB a c = true ∧ b = 0 then S a c else mem.1 a b c) = _
  rw [if_neg]
  intro w
  have w1 := w.1
  unfold smB at w1
  rw [Bool.or_eq_true, decide_eq_true_iff, Bool.and_eq_true, decide_eq_true_iff, decide_eq_true_iff] at w1
  omega
theorem RR.tms {mem : zM} {S : Nat → Nat → Int32} (h : RR mem) : RR (tm mem S) := RR.cong (m := tm mem S) (fun a b c q => tm_far q.2) rfl (fun _ _ _ _ => rfl) h
def PPi (ι : zE) (l : Launch) (MX MM : zMR) (nX nM : Nat) (ax am : List zV) (mem : zM) : Prop := ∀ PX : Option zV → zM → Prop, (∀ (v : Int32) (m1 : zM), (∀ PM : Option zV → zM → Prop, (∀ m2, RR m2 → PM (some (zI v)) m2) → zC l ι MM nM am m1 PM) → PX (some (zI v)) m1) → zC l ι MX nX ax mem PX
def PPj (ι : zE) (l : Launch) (MX MM : zMR) (nX nM : Nat) (ax am : List zV) (mem : zM) : Prop := ∀ PX : Option zV → zM → Prop, (∀ (v : Int64) (m1 : zM), (∀ PM : Option zV → zM → Prop, (∀ m2, RR m2 → PM (some (zJ v)) m2) → zC l ι MM nM am m1 PM) → PX (some (zJ v)) m1) → zC l ι MX nX ax mem PX
theorem nope {k n : Nat} {x : Int32} (h : inN x n = false) (hk : k < n) (e : x = nI k) (hn : n < 2 ^ 31) : False := by
  rw [e, inN_nI hk hn] at h; cases h
theorem uno {a b n : Nat} {x : Int32} (ha : a < n) (hb : b < n) (hn : n ≤ 2 ^ 31) (e : x = nI a) (e2 : x = nI b) : b = a := (nI_eq (by omega) (by omega)).mp (e2.symm.trans e)
section Q1
variable {l : Launch} {ι : zE} {mem : zM} {x y z : Int32}
theorem p_of (hX : zHas ι pX) (hM : zHas ι pM) (hR : RR mem) : PPi ι l M_Four_of M_Model_of 2 2 [zP 0 0, zI x, zI y] [zP 40 0, zI x, zI y] mem := by
  intro PX h
  obtain ⟨sz, bx, C, τ, Λ, n, K, d, e, nb, r, hC, hm, h16, hT, hP, hB, hS⟩ := id hR
  have h8 := hC.2.1
  have cc : ∀ k, k < 8 → ∀ f, f < 6 → (cv mem).1 3 k f = mem.1 3 k f := fun k hk f hf => ((hm.2.2.2.2.2.1 k hk f hf).1).trans (hC.2.2.2.2.2.1 k hk f hf).1.symm
  have hcol : ∀ k, k < 8 → ∀ f, f < 6 → ∃ c, c ≤ 6 ∧ mem.1 3 k f = nI c := fun k hk f hf => ⟨_, (hC.2.2.2.2.2.1 k hk f hf).2, (hC.2.2.2.2.2.1 k hk f hf).1⟩
  have hcolm : ∀ k, k < 8 → ∀ f, f < 6 → ∃ c, c ≤ 6 ∧ (cv mem).1 3 k f = nI c := fun k hk f hf => ⟨_, (hm.2.2.2.2.2.1 k hk f hf).2, (hm.2.2.2.2.2.1 k hk f hf).1⟩
  have e10 : ∀ i, i < 3 → nI (10 + i) - 10 = nI i := fun i hi => by rw [show (10 : Int32) = nI 10 from rfl, pk_sub (by omega)]; congr 1; omega
  have n1 : ∀ i, i < 3 → inN (nI (10 + i)) 6 = false := by decide
  have n6 : ∀ f, f < 6 → ¬ nI f = 6 ∧ inN (nI f - 10) 3 = false := by decide
  refine c_Four_of hX hC.1 h8 hcol ?_ ?_ ?_ ?_
  · intro hc
    refine h _ _ (fun PM k => d_of hM hm.1 h8 hcolm (fun _ => k _ hR) ?_ ?_ ?_)
    · rintro k' f hk hf rfl rfl
      rcases hc with w | w
      · exact (nope w hk rfl (by omega)).elim
      · exact (nope w.1 hf rfl (by decide)).elim
    · rintro k' hk rfl rfl
      rcases hc with w | w
      · exact (nope w hk rfl (by omega)).elim
      · exact absurd rfl w.2.1
    · rintro k' i a b hk hi ha hb rfl rfl _ _
      rcases hc with w | w
      · exact (nope w hk rfl (by omega)).elim
      · exact (nope w.2.2 hi (e10 i hi) (by decide)).elim
  · rintro k0 f hk hf rfl rfl
    refine h _ _ (fun PM k => d_of hM hm.1 h8 hcolm ?_ ?_ ?_ ?_)
    · rintro (w | w)
      · exact (nope w hk rfl (by omega)).elim
      · exact (nope w.1 hf rfl (by decide)).elim
    · intro k' f' hk' hf' e1 e2
      obtain rfl := uno hk hk' (by omega) rfl e1
      obtain rfl := uno hf hf' (by decide) rfl e2
      rw [cc k' (by omega) f' hf']
      exact k _ hR
    · intro k' hk' e1 e2
      exact absurd e2 (n6 f hf).1
    · intro k' i a b hk' hi _ _ e1 e2
      have := n1 i hi
      rw [← e2] at this
      exact (nope this hf rfl (by decide)).elim
  · rintro k0 hk rfl rfl
    refine h _ _ (fun PM k => d_of hM hm.1 h8 hcolm ?_ ?_ ?_ ?_)
    · rintro (w | w)
      · exact (nope w hk rfl (by omega)).elim
      · exact absurd rfl w.2.1
    · intro k' f' hk' hf' e1 e2
      exact absurd e2.symm (n6 f' hf').1
    · intro k' hk' e1 e2
      obtain rfl := uno hk hk' (by omega) rfl e1
      rw [(hm.2.2.2.2.2.2.1 k' hk').1, ← (hC.2.2.2.2.2.2.1 k' (by omega)).1]
      exact k _ hR
    · intro k' i a b hk' hi _ _ e1 e2
      have : ∀ i, i < 3 → ¬ (6 : Int32) = nI (10 + i) := by decide
      exact absurd e2 (this i hi)
  · rintro k0 i a b hk hi ha hb rfl rfl ea eb
    refine h _ _ (fun PM k => d_of hM hm.1 h8 hcolm ?_ ?_ ?_ ?_)
    · rintro (w | w)
      · exact (nope w hk rfl (by omega)).elim
      · exact (nope w.2.2 hi (e10 i hi) (by decide)).elim
    · intro k' f' hk' hf' e1 e2
      exact (nope (n1 i hi) hf' e2 (by decide)).elim
    · intro k' hk' e1 e2
      have : ∀ i, i < 3 → ¬ nI (10 + i) = 6 := by decide
      exact absurd e2 (this i hi)
    · intro k' i' a' b' hk' hi' ha' hb' e1 e2 ea' eb'
      obtain rfl := uno hk hk' (by omega) rfl e1
      have : 10 + i' = 10 + i := uno (n := 13) (by omega) (by omega) (by decide) rfl e2
      obtain rfl : i' = i := by omega
      obtain ⟨o1, o2⟩ := ed_ok i' hi
      rw [cc k' (by omega) _ o1, ea] at ea'
      rw [cc k' (by omega) _ o2, eb] at eb'
      obtain rfl : a' = a := ((nI_eq (by omega) (by omega)).mp ea').symm
      obtain rfl : b' = b := ((nI_eq (by omega) (by omega)).mp eb').symm
      exact k _ hR
theorem p_shows (hX : zHas ι pX) (hM : zHas ι pM) (hR : RR mem) : PPi ι l M_Four_shows M_Model_shows 1 2 [zP 0 0, zI x, zI y, zI z] [zP 40 0, zI x, zI y, zI z] mem := by
  intro PX h
  obtain ⟨sz, bx, C, τ, Λ, n, K, d, e, nb, r, hC, hm, h16, hT, hP, hB, hS⟩ := id hR
  have h8 := hC.2.1
  have cc : ∀ k, k < 8 → ∀ f, f < 6 → (cv mem).1 3 k f = mem.1 3 k f := fun k hk f hf => ((hm.2.2.2.2.2.1 k hk f hf).1).trans (hC.2.2.2.2.2.1 k hk f hf).1.symm
  refine c_Four_shows hX hC.1 h8 ?_ ?_
  · intro hc
    refine h _ _ (fun PM k => d_shows hM hm.2.2.2.2.2.2.2.2 hm.1 h8 (fun _ => k _ hR) ?_)
    rintro k' t w hk ht hw rfl rfl rfl
    rw [inN_nI hk (by omega), inN_nI ht (by decide), inN_nI hw (by decide)] at hc
    cases hc
  · rintro k0 t w hk ht hw rfl rfl rfl
    refine h _ _ (fun PM k => d_shows hM hm.2.2.2.2.2.2.2.2 hm.1 h8 ?_ ?_)
    · intro hc
      rw [inN_nI hk (by omega), inN_nI ht (by decide), inN_nI hw (by decide)] at hc
      cases hc
    · intro k' t' w' hk' ht' hw' e1 e2 e3
      obtain rfl := uno hk hk' (by omega) rfl e1
      obtain rfl := uno ht ht' (by decide) rfl e2
      obtain rfl := uno hw hw' (by decide) rfl e3
      rw [cc k' (by omega) _ (st_ok t' ht w' hw).2]
      exact k _ hR
theorem gl_ok : ∀ t, t < 24 → ∃ u, u < 24 ∧ ∀ w, w < 6 → glN true (stN t w) = stN u (mrN true w) := by decide +kernel
theorem gl_ok2 : ∀ u, u < 24 → ∃ t, t < 24 ∧ ∀ w, w < 6 → glN true (stN t w) = stN u (mrN true w) := by decide +kernel
theorem al_eq (mem : zM) (a b : Nat) (g : Bool) : exI (fun t => alI (lkC mem a b t g) 6) 24 = exI (fun t => alI (lkM mem a b t g) 6) 24 := by
  cases g with
  | false =>
    refine exI_cong (fun t ht => alI_cong (fun w hw => ?_))
    unfold lkC lkM glN mrN
    rw [if_neg (fun w => by cases w.1), if_neg (fun w => by cases w.1)]
  | true =>
    rw [Bool.eq_iff_iff, exI_true, exI_true]
    constructor
    · rintro ⟨t, ht, h⟩
      obtain ⟨u, hu, hw⟩ := gl_ok t ht
      refine ⟨u, hu, ?_⟩
      rw [alI_true] at h ⊢
      intro w hw6
      have := h w hw6
      unfold lkC at this
      unfold lkM
      rw [← hw w hw6]
      exact this
    · rintro ⟨u, hu, h⟩
      obtain ⟨t, ht, hw⟩ := gl_ok2 u hu
      refine ⟨t, ht, ?_⟩
      rw [alI_true] at h ⊢
      intro w hw6
      have := h w hw6
      unfold lkM at this
      unfold lkC
      rw [hw w hw6]
      exact this
theorem lkM_cv {a b : Nat} {g : Bool} (cc : ∀ k, k < 8 → ∀ f, f < 6 → (cv mem).1 3 k f = mem.1 3 k f) (ha : a < 8) (hb : b < 8) : exI (fun t => alI (lkM (cv mem) a b t g) 6) 24 = exI (fun t => alI (lkC mem a b t g) 6) 24 := by
  rw [al_eq]
  refine exI_cong (fun t ht => alI_cong (fun w hw => ?_))
  unfold lkM
  have hm : mrN g w < 6 := by cases g; exact (mr_ok w hw).2; exact (mr_ok w hw).1
  rw [cc a ha _ (st_ok t ht _ hm).2, cc b hb w hw]
theorem p_alike (hX : zHas ι pX) (hM : zHas ι pM) (hR : RR mem) : PPi ι l M_Four_alike M_Model_alike 2 4 [zP 0 0, zI x] [zP 40 0, zI x] mem := by
  intro PX h
  obtain ⟨sz, bx, C, τ, Λ, n, K, d, e, nb, r, hC, hm, h16, hT, hP, hB, hS⟩ := id hR
  have h8 := hC.2.1
  have cc : ∀ k, k < 8 → ∀ f, f < 6 → (cv mem).1 3 k f = mem.1 3 k f := fun k hk f hf => ((hm.2.2.2.2.2.1 k hk f hf).1).trans (hC.2.2.2.2.2.1 k hk f hf).1.symm
  have no : ∀ a b, a < sz → b < sz → b < 10 → (nI (10 * a + b) < 0 ∨ ∃ j : Nat, j < 2 ^ 31 ∧ nI (10 * a + b) = nI j ∧ (sz ≤ j / 10 ∨ sz ≤ j % 10)) → False := by
    intro a b ha hb hb10 w
    rcases w with w | ⟨j, j1, j2, j3⟩
    · exact nI_pos (by omega) w
    · have := (nI_eq (by omega) j1).mp j2
      omega
  refine c_Four_alike hX hC.1 h8 ?_ ?_
  · intro hc
    refine h _ _ (fun PM k => d_alike hM hm.2.2.2.2.2.2.2.2 hm.1 h8 (fun _ => k _ hR) ?_)
    rintro a b ha hb hb10 rfl
    exact (no a b ha hb hb10 hc).elim
  · rintro a b ha hb hb10 rfl
    refine h _ _ (fun PM k => d_alike hM hm.2.2.2.2.2.2.2.2 hm.1 h8 (fun hc => (no a b ha hb hb10 hc).elim) ?_)
    intro a' b' ha' hb' hb10' e1
    have : 10 * a' + b' = 10 * a + b := uno (n := 1000) (by omega) (by omega) (by decide) rfl e1
    obtain rfl : a' = a := by omega
    obtain rfl : b' = b := by omega
    rw [lkM_cv cc (by omega) (by omega), lkM_cv cc (by omega) (by omega)]
    exact k _ hR
theorem p_many (hX : zHas ι pX) (hM : zHas ι pM) (hR : RR mem) : PPj ι l M_Four_many M_Model_many 0 1 [zP 0 0, zI x, zI y] [zP 40 0, zI x, zI y] mem := by
  intro PX h
  refine c_Four_many hX ?_ ?_ ?_
  · intro hc
    refine h _ _ (fun PM k => d_many hM (fun _ => k _ hR) ?_ ?_)
    · intro a b c
      rw [c] at hc
      rcases hc with w | w | w | w
      · exact absurd w a
      · exact absurd w b
      · exact absurd w (by decide)
      · exact absurd w (by decide)
    · intro a b c d' e'
      rcases hc with w | w | w | w
      · exact absurd w a
      · exact absurd w b
      · exact absurd w d'
      · exact absurd e' w
  · intro a b c
    refine h _ _ (fun PM k => d_many hM ?_ ?_ ?_)
    · intro hc
      rw [c] at hc
      rcases hc with w | w | w | w
      · exact absurd w a
      · exact absurd w b
      · exact absurd w (by decide)
      · exact absurd w (by decide)
    · intro _ _ _
      rw [many0]
      exact k _ hR
    · intro _ _ w
      exact absurd c w
  · intro a b c d' e'
    have h8 : (8 * x).toInt64 = 8 * x.toInt64 := by
      have hx0 : ¬ x < 0 := by
        intro w
        refine a (Int32.lt_iff_toInt_lt.mpr ?_)
        have w := Int32.lt_iff_toInt_lt.mp w
        have e1 : (1 : Int32).toInt = 1 := by decide
        rw [i32_0] at w
        rw [e1]
        omega
      obtain ⟨j, j1, rfl⟩ := nI_of hx0
      have hj : j ≤ 1000 := by
        have := Int32.not_lt.mp b
        exact (nI_leI (b := 1000) j1 (by decide)).mp this
      rw [show (8 : Int32) = nI 8 from rfl, pk_mul, nI_l (by omega), nI_l (by omega)]
      apply Int64.toInt_inj.mp
      have e8 : (8 : Int64) = lN 8 := by decide
      rw [e8, Int64.toInt_mul, lN_toInt (by omega), lN_toInt (by decide), lN_toInt (by omega)]
      rw [bmodL (by omega) (by omega)]
      omega
    refine h _ _ (fun PM k => d_many hM ?_ ?_ ?_)
    · intro hc
      rcases hc with w | w | w | w
      · exact absurd w a
      · exact absurd w b
      · exact absurd w d'
      · exact absurd e' w
    · intro _ _ w
      exact absurd w c
    · intro _ _ _ _ _
      rw [many1 x h8]
      exact k _ hR
theorem p_sight (hX : zHas ι pX) (hM : zHas ι pM) (hR : RR mem) : PPi ι l M_Four_sight M_Model_sight 3 4 [zP 0 0, zI x, zI y] [zP 40 0, zI x, zI y] mem := by
  intro PX h
  obtain ⟨sz, bx, C, τ, Λ, n, K, d, e, nb, r, hC, hm, h16, hT, hP, hB, hS⟩ := id hR
  have h8 := hC.2.1
  have cc : ∀ k, k < 8 → ∀ f, f < 6 → (cv mem).1 3 k f = mem.1 3 k f := fun k hk f hf => ((hm.2.2.2.2.2.1 k hk f hf).1).trans (hC.2.2.2.2.2.1 k hk f hf).1.symm
  have ts : ∀ k c, k < 8 → mkI (tsC (cv mem) k c) 24 = mkI (tsC mem k c) 24 := fun k c hk => mkI_cong (fun t ht => by
    unfold tsC msC
    rw [cc k hk _ (st_ok t ht 4 (by decide)).2, cc k hk _ (st_ok t ht 0 (by decide)).2, cc k hk _ (st_ok t ht 1 (by decide)).2])
  have m1 : ∀ k, k < 8 → ¬ nI k = -1 := by decide
  refine c_Four_sight hX hC.1 h8 ?_ ?_ ?_
  · intro hc
    refine h _ _ (fun PM k => d_sight hM hm.2.2.2.2.2.2.2.2 hm.1 h8 (fun _ => k _ hR) ?_ ?_)
    · rintro j k' j1 rfl j2 hk rfl
      rcases hc with w | ⟨j', q1, q2, q3⟩ | w
      · exact (nI_pos j1 w).elim
      · rw [← (nI_eq j1 q1).mp q2, j2] at q3; cases q3
      · exact (nope w.1 hk rfl (by omega)).elim
    · rintro j j1 rfl j2 rfl
      rcases hc with w | ⟨j', q1, q2, q3⟩ | w
      · exact (nI_pos j1 w).elim
      · rw [← (nI_eq j1 q1).mp q2, j2] at q3; cases q3
      · exact absurd rfl w.2
  · rintro j k0 j1 rfl j2 hk rfl
    refine h _ _ (fun PM k => d_sight hM hm.2.2.2.2.2.2.2.2 hm.1 h8 ?_ ?_ ?_)
    · rintro (w | ⟨j', q1, q2, q3⟩ | w)
      · exact (nI_pos j1 w).elim
      · rw [← (nI_eq j1 q1).mp q2, j2] at q3; cases q3
      · exact (nope w.1 hk rfl (by omega)).elim
    · intro j' k' q1 q2 q3 hk' e2
      obtain rfl := (nI_eq j1 q1).mp q2
      obtain rfl := uno hk hk' (by omega) rfl e2
      rw [ts _ _ (by omega)]
      exact k _ hR
    · intro j' q1 q2 q3 q4
      exact absurd q4 (m1 k0 (by omega))
  · rintro j j1 rfl j2 rfl
    refine h _ _ (fun PM k => d_sight hM hm.2.2.2.2.2.2.2.2 hm.1 h8 ?_ ?_ ?_)
    · rintro (w | ⟨j', q1, q2, q3⟩ | w)
      · exact (nI_pos j1 w).elim
      · rw [← (nI_eq j1 q1).mp q2, j2] at q3; cases q3
      · exact absurd rfl w.2
    · intro j' k' q1 q2 q3 hk' e2
      exact absurd e2.symm (m1 k' (by omega))
    · intro j' q1 q2 q3 q4
      obtain rfl := (nI_eq j1 q1).mp q2
      rw [mkI_cong (g := fun k => decide (¬ mkI (tsC mem k (nI j)) 24 = 0)) (fun k hk => by rw [ts k _ (by omega)])]
      exact k _ hR
theorem p_great (hX : zHas ι pX) (hM : zHas ι pM) (hR : RR mem) : PPi ι l M_Four_great M_Model_great 2 2 [zP 0 0, zI x] [zP 40 0, zI x] mem := by
  intro PX h
  obtain ⟨sz, bx, C, τ, Λ, n, K, d, e, nb, r, hC, hm, h16, hT, hP, hB, hS⟩ := id hR
  have h8 := hC.2.1
  have cc : ∀ k, k < 8 → ∀ f, f < 6 → (cv mem).1 3 k f = mem.1 3 k f := fun k hk f hf => ((hm.2.2.2.2.2.1 k hk f hf).1).trans (hC.2.2.2.2.2.1 k hk f hf).1.symm
  refine c_Four_great hX hC.1 h8 ?_ ?_
  · intro hc
    exact h _ _ (fun PM k => d_great hM hm.1 h8 (fun _ => k _ hR) (fun w => by rw [hc] at w; cases w))
  · intro hc
    refine h _ _ (fun PM k => d_great hM hm.1 h8 (fun w => by rw [hc] at w; cases w) (fun _ => ?_))
    rw [mkI_cong (g := fun k => alI (crC mem k x) 3) (fun k hk => alI_cong (fun i hi => by
      unfold crC ofC
      rw [cc k (by omega) _ (ed_ok i hi).1, cc k (by omega) _ (ed_ok i hi).2]))]
    exact k _ hR
theorem p_trace (hX : zHas ι pX) (hM : zHas ι pM) (hR : RR mem) : PPi ι l M_Four_trace M_Model_trace 2 0 [zP 0 0, zI x] [zP 40 0, zI x] mem := by
  intro PX h
  obtain ⟨sz, bx, C, τ, Λ, n, K, d, e, nb, r, hC, hm, h16, hT, hP, ⟨q1, q2, q3, q4, q5, q6, q7, q8⟩, hS⟩ := id hR
  have hr : (if 24 < r then 24 else r) ≤ 24 ∧ (if 24 < r then 24 else r) ≤ r := by split <;> omega
  refine c_Four_trace hX q5 (by omega) ?_ ?_
  · intro hc
    refine h _ _ (fun PM k => d_trace hM q6 (by omega) (fun _ => k _ hR) ?_)
    rintro i hi rfl
    exact (nope hc hi rfl (by omega)).elim
  · rintro i hi rfl
    refine h _ _ (fun PM k => d_trace hM q6 (by omega) (fun w => (nope w hi rfl (by omega)).elim) ?_)
    intro i' hi' e1
    obtain rfl := uno hi hi' (by omega) rfl e1
    rw [← q8 i' (by omega) (by omega)]
    exact k _ hR
theorem p_count (hX : zHas ι pX) (hM : zHas ι pM) (hR : RR mem) : PPi ι l M_Four_count M_Model_count 0 0 [zP 0 0, zI x] [zP 40 0, zI x] mem := by
  intro PX h
  obtain ⟨sz, bx, C, τ, Λ, n, K, d, e, nb, r, hC, hm, h16, hT, hP, hB, hS⟩ := id hR
  have nn : ∀ k, k < 6 → inN (nI k) 6 = true := by decide
  refine c_Four_count hX ?_ ?_ ?_ ?_ ?_ ?_ ?_
  · intro hc
    refine h _ _ (fun PM k => d_count hM (fun _ => k _ hR) ?_ ?_ ?_ ?_ ?_ ?_) <;> rintro rfl <;> exact absurd hc (by decide)
  · rintro rfl
    refine h _ _ (fun PM k => d_count hM (fun w => absurd w (by decide)) (fun _ => ?_) (fun w => absurd w (by decide)) (fun w => absurd w (by decide)) (fun w => absurd w (by decide)) (fun w => absurd w (by decide)) (fun w => absurd w (by decide)))
    rw [hm.1, ← hC.1]; exact k _ hR
  · rintro rfl
    refine h _ _ (fun PM k => d_count hM (fun w => absurd w (by decide)) (fun w => absurd w (by decide)) (fun _ => ?_) (fun w => absurd w (by decide)) (fun w => absurd w (by decide)) (fun w => absurd w (by decide)) (fun w => absurd w (by decide)))
    rw [hm.2.2.1, ← hC.2.2.1]; exact k _ hR
  · rintro rfl
    refine h _ _ (fun PM k => d_count hM (fun w => absurd w (by decide)) (fun w => absurd w (by decide)) (fun w => absurd w (by decide)) (fun _ => ?_) (fun w => absurd w (by decide)) (fun w => absurd w (by decide)) (fun w => absurd w (by decide)))
    rw [hT.2.1, ← hT.1.1]; exact k _ hR
  · rintro rfl
    refine h _ _ (fun PM k => d_count hM (fun w => absurd w (by decide)) (fun w => absurd w (by decide)) (fun w => absurd w (by decide)) (fun w => absurd w (by decide)) (fun _ => ?_) (fun w => absurd w (by decide)) (fun w => absurd w (by decide)))
    rw [hP.2.2.1, ← hP.1]; exact k _ hR
  · rintro rfl
    refine h _ _ (fun PM k => d_count hM (fun w => absurd w (by decide)) (fun w => absurd w (by decide)) (fun w => absurd w (by decide)) (fun w => absurd w (by decide)) (fun w => absurd w (by decide)) (fun _ => ?_) (fun w => absurd w (by decide)))
    rw [hB.2.1, ← hB.1]; exact k _ hR
  · rintro rfl
    refine h _ _ (fun PM k => d_count hM (fun w => absurd w (by decide)) (fun w => absurd w (by decide)) (fun w => absurd w (by decide)) (fun w => absurd w (by decide)) (fun w => absurd w (by decide)) (fun w => absurd w (by decide)) (fun _ => ?_))
    rw [hB.2.2.2.2.2.1, ← hB.2.2.2.2.1]; exact k _ hR
end Q1
