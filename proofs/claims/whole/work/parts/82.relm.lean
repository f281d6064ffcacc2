/-! side by side: calls that change something -/
theorem RS1.fr {mem m : zM} {nb k : Nat} (h31 : ∀ c, m.1 31 k c = mem.1 31 k c) (h64 : m.1 64 0 k = mem.1 64 0 k) (h65 : m.1 65 0 k = mem.1 65 0 k) (hJ : ∀ j, j < 60 → m.2.1 32 k j = mem.2.1 32 k j) (hJ2 : ∀ j, j < 60 → m.2.1 66 0 (60 * k + j) = mem.2.1 66 0 (60 * k + j)) (h : RS1 mem nb k) : RS1 m nb k := by
  obtain ⟨L, s, L2, a1, a2, a3, a4, a5, a6, a7⟩ := h
  refine ⟨L, s, L2, a1, a2, a3, (h31 3).trans a4, (h31 2).trans a5, h65.trans a6, ?_⟩
  rcases a7 with ⟨b1, b2⟩ | ⟨b1, b, b2, b3, b4⟩ | ⟨b1, b2, b3, b4⟩
  · exact Or.inl ⟨(h31 0).trans b1, h64.trans b2⟩
  · exact Or.inr (Or.inl ⟨(h31 0).trans b1, b, b2, (h31 1).trans b3, h64.trans b4⟩)
  · exact Or.inr (Or.inr ⟨(h31 0).trans b1, h64.trans b2, b3, fun j hj => by rw [hJ j hj, hJ2 j hj]; exact b4 j hj⟩)
theorem RS1.up {mem : zM} {nb nb' k : Nat} (hn : nb ≤ nb') (h : RS1 mem nb k) : RS1 mem nb' k := by
  obtain ⟨L, s, L2, a1, a2, a3, a4, a5, a6, a7⟩ := h
  refine ⟨L, s, L2, a1, a2, a3, a4, a5, a6, ?_⟩
  rcases a7 with w | ⟨b1, b, b2, b3⟩ | w
  · exact Or.inl w
  · exact Or.inr (Or.inl ⟨b1, b, by omega, b3⟩)
  · exact Or.inr (Or.inr w)
theorem RS.sh {mem : zM} {nb : Nat} (h : RS mem nb) : ShOK mem := fun k hk => by
  obtain ⟨L, s, L2, a1, a2, a3, a4, a5, a6, a7⟩ := h k hk
  exact ⟨L, s, a1, a2, a4, a5⟩
theorem RS.ml {mem : zM} {nb : Nat} (h : RS mem nb) : ∀ k, k < 6 → ∃ L : Nat, L ≤ 60 ∧ mem.1 65 0 k = nI L := fun k hk => by
  obtain ⟨L, s, L2, a1, a2, a3, a4, a5, a6, a7⟩ := h k hk
  exact ⟨L2, a3, a6⟩
theorem RS.ho {mem : zM} {nb : Nat} (h : RS mem nb) : ∀ k, k < 6 → HoM mem nb k := fun k hk => by
  obtain ⟨L, s, L2, a1, a2, a3, a4, a5, a6, a7⟩ := h k hk
  rcases a7 with ⟨b1, b2⟩ | ⟨b1, b, b2, b3, b4⟩ | ⟨b1, b2, b3⟩
  · exact Or.inl b2
  · exact Or.inr (Or.inl ⟨b, b2, b4⟩)
  · exact Or.inr (Or.inr ⟨s, a2, b2⟩)
section Q3
variable {l : Launch} {ι : zE} {mem : zM} {x y z : Int32}
theorem p_turn (hX : zHas ι pX) (hM : zHas ι pM) (hR : RR mem) : PPi ι l M_Four_turn M_Model_turn 1 2 [zP 0 0, zI x, zI y] [zP 40 0, zI x, zI y] mem := by
  intro PX h
  obtain ⟨sz, bx, C, τ, Λ, n, K, d, e, nb, r, hC, hm, h16, hT, hP, hB, hS⟩ := id hR
  have h8 := hC.2.1
  refine c_Four_turn hX hC.1 h8 ?_ ?_
  · intro hc
    refine h _ _ (fun PM k => d_turn hM hm.1 h8 (fun _ => k _ hR) ?_)
    rintro k' t hk ht rfl rfl
    rw [inN_nI hk (by omega), inN_nI ht (by decide)] at hc
    cases hc
  · rintro k0 t hk ht rfl rfl
    refine h _ _ (fun PM k => d_turn (mem := upI mem 2 k0 1 (nI t)) hM hm.1 h8 ?_ ?_)
    · intro hc
      rw [inN_nI hk (by omega), inN_nI ht (by decide)] at hc
      cases hc
    · intro k' t' hk' ht' e1 e2
      obtain rfl := uno hk hk' (by omega) rfl e1
      obtain rfl := uno ht ht' (by decide) rfl e2
      rw [show (upI mem 2 k' 1 (nI t')).1 42 0 k' = mem.1 2 k' 1 from ((hm.2.2.2.2.2.2.1 k' hk).1).trans (hC.2.2.2.2.2.2.1 k' (by omega)).1.symm]
      refine k _ ⟨sz, bx, C, fun j => if j = k' then t' else τ j, Λ, n, K, d, e, nb, r, ⟨hC.1, h8, hC.2.2.1, hC.2.2.2.1, hC.2.2.2.2.1, hC.2.2.2.2.2.1, fun j hj => ?_, hC.2.2.2.2.2.2.2⟩, ⟨hm.1, h8, hm.2.2.1, hm.2.2.2.1, hm.2.2.2.2.1, hm.2.2.2.2.2.1, fun j hj => ?_, hm.2.2.2.2.2.2.2.1, hm.2.2.2.2.2.2.2.2⟩, fun j h1 h2 => ?_, hT, hP, hB, hS⟩
      · show (if 2 = 2 ∧ j = k' ∧ 1 = 1 then nI t' else mem.1 2 j 1) = nI (if j = k' then t' else τ j) ∧ (if j = k' then t' else τ j) < 24
        by_cases q : j = k'
        · rw [if_pos ⟨rfl, q, rfl⟩, if_pos q]; exact ⟨rfl, ht⟩
        · rw [if_neg (fun w => q w.2.1), if_neg q]; exact hC.2.2.2.2.2.2.1 j hj
      · show (if 42 = 42 ∧ 0 = 0 ∧ j = k' then nI t' else mem.1 42 0 j) = nI (if j = k' then t' else τ j) ∧ (if j = k' then t' else τ j) < 24
        by_cases q : j = k'
        · rw [if_pos ⟨rfl, rfl, q⟩, if_pos q]; exact ⟨rfl, ht⟩
        · rw [if_neg (fun w => q w.2.2), if_neg q]; exact hm.2.2.2.2.2.2.1 j hj
      · show (if j = k' then t' else τ j) = 16
        rw [if_neg (by omega)]; exact h16 j h1 h2
theorem p_box (hX : zHas ι pX) (hM : zHas ι pM) (hR : RR mem) : PPi ι l M_Four_box M_Model_box 1 1 [zP 0 0, zI x] [zP 40 0, zI x] mem := by
  intro PX h
  obtain ⟨sz, bx, C, τ, Λ, n, K, d, e, nb, r, hC, hm, h16, hT, hP, hB, hS⟩ := id hR
  have h8 := hC.2.1
  have h25 := p8 sz h8
  refine c_Four_box hX hC.1 h8 ?_ ?_
  · intro hc
    refine h _ _ (fun PM k => d_box hM hm.1 h8 (fun _ => k _ hR) ?_)
    rintro b hb rfl hb4
    rcases hc with w | ⟨b', q1, q2, q3⟩
    · exact (nope w hb rfl (by omega)).elim
    · obtain rfl := uno hb q1 (by omega) rfl q2
      omega
  · rintro b hb rfl hb4
    refine h _ _ (fun PM k => d_box (mem := upI mem 0 0 2 (nI b)) hM hm.1 h8 ?_ ?_)
    · rintro (w | ⟨b', q1, q2, q3⟩)
      · exact (nope w hb rfl (by omega)).elim
      · obtain rfl := uno hb q1 (by omega) rfl q2
        omega
    · intro b' hb' e1 _
      obtain rfl := uno hb hb' (by omega) rfl e1
      rw [show (upI mem 0 0 2 (nI b')).1 40 0 4 = mem.1 0 0 2 from hm.2.2.1.trans hC.2.2.1.symm]
      exact k _ ⟨sz, b', C, τ, Λ, n, K, d, e, nb, r, ⟨hC.1, h8, rfl, hb, hb4, hC.2.2.2.2.2⟩, ⟨hm.1, h8, rfl, hb, hb4, hm.2.2.2.2.2⟩, h16, hT, hP, hB, hS⟩
theorem p_feed (hX : zHas ι pX) (hM : zHas ι pM) (hR : RR mem) : PPi ι l M_Four_feed M_Model_feed 1 1 [zP 0 0, zI x] [zP 40 0, zI x] mem := by
  intro PX h
  obtain ⟨sz, bx, C, τ, Λ, n, K, d, e, nb, r, hC, hm, h16, ⟨⟨t1, t2, t3, t4⟩, ⟨u1, u2, u3, u4⟩⟩, hP, hB, hS⟩ := id hR
  refine c_Four_feed hX t1 t2 ?_ ?_ ?_
  · intro hc
    exact h _ _ (fun PM k => d_feed hM u1 u2 (fun _ => k _ hR) (fun w => by rw [hc] at w; cases w) (fun w => by rw [hc] at w; cases w))
  · intro hc hn
    exact h _ _ (fun PM k => d_feed hM u1 u2 (fun w => by rw [hc] at w; cases w) (fun _ _ => k _ hR) (fun _ w => by omega))
  · intro hc hn
    obtain ⟨j, hj, rfl⟩ := inN_ex hc (by decide)
    refine h _ _ (fun PM k => d_feed (mem := upI (upI mem 5 0 n (nI j)) 4 0 1 (nI (n + 1))) hM u1 u2 (fun w => by rw [hc] at w; cases w) (fun _ w => by omega) (fun _ _ => ?_))
    refine k _ ⟨sz, bx, C, τ, Λ, n + 1, fun p => if p = n then j else K p, d, e, nb, r, hC, hm, h16, ⟨⟨rfl, by omega, fun p hp => ?_, fun p hp => ?_⟩, ⟨rfl, by omega, fun p hp => ?_, fun p hp => ?_⟩⟩, hP, hB, hS⟩
    · show (if p = n then j else K p) = 999
      rw [if_neg (by omega)]; exact t3 p (by omega)
    · show (if 5 = 5 ∧ 0 = 0 ∧ p = n then nI j else mem.1 5 0 p) = nI (if p = n then j else K p) ∧ (if p = n then j else K p) < 256
      by_cases q : p = n
      · rw [if_pos ⟨rfl, rfl, q⟩, if_pos q]; exact ⟨rfl, hj⟩
      · rw [if_neg (fun w => q w.2.2), if_neg q]; exact t4 p (by omega)
    · show (if p = n then j else K p) = 999
      rw [if_neg (by omega)]; exact u3 p (by omega)
    · show (if 48 = 48 ∧ 0 = 0 ∧ p = n then by8 (nI j) else mem.1 48 0 p) = by8 (nI (if p = n then j else K p)) ∧ (if p = n then j else K p) < 256
      by_cases q : p = n
      · rw [if_pos ⟨rfl, rfl, q⟩, if_pos q]; exact ⟨rfl, hj⟩
      · rw [if_neg (fun w => q w.2.2), if_neg q]; exact u4 p (by omega)
theorem p_body (hX : zHas ι pX) (hM : zHas ι pM) (hR : RR mem) : PPi ι l M_Four_body M_Model_body 1 1 [zP 0 0, zI x] [zP 40 0, zI x] mem := by
  intro PX h
  obtain ⟨sz, bx, C, τ, Λ, n, K, d, e, nb, r, hC, hm, h16, hT, hP, ⟨q1, q2, q3, q4, q5, q6, q7, q8⟩, hS⟩ := id hR
  refine c_Four_body hX q1 q3 ?_ ?_ ?_
  · intro hc
    exact h _ _ (fun PM k => d_body hM q2 q3 (fun _ => k _ hR) (fun w => by rw [hc] at w; cases w) (fun w => by rw [hc] at w; cases w))
  · intro hc hn
    exact h _ _ (fun PM k => d_body hM q2 q3 (fun w => by rw [hc] at w; cases w) (fun _ _ => k _ hR) (fun _ w => by omega))
  · intro hc hn
    obtain ⟨j, hj, rfl⟩ := inN_ex hc (by decide)
    refine h _ _ (fun PM k => d_body (mem := upI (upI mem 28 0 nb (nI j)) 27 0 1 (nI (nb + 1))) hM q2 q3 (fun w => by rw [hc] at w; cases w) (fun _ w => by omega) (fun _ _ => ?_))
    refine k _ ⟨sz, bx, C, τ, Λ, n, K, d, e, nb + 1, r, hC, hm, h16, hT, hP, ⟨rfl, rfl, by omega, fun b hb => ?_, q5, q6, q7, q8⟩, fun k hk => RS1.up (nb := nb) (by omega) (hS k hk)⟩
    show ∃ κ, κ < 8 ∧ (if 28 = 28 ∧ 0 = 0 ∧ b = nb then nI j else mem.1 28 0 b) = nI κ ∧ (if 62 = 62 ∧ 0 = 0 ∧ b = nb then nI j else mem.1 62 0 b) = nI κ
    by_cases q : b = nb
    · rw [if_pos ⟨rfl, rfl, q⟩, if_pos ⟨rfl, rfl, q⟩]; exact ⟨j, hj, rfl, rfl⟩
    · rw [if_neg (fun w => q w.2.2), if_neg (fun w => q w.2.2)]; exact q4 b (by omega)
theorem trM_2 : ∀ (bs : List Int32) (mem : zM) (r : Nat), (trM mem r bs).2 = mem.2
  | [], _, _ => rfl
  | b :: bs, mem, r => (trM_2 bs (aT mem r b) (r + 1)).trans (by unfold aT; split <;> rfl)
theorem trM_1 : ∀ (bs : List Int32) (mem : zM) (r a b c : Nat), a ≠ 29 → ¬ (a = 27 ∧ c = 3) → (trM mem r bs).1 a b c = mem.1 a b c
  | [], _, _, _, _, _, _, _ => rfl
  | v :: bs, mem, r, a, b, c, h1, h2 => (trM_1 bs (aT mem r v) (r + 1) a b c h1 h2).trans (by
    unfold aT
    rw [upI_get, if_neg (by omega)]
    split
    · rw [upI_get, if_neg (by omega)]
    · rfl)
theorem trM_3 : ∀ (bs : List Int32) (mem : zM) (r : Nat), mem.1 27 0 3 = nI r → (trM mem r bs).1 27 0 3 = nI (r + bs.length)
  | [], _, _, h => h
  | b :: bs, mem, r, _ => by
    have := trM_3 bs (aT mem r b) (r + 1) rfl
    rw [show r + 1 + bs.length = r + (b :: bs).length by simp; omega] at this
    exact this
theorem trM_29 : ∀ (bs : List Int32) (mem : zM) (r i : Nat), i < 24 → (trM mem r bs).1 29 0 i = if r ≤ i ∧ i < r + bs.length then bs.getD (i - r) 0 else mem.1 29 0 i
  | [], _, _, _, _ => by rw [if_neg (by rintro ⟨h1, h2⟩; rw [List.length_nil] at h2; omega)]; rfl
  | b :: bs, mem, r, i, hi => by
    show (trM (aT mem r b) (r + 1) bs).1 29 0 i = _
    rw [trM_29 bs (aT mem r b) (r + 1) i hi]
    have ea : (aT mem r b).1 29 0 i = if i = r then b else mem.1 29 0 i := by
      unfold aT
      rw [upI_get, if_neg (by omega)]
      by_cases q : r < 24
      · rw [if_pos q, upI_get]
        by_cases e : i = r
        · rw [if_pos ⟨rfl, rfl, e⟩, if_pos e]
        · rw [if_neg (fun w => e w.2.2), if_neg e]
      · rw [if_neg q, if_neg (by omega)]
    rw [ea, List.length_cons]
    by_cases e : i = r
    · subst e
      rw [if_neg (by omega), if_pos rfl, if_pos (by omega), Nat.sub_self]; rfl
    · rw [if_neg e]
      by_cases q : r + 1 ≤ i ∧ i < r + 1 + bs.length
      · rw [if_pos q, if_pos (by omega), show i - r = (i - (r + 1)) + 1 by omega]; rfl
      · rw [if_neg q, if_neg (by omega)]
theorem trN_2 : ∀ (bs : List Int32) (mem : zM) (r : Nat), (trMM mem r bs).2 = mem.2
  | [], _, _ => rfl
  | b :: bs, mem, r => (trN_2 bs (aTM mem r b) (r + 1)).trans (by unfold aTM; split <;> rfl)
theorem trN_1 : ∀ (bs : List Int32) (mem : zM) (r a b c : Nat), a ≠ 63 → ¬ (a = 40 ∧ c = 39) → (trMM mem r bs).1 a b c = mem.1 a b c
  | [], _, _, _, _, _, _, _ => rfl
  | v :: bs, mem, r, a, b, c, h1, h2 => (trN_1 bs (aTM mem r v) (r + 1) a b c h1 h2).trans (by
    unfold aTM
    rw [upI_get, if_neg (by omega)]
    split
    · rw [upI_get, if_neg (by omega)]
    · rfl)
theorem trN_3 : ∀ (bs : List Int32) (mem : zM) (r : Nat), mem.1 40 0 39 = nI r → (trMM mem r bs).1 40 0 39 = nI (r + bs.length)
  | [], _, _, h => h
  | b :: bs, mem, r, _ => by
    have := trN_3 bs (aTM mem r b) (r + 1) rfl
    rw [show r + 1 + bs.length = r + (b :: bs).length by simp; omega] at this
    exact this
theorem trN_63 : ∀ (bs : List Int32) (mem : zM) (r i : Nat), i < 24 → (trMM mem r bs).1 63 0 i = if r ≤ i ∧ i < r + bs.length then bs.getD (i - r) 0 else mem.1 63 0 i
  | [], _, _, _, _ => by rw [if_neg (by rintro ⟨h1, h2⟩; rw [List.length_nil] at h2; omega)]; rfl
  | b :: bs, mem, r, i, hi => by
    show (trMM (aTM mem r b) (r + 1) bs).1 63 0 i = _
    rw [trN_63 bs (aTM mem r b) (r + 1) i hi]
    have ea : (aTM mem r b).1 63 0 i = if i = r then b else mem.1 63 0 i := by
      unfold aTM
      rw [upI_get, if_neg (by omega)]
      by_cases q : r < 24
      · rw [if_pos q, upI_get]
        by_cases e : i = r
        · rw [if_pos ⟨rfl, rfl, e⟩, if_pos e]
        · rw [if_neg (fun w => e w.2.2), if_neg e]
      · rw [if_neg q, if_neg (by omega)]
    rw [ea, List.length_cons]
    by_cases e : i = r
    · subst e
      rw [if_neg (by omega), if_pos rfl, if_pos (by omega), Nat.sub_self]; rfl
    · rw [if_neg e]
      by_cases q : r + 1 ≤ i ∧ i < r + 1 + bs.length
      · rw [if_pos q, if_pos (by omega), show i - r = (i - (r + 1)) + 1 by omega]; rfl
      · rw [if_neg q, if_neg (by omega)]
/-- only bodies' traces change -/
theorem R0.bod {mem m : zM} {sz bx : Nat} {C : Nat → Nat → Nat} {τ : Nat → Nat} {Λ : Option (List lLn)} {n : Nat} {K : Nat → Nat} {d e nb r r' : Nat} (h : R0 mem sz bx C τ Λ n K d e nb r) (G : ∀ a b c, a ≠ 29 → a ≠ 63 → ¬ (a = 27 ∧ (c = 3 ∨ c = 4)) → ¬ (a = 40 ∧ c = 39) → m.1 a b c = mem.1 a b c) (G2 : m.2 = mem.2) (e1 : m.1 27 0 3 = nI r') (e2 : m.1 40 0 39 = nI r') (e3 : r' ≤ 100) (e4 : ∀ i, i < 24 → i < r' → m.1 29 0 i = m.1 63 0 i) : R0 m sz bx C τ Λ n K d e nb r' := by
  obtain ⟨⟨a1, a2, a3, a4, a5, a6, a7, a8⟩, ⟨b1, b2, b3, b4, b5, b6, b7, b8, b9⟩, h16, ⟨⟨t1, t2, t3, t4⟩, ⟨u1, u2, u3, u4⟩⟩, ⟨p1, p2, p3, p4, p5, p6, p7⟩, ⟨q1, q2, q3, q4, q5, q6, q7, q8⟩, hS⟩ := h
  have G' : ∀ a b c, (a ≠ 29 ∧ a ≠ 63 ∧ ¬ (a = 27 ∧ (c = 3 ∨ c = 4)) ∧ ¬ (a = 40 ∧ c = 39)) → m.1 a b c = mem.1 a b c := fun a b c w => G a b c w.1 w.2.1 w.2.2.1 w.2.2.2
  refine ⟨⟨(G' 0 0 1 (by omega)).trans a1, a2, (G' 0 0 2 (by omega)).trans a3, a4, a5, fun k hk f hf => by rw [G' 3 k f (by omega)]; exact a6 k hk f hf, fun k hk => by rw [G' 2 k 1 (by omega)]; exact a7 k hk, fun k hk => by rw [G' 8 0 k (by omega)]; exact a8 k hk⟩, ⟨(G' 40 0 1 (by omega)).trans b1, b2, (G' 40 0 4 (by omega)).trans b3, b4, b5, fun k hk f hf => by rw [G' 41 0 _ (by omega)]; exact b6 k hk f hf, fun k hk => by rw [G' 42 0 k (by omega)]; exact b7 k hk, ?_, fun j hj => by rw [G' 43 0 j (by omega)]; exact b9 j hj⟩, h16, ⟨⟨(G' 4 0 1 (by omega)).trans t1, t2, t3, fun p hp => by rw [G' 5 0 p (by omega)]; exact t4 p hp⟩, ⟨(G' 40 0 13 (by omega)).trans u1, u2, u3, fun p hp => by rw [G' 48 0 p (by omega)]; exact u4 p hp⟩⟩, ⟨(G' 23 0 3 (by omega)).trans p1, (G' 23 0 4 (by omega)).trans p2, (G' 40 0 6 (by omega)).trans p3, (G' 40 0 7 (by omega)).trans p4, p5, p6, fun i hi => by rw [G' 24 0 i (by omega), G' 25 0 i (by omega), G' 26 0 i (by omega), G' 44 0 i (by omega), G' 45 0 i (by omega), G' 46 0 i (by omega), G' 47 0 i (by omega)]; exact p7 i hi⟩, ⟨(G' 27 0 1 (by omega)).trans q1, (G' 40 0 37 (by omega)).trans q2, q3, fun b hb => by rw [G' 28 0 b (by omega), G' 62 0 b (by omega)]; exact q4 b hb, e1, e2, e3, e4⟩, fun k hk => RS1.fr (mem := mem) (fun c => G' 31 k c (by omega)) (G' 64 0 k (by omega)) (G' 65 0 k (by omega)) (fun j _ => by rw [G2]) (fun j _ => by rw [G2]) (hS k hk)⟩
  cases Λ with
  | none => exact (G' 40 0 25 (by omega)).trans b8
  | some Λ =>
    obtain ⟨c0, c1, c2, c3, c4, c5, c6⟩ := b8
    exact ⟨(G' 40 0 25 (by omega)).trans c0, c1, c2, c3, (G' 51 0 0 (by omega)).trans c4, fun i hi => by rw [G' 49 0 i (by omega), G' 50 0 i (by omega)]; exact c5 i hi, fun i hi => by rw [G' 52 0 i (by omega), G' 53 0 i (by omega)]; exact c6 i hi⟩
theorem p_act (hX : zHas ι pX) (hM : zHas ι pM) (hR : RR mem) : PPi ι l M_Four_act M_Model_act 43 10 [zP 0 0, zI x, zI y, zI z] [zP 40 0, zI x, zI y, zI z] mem := by
  intro PX h
  obtain ⟨sz, bx, C, τ, Λ, n, K, d, e, nb, r, h0⟩ := id hR
  obtain ⟨q1, q2, q3, q4, q5, q6, q7, q8⟩ := h0.2.2.2.2.2.1
  have hlen : ∀ (κ : Nat), κ < 8 → ∀ d, d < 4 → ∀ s w : Int32, (rfP 20 κ s κ d w).2.length < 1000000 := fun κ hκ d hd s w => by
    rw [ac_eq s w κ hκ d hd]
    have := ln_ac κ d s w
    omega
  refine c_Four_act hX q1 q3 (fun b hb => (q4 b hb).imp (fun κ w => ⟨w.1, w.2.1⟩)) hlen ?_ ?_
  · intro hc
    refine h _ _ (fun PM k => d_act (mem := upI mem 27 0 3 0) hM q2 q3 (fun b hb => (q4 b hb).imp (fun κ w => ⟨w.1, w.2.2⟩)) (fun _ => ?_) ?_)
    · refine k _ ⟨sz, bx, C, τ, Λ, n, K, d, e, nb, 0, h0.bod (fun a b c g1 g2 g3 g4 => ?_) rfl rfl rfl (by omega) (fun i _ w => by omega)⟩
      rw [upI_get, if_neg (by omega), upI_get, if_neg (by omega)]
    · rintro b d' κ hb hd hκ rfl rfl _
      rw [inN_nI hb (by omega), inN_nI hd (by decide)] at hc
      cases hc
  · rintro b d' κ hb hd hκ rfl rfl eκ
    obtain ⟨κ2, w1, w2, w3⟩ := q4 b hb
    obtain rfl : κ2 = κ := uno hκ w1 (by decide) eκ w2
    have eac := ac_eq (nI b) z κ2 hκ d' hd
    have hle := ln_ac κ2 d' (nI b) z
    generalize hbs : (acP κ2 d' (nI b) z).2 = bs at *
    have em : ∀ a b' c, a ≠ 29 → ¬ (a = 27 ∧ (c = 3 ∨ c = 4)) → (trM (upI (upI mem 27 0 3 0) 27 0 4 (nI b)) 0 (rfP 20 κ2 (nI b) κ2 d' z).2).1 a b' c = mem.1 a b' c := by
      intro a b' c g1 g2
      rw [trM_1 _ _ _ _ _ _ g1 (by omega), upI_get, if_neg (by omega), upI_get, if_neg (by omega)]
    have e2 : (trM (upI (upI mem 27 0 3 0) 27 0 4 (nI b)) 0 (rfP 20 κ2 (nI b) κ2 d' z).2).2 = mem.2 := trM_2 _ _ _
    have ebs : (rfP 20 κ2 (nI b) κ2 d' z).2 = bs := by rw [eac, hbs]
    have e3 : (trM (upI (upI mem 27 0 3 0) 27 0 4 (nI b)) 0 (rfP 20 κ2 (nI b) κ2 d' z).2).1 27 0 3 = nI bs.length := by
      have := trM_3 (rfP 20 κ2 (nI b) κ2 d' z).2 (upI (upI mem 27 0 3 0) 27 0 4 (nI b)) 0 rfl
      rw [ebs, Nat.zero_add] at this
      rw [ebs]; exact this
    have e29 : ∀ i, i < 24 → i < bs.length → (trM (upI (upI mem 27 0 3 0) 27 0 4 (nI b)) 0 (rfP 20 κ2 (nI b) κ2 d' z).2).1 29 0 i = bs.getD i 0 := by
      intro i h1 h2
      rw [trM_29 _ _ _ _ h1, ebs, if_pos (by omega)]; rfl
    generalize trM (upI (upI mem 27 0 3 0) 27 0 4 (nI b)) 0 (rfP 20 κ2 (nI b) κ2 d' z).2 = m1 at *
    refine h _ _ (fun PM k => d_act (mem := m1) (nb := nb) hM ((em 40 0 37 (by decide) (by omega)).trans q2) q3 (fun b hb => by rw [em 62 0 b (by decide) (by omega)]; exact (q4 b hb).imp (fun κ w => ⟨w.1, w.2.2⟩)) ?_ ?_)
    · intro hc
      rw [inN_nI hb (by omega), inN_nI hd (by decide)] at hc
      cases hc
    · intro b' d'' κ' hb' hd' hκ' f1 f2 f3
      obtain rfl := uno hb hb' (by omega) rfl f1
      obtain rfl := uno hd hd' (by decide) rfl f2
      rw [em 62 0 b' (by decide) (by omega)] at f3
      obtain rfl := uno hκ hκ' (by decide) w3 f3
      rw [hbs, ← eac]
      refine k _ ⟨sz, bx, C, τ, Λ, n, K, d, e, nb, bs.length, h0.bod (fun a b c g1 g2 g3 g4 => ?_) ?_ ?_ ?_ (by omega) (fun i g1 g2 => ?_)⟩
      · rw [trN_1 _ _ _ _ _ _ g2 g4, upI_get, if_neg (by omega)]; exact em a b c g1 g3
      · rw [trN_2]; exact e2
      · rw [trN_1 _ _ _ _ _ _ (by decide) (by omega), upI_get, if_neg (by omega)]; exact e3
      · have := trN_3 bs (upI m1 40 0 39 0) 0 rfl
        rw [Nat.zero_add] at this
        exact this
      · rw [trN_1 _ _ _ _ _ _ (by decide) (by omega), upI_get, if_neg (by omega), e29 i g1 g2, trN_63 _ _ _ _ g1, if_pos (by omega)]; rfl
end Q3
