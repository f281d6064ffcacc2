/-! side by side: the calls that ask the tower -/
theorem cnI_cong {f g : Nat → Bool} : ∀ {n : Nat}, (∀ k, k < n → f k = g k) → cnI f n = cnI g n
  | 0, _ => rfl
  | n + 1, h => by rw [cnI, cnI, h n (by omega), cnI_cong (fun k hk => h k (by omega))]
theorem frI_app {α : Type} {g : Nat → Option α} : ∀ {m t n : Nat}, frI g t (m + n) = (match frI g t m with | some a => some a | none => frI g (t + m) n)
  | 0, t, n => by rw [Nat.zero_add]; rfl
  | m + 1, t, n => by
    rw [show m + 1 + n = (m + n) + 1 by omega, frI, frI]
    cases g t with
    | some a => rfl
    | none =>
      show frI g (t + 1) (m + n) = _
      rw [frI_app (m := m) (t := t + 1), show t + 1 + m = t + (m + 1) by omega]
theorem frI_shift {α : Type} {g : Nat → Option α} {k : Nat} : ∀ {m t : Nat}, frI g (k + t) m = frI (fun e => g (k + e)) t m
  | 0, _ => rfl
  | m + 1, t => by
    rw [frI, frI]
    cases g (k + t) with
    | some a => rfl
    | none => exact frI_shift (m := m) (t := t + 1)
theorem bx_cn (bx : Nat) (g : Nat → Nat → Bool) : ∀ sz, cnI (fun K => bx.testBit (K / 36) && g (K / 36) (K % 36)) (36 * sz) = cnI (fun k => g ((bxL bx sz).getD (k / 36) 0) (k % 36)) (36 * (bxL bx sz).length)
  | 0 => rfl
  | sz + 1 => by
    have ih := bx_cn bx g sz
    have es := bxL_s bx sz
    rw [show 36 * (sz + 1) = 36 * sz + 36 by omega, cnI_add, ih]
    have e2 : cnI (fun k => bx.testBit ((36 * sz + k) / 36) && g ((36 * sz + k) / 36) ((36 * sz + k) % 36)) 36 = cnI (fun e => bx.testBit sz && g sz e) 36 := cnI_cong (fun e he => by rw [show (36 * sz + e) / 36 = sz by omega, show (36 * sz + e) % 36 = e by omega])
    rw [e2]
    cases hb : bx.testBit sz with
    | false =>
      rw [hb] at es
      have es : bxL bx (sz + 1) = bxL bx sz := es
      rw [es]
      have : cnI (fun e => false && g sz e) 36 = 0 := by
        have := cnI_skip (f := fun e => false && g sz e) (k := 0) (d := 36) (fun i _ _ => rfl)
        exact this
      rw [this]; rfl
    | true =>
      rw [hb] at es
      have es : bxL bx (sz + 1) = bxL bx sz ++ [sz] := es
      rw [es, List.length_append, List.length_singleton, show 36 * ((bxL bx sz).length + 1) = 36 * (bxL bx sz).length + 36 by omega, cnI_add]
      congr 1
      · exact cnI_cong (fun k hk => by rw [getD_app, if_neg (by omega)])
      · refine cnI_cong (fun e he => ?_)
        rw [getD_app, if_pos (by omega), show (36 * (bxL bx sz).length + e) % 36 = e by omega, Bool.true_and]
theorem bx_fr {α : Type} (bx : Nat) (g : Nat → Nat → Option α) : ∀ sz, frI (fun K => if bx.testBit (K / 36) = true then g (K / 36) (K % 36) else none) 0 (36 * sz) = frI (fun k => g ((bxL bx sz).getD (k / 36) 0) (k % 36)) 0 (36 * (bxL bx sz).length)
  | 0 => rfl
  | sz + 1 => by
    have ih := bx_fr bx g sz
    have es := bxL_s bx sz
    rw [show 36 * (sz + 1) = 36 * sz + 36 by omega, frI_app, ih]
    have e2 : frI (fun K => if bx.testBit (K / 36) = true then g (K / 36) (K % 36) else none) (0 + 36 * sz) 36 = frI (fun e => if bx.testBit sz = true then g sz e else none) 0 36 := by
      rw [Nat.zero_add, show 36 * sz = 36 * sz + 0 from rfl, frI_shift]
      exact frI_cong (fun e h1 h2 => by rw [show (36 * sz + e) / 36 = sz by omega, show (36 * sz + e) % 36 = e by omega])
    rw [e2]
    cases hb : bx.testBit sz with
    | false =>
      rw [hb] at es
      have es : bxL bx (sz + 1) = bxL bx sz := es
      rw [es, frI_none (g := fun e => if false = true then g sz e else none) (fun k _ _ => rfl)]
      cases frI (fun k => g ((bxL bx sz).getD (k / 36) 0) (k % 36)) 0 (36 * (bxL bx sz).length) <;> rfl
    | true =>
      rw [hb] at es
      have es : bxL bx (sz + 1) = bxL bx sz ++ [sz] := es
      rw [es, List.length_append, List.length_singleton, show 36 * ((bxL bx sz).length + 1) = 36 * (bxL bx sz).length + 36 by omega, frI_app]
      have e3 : frI (fun k => g ((bxL bx sz ++ [sz]).getD (k / 36) 0) (k % 36)) 0 (36 * (bxL bx sz).length) = frI (fun k => g ((bxL bx sz).getD (k / 36) 0) (k % 36)) 0 (36 * (bxL bx sz).length) := frI_cong (fun k _ hk => by rw [getD_app, if_neg (by omega)])
      have e4 : frI (fun k => g ((bxL bx sz ++ [sz]).getD (k / 36) 0) (k % 36)) (0 + 36 * (bxL bx sz).length) 36 = frI (fun e => if true = true then g sz e else none) 0 36 := by
        rw [Nat.zero_add, show 36 * (bxL bx sz).length = 36 * (bxL bx sz).length + 0 from rfl, frI_shift]
        exact frI_cong (fun e h1 h2 => by rw [getD_app, if_pos (by omega), show (36 * (bxL bx sz).length + e) % 36 = e by omega, if_pos rfl])
      rw [e3, e4]
theorem md_cn (Λ : Option (List lLn)) (C : Nat → Nat → Nat) (T : List Nat) {sz bx : Nat} (hT : T = bxL bx sz) : cnI (mdM Λ C T bx) (36 * sz) = cnI (mdB Λ C T) (36 * T.length) := by
  have := bx_cn bx (gmB Λ C T) sz
  rw [← hT] at this
  refine this.trans (cnI_cong (fun k hk => ?_))
  unfold gmB mdB
  rw [show k % 36 / 6 = k / 6 % 6 by omega, show k % 36 % 6 = k % 6 by omega]
theorem md_fr (Λ : Option (List lLn)) (C : Nat → Nat → Nat) (T : List Nat) {sz bx : Nat} (hT : T = bxL bx sz) : frI (mdQ Λ C T bx) 0 (36 * sz) = frI (mdV Λ C T) 0 (36 * T.length) := by
  have := bx_fr bx (fun κ e => if gmB Λ C T κ e = true then some (100 * κ + 10 * (e / 6) + e % 6) else none) sz
  rw [← hT] at this
  refine Eq.trans (frI_cong (fun K _ _ => ?_)) (this.trans (frI_cong (fun k _ _ => ?_)))
  · unfold mdQ mdM
    cases bx.testBit (K / 36) <;> rfl
  · unfold gmB mdV mdB
    rw [show k % 36 / 6 = k / 6 % 6 by omega, show k % 36 % 6 = k % 6 by omega]
def phN (v : Nat) : Nat := d3 v 0 + 4 * d3 v 1 + 16 * d3 v 2 + 64 * d3 v 3
theorem ph_ch : ∀ n, n ≤ 4 → (List.range (4 ^ n)).filter chB = (List.range (3 ^ n)).map phN := by decide +kernel
theorem ph_dg : ∀ v, v < 81 → ∀ k, k < 4 → d4 (phN v) k = d3 v k := by decide +kernel
theorem ph_sn : ∀ n, n ≤ 4 → ∀ v, v < 3 ^ n → ∀ w, w < 3 ^ n → snB n (phN v) (phN w) = apB n v w := by decide +kernel
theorem rg_eq (C : Nat → Nat → Nat) (T : List Nat) (h4 : T.length ≤ 4) : rgL C T (4 ^ T.length) = (rgM C T (3 ^ T.length)).map phN := by
  have p3 : ∀ n, n ≤ 4 → 3 ^ n ≤ 81 := by decide
  unfold rgL rgM
  have e1 : (List.range (4 ^ T.length)).filter (fun v => chB v && rgB C T (d4 v)) = ((List.range (4 ^ T.length)).filter chB).filter (fun v => rgB C T (d4 v)) := by
    rw [List.filter_filter]
    exact List.filter_congr (fun x _ => Bool.and_comm _ _)
  rw [e1, ph_ch _ h4, List.filter_map]
  congr 1
  refine List.filter_congr (fun v hv => ?_)
  have hv := List.mem_range.mp hv
  have := p3 _ h4
  exact rgB_cong C T (fun i hi => ph_dg v (by omega) i (by omega))
theorem prC_cong {f g : Nat → Nat → Bool} {m : Nat} (h : ∀ i j, i < m → j < m → f i j = g i j) : prC f m = prC g m := by
  unfold prC
  exact sumI_cong (fun i hi => sumI_cong (fun k hk => by rw [h i (i + 1 + k) hi (by omega)]))
section Q2
variable {l : Launch} {ι : zE} {mem : zM} {x y z : Int32}
theorem p_judge (hX : zHas ι pX) (hM : zHas ι pM) (hR : RR mem) : PPi ι l M_Four_judge M_Model_judge 2 5 [zP 0 0] [zP 40 0] mem := by
  intro PX h
  obtain ⟨sz, bx, C, τ, Λ, n, K, d, e, nb, r, h0⟩ := id hR
  refine c_Four_judge hX h0.1 (fun m hm => h _ _ (fun PM k => ?_))
  obtain ⟨S, eS⟩ := tm_ex m
  have := d_judge (l := l) (S := S) (Post := PM) hM (h0.tO hm).2.1 (fun S' => k _ (hR.tO hm).tms)
  rw [eS] at this
  exact this
theorem p_ways (hX : zHas ι pX) (hM : zHas ι pM) (hR : RR mem) : PPi ι l M_Four_ways M_Model_ways 9 10 [zP 0 0, zI x, zI y] [zP 40 0, zI x, zI y] mem := by
  intro PX h
  obtain ⟨sz, bx, C, τ, Λ, n, K, d, e, nb, r, h0⟩ := id hR
  have h8 := h0.1.2.1
  have h25 := p8 sz h8
  have hlen := h0.1.len
  have m1 : ∀ k, k < 5 → ¬ nI k = -1 ∧ ¬ nI k < -1 := by decide
  have nn : ∀ hb, hb < 2 ^ sz → (inN (nI hb) (2 ^ sz) = false ∨ (-1 : Int32) < -1 ∨ nI (bxL bx 8).length ≤ -1) → False := by
    intro hb hb1 w
    rcases w with w | w | w
    · exact nope w hb1 rfl (by omega)
    · exact absurd w (by decide)
    · have : ∀ k, k < 5 → ¬ nI k ≤ -1 := by decide
      exact this _ (by omega) w
  have nk : ∀ hb k, hb < 2 ^ sz → k < (bxL bx 8).length → (inN (nI hb) (2 ^ sz) = false ∨ nI k < -1 ∨ nI (bxL bx 8).length ≤ nI k) → False := by
    intro hb k hb1 hk w
    rcases w with w | w | w
    · exact nope w hb1 rfl (by omega)
    · exact (m1 k (by omega)).2 w
    · exact nI_ge hk (by omega) w
  refine c_Four_ways hX h0.1 ?_ ?_ ?_
  · intro hc
    refine h _ _ (fun PM k => d_ways hM h0.2.1 (fun _ => k _ hR) ?_ ?_)
    · rintro hb S' hb1 rfl rfl
      exact (nn hb hb1 hc).elim
    · rintro hb k' S' hb1 rfl hk rfl
      exact (nk hb k' hb1 hk hc).elim
  · rintro hb m hb1 rfl rfl hm
    refine h _ _ (fun PM k => d_ways hM (h0.tO hm).2.1 (fun w => (nn hb hb1 w).elim) ?_ ?_)
    · intro hb' S' hb1' e1 _
      obtain rfl := uno hb1 hb1' (by omega) rfl e1
      exact k _ (hR.tO hm).tms
    · intro hb' k' S' _ _ hk e2
      exact absurd e2.symm (m1 k' (by omega)).1
  · rintro hb k0 m hb1 rfl hk rfl hm
    refine h _ _ (fun PM k => d_ways hM (h0.tO hm).2.1 (fun w => (nk hb k0 hb1 hk w).elim) ?_ ?_)
    · intro hb' S' hb1' e1 e2
      exact absurd e2 (m1 k0 (by omega)).1
    · intro hb' k' S' hb1' e1 hk' e2
      obtain rfl := uno hb1 hb1' (by omega) rfl e1
      obtain rfl := uno hk hk' (by omega) rfl e2
      exact k _ (hR.tO hm).tms
theorem p_near (hX : zHas ι pX) (hM : zHas ι pM) (hR : RR mem) : PPi ι l M_Four_near M_Model_near 11 10 [zP 0 0, zI x] [zP 40 0, zI x] mem := by
  intro PX h
  obtain ⟨sz, bx, C, τ, Λ, n, K, d, e, nb, r, h0⟩ := id hR
  have h8 := h0.1.2.1
  have h25 := p8 sz h8
  refine c_Four_near hX h0.1 ?_ ?_
  · intro hc
    refine h _ _ (fun PM k => d_near hM h0.2.1 (fun _ => k _ hR) ?_)
    rintro hb S' hb1 rfl
    exact (nope hc hb1 rfl (by omega)).elim
  · rintro hb m hb1 rfl hm
    refine h _ _ (fun PM k => d_near hM (h0.tO hm).2.1 (fun w => (nope w hb1 rfl (by omega)).elim) ?_)
    intro hb' S' hb1' e1
    obtain rfl := uno hb1 hb1' (by omega) rfl e1
    exact k _ (hR.tO hm).tms
theorem p_build (hX : zHas ι pX) (hM : zHas ι pM) (hR : RR mem) : PPi ι l M_Four_build M_Model_build 4 10 [zP 0 0, zI x, zI y] [zP 40 0, zI x, zI y] mem := by
  intro PX h
  obtain ⟨sz, bx, C, τ, Λ, n, K, d, e, nb, r, h0⟩ := id hR
  refine c_Four_build hX h0.1 ?_ ?_ ?_ ?_
  · intro hc
    have bad : ∀ t, t < 24 → x = nI t → ¬ y < 0 → y ≤ 1 → False := by
      rintro t ht rfl q1 q2
      rcases hc with w | w | w
      · exact nope w ht rfl (by decide)
      · exact q1 w
      · exact w q2
    refine h _ _ (fun PM k => d_build hM h0.2.1 (fun _ => k _ hR) ?_ ?_ ?_)
    · intro q0 q1 q2 _
      obtain ⟨t, ht, ex⟩ := inN_ex q0 (by decide)
      exact (bad t ht ex q1 q2).elim
    · intro t S' ht ex ey _
      exact (bad t ht ex (by rw [ey]; decide) (by rw [ey]; decide)).elim
    · intro t S' ht ex _ q1 q2 _
      exact (bad t ht ex q1 q2).elim
  · intro q0 q1 q2 hb
    refine h _ _ (fun PM k => d_build hM h0.2.1 ?_ (fun _ _ _ _ => k _ hR) ?_ ?_)
    · rintro (w | w | w)
      · rw [q0] at w; cases w
      · exact absurd w q1
      · exact absurd q2 w
    · intro t S' _ _ _ w
      exact absurd hb w
    · intro t S' _ _ _ _ _ w
      exact absurd hb w
  · rintro t m ht rfl rfl hb hm
    refine h _ _ (fun PM k => d_build hM (h0.tO hm).2.1 ?_ ?_ ?_ ?_)
    · rintro (w | w | w)
      · exact (nope w ht rfl (by decide)).elim
      · exact absurd w (by decide)
      · exact absurd w (by decide)
    · intro _ _ _ w
      exact absurd w hb
    · intro t' S' ht' e1 _ _
      obtain rfl := uno ht ht' (by decide) rfl e1
      exact k _ (hR.tO hm).tms
    · intro t' S' _ _ w
      exact absurd rfl w
  · rintro t m ht rfl hy q1 q2 hb hm
    refine h _ _ (fun PM k => d_build hM (h0.tO hm).2.1 ?_ ?_ ?_ ?_)
    · rintro (w | w | w)
      · exact (nope w ht rfl (by decide)).elim
      · exact absurd w q1
      · exact absurd q2 w
    · intro _ _ _ w
      exact absurd w hb
    · intro t' S' _ _ w
      exact absurd w hy
    · intro t' S' ht' e1 _ _ _ _
      obtain rfl := uno ht ht' (by decide) rfl e1
      exact k _ (hR.tO hm).tms
theorem p_mend (hX : zHas ι pX) (hM : zHas ι pM) (hR : RR mem) : PPi ι l M_Four_mend M_Model_mend 12 11 [zP 0 0, zI x] [zP 40 0, zI x] mem := by
  intro PX h
  obtain ⟨sz, bx, C, τ, Λ, n, K, d, e, nb, r, h0⟩ := id hR
  have eT := (bxL_8 h0.1.2.2.2.1 h0.1.2.1).symm
  refine c_Four_mend hX h0.1 ?_ ?_ ?_
  · intro hc
    refine h _ _ (fun PM k => d_mend hM h0.2.1 (fun _ => k _ hR) ?_ ?_)
    · rintro S' rfl
      rcases hc with w | w
      · exact absurd w (by decide)
      · exact absurd w (by decide)
    · intro S' q1 q2 _
      rcases hc with w | w
      · exact absurd w q1
      · exact absurd q2 w
  · rintro m rfl hm
    refine h _ _ (fun PM k => d_mend hM (h0.tO hm).2.1 ?_ ?_ ?_)
    · rintro (w | w)
      · exact absurd w (by decide)
      · exact absurd w (by decide)
    · intro S' _
      rw [md_cn Λ C _ eT]
      exact k _ (hR.tO hm).tms
    · intro S' _ _ w
      exact absurd rfl w
  · intro m q1 q2 q3 hm
    refine h _ _ (fun PM k => d_mend hM (h0.tO hm).2.1 ?_ ?_ ?_)
    · rintro (w | w)
      · exact absurd w q1
      · exact absurd q2 w
    · intro S' w
      exact absurd w q3
    · intro S' _ _ _
      rw [md_fr Λ C _ eT]
      exact k _ (hR.tO hm).tms
theorem p_open (hX : zHas ι pX) (hM : zHas ι pM) (hR : RR mem) : PPi ι l M_Four_open M_Model_open 11 11 [zP 0 0, zI x] [zP 40 0, zI x] mem := by
  intro PX h
  obtain ⟨sz, bx, C, τ, Λ, n, K, d, e, nb, r, h0⟩ := id hR
  have h8 := h0.1.2.1
  have yes : ∀ k f, k < sz → f < 6 → fcB (nI (10 * k + f)) sz = false → False := by
    intro k f hk hf w
    rw [fcB_nI (by omega), show (10 * k + f) / 10 = k by omega, show (10 * k + f) % 10 = f by omega, decide_eq_true hk, decide_eq_true hf] at w
    cases w
  have same : ∀ k f k' f', k < sz → f < 6 → k' < sz → f' < 6 → nI (10 * k + f) = nI (10 * k' + f') → k' = k ∧ f' = f := by
    intro k f k' f' h1 h2 h3 h4 w
    have := (nI_eq (by omega) (by omega)).mp w
    omega
  refine c_Four_open hX h0.1 ?_ ?_ ?_
  · intro hc
    refine h _ _ (fun PM k => d_open hM h0.2.1 (fun _ => k _ hR) ?_ ?_)
    · rintro k' f hk hf rfl _
      exact (yes k' f hk hf hc).elim
    · rintro k' f S' hk hf rfl _ _
      exact (yes k' f hk hf hc).elim
  · rintro k0 f hk hf rfl hc
    refine h _ _ (fun PM k => d_open hM h0.2.1 (fun w => (yes k0 f hk hf w).elim) (fun _ _ _ _ _ _ => k _ hR) ?_)
    intro k' f' S' hk' hf' e1 e6 eb
    obtain ⟨rfl, rfl⟩ := same k0 f k' f' hk hf hk' hf' e1
    rcases hc with w | w
    · exact absurd e6 w
    · rw [eb] at w; cases w
  · rintro k0 f m hk hf rfl e6 eb hm
    refine h _ _ (fun PM k => d_open hM (h0.tO hm).2.1 (fun w => (yes k0 f hk hf w).elim) ?_ ?_)
    · intro k' f' hk' hf' e1 hc
      obtain ⟨rfl, rfl⟩ := same k0 f k' f' hk hf hk' hf' e1
      rcases hc with w | w
      · exact absurd e6 w
      · rw [eb] at w; cases w
    · intro k' f' S' hk' hf' e1 _ _
      obtain ⟨rfl, rfl⟩ := same k0 f k' f' hk hf hk' hf' e1
      exact k _ (hR.tO hm).tms
theorem p_swap (hX : zHas ι pX) (hM : zHas ι pM) (hR : RR mem) : PPi ι l M_Four_swap M_Model_swap 11 11 [zP 0 0, zI x] [zP 40 0, zI x] mem := by
  intro PX h
  obtain ⟨sz, bx, C, τ, Λ, n, K, d, e, nb, r, h0⟩ := id hR
  refine c_Four_swap hX h0.1 ?_ ?_ ?_
  · intro hc
    refine h _ _ (fun PM k => d_swap hM h0.2.1 (fun _ => k _ hR) ?_ ?_)
    · intro q1 q2 _
      rcases hc with w | w
      · exact absurd w q1
      · exact absurd q2 w
    · intro S' q1 q2 _
      rcases hc with w | w
      · exact absurd w q1
      · exact absurd q2 w
  · intro q1 q2 q3
    refine h _ _ (fun PM k => d_swap hM h0.2.1 ?_ (fun _ _ _ => k _ hR) ?_)
    · rintro (w | w)
      · exact absurd w q1
      · exact absurd q2 w
    · intro S' _ _ w
      omega
  · intro m q1 q2 q3 hm
    refine h _ _ (fun PM k => d_swap hM (h0.tO hm).2.1 ?_ ?_ ?_)
    · rintro (w | w)
      · exact absurd w q1
      · exact absurd q2 w
    · intro _ _ w
      omega
    · intro S' _ _ _
      exact k _ (hR.tO hm).tms
theorem p_rings (hX : zHas ι pX) (hM : zHas ι pM) (hR : RR mem) : PPi ι l M_Four_rings M_Model_rings 4 2 [zP 0 0, zI x] [zP 40 0, zI x] mem := by
  intro PX h
  obtain ⟨sz, bx, C, τ, Λ, n, K, d, e, nb, r, h0⟩ := id hR
  have hlen := h0.1.len
  have er := rg_eq C (bxL bx 8) hlen
  refine c_Four_rings hX h0.1 ?_ ?_ ?_ ?_
  · intro hc
    refine h _ _ (fun PM k => d_rings hM h0.2.1 (fun _ => k _ hR) ?_ ?_ ?_)
    · intro q1 q2 _
      rcases hc with w | w
      · exact absurd w q1
      · exact absurd q2 w
    · rintro S' rfl _
      rcases hc with w | w
      · exact absurd w (by decide)
      · exact absurd w (by decide)
    · intro S' q1 q2 _ _
      rcases hc with w | w
      · exact absurd w q1
      · exact absurd q2 w
  · intro q1 q2 q3
    refine h _ _ (fun PM k => d_rings hM h0.2.1 ?_ (fun _ _ _ => k _ hR) ?_ ?_)
    · rintro (w | w)
      · exact absurd w q1
      · exact absurd q2 w
    · intro S' _ w
      exact absurd q3 w
    · intro S' _ _ _ w
      exact absurd q3 w
  · rintro m rfl hb hm
    refine h _ _ (fun PM k => d_rings hM (h0.tO hm).2.1 ?_ ?_ ?_ ?_)
    · rintro (w | w)
      · exact absurd w (by decide)
      · exact absurd w (by decide)
    · intro _ _ w
      exact absurd w hb
    · intro S' _ _
      rw [er, List.length_map] at k
      exact k _ (hR.tO hm).tms
    · intro S' _ _ w
      exact absurd rfl w
  · intro m q1 q2 q3 hb hm
    refine h _ _ (fun PM k => d_rings hM (h0.tO hm).2.1 ?_ ?_ ?_ ?_)
    · rintro (w | w)
      · exact absurd w q1
      · exact absurd q2 w
    · intro _ _ w
      exact absurd w hb
    · intro S' w
      exact absurd w q3
    · intro S' _ _ _ _
      have e2 : prC (fun i j => snB (bxL bx 8).length ((rgL C (bxL bx 8) (4 ^ (bxL bx 8).length)).getD i 0) ((rgL C (bxL bx 8) (4 ^ (bxL bx 8).length)).getD j 0)) (rgL C (bxL bx 8) (4 ^ (bxL bx 8).length)).length = prC (fun i j => apB (bxL bx 8).length ((rgM C (bxL bx 8) (3 ^ (bxL bx 8).length)).getD i 0) ((rgM C (bxL bx 8) (3 ^ (bxL bx 8).length)).getD j 0)) (rgM C (bxL bx 8) (3 ^ (bxL bx 8).length)).length := by
        rw [er, List.length_map]
        have gm : ∀ i, i < (rgM C (bxL bx 8) (3 ^ (bxL bx 8).length)).length → ((rgM C (bxL bx 8) (3 ^ (bxL bx 8).length)).map phN).getD i 0 = phN ((rgM C (bxL bx 8) (3 ^ (bxL bx 8).length)).getD i 0) ∧ (rgM C (bxL bx 8) (3 ^ (bxL bx 8).length)).getD i 0 < 3 ^ (bxL bx 8).length := by
          intro i hi
          refine ⟨?_, ?_⟩
          · rw [List.getD_eq_getElem?_getD, List.getD_eq_getElem?_getD, List.getElem?_map, List.getElem?_eq_getElem hi]; rfl
          · exact List.mem_range.mp (List.mem_filter.mp (getD_mem (d := 0) hi)).1
        exact prC_cong (fun i j hi hj => by
          rw [(gm i hi).1, (gm j hj).1]
          exact ph_sn _ hlen _ (gm i hi).2 _ (gm j hj).2)
      rw [e2] at k
      exact k _ (hR.tO hm).tms
theorem p_wall (hX : zHas ι pX) (hM : zHas ι pM) (hR : RR mem) : PPi ι l M_Four_wall M_Model_wall 9 9 [zP 0 0, zI x] [zP 40 0, zI x] mem := by
  intro PX h
  obtain ⟨sz, bx, C, τ, Λ, n, K, d, e, nb, r, h0⟩ := id hR
  have m1 : ∀ k, k < 4 → ¬ nI k = -1 ∧ ¬ nI k < -1 ∧ ¬ 4 ≤ nI k := by decide
  refine c_Four_wall hX h0.1 ?_ ?_ ?_ ?_
  · intro hc
    refine h _ _ (fun PM k => d_wall hM h0.2.1 (fun _ => k _ hR) ?_ ?_ ?_)
    · intro q1 q2 _
      rcases hc with w | w
      · exact absurd w q1
      · exact absurd w q2
    · rintro S' rfl _
      rcases hc with w | w
      · exact absurd w (by decide)
      · exact absurd w (by decide)
    · rintro k' S' hk rfl _
      rcases hc with w | w
      · exact absurd w (m1 k' hk).2.1
      · exact absurd w (m1 k' hk).2.2
  · intro q1 q2 q3
    refine h _ _ (fun PM k => d_wall hM h0.2.1 ?_ (fun _ _ _ => k _ hR) ?_ ?_)
    · rintro (w | w)
      · exact absurd w q1
      · exact absurd w q2
    · intro S' _ w
      omega
    · intro k' S' _ _ w
      omega
  · rintro m rfl q hm
    refine h _ _ (fun PM k => d_wall hM (h0.tO hm).2.1 ?_ ?_ ?_ ?_)
    · rintro (w | w)
      · exact absurd w (by decide)
      · exact absurd w (by decide)
    · intro _ _ w
      omega
    · intro S' _ _
      exact k _ (hR.tO hm).tms
    · intro k' S' hk e1
      exact absurd e1.symm (m1 k' hk).1
  · rintro k0 m hk rfl q hm
    refine h _ _ (fun PM k => d_wall hM (h0.tO hm).2.1 ?_ ?_ ?_ ?_)
    · rintro (w | w)
      · exact absurd w (m1 k0 hk).2.1
      · exact absurd w (m1 k0 hk).2.2
    · intro _ _ w
      omega
    · intro S' w
      exact absurd w (m1 k0 hk).1
    · intro k' S' hk' e1 _
      obtain rfl := uno hk hk' (by decide) rfl e1
      exact k _ (hR.tO hm).tms
end Q2
