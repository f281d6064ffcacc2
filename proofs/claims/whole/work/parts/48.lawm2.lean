/-! the reference reads the law's text: levels, operands -/
def lfl (K : Nat → Nat) (r : lRs) (q : Nat) : Prop := r = (q, none) ∨ (∃ e, r = (q, some e)) ∧ isDg (K q) = true
theorem lfl_le {K : Nat → Nat} {n p q : Nat} {r : lRs} (h : lok n p r) (w : lfl K r q) : p ≤ q ∧ q ≤ n := by
  rcases w with w | ⟨⟨e, w⟩, _⟩
  · rw [w] at h; exact h
  · rw [w] at h; exact ⟨Nat.le_of_lt h.1, h.2.1⟩
theorem dg_nj {k lv : Nat} (h : isDg k = true) : ¬ isJn lv k = true := by
  have h1 := of_decide_eq_true h
  intro w
  have := of_decide_eq_true w
  omega
theorem lpR_dg {K : Nat → Nat} {sub : Nat → lRs} {lv m u : Nat} {e : lE} (h : isDg (K u) = true) : lpR K sub lv m u e = (u, some e) := by
  cases m with
  | zero => rfl
  | succ m => exact if_neg (dg_nj h)
def MR (ι : zE) (mem : zM) (n : Nat) (K : Nat → Nat) (M : zMR) (lev o : Nat) (f : Nat → lRs) : Prop :=
  ∀ (l : Launch) (p : Nat) (st : List (Int32 × Int32)) (Post : Option zV → zM → Prop), p ≤ n → st.length ≤ p → (∀ q e, f p = (q, some e) → Post none (pmM mem q (-1) (nI o) (st ++ mdC e))) → (∀ q o' st', lfl K (f p) q → st'.length ≤ st.length + (q - p) + 1 → Post none (pmM mem q (nI q) o' st')) → zC l ι M lev [zP 40 0] (pmM mem p (-1) (nI o) st) Post
theorem jo128 {c : Nat} (h : isJo c) : c < 128 := by unfold isJo at h; omega
section D2
variable {ι : zE} {mem : zM} {n : Nat} {K : Nat → Nat}
theorem d_product (hH : zHas ι pM) (hT : MT mem n K) {f : Nat → lRs} (hf : lokF n f) {L o : Nat} (hC : MR ι mem n K M_Model_operand L o (lvR K f 0)) : MR ι mem n K M_Model_product (L + 1) o (lvR K f 1) := by
  have h120 := hT.2.1
  intro l p st Post hp ho hs hn
  have hsub := lvR_ok hT.2.2.1 hf 0
  have hok := hsub p hp
  unfold lvR at hs hn
  rw [if_neg (by decide)] at hs hn
  refine z_enter hH (by decide) (by simp [z_ent, M_Model_product]) (fun X hXl hX hR => ?_)
  have chain : ∀ (q : Nat) (e : lE) (s1 : Option zV), q ≤ n → (isJn 4 (K q) = true → zW ι M_Model_product X 38 [some (zP 40 0), s1] [] (pmM mem q (-1) (nI o) (st ++ mdC e))) → (¬ isJn 4 (K q) = true → zW ι M_Model_product X 66 [some (zP 40 0), s1] [] (pmM mem q (-1) (nI o) (st ++ mdC e))) → zW ι M_Model_product X 4 [some (zP 40 0), s1] [] (pmM mem q (-1) (nI o) (st ++ mdC e)) := by
    intro q e s1 hq join out
    have P : ∀ c, c < 128 → (mkV (K q) = nI c ↔ K q = c) := fun c hc => mkV_is (hT.K9 q) hc
    refine z_aload_n hX (D_Model_product (i := 2) rfl) rfl ?_
    refine z_geti hX (D_Model_product (i := 3) rfl) f_Model_156 rfl (by decide) (by first | exact Nat.one_pos | assumption | omega) rfl ?_
    rw [pmM_15]
    refine z_if_ge (tgt := 66) hX (D_Model_product (i := 4) rfl) (by decide) (fun hcc => absurd hcc (by decide)) (fun _ => ?_)
    refine z_aload_n hX (D_Model_product (i := 5) rfl) rfl ?_
    refine z_cV0 hX (D_Model_product (i := 6) rfl) mi_Model_look l_Model_168 rfl rfl (by decide) (by first | exact Nat.one_pos | assumption | omega) (by first | decide | omega) (Nat.le_of_ble_eq_true rfl) (d_look hH hT hq ?_)
    refine z_bipush (v := 42) hX (D_Model_product (i := 7) rfl) (by decide) ?_
    refine z_icmp_eq (tgt := 38) hX (D_Model_product (i := 8) rfl) (by decide) (fun h0 => ?_) (fun h0 => ?_)
    · skip
      exact join (decide_eq_true (by have := (P 42 (by decide)).mp h0; omega))
    · skip
      refine z_aload_n hX (D_Model_product (i := 9) rfl) rfl ?_
      refine z_cV0 hX (D_Model_product (i := 10) rfl) mi_Model_look l_Model_168 rfl rfl (by decide) (by first | exact Nat.one_pos | assumption | omega) (by first | decide | omega) (Nat.le_of_ble_eq_true rfl) (d_look hH hT hq ?_)
      refine z_bipush (v := 47) hX (D_Model_product (i := 11) rfl) (by decide) ?_
      refine z_icmp_eq (tgt := 38) hX (D_Model_product (i := 12) rfl) (by decide) (fun h1 => ?_) (fun h1 => ?_)
      · skip
        exact join (decide_eq_true (by have := (P 47 (by decide)).mp h1; omega))
      · skip
        refine z_aload_n hX (D_Model_product (i := 13) rfl) rfl ?_
        refine z_cV0 hX (D_Model_product (i := 14) rfl) mi_Model_look l_Model_168 rfl rfl (by decide) (by first | exact Nat.one_pos | assumption | omega) (by first | decide | omega) (Nat.le_of_ble_eq_true rfl) (d_look hH hT hq ?_)
        refine z_bipush (v := 37) hX (D_Model_product (i := 15) rfl) (by decide) ?_
        refine z_icmp_ne (tgt := 66) hX (D_Model_product (i := 16) rfl) (by decide) (fun h2 => ?_) (fun h2 => ?_)
        · skip
          refine out (fun w => ?_)
          have w := of_decide_eq_true w
          have g0 : ¬ K q = 42 := fun w => h0 ((P 42 (by decide)).mpr w)
          have g1 : ¬ K q = 47 := fun w => h1 ((P 47 (by decide)).mpr w)
          have g2 : ¬ K q = 37 := fun w => h2 ((P 37 (by decide)).mpr w)
          omega
        · skip
          exact join (decide_eq_true (by have := (P 37 (by decide)).mp h2; omega))
  refine z_aload_n hX (D_Model_product (i := 0) rfl) rfl ?_
  refine z_cV0 hX (D_Model_product (i := 1) rfl) mi_Model_operand l_Model_183 rfl rfl (by decide) (by first | exact Nat.one_pos | assumption | omega) (by first | decide | omega) (Nat.le_of_ble_eq_true rfl) (hC _ p st _ hp ho ?_ ?_)
  · intro q e he
    rw [he] at hs hn hok
    simp only [] at hs hn
    obtain ⟨a1, a2, a3⟩ := hok
    suffices H : ∀ (m q : Nat) (e : lE) (s1 : Option zV), n ≤ q + m → p < q → q ≤ n → e.length ≤ q - p → (∀ u e', lpR K (lvR K f 0) (4 - 0) m q e = (u, some e') → Post none (pmM mem u (-1) (nI o) (st ++ mdC e'))) → (∀ u o' st', lfl K (lpR K (lvR K f 0) (4 - 0) m q e) u → st'.length ≤ st.length + (u - p) + 1 → Post none (pmM mem u (nI u) o' st')) → zW ι M_Model_product X 4 [some (zP 40 0), s1] [] (pmM mem q (-1) (nI o) (st ++ mdC e)) from H 120 q e _ (by omega) a1 a2 a3 hs hn
    clear hs hn
    intro m
    induction m with
    | zero =>
      intro q e s1 hm h1 h2 h3 hs hn
      refine chain q e s1 h2 (fun w => absurd w (by rw [hT.2.2.1 q (by omega)]; decide)) (fun _ => ?_)
      exact z_ret hX hR (D_Model_product (i := 33) rfl) rfl (hs q e rfl)
    | succ m ih =>
      intro q e s1 hm h1 h2 h3 hs hn
      unfold lpR at hs hn
      refine chain q e s1 h2 (fun hj => ?_) (fun hj => ?_)
      · rw [if_pos hj] at hs hn
        have hjo := isJn_jo hj
        have h128 := jo128 hjo
        have hqn := isJn_lt hT.2.2.1 hj
        have hsv : mkV (K q) = nI (K q) := (mkV_is (hT.K9 q) h128).mpr rfl
        have hok2 := hsub (q + 1) hqn
        refine z_aload_n hX (D_Model_product (i := 17) rfl) rfl ?_
        refine z_cV0 hX (D_Model_product (i := 18) rfl) mi_Model_look l_Model_168 rfl rfl (by decide) (by first | exact Nat.one_pos | assumption | omega) (by first | decide | omega) (Nat.le_of_ble_eq_true rfl) (d_look hH hT h2 ?_)
        rw [hsv]
        refine z_istore_n hX (D_Model_product (i := 19) rfl) (by decide) rfl ?_
        refine z_aload_n hX (D_Model_product (i := 20) rfl) rfl ?_
        refine z_dupP hX (D_Model_product (i := 21) rfl) ?_
        refine z_geti hX (D_Model_product (i := 22) rfl) f_Model_153 rfl (by decide) (by first | exact Nat.one_pos | assumption | omega) rfl ?_
        refine z_iconst (v := 1) hX (D_Model_product (i := 23) rfl) (by decide) ?_
        refine z_iadd hX (D_Model_product (i := 24) rfl) ?_
        rw [pmM_14, show nI q + 1 = nI (q + 1) from nI_add q 1]
        refine z_puti hX (D_Model_product (i := 25) rfl) g_Model_153 rfl (by decide) (by first | exact Nat.one_pos | assumption | omega) rfl ?_
        rw [pmM_p]
        refine z_aload_n hX (D_Model_product (i := 26) rfl) rfl ?_
        refine z_cV0 hX (D_Model_product (i := 27) rfl) mi_Model_operand l_Model_183 rfl rfl (by decide) (by first | exact Nat.one_pos | assumption | omega) (by first | decide | omega) (Nat.le_of_ble_eq_true rfl) (hC _ (q + 1) (st ++ mdC e) _ hqn (by rw [List.length_append, mdC_len]; omega) ?_ ?_)
        · intro u e' he'
          rw [he'] at hs hn hok2
          simp only [] at hs hn
          obtain ⟨b1, b2, b3⟩ := hok2
          refine z_aload_n hX (D_Model_product (i := 28) rfl) rfl ?_
          refine z_iload_n hX (D_Model_product (i := 29) rfl) rfl ?_
          refine z_iconst (v := 0) hX (D_Model_product (i := 30) rfl) (by decide) ?_
          refine z_cV2 hX (D_Model_product (i := 31) rfl) mi_Model_addStep l_Model_172 rfl rfl (by decide) (by first | exact Nat.one_pos | assumption | omega) (by first | decide | omega) (Nat.le_of_ble_eq_true rfl) (d_addStep hH (by8_nI _ h128) (by simp only [List.length_append, mdC_len]; omega) ?_)
          rw [show [(nI (K q), (0 : Int32))] = mdC [(3, K q)] from rfl, List.append_assoc, ← mdC_app, List.append_assoc, ← mdC_app, ← List.append_assoc]
          refine z_goto (tgt := 4) hX (D_Model_product (i := 32) rfl) (by decide) ?_
          exact ih u (e ++ e' ++ [(3, K q)]) _ (by omega) (by omega) b2 (by simp only [List.length_append, List.length_cons, List.length_nil]; omega) hs hn
        · intro u o' st' hfl hlen
          have hle := lfl_le hok2 hfl
          simp only [List.length_append, mdC_len] at hlen
          refine z_aload_n hX (D_Model_product (i := 28) rfl) rfl ?_
          refine z_iload_n hX (D_Model_product (i := 29) rfl) rfl ?_
          refine z_iconst (v := 0) hX (D_Model_product (i := 30) rfl) (by decide) ?_
          refine z_cV2 hX (D_Model_product (i := 31) rfl) mi_Model_addStep l_Model_172 rfl rfl (by decide) (by first | exact Nat.one_pos | assumption | omega) (by first | decide | omega) (Nat.le_of_ble_eq_true rfl) (d_addStep hH (by8_nI _ h128) (by omega) ?_)
          refine z_goto (tgt := 4) hX (D_Model_product (i := 32) rfl) (by decide) ?_
          refine z_aload_n hX (D_Model_product (i := 2) rfl) rfl ?_
          refine z_geti hX (D_Model_product (i := 3) rfl) f_Model_156 rfl (by decide) (by first | exact Nat.one_pos | assumption | omega) rfl ?_
          rw [pmM_15]
          refine z_if_ge (tgt := 66) hX (D_Model_product (i := 4) rfl) (by decide) (fun _ => ?_) (fun hcc => absurd (nI_le (a := 0) (Nat.zero_le _) (by omega)) hcc)
          exact z_ret hX hR (D_Model_product (i := 33) rfl) rfl (hn u o' _ (by
            rcases hfl with hfl | ⟨⟨e', hfl⟩, hd⟩
            · rw [hfl]; exact Or.inl rfl
            · rw [hfl]; exact Or.inr ⟨⟨_, lpR_dg hd⟩, hd⟩) (by rw [List.length_append, List.length_cons, List.length_nil]; omega))
      · rw [if_neg hj] at hs hn
        exact z_ret hX hR (D_Model_product (i := 33) rfl) rfl (hs q e rfl)
  · intro q o' st' hfl hlen
    have hle := lfl_le hok hfl
    refine z_aload_n hX (D_Model_product (i := 2) rfl) rfl ?_
    refine z_geti hX (D_Model_product (i := 3) rfl) f_Model_156 rfl (by decide) (by first | exact Nat.one_pos | assumption | omega) rfl ?_
    rw [pmM_15]
    refine z_if_ge (tgt := 66) hX (D_Model_product (i := 4) rfl) (by decide) (fun _ => ?_) (fun hcc => absurd (nI_le (a := 0) (Nat.zero_le _) (by omega)) hcc)
    exact z_ret hX hR (D_Model_product (i := 33) rfl) rfl (hn q o' _ (by
      rcases hfl with hfl | ⟨⟨e', hfl⟩, hd⟩
      · rw [hfl]; exact Or.inl rfl
      · rw [hfl]; exact Or.inr ⟨⟨_, lpR_dg hd⟩, hd⟩) hlen)
theorem d_sum (hH : zHas ι pM) (hT : MT mem n K) {f : Nat → lRs} (hf : lokF n f) {L o : Nat} (hC : MR ι mem n K M_Model_product L o (lvR K f 1)) : MR ι mem n K M_Model_sum (L + 1) o (lvR K f 2) := by
  have h120 := hT.2.1
  intro l p st Post hp ho hs hn
  have hsub := lvR_ok hT.2.2.1 hf 1
  have hok := hsub p hp
  unfold lvR at hs hn
  rw [if_neg (by decide)] at hs hn
  refine z_enter hH (by decide) (by simp [z_ent, M_Model_sum]) (fun X hXl hX hR => ?_)
  have chain : ∀ (q : Nat) (e : lE) (s1 : Option zV), q ≤ n → (isJn 3 (K q) = true → zW ι M_Model_sum X 29 [some (zP 40 0), s1] [] (pmM mem q (-1) (nI o) (st ++ mdC e))) → (¬ isJn 3 (K q) = true → zW ι M_Model_sum X 57 [some (zP 40 0), s1] [] (pmM mem q (-1) (nI o) (st ++ mdC e))) → zW ι M_Model_sum X 4 [some (zP 40 0), s1] [] (pmM mem q (-1) (nI o) (st ++ mdC e)) := by
    intro q e s1 hq join out
    have P : ∀ c, c < 128 → (mkV (K q) = nI c ↔ K q = c) := fun c hc => mkV_is (hT.K9 q) hc
    refine z_aload_n hX (D_Model_sum (i := 2) rfl) rfl ?_
    refine z_geti hX (D_Model_sum (i := 3) rfl) f_Model_156 rfl (by decide) (by first | exact Nat.one_pos | assumption | omega) rfl ?_
    rw [pmM_15]
    refine z_if_ge (tgt := 57) hX (D_Model_sum (i := 4) rfl) (by decide) (fun hcc => absurd hcc (by decide)) (fun _ => ?_)
    refine z_aload_n hX (D_Model_sum (i := 5) rfl) rfl ?_
    refine z_cV0 hX (D_Model_sum (i := 6) rfl) mi_Model_look l_Model_168 rfl rfl (by decide) (by first | exact Nat.one_pos | assumption | omega) (by first | decide | omega) (Nat.le_of_ble_eq_true rfl) (d_look hH hT hq ?_)
    refine z_bipush (v := 43) hX (D_Model_sum (i := 7) rfl) (by decide) ?_
    refine z_icmp_eq (tgt := 29) hX (D_Model_sum (i := 8) rfl) (by decide) (fun h0 => ?_) (fun h0 => ?_)
    · skip
      exact join (decide_eq_true (by have := (P 43 (by decide)).mp h0; omega))
    · skip
      refine z_aload_n hX (D_Model_sum (i := 9) rfl) rfl ?_
      refine z_cV0 hX (D_Model_sum (i := 10) rfl) mi_Model_look l_Model_168 rfl rfl (by decide) (by first | exact Nat.one_pos | assumption | omega) (by first | decide | omega) (Nat.le_of_ble_eq_true rfl) (d_look hH hT hq ?_)
      refine z_bipush (v := 45) hX (D_Model_sum (i := 11) rfl) (by decide) ?_
      refine z_icmp_ne (tgt := 57) hX (D_Model_sum (i := 12) rfl) (by decide) (fun h1 => ?_) (fun h1 => ?_)
      · skip
        refine out (fun w => ?_)
        have w := of_decide_eq_true w
        have g0 : ¬ K q = 43 := fun w => h0 ((P 43 (by decide)).mpr w)
        have g1 : ¬ K q = 45 := fun w => h1 ((P 45 (by decide)).mpr w)
        omega
      · skip
        exact join (decide_eq_true (by have := (P 45 (by decide)).mp h1; omega))
  refine z_aload_n hX (D_Model_sum (i := 0) rfl) rfl ?_
  refine z_cV0 hX (D_Model_sum (i := 1) rfl) mi_Model_product l_Model_192 rfl rfl (by decide) (by first | exact Nat.one_pos | assumption | omega) (by first | decide | omega) (Nat.le_of_ble_eq_true rfl) (hC _ p st _ hp ho ?_ ?_)
  · intro q e he
    rw [he] at hs hn hok
    simp only [] at hs hn
    obtain ⟨a1, a2, a3⟩ := hok
    suffices H : ∀ (m q : Nat) (e : lE) (s1 : Option zV), n ≤ q + m → p < q → q ≤ n → e.length ≤ q - p → (∀ u e', lpR K (lvR K f 1) (4 - 1) m q e = (u, some e') → Post none (pmM mem u (-1) (nI o) (st ++ mdC e'))) → (∀ u o' st', lfl K (lpR K (lvR K f 1) (4 - 1) m q e) u → st'.length ≤ st.length + (u - p) + 1 → Post none (pmM mem u (nI u) o' st')) → zW ι M_Model_sum X 4 [some (zP 40 0), s1] [] (pmM mem q (-1) (nI o) (st ++ mdC e)) from H 120 q e _ (by omega) a1 a2 a3 hs hn
    clear hs hn
    intro m
    induction m with
    | zero =>
      intro q e s1 hm h1 h2 h3 hs hn
      refine chain q e s1 h2 (fun w => absurd w (by rw [hT.2.2.1 q (by omega)]; decide)) (fun _ => ?_)
      exact z_ret hX hR (D_Model_sum (i := 29) rfl) rfl (hs q e rfl)
    | succ m ih =>
      intro q e s1 hm h1 h2 h3 hs hn
      unfold lpR at hs hn
      refine chain q e s1 h2 (fun hj => ?_) (fun hj => ?_)
      · rw [if_pos hj] at hs hn
        have hjo := isJn_jo hj
        have h128 := jo128 hjo
        have hqn := isJn_lt hT.2.2.1 hj
        have hsv : mkV (K q) = nI (K q) := (mkV_is (hT.K9 q) h128).mpr rfl
        have hok2 := hsub (q + 1) hqn
        refine z_aload_n hX (D_Model_sum (i := 13) rfl) rfl ?_
        refine z_cV0 hX (D_Model_sum (i := 14) rfl) mi_Model_look l_Model_168 rfl rfl (by decide) (by first | exact Nat.one_pos | assumption | omega) (by first | decide | omega) (Nat.le_of_ble_eq_true rfl) (d_look hH hT h2 ?_)
        rw [hsv]
        refine z_istore_n hX (D_Model_sum (i := 15) rfl) (by decide) rfl ?_
        refine z_aload_n hX (D_Model_sum (i := 16) rfl) rfl ?_
        refine z_dupP hX (D_Model_sum (i := 17) rfl) ?_
        refine z_geti hX (D_Model_sum (i := 18) rfl) f_Model_153 rfl (by decide) (by first | exact Nat.one_pos | assumption | omega) rfl ?_
        refine z_iconst (v := 1) hX (D_Model_sum (i := 19) rfl) (by decide) ?_
        refine z_iadd hX (D_Model_sum (i := 20) rfl) ?_
        rw [pmM_14, show nI q + 1 = nI (q + 1) from nI_add q 1]
        refine z_puti hX (D_Model_sum (i := 21) rfl) g_Model_153 rfl (by decide) (by first | exact Nat.one_pos | assumption | omega) rfl ?_
        rw [pmM_p]
        refine z_aload_n hX (D_Model_sum (i := 22) rfl) rfl ?_
        refine z_cV0 hX (D_Model_sum (i := 23) rfl) mi_Model_product l_Model_192 rfl rfl (by decide) (by first | exact Nat.one_pos | assumption | omega) (by first | decide | omega) (Nat.le_of_ble_eq_true rfl) (hC _ (q + 1) (st ++ mdC e) _ hqn (by rw [List.length_append, mdC_len]; omega) ?_ ?_)
        · intro u e' he'
          rw [he'] at hs hn hok2
          simp only [] at hs hn
          obtain ⟨b1, b2, b3⟩ := hok2
          refine z_aload_n hX (D_Model_sum (i := 24) rfl) rfl ?_
          refine z_iload_n hX (D_Model_sum (i := 25) rfl) rfl ?_
          refine z_iconst (v := 0) hX (D_Model_sum (i := 26) rfl) (by decide) ?_
          refine z_cV2 hX (D_Model_sum (i := 27) rfl) mi_Model_addStep l_Model_172 rfl rfl (by decide) (by first | exact Nat.one_pos | assumption | omega) (by first | decide | omega) (Nat.le_of_ble_eq_true rfl) (d_addStep hH (by8_nI _ h128) (by simp only [List.length_append, mdC_len]; omega) ?_)
          rw [show [(nI (K q), (0 : Int32))] = mdC [(3, K q)] from rfl, List.append_assoc, ← mdC_app, List.append_assoc, ← mdC_app, ← List.append_assoc]
          refine z_goto (tgt := 4) hX (D_Model_sum (i := 28) rfl) (by decide) ?_
          exact ih u (e ++ e' ++ [(3, K q)]) _ (by omega) (by omega) b2 (by simp only [List.length_append, List.length_cons, List.length_nil]; omega) hs hn
        · intro u o' st' hfl hlen
          have hle := lfl_le hok2 hfl
          simp only [List.length_append, mdC_len] at hlen
          refine z_aload_n hX (D_Model_sum (i := 24) rfl) rfl ?_
          refine z_iload_n hX (D_Model_sum (i := 25) rfl) rfl ?_
          refine z_iconst (v := 0) hX (D_Model_sum (i := 26) rfl) (by decide) ?_
          refine z_cV2 hX (D_Model_sum (i := 27) rfl) mi_Model_addStep l_Model_172 rfl rfl (by decide) (by first | exact Nat.one_pos | assumption | omega) (by first | decide | omega) (Nat.le_of_ble_eq_true rfl) (d_addStep hH (by8_nI _ h128) (by omega) ?_)
          refine z_goto (tgt := 4) hX (D_Model_sum (i := 28) rfl) (by decide) ?_
          refine z_aload_n hX (D_Model_sum (i := 2) rfl) rfl ?_
          refine z_geti hX (D_Model_sum (i := 3) rfl) f_Model_156 rfl (by decide) (by first | exact Nat.one_pos | assumption | omega) rfl ?_
          rw [pmM_15]
          refine z_if_ge (tgt := 57) hX (D_Model_sum (i := 4) rfl) (by decide) (fun _ => ?_) (fun hcc => absurd (nI_le (a := 0) (Nat.zero_le _) (by omega)) hcc)
          exact z_ret hX hR (D_Model_sum (i := 29) rfl) rfl (hn u o' _ (by
            rcases hfl with hfl | ⟨⟨e', hfl⟩, hd⟩
            · rw [hfl]; exact Or.inl rfl
            · rw [hfl]; exact Or.inr ⟨⟨_, lpR_dg hd⟩, hd⟩) (by rw [List.length_append, List.length_cons, List.length_nil]; omega))
      · rw [if_neg hj] at hs hn
        exact z_ret hX hR (D_Model_sum (i := 29) rfl) rfl (hs q e rfl)
  · intro q o' st' hfl hlen
    have hle := lfl_le hok hfl
    refine z_aload_n hX (D_Model_sum (i := 2) rfl) rfl ?_
    refine z_geti hX (D_Model_sum (i := 3) rfl) f_Model_156 rfl (by decide) (by first | exact Nat.one_pos | assumption | omega) rfl ?_
    rw [pmM_15]
    refine z_if_ge (tgt := 57) hX (D_Model_sum (i := 4) rfl) (by decide) (fun _ => ?_) (fun hcc => absurd (nI_le (a := 0) (Nat.zero_le _) (by omega)) hcc)
    exact z_ret hX hR (D_Model_sum (i := 29) rfl) rfl (hn q o' _ (by
      rcases hfl with hfl | ⟨⟨e', hfl⟩, hd⟩
      · rw [hfl]; exact Or.inl rfl
      · rw [hfl]; exact Or.inr ⟨⟨_, lpR_dg hd⟩, hd⟩) hlen)
theorem d_compared (hH : zHas ι pM) (hT : MT mem n K) {f : Nat → lRs} (hf : lokF n f) {L o : Nat} (hC : MR ι mem n K M_Model_sum L o (lvR K f 2)) : MR ι mem n K M_Model_compared (L + 1) o (lvR K f 3) := by
  have h120 := hT.2.1
  intro l p st Post hp ho hs hn
  have hsub := lvR_ok hT.2.2.1 hf 2
  have hok := hsub p hp
  unfold lvR at hs hn
  rw [if_pos rfl] at hs hn
  refine z_enter hH (by decide) (by simp [z_ent, M_Model_compared]) (fun X hXl hX hR => ?_)
  refine z_aload_n hX (D_Model_compared (i := 0) rfl) rfl ?_
  refine z_cV0 hX (D_Model_compared (i := 1) rfl) mi_Model_sum l_Model_195 rfl rfl (by decide) (by first | exact Nat.one_pos | assumption | omega) (by first | decide | omega) (Nat.le_of_ble_eq_true rfl) (hC _ p st _ hp ho ?_ ?_)
  · intro q e he
    rw [he] at hs hn hok
    simp only [] at hs hn
    obtain ⟨a1, a2, a3⟩ := hok
    unfold lpR at hs hn
    have P : ∀ c, c < 128 → (mkV (K q) = nI c ↔ K q = c) := fun c hc => mkV_is (hT.K9 q) hc
    have join : isJn 2 (K q) = true → zW ι M_Model_compared X 35 [some (zP 40 0), some (zI (mkV (K q)))] [] (pmM mem q (-1) (nI o) (st ++ mdC e)) := by
      intro hj
      rw [if_pos hj] at hs hn
      have hjo := isJn_jo hj
      have h128 := jo128 hjo
      have hqn := isJn_lt hT.2.2.1 hj
      have hsv : mkV (K q) = nI (K q) := (mkV_is (hT.K9 q) h128).mpr rfl
      have hok2 := hsub (q + 1) hqn
      rw [hsv]
      refine z_aload_n hX (D_Model_compared (i := 18) rfl) rfl ?_
      refine z_dupP hX (D_Model_compared (i := 19) rfl) ?_
      refine z_geti hX (D_Model_compared (i := 20) rfl) f_Model_153 rfl (by decide) (by first | exact Nat.one_pos | assumption | omega) rfl ?_
      refine z_iconst (v := 1) hX (D_Model_compared (i := 21) rfl) (by decide) ?_
      refine z_iadd hX (D_Model_compared (i := 22) rfl) ?_
      rw [pmM_14, show nI q + 1 = nI (q + 1) from nI_add q 1]
      refine z_puti hX (D_Model_compared (i := 23) rfl) g_Model_153 rfl (by decide) (by first | exact Nat.one_pos | assumption | omega) rfl ?_
      rw [pmM_p]
      refine z_aload_n hX (D_Model_compared (i := 24) rfl) rfl ?_
      refine z_cV0 hX (D_Model_compared (i := 25) rfl) mi_Model_sum l_Model_195 rfl rfl (by decide) (by first | exact Nat.one_pos | assumption | omega) (by first | decide | omega) (Nat.le_of_ble_eq_true rfl) (hC _ (q + 1) (st ++ mdC e) _ hqn (by rw [List.length_append, mdC_len]; omega) ?_ ?_)
      · intro u e' he'
        rw [he'] at hs hn hok2
        simp only [lpR] at hs hn
        obtain ⟨b1, b2, b3⟩ := hok2
        refine z_aload_n hX (D_Model_compared (i := 26) rfl) rfl ?_
        refine z_iload_n hX (D_Model_compared (i := 27) rfl) rfl ?_
        refine z_iconst (v := 0) hX (D_Model_compared (i := 28) rfl) (by decide) ?_
        refine z_cV2 hX (D_Model_compared (i := 29) rfl) mi_Model_addStep l_Model_172 rfl rfl (by decide) (by first | exact Nat.one_pos | assumption | omega) (by first | decide | omega) (Nat.le_of_ble_eq_true rfl) (d_addStep hH (by8_nI _ h128) (by simp only [List.length_append, mdC_len]; omega) ?_)
        rw [show [(nI (K q), (0 : Int32))] = mdC [(3, K q)] from rfl, List.append_assoc, ← mdC_app, List.append_assoc, ← mdC_app, ← List.append_assoc]
        exact z_ret hX hR (D_Model_compared (i := 30) rfl) rfl (hs u _ rfl)
      · intro u o' st' hfl hlen
        have hle := lfl_le hok2 hfl
        simp only [List.length_append, mdC_len] at hlen
        refine z_aload_n hX (D_Model_compared (i := 26) rfl) rfl ?_
        refine z_iload_n hX (D_Model_compared (i := 27) rfl) rfl ?_
        refine z_iconst (v := 0) hX (D_Model_compared (i := 28) rfl) (by decide) ?_
        refine z_cV2 hX (D_Model_compared (i := 29) rfl) mi_Model_addStep l_Model_172 rfl rfl (by decide) (by first | exact Nat.one_pos | assumption | omega) (by first | decide | omega) (Nat.le_of_ble_eq_true rfl) (d_addStep hH (by8_nI _ h128) (by omega) ?_)
        exact z_ret hX hR (D_Model_compared (i := 30) rfl) rfl (hn u o' _ (by
          rcases hfl with hfl | ⟨⟨e', hfl⟩, hd⟩
          · rw [hfl]; exact Or.inl rfl
          · rw [hfl]; exact Or.inr ⟨⟨_, lpR_dg hd⟩, hd⟩) (by rw [List.length_append, List.length_cons, List.length_nil]; omega))
    refine z_aload_n hX (D_Model_compared (i := 2) rfl) rfl ?_
    refine z_cV0 hX (D_Model_compared (i := 3) rfl) mi_Model_look l_Model_168 rfl rfl (by decide) (by first | exact Nat.one_pos | assumption | omega) (by first | decide | omega) (Nat.le_of_ble_eq_true rfl) (d_look hH hT a2 ?_)
    refine z_istore_n hX (D_Model_compared (i := 4) rfl) (by decide) rfl ?_
    refine z_aload_n hX (D_Model_compared (i := 5) rfl) rfl ?_
    refine z_geti hX (D_Model_compared (i := 6) rfl) f_Model_156 rfl (by decide) (by first | exact Nat.one_pos | assumption | omega) rfl ?_
    rw [pmM_15]
    refine z_if_ge (tgt := 34) hX (D_Model_compared (i := 7) rfl) (by decide) (fun hcc => absurd hcc (by decide)) (fun _ => ?_)
    refine z_iload_n hX (D_Model_compared (i := 8) rfl) rfl ?_
    refine z_bipush (v := 60) hX (D_Model_compared (i := 9) rfl) (by decide) ?_
    refine z_icmp_eq (tgt := 35) hX (D_Model_compared (i := 10) rfl) (by decide) (fun h1 => ?_) (fun h1 => ?_)
    · skip
      exact join (decide_eq_true (by have := (P 60 (by decide)).mp h1; omega))
    · refine z_iload_n hX (D_Model_compared (i := 11) rfl) rfl ?_
      refine z_bipush (v := 61) hX (D_Model_compared (i := 12) rfl) (by decide) ?_
      refine z_icmp_eq (tgt := 35) hX (D_Model_compared (i := 13) rfl) (by decide) (fun h2 => ?_) (fun h2 => ?_)
      · skip
        exact join (decide_eq_true (by have := (P 61 (by decide)).mp h2; omega))
      · refine z_iload_n hX (D_Model_compared (i := 14) rfl) rfl ?_
        refine z_bipush (v := 62) hX (D_Model_compared (i := 15) rfl) (by decide) ?_
        refine z_icmp_eq (tgt := 35) hX (D_Model_compared (i := 16) rfl) (by decide) (fun h3 => ?_) (fun h3 => ?_)
        · skip
          exact join (decide_eq_true (by have := (P 62 (by decide)).mp h3; omega))
        · skip
          have g1 : ¬ K q = 60 := fun w => h1 ((P 60 (by decide)).mpr w)
          have g2 : ¬ K q = 61 := fun w => h2 ((P 61 (by decide)).mpr w)
          have g3 : ¬ K q = 62 := fun w => h3 ((P 62 (by decide)).mpr w)
          have hj : ¬ isJn (4 - 2) (K q) = true := fun w => by have w := of_decide_eq_true w; omega
          rw [if_neg hj] at hs hn
          exact z_ret hX hR (D_Model_compared (i := 17) rfl) rfl (hs q e rfl)
  · intro q o' st' hfl hlen
    have hle := lfl_le hok hfl
    refine z_aload_n hX (D_Model_compared (i := 2) rfl) rfl ?_
    refine z_cV0 hX (D_Model_compared (i := 3) rfl) mi_Model_look l_Model_168 rfl rfl (by decide) (by first | exact Nat.one_pos | assumption | omega) (by first | decide | omega) (Nat.le_of_ble_eq_true rfl) (d_look hH hT hle.2 ?_)
    refine z_istore_n hX (D_Model_compared (i := 4) rfl) (by decide) rfl ?_
    refine z_aload_n hX (D_Model_compared (i := 5) rfl) rfl ?_
    refine z_geti hX (D_Model_compared (i := 6) rfl) f_Model_156 rfl (by decide) (by first | exact Nat.one_pos | assumption | omega) rfl ?_
    rw [pmM_15]
    refine z_if_ge (tgt := 34) hX (D_Model_compared (i := 7) rfl) (by decide) (fun _ => ?_) (fun hcc => absurd (nI_le (a := 0) (Nat.zero_le _) (by omega)) hcc)
    exact z_ret hX hR (D_Model_compared (i := 17) rfl) rfl (hn q o' _ (by
      rcases hfl with hfl | ⟨⟨e', hfl⟩, hd⟩
      · rw [hfl]; exact Or.inl rfl
      · rw [hfl]; exact Or.inr ⟨⟨_, lpR_dg hd⟩, hd⟩) hlen)
theorem d_both (hH : zHas ι pM) (hT : MT mem n K) {f : Nat → lRs} (hf : lokF n f) {L o : Nat} (hC : MR ι mem n K M_Model_compared L o (lvR K f 3)) : MR ι mem n K M_Model_both (L + 1) o (lvR K f 4) := by
  have h120 := hT.2.1
  intro l p st Post hp ho hs hn
  have hsub := lvR_ok hT.2.2.1 hf 3
  have hok := hsub p hp
  unfold lvR at hs hn
  rw [if_neg (by decide)] at hs hn
  refine z_enter hH (by decide) (by simp [z_ent, M_Model_both]) (fun X hXl hX hR => ?_)
  have chain : ∀ (q : Nat) (e : lE), q ≤ n → (isJn 1 (K q) = true → zW ι M_Model_both X 20 [some (zP 40 0)] [] (pmM mem q (-1) (nI o) (st ++ mdC e))) → (¬ isJn 1 (K q) = true → zW ι M_Model_both X 44 [some (zP 40 0)] [] (pmM mem q (-1) (nI o) (st ++ mdC e))) → zW ι M_Model_both X 4 [some (zP 40 0)] [] (pmM mem q (-1) (nI o) (st ++ mdC e)) := by
    intro q e hq join out
    have P : ∀ c, c < 128 → (mkV (K q) = nI c ↔ K q = c) := fun c hc => mkV_is (hT.K9 q) hc
    refine z_aload_n hX (D_Model_both (i := 2) rfl) rfl ?_
    refine z_geti hX (D_Model_both (i := 3) rfl) f_Model_156 rfl (by decide) (by first | exact Nat.one_pos | assumption | omega) rfl ?_
    rw [pmM_15]
    refine z_if_ge (tgt := 44) hX (D_Model_both (i := 4) rfl) (by decide) (fun hcc => absurd hcc (by decide)) (fun _ => ?_)
    refine z_aload_n hX (D_Model_both (i := 5) rfl) rfl ?_
    refine z_cV0 hX (D_Model_both (i := 6) rfl) mi_Model_look l_Model_168 rfl rfl (by decide) (by first | exact Nat.one_pos | assumption | omega) (by first | decide | omega) (Nat.le_of_ble_eq_true rfl) (d_look hH hT hq ?_)
    refine z_bipush (v := 38) hX (D_Model_both (i := 7) rfl) (by decide) ?_
    refine z_icmp_ne (tgt := 44) hX (D_Model_both (i := 8) rfl) (by decide) (fun h0 => ?_) (fun h0 => ?_)
    · skip
      refine out (fun w => ?_)
      have w := of_decide_eq_true w
      have g0 : ¬ K q = 38 := fun w => h0 ((P 38 (by decide)).mpr w)
      omega
    · skip
      exact join (decide_eq_true (by have := (P 38 (by decide)).mp h0; omega))
  refine z_aload_n hX (D_Model_both (i := 0) rfl) rfl ?_
  refine z_cV0 hX (D_Model_both (i := 1) rfl) mi_Model_compared l_Model_198 rfl rfl (by decide) (by first | exact Nat.one_pos | assumption | omega) (by first | decide | omega) (Nat.le_of_ble_eq_true rfl) (hC _ p st _ hp ho ?_ ?_)
  · intro q e he
    rw [he] at hs hn hok
    simp only [] at hs hn
    obtain ⟨a1, a2, a3⟩ := hok
    suffices H : ∀ (m q : Nat) (e : lE), n ≤ q + m → p < q → q ≤ n → e.length ≤ q - p → (∀ u e', lpR K (lvR K f 3) (4 - 3) m q e = (u, some e') → Post none (pmM mem u (-1) (nI o) (st ++ mdC e'))) → (∀ u o' st', lfl K (lpR K (lvR K f 3) (4 - 3) m q e) u → st'.length ≤ st.length + (u - p) + 1 → Post none (pmM mem u (nI u) o' st')) → zW ι M_Model_both X 4 [some (zP 40 0)] [] (pmM mem q (-1) (nI o) (st ++ mdC e)) from H 120 q e (by omega) a1 a2 a3 hs hn
    clear hs hn
    intro m
    induction m with
    | zero =>
      intro q e hm h1 h2 h3 hs hn
      refine chain q e h2 (fun w => absurd w (by rw [hT.2.2.1 q (by omega)]; decide)) (fun _ => ?_)
      exact z_ret hX hR (D_Model_both (i := 22) rfl) rfl (hs q e rfl)
    | succ m ih =>
      intro q e hm h1 h2 h3 hs hn
      unfold lpR at hs hn
      refine chain q e h2 (fun hj => ?_) (fun hj => ?_)
      · rw [if_pos hj] at hs hn
        have hjo := isJn_jo hj
        have h128 := jo128 hjo
        have hqn := isJn_lt hT.2.2.1 hj
        have hKq : K q = 38 := by have := of_decide_eq_true hj; omega
        have hok2 := hsub (q + 1) hqn
        refine z_aload_n hX (D_Model_both (i := 9) rfl) rfl ?_
        refine z_dupP hX (D_Model_both (i := 10) rfl) ?_
        refine z_geti hX (D_Model_both (i := 11) rfl) f_Model_153 rfl (by decide) (by first | exact Nat.one_pos | assumption | omega) rfl ?_
        refine z_iconst (v := 1) hX (D_Model_both (i := 12) rfl) (by decide) ?_
        refine z_iadd hX (D_Model_both (i := 13) rfl) ?_
        rw [pmM_14, show nI q + 1 = nI (q + 1) from nI_add q 1]
        refine z_puti hX (D_Model_both (i := 14) rfl) g_Model_153 rfl (by decide) (by first | exact Nat.one_pos | assumption | omega) rfl ?_
        rw [pmM_p]
        refine z_aload_n hX (D_Model_both (i := 15) rfl) rfl ?_
        refine z_cV0 hX (D_Model_both (i := 16) rfl) mi_Model_compared l_Model_198 rfl rfl (by decide) (by first | exact Nat.one_pos | assumption | omega) (by first | decide | omega) (Nat.le_of_ble_eq_true rfl) (hC _ (q + 1) (st ++ mdC e) _ hqn (by rw [List.length_append, mdC_len]; omega) ?_ ?_)
        · intro u e' he'
          rw [he'] at hs hn hok2
          simp only [] at hs hn
          obtain ⟨b1, b2, b3⟩ := hok2
          refine z_aload_n hX (D_Model_both (i := 17) rfl) rfl ?_
          refine z_bipush (v := 38) hX (D_Model_both (i := 18) rfl) (by decide) ?_
          refine z_iconst (v := 0) hX (D_Model_both (i := 19) rfl) (by decide) ?_
          refine z_cV2 hX (D_Model_both (i := 20) rfl) mi_Model_addStep l_Model_172 rfl rfl (by decide) (by first | exact Nat.one_pos | assumption | omega) (by first | decide | omega) (Nat.le_of_ble_eq_true rfl) (d_addStep hH (by decide) (by simp only [List.length_append, mdC_len]; omega) ?_)
          rw [show [((38 : Int32), (0 : Int32))] = mdC [(3, K q)] by rw [hKq]; rfl, List.append_assoc, ← mdC_app, List.append_assoc, ← mdC_app, ← List.append_assoc]
          refine z_goto (tgt := 4) hX (D_Model_both (i := 21) rfl) (by decide) ?_
          exact ih u (e ++ e' ++ [(3, K q)]) (by omega) (by omega) b2 (by simp only [List.length_append, List.length_cons, List.length_nil]; omega) hs hn
        · intro u o' st' hfl hlen
          have hle := lfl_le hok2 hfl
          simp only [List.length_append, mdC_len] at hlen
          refine z_aload_n hX (D_Model_both (i := 17) rfl) rfl ?_
          refine z_bipush (v := 38) hX (D_Model_both (i := 18) rfl) (by decide) ?_
          refine z_iconst (v := 0) hX (D_Model_both (i := 19) rfl) (by decide) ?_
          refine z_cV2 hX (D_Model_both (i := 20) rfl) mi_Model_addStep l_Model_172 rfl rfl (by decide) (by first | exact Nat.one_pos | assumption | omega) (by first | decide | omega) (Nat.le_of_ble_eq_true rfl) (d_addStep hH (by decide) (by omega) ?_)
          refine z_goto (tgt := 4) hX (D_Model_both (i := 21) rfl) (by decide) ?_
          refine z_aload_n hX (D_Model_both (i := 2) rfl) rfl ?_
          refine z_geti hX (D_Model_both (i := 3) rfl) f_Model_156 rfl (by decide) (by first | exact Nat.one_pos | assumption | omega) rfl ?_
          rw [pmM_15]
          refine z_if_ge (tgt := 44) hX (D_Model_both (i := 4) rfl) (by decide) (fun _ => ?_) (fun hcc => absurd (nI_le (a := 0) (Nat.zero_le _) (by omega)) hcc)
          exact z_ret hX hR (D_Model_both (i := 22) rfl) rfl (hn u o' _ (by
            rcases hfl with hfl | ⟨⟨e', hfl⟩, hd⟩
            · rw [hfl]; exact Or.inl rfl
            · rw [hfl]; exact Or.inr ⟨⟨_, lpR_dg hd⟩, hd⟩) (by rw [List.length_append, List.length_cons, List.length_nil]; omega))
      · rw [if_neg hj] at hs hn
        exact z_ret hX hR (D_Model_both (i := 22) rfl) rfl (hs q e rfl)
  · intro q o' st' hfl hlen
    have hle := lfl_le hok hfl
    refine z_aload_n hX (D_Model_both (i := 2) rfl) rfl ?_
    refine z_geti hX (D_Model_both (i := 3) rfl) f_Model_156 rfl (by decide) (by first | exact Nat.one_pos | assumption | omega) rfl ?_
    rw [pmM_15]
    refine z_if_ge (tgt := 44) hX (D_Model_both (i := 4) rfl) (by decide) (fun _ => ?_) (fun hcc => absurd (nI_le (a := 0) (Nat.zero_le _) (by omega)) hcc)
    exact z_ret hX hR (D_Model_both (i := 22) rfl) rfl (hn q o' _ (by
      rcases hfl with hfl | ⟨⟨e', hfl⟩, hd⟩
      · rw [hfl]; exact Or.inl rfl
      · rw [hfl]; exact Or.inr ⟨⟨_, lpR_dg hd⟩, hd⟩) hlen)
theorem d_either (hH : zHas ι pM) (hT : MT mem n K) {f : Nat → lRs} (hf : lokF n f) {L o : Nat} (hC : MR ι mem n K M_Model_both L o (lvR K f 4)) : MR ι mem n K M_Model_either (L + 1) o (lvR K f 5) := by
  have h120 := hT.2.1
  intro l p st Post hp ho hs hn
  have hsub := lvR_ok hT.2.2.1 hf 4
  have hok := hsub p hp
  unfold lvR at hs hn
  rw [if_neg (by decide)] at hs hn
  refine z_enter hH (by decide) (by simp [z_ent, M_Model_either]) (fun X hXl hX hR => ?_)
  have chain : ∀ (q : Nat) (e : lE), q ≤ n → (isJn 0 (K q) = true → zW ι M_Model_either X 20 [some (zP 40 0)] [] (pmM mem q (-1) (nI o) (st ++ mdC e))) → (¬ isJn 0 (K q) = true → zW ι M_Model_either X 44 [some (zP 40 0)] [] (pmM mem q (-1) (nI o) (st ++ mdC e))) → zW ι M_Model_either X 4 [some (zP 40 0)] [] (pmM mem q (-1) (nI o) (st ++ mdC e)) := by
    intro q e hq join out
    have P : ∀ c, c < 128 → (mkV (K q) = nI c ↔ K q = c) := fun c hc => mkV_is (hT.K9 q) hc
    refine z_aload_n hX (D_Model_either (i := 2) rfl) rfl ?_
    refine z_geti hX (D_Model_either (i := 3) rfl) f_Model_156 rfl (by decide) (by first | exact Nat.one_pos | assumption | omega) rfl ?_
    rw [pmM_15]
    refine z_if_ge (tgt := 44) hX (D_Model_either (i := 4) rfl) (by decide) (fun hcc => absurd hcc (by decide)) (fun _ => ?_)
    refine z_aload_n hX (D_Model_either (i := 5) rfl) rfl ?_
    refine z_cV0 hX (D_Model_either (i := 6) rfl) mi_Model_look l_Model_168 rfl rfl (by decide) (by first | exact Nat.one_pos | assumption | omega) (by first | decide | omega) (Nat.le_of_ble_eq_true rfl) (d_look hH hT hq ?_)
    refine z_bipush (v := 124) hX (D_Model_either (i := 7) rfl) (by decide) ?_
    refine z_icmp_ne (tgt := 44) hX (D_Model_either (i := 8) rfl) (by decide) (fun h0 => ?_) (fun h0 => ?_)
    · skip
      refine out (fun w => ?_)
      have w := of_decide_eq_true w
      have g0 : ¬ K q = 124 := fun w => h0 ((P 124 (by decide)).mpr w)
      omega
    · skip
      exact join (decide_eq_true (by have := (P 124 (by decide)).mp h0; omega))
  refine z_aload_n hX (D_Model_either (i := 0) rfl) rfl ?_
  refine z_cV0 hX (D_Model_either (i := 1) rfl) mi_Model_both l_Model_201 rfl rfl (by decide) (by first | exact Nat.one_pos | assumption | omega) (by first | decide | omega) (Nat.le_of_ble_eq_true rfl) (hC _ p st _ hp ho ?_ ?_)
  · intro q e he
    rw [he] at hs hn hok
    simp only [] at hs hn
    obtain ⟨a1, a2, a3⟩ := hok
    suffices H : ∀ (m q : Nat) (e : lE), n ≤ q + m → p < q → q ≤ n → e.length ≤ q - p → (∀ u e', lpR K (lvR K f 4) (4 - 4) m q e = (u, some e') → Post none (pmM mem u (-1) (nI o) (st ++ mdC e'))) → (∀ u o' st', lfl K (lpR K (lvR K f 4) (4 - 4) m q e) u → st'.length ≤ st.length + (u - p) + 1 → Post none (pmM mem u (nI u) o' st')) → zW ι M_Model_either X 4 [some (zP 40 0)] [] (pmM mem q (-1) (nI o) (st ++ mdC e)) from H 120 q e (by omega) a1 a2 a3 hs hn
    clear hs hn
    intro m
    induction m with
    | zero =>
      intro q e hm h1 h2 h3 hs hn
      refine chain q e h2 (fun w => absurd w (by rw [hT.2.2.1 q (by omega)]; decide)) (fun _ => ?_)
      exact z_ret hX hR (D_Model_either (i := 22) rfl) rfl (hs q e rfl)
    | succ m ih =>
      intro q e hm h1 h2 h3 hs hn
      unfold lpR at hs hn
      refine chain q e h2 (fun hj => ?_) (fun hj => ?_)
      · rw [if_pos hj] at hs hn
        have hjo := isJn_jo hj
        have h128 := jo128 hjo
        have hqn := isJn_lt hT.2.2.1 hj
        have hKq : K q = 124 := by have := of_decide_eq_true hj; omega
        have hok2 := hsub (q + 1) hqn
        refine z_aload_n hX (D_Model_either (i := 9) rfl) rfl ?_
        refine z_dupP hX (D_Model_either (i := 10) rfl) ?_
        refine z_geti hX (D_Model_either (i := 11) rfl) f_Model_153 rfl (by decide) (by first | exact Nat.one_pos | assumption | omega) rfl ?_
        refine z_iconst (v := 1) hX (D_Model_either (i := 12) rfl) (by decide) ?_
        refine z_iadd hX (D_Model_either (i := 13) rfl) ?_
        rw [pmM_14, show nI q + 1 = nI (q + 1) from nI_add q 1]
        refine z_puti hX (D_Model_either (i := 14) rfl) g_Model_153 rfl (by decide) (by first | exact Nat.one_pos | assumption | omega) rfl ?_
        rw [pmM_p]
        refine z_aload_n hX (D_Model_either (i := 15) rfl) rfl ?_
        refine z_cV0 hX (D_Model_either (i := 16) rfl) mi_Model_both l_Model_201 rfl rfl (by decide) (by first | exact Nat.one_pos | assumption | omega) (by first | decide | omega) (Nat.le_of_ble_eq_true rfl) (hC _ (q + 1) (st ++ mdC e) _ hqn (by rw [List.length_append, mdC_len]; omega) ?_ ?_)
        · intro u e' he'
          rw [he'] at hs hn hok2
          simp only [] at hs hn
          obtain ⟨b1, b2, b3⟩ := hok2
          refine z_aload_n hX (D_Model_either (i := 17) rfl) rfl ?_
          refine z_bipush (v := 124) hX (D_Model_either (i := 18) rfl) (by decide) ?_
          refine z_iconst (v := 0) hX (D_Model_either (i := 19) rfl) (by decide) ?_
          refine z_cV2 hX (D_Model_either (i := 20) rfl) mi_Model_addStep l_Model_172 rfl rfl (by decide) (by first | exact Nat.one_pos | assumption | omega) (by first | decide | omega) (Nat.le_of_ble_eq_true rfl) (d_addStep hH (by decide) (by simp only [List.length_append, mdC_len]; omega) ?_)
          rw [show [((124 : Int32), (0 : Int32))] = mdC [(3, K q)] by rw [hKq]; rfl, List.append_assoc, ← mdC_app, List.append_assoc, ← mdC_app, ← List.append_assoc]
          refine z_goto (tgt := 4) hX (D_Model_either (i := 21) rfl) (by decide) ?_
          exact ih u (e ++ e' ++ [(3, K q)]) (by omega) (by omega) b2 (by simp only [List.length_append, List.length_cons, List.length_nil]; omega) hs hn
        · intro u o' st' hfl hlen
          have hle := lfl_le hok2 hfl
          simp only [List.length_append, mdC_len] at hlen
          refine z_aload_n hX (D_Model_either (i := 17) rfl) rfl ?_
          refine z_bipush (v := 124) hX (D_Model_either (i := 18) rfl) (by decide) ?_
          refine z_iconst (v := 0) hX (D_Model_either (i := 19) rfl) (by decide) ?_
          refine z_cV2 hX (D_Model_either (i := 20) rfl) mi_Model_addStep l_Model_172 rfl rfl (by decide) (by first | exact Nat.one_pos | assumption | omega) (by first | decide | omega) (Nat.le_of_ble_eq_true rfl) (d_addStep hH (by decide) (by omega) ?_)
          refine z_goto (tgt := 4) hX (D_Model_either (i := 21) rfl) (by decide) ?_
          refine z_aload_n hX (D_Model_either (i := 2) rfl) rfl ?_
          refine z_geti hX (D_Model_either (i := 3) rfl) f_Model_156 rfl (by decide) (by first | exact Nat.one_pos | assumption | omega) rfl ?_
          rw [pmM_15]
          refine z_if_ge (tgt := 44) hX (D_Model_either (i := 4) rfl) (by decide) (fun _ => ?_) (fun hcc => absurd (nI_le (a := 0) (Nat.zero_le _) (by omega)) hcc)
          exact z_ret hX hR (D_Model_either (i := 22) rfl) rfl (hn u o' _ (by
            rcases hfl with hfl | ⟨⟨e', hfl⟩, hd⟩
            · rw [hfl]; exact Or.inl rfl
            · rw [hfl]; exact Or.inr ⟨⟨_, lpR_dg hd⟩, hd⟩) (by rw [List.length_append, List.length_cons, List.length_nil]; omega))
      · rw [if_neg hj] at hs hn
        exact z_ret hX hR (D_Model_either (i := 22) rfl) rfl (hs q e rfl)
  · intro q o' st' hfl hlen
    have hle := lfl_le hok hfl
    refine z_aload_n hX (D_Model_either (i := 2) rfl) rfl ?_
    refine z_geti hX (D_Model_either (i := 3) rfl) f_Model_156 rfl (by decide) (by first | exact Nat.one_pos | assumption | omega) rfl ?_
    rw [pmM_15]
    refine z_if_ge (tgt := 44) hX (D_Model_either (i := 4) rfl) (by decide) (fun _ => ?_) (fun hcc => absurd (nI_le (a := 0) (Nat.zero_le _) (by omega)) hcc)
    exact z_ret hX hR (D_Model_either (i := 22) rfl) rfl (hn q o' _ (by
      rcases hfl with hfl | ⟨⟨e', hfl⟩, hd⟩
      · rw [hfl]; exact Or.inl rfl
      · rw [hfl]; exact Or.inr ⟨⟨_, lpR_dg hd⟩, hd⟩) hlen)
end D2
