/-! the reference's ways, nearest, building -/
def frO (S S' : Nat → Nat → Int32) : Prop := ∀ p c, ¬ (p = 40 ∧ c = 31) → p ≠ 58 → p ≠ 59 → S' p c = S p c
theorem frO.trans {A B D : Nat → Nat → Int32} (h : frO A B) (h2 : frO B D) : frO A D := fun p c q1 q2 q3 => (h2 p c q1 q2 q3).trans (h p c q1 q2 q3)
theorem frO_58 {S : Nat → Nat → Int32} {j : Nat} {v : Int32} : frO S (sU S 58 j v) := fun p c q1 q2 q3 => sU_ne (Or.inl q2)
theorem frO_59 {S : Nat → Nat → Int32} {j : Nat} {v : Int32} : frO S (sU S 59 j v) := fun p c q1 q2 q3 => sU_ne (Or.inl q3)
theorem frO_31 {S : Nat → Nat → Int32} {v : Int32} : frO S (sU S 40 31 v) := fun p c q1 q2 q3 => sU_ne (by omega)
theorem frO.gs {mem : zM} {S S' : Nat → Nat → Int32} {sz : Nat} {Λ : Option (List lLn)} {C : Nat → Nat → Nat} {T : List Nat} (hf : frO S S') (h : GS mem S sz Λ C T) : GS mem S' sz Λ C T := by
  obtain ⟨a, b, c, d, e⟩ := h
  exact ⟨a, b, c, ⟨(hf 40 28 (by omega) (by decide) (by decide)).trans d.1, d.2.1, fun i hi => ⟨(hf 57 i (by omega) (by decide) (by decide)).trans (d.2.2 i hi).1, (d.2.2 i hi).2⟩⟩, e.fr (fun c => hf 56 c (by omega) (by decide) (by decide))⟩
section M2
variable {l : Launch} {ι : zE} {mem : zM} {S : Nat → Nat → Int32} {sz hb : Nat} {Λ : Option (List lLn)} {C : Nat → Nat → Nat} {T : List Nat} {τ : Nat → Nat}
/-- at the end: one way more -/
theorem d_goOn_end {Post : Option zV → zM → Prop} {X : zX} {n : Nat} (hX : zG ι M_Model_goOn X n pM) (hR : zRt ι X Post) {w : Int32} (h4 : T.length ≤ 4) (h28 : S 40 28 = nI T.length) (h31 : S 40 31 = w) (h : ∀ S', frO S S' → (∀ i, S' 58 i = S 58 i) → S' 40 31 = w + 1 → (w = 0 → ∀ i, i < T.length → S' 59 i = S 58 i) → Post none (tm mem S')) : zW ι M_Model_goOn X 8 [some (zP 40 0), some (zI (nI T.length)), none] [] (tm mem S) := by
  have fin : ∀ (S1 : Nat → Nat → Int32) (v2 : Option zV), frO S S1 → (∀ i, S1 58 i = S 58 i) → S1 40 31 = w → (w = 0 → ∀ i, i < T.length → S1 59 i = S 58 i) → zW ι M_Model_goOn X 43 [some (zP 40 0), some (zI (nI T.length)), v2] [] (tm mem S1) := by
    intro S1 v2 hf h58 h31 h59
    refine z_aload_n hX (D_Model_goOn (i := 23) rfl) rfl ?_
    refine z_dupP hX (D_Model_goOn (i := 24) rfl) ?_
    refine z_geti hX (D_Model_goOn (i := 25) rfl) f_Model_256 rfl (by decide) (by first | exact Nat.one_pos | assumption | omega) rfl ?_
    refine z_iconst (v := 1) hX (D_Model_goOn (i := 26) rfl) (by decide) ?_
    refine z_iadd hX (D_Model_goOn (i := 27) rfl) ?_
    rw [show (tm mem S1).1 40 0 31 = w from h31]
    refine z_puti hX (D_Model_goOn (i := 28) rfl) g_Model_256 rfl (by decide) (by first | exact Nat.one_pos | assumption | omega) rfl ?_
    rw [tm_up rfl]
    exact z_ret hX hR (D_Model_goOn (i := 29) rfl) rfl (h _ (hf.trans frO_31) (fun i => (sU_ne (by omega)).trans (h58 i)) sU_at (fun q i hi => (sU_ne (by omega)).trans (h59 q i hi)))
  refine z_aload_n hX (D_Model_goOn (i := 4) rfl) rfl ?_
  refine z_geti hX (D_Model_goOn (i := 5) rfl) f_Model_256 rfl (by decide) (by first | exact Nat.one_pos | assumption | omega) rfl ?_
  rw [show (tm mem S).1 40 0 31 = w from h31]
  refine z_if_ne (tgt := 43) hX (D_Model_goOn (i := 6) rfl) (by decide) (fun h1 => ?_) (fun h1 => ?_)
  · skip
    exact fin S _ (fun _ _ _ _ _ => rfl) (fun _ => rfl) h31 (fun q => absurd q h1)
  · refine z_iconst (v := 0) hX (D_Model_goOn (i := 7) rfl) (by decide) ?_
    refine z_istore_n hX (D_Model_goOn (i := 8) rfl) (by decide) rfl ?_
    suffices LP : ∀ (d k : Nat) (S1 : Nat → Nat → Int32), k + d = T.length → frO S S1 → (∀ i, S1 58 i = S 58 i) → S1 40 31 = w → (∀ i, i < k → S1 59 i = S 58 i) → zW ι M_Model_goOn X 17 [some (zP 40 0), some (zI (nI T.length)), some (zI (nI k))] [] (tm mem S1) from LP _ 0 S (Nat.zero_add _) (fun _ _ _ _ _ => rfl) (fun _ => rfl) h31 (fun i hi => absurd hi (Nat.not_lt_zero _))
    intro d
    induction d with
    | zero =>
      intro k S1 hk hf h58 h31 h59
      obtain rfl : k = T.length := hk
      refine z_iload_n hX (D_Model_goOn (i := 9) rfl) rfl ?_
      refine z_aload_n hX (D_Model_goOn (i := 10) rfl) rfl ?_
      refine z_geti hX (D_Model_goOn (i := 11) rfl) f_Model_237 rfl (by decide) (by first | exact Nat.one_pos | assumption | omega) rfl ?_
      rw [show (tm mem S1).1 40 0 28 = nI T.length from (hf 40 28 (by omega) (by decide) (by decide)).trans h28]
      refine z_icmp_ge (tgt := 43) hX (D_Model_goOn (i := 12) rfl) (by decide) (fun _ => ?_) (fun hcc => absurd (Int32.le_refl _) hcc)
      exact fin S1 _ hf h58 h31 (fun _ => h59)
    | succ d ih =>
      intro k S1 hk hf h58 h31 h59
      have hkn : k < T.length := by omega
      refine z_iload_n hX (D_Model_goOn (i := 9) rfl) rfl ?_
      refine z_aload_n hX (D_Model_goOn (i := 10) rfl) rfl ?_
      refine z_geti hX (D_Model_goOn (i := 11) rfl) f_Model_237 rfl (by decide) (by first | exact Nat.one_pos | assumption | omega) rfl ?_
      rw [show (tm mem S1).1 40 0 28 = nI T.length from (hf 40 28 (by omega) (by decide) (by decide)).trans h28]
      refine z_icmp_ge (tgt := 43) hX (D_Model_goOn (i := 12) rfl) (by decide) (fun hcc => absurd hcc (nI_ge hkn (by omega))) (fun _ => ?_)
      refine z_aload_n hX (D_Model_goOn (i := 13) rfl) rfl ?_
      refine z_getc hX (D_Model_goOn (i := 14) rfl) f_Model_67 rfl (by decide) (by first | exact Nat.one_pos | assumption | omega) rfl ?_
      refine z_iload_n hX (D_Model_goOn (i := 15) rfl) rfl ?_
      refine z_aload_n hX (D_Model_goOn (i := 16) rfl) rfl ?_
      refine z_getc hX (D_Model_goOn (i := 17) rfl) f_Model_64 rfl (by decide) (by first | exact Nat.one_pos | assumption | omega) rfl ?_
      refine z_iload_n hX (D_Model_goOn (i := 18) rfl) rfl ?_
      refine z_iald (j := k) hX (D_Model_goOn (i := 19) rfl) rfl (by decide) (by first | exact Nat.one_pos | assumption | omega) (by decide) rfl (by omega) ?_
      rw [show (tm mem S1).1 58 0 k = S 58 k from h58 k]
      refine z_iast (j := k) hX (D_Model_goOn (i := 20) rfl) rfl (by decide) (by first | exact Nat.one_pos | assumption | omega) (by decide) rfl (by omega) ?_
      rw [tm_up rfl]
      first | refine z_inc1 hX (D_Model_goOn (i := 21) rfl) rfl (by decide) rfl ?_ | refine z_iinc hX (D_Model_goOn (i := 21) rfl) rfl rfl (by decide) rfl ?_
      refine z_goto (tgt := 17) hX (D_Model_goOn (i := 22) rfl) (by decide) ?_
      refine ih (k + 1) _ (by omega) (hf.trans frO_59) (fun i => (sU_ne (by omega)).trans (h58 i)) ((sU_ne (by omega)).trans h31) (fun i hi => ?_)
      by_cases e : i = k
      · rw [e, sU_at]
      · rw [sU_ne (Or.inr e)]; exact h59 i (by omega)
theorem d_goOn_n (hH : zHas ι pM) (hτ : TUM mem τ sz) (h256 : hb < 256) : ∀ (d j : Nat) (f : Nat → Nat) (S : Nat → Nat → Int32) (w : Nat) (Post : Option zV → zM → Prop), j + d = T.length → GS mem S sz Λ C T → S 40 32 = nI hb → S 40 33 = 0 → S 40 31 = nI w → (∀ i, i < j → S 58 i = nI (f i) ∧ f i < 24) → (∀ S', frO S S' → (∀ i, i < j → S' 58 i = S 58 i) → S' 40 31 = nI (w + cntS (trW hb T τ) (fpW Λ C T) d j f) → Post none (tm mem S')) → zC l ι M_Model_goOn (4 + d) [zP 40 0, zI (nI j)] (tm mem S) Post := by
  intro d
  induction d with
  | zero =>
    intro j f S w Post hj hG h32 h33 h31 hf h
    obtain rfl : j = T.length := hj
    have hT := hG.2.2.2.1
    have h4 := hT.2.1
    refine z_enter hH (by decide) (by simp [z_ent, M_Model_goOn]) (fun X hXl hX hR => ?_)
    refine z_iload_n hX (D_Model_goOn (i := 0) rfl) rfl ?_
    refine z_aload_n hX (D_Model_goOn (i := 1) rfl) rfl ?_
    refine z_geti hX (D_Model_goOn (i := 2) rfl) f_Model_237 rfl (by decide) (by first | exact Nat.one_pos | assumption | omega) rfl ?_
    rw [show (tm mem S).1 40 0 28 = nI T.length from hT.1]
    refine z_icmp_ne (tgt := 54) hX (D_Model_goOn (i := 3) rfl) (by decide) (fun hcc => absurd (rfl) hcc) (fun _ => ?_)
    exact d_goOn_end hX hR h4 hT.1 h31 (fun S' f1 h58 k31 _ => h S' f1 (fun i _ => h58 i) (by rw [k31]; exact nI_add w 1))
  | succ d ih =>
    intro j f S w Post hj hG h32 h33 h31 hf h
    have hjn : j < T.length := by omega
    have hT := hG.2.2.2.1
    have h4 := hT.2.1
    refine z_enter hH (by decide) (by simp [z_ent, M_Model_goOn]) (fun X hXl hX hR => ?_)
    subst hXl
    refine z_iload_n hX (D_Model_goOn (i := 0) rfl) rfl ?_
    refine z_aload_n hX (D_Model_goOn (i := 1) rfl) rfl ?_
    refine z_geti hX (D_Model_goOn (i := 2) rfl) f_Model_237 rfl (by decide) (by first | exact Nat.one_pos | assumption | omega) rfl ?_
    rw [show (tm mem S).1 40 0 28 = nI T.length from hT.1]
    refine z_icmp_ne (tgt := 54) hX (D_Model_goOn (i := 3) rfl) (by decide) (fun _ => ?_) (fun hcc => absurd hcc ((fun w => absurd ((nI_eq (by omega) (by omega)).mp w) (by omega))))
    refine z_iconst (v := 0) hX (D_Model_goOn (i := 30) rfl) (by decide) ?_
    refine z_istore_n hX (D_Model_goOn (i := 31) rfl) (by decide) rfl ?_
    suffices LP : ∀ (m t : Nat) (S1 : Nat → Nat → Int32), t + m = 24 → frO S S1 → (∀ i, i < j → S1 58 i = S 58 i) → S1 40 31 = nI (w + sumI (fun t => if okS (trW hb T τ) (fpW Λ C T) j f t = true then cntS (trW hb T τ) (fpW Λ C T) d (j + 1) (fN f j t) else 0) t) → zW ι M_Model_goOn X 56 [some (zP 40 0), some (zI (nI j)), some (zI (nI t))] [] (tm mem S1) from LP 24 0 S rfl (fun _ _ _ _ _ => rfl) (fun _ _ => rfl) h31
    intro m
    induction m with
    | zero =>
      intro t S1 ht hfr hsm k31
      obtain rfl : t = 24 := ht
      refine z_iload_n hX (D_Model_goOn (i := 32) rfl) rfl ?_
      refine z_bipush (v := 24) hX (D_Model_goOn (i := 33) rfl) (by decide) ?_
      refine z_icmp_ge (tgt := 118) hX (D_Model_goOn (i := 34) rfl) (by decide) (fun _ => ?_) (fun hcc => absurd (Int32.le_refl _) hcc)
      exact z_ret hX hR (D_Model_goOn (i := 65) rfl) rfl (h S1 hfr hsm k31)
    | succ m ihm =>
      intro t S1 ht hfr hsm k31
      have ht24 : t < 24 := by omega
      have hG1 := hfr.gs hG
      have g32 : S1 40 32 = nI hb := (hfr 40 32 (by omega) (by decide) (by decide)).trans h32
      have g33 : S1 40 33 = 0 := (hfr 40 33 (by omega) (by decide) (by decide)).trans h33
      have nx : okS (trW hb T τ) (fpW Λ C T) j f t = false → zW ι M_Model_goOn X 112 [some (zP 40 0), some (zI (nI j)), some (zI (nI t))] [] (tm mem S1) := by
        intro hno
        first | refine z_inc1 hX (D_Model_goOn (i := 63) rfl) rfl (by decide) rfl ?_ | refine z_iinc hX (D_Model_goOn (i := 63) rfl) rfl rfl (by decide) rfl ?_
        refine z_goto (tgt := 56) hX (D_Model_goOn (i := 64) rfl) (by decide) ?_
        refine ihm (t + 1) S1 (by omega) hfr hsm ?_
        rw [sumI, hno]; exact k31
      refine z_iload_n hX (D_Model_goOn (i := 32) rfl) rfl ?_
      refine z_bipush (v := 24) hX (D_Model_goOn (i := 33) rfl) (by decide) ?_
      refine z_icmp_ge (tgt := 118) hX (D_Model_goOn (i := 34) rfl) (by decide) (fun hcc => absurd hcc (nI_ge (b := 24) ht24 (by decide))) (fun _ => ?_)
      refine z_aload_n hX (D_Model_goOn (i := 35) rfl) rfl ?_
      refine z_geti hX (D_Model_goOn (i := 36) rfl) f_Model_259 rfl (by decide) (by first | exact Nat.one_pos | assumption | omega) rfl ?_
      rw [show (tm mem S1).1 40 0 33 = 0 from g33]
      refine z_if_eq (tgt := 77) hX (D_Model_goOn (i := 37) rfl) (by decide) (fun _ => ?_) (fun hcc => absurd (rfl) hcc)
      refine z_aload_n hX (D_Model_goOn (i := 42) rfl) rfl ?_
      refine z_iload_n hX (D_Model_goOn (i := 43) rfl) rfl ?_
      refine z_iload_n hX (D_Model_goOn (i := 44) rfl) rfl ?_
      refine z_cV2 hX (D_Model_goOn (i := 45) rfl) mi_Model_isTried l_Model_262 rfl rfl (by decide) (by first | exact Nat.one_pos | assumption | omega) (by first | decide | omega) (Nat.le_of_ble_eq_true rfl) (d_isTried hH hG1.2.2.2.1 hG.2.2.1 hτ h256 g32 hjn ht24 ?_)
      cases htr : trW hb T τ j t with
      | false =>
        refine z_if_eq (tgt := 112) hX (D_Model_goOn (i := 46) rfl) (by decide) (fun _ => ?_) (fun hcc => absurd (rfl) hcc)
        exact nx (by unfold okS; rw [htr]; rfl)
      | true =>
        refine z_if_eq (tgt := 112) hX (D_Model_goOn (i := 46) rfl) (by decide) (fun hcc => absurd hcc (by decide)) (fun _ => ?_)
        refine z_aload_n hX (D_Model_goOn (i := 47) rfl) rfl ?_
        refine z_iload_n hX (D_Model_goOn (i := 48) rfl) rfl ?_
        refine z_iload_n hX (D_Model_goOn (i := 49) rfl) rfl ?_
        refine z_cV2 hX (D_Model_goOn (i := 50) rfl) mi_Model_wrongWith l_Model_266 rfl rfl (by decide) (by first | exact Nat.one_pos | assumption | omega) (by first | decide | omega) (Nat.le_of_ble_eq_true rfl) (d_wrongWith (f := f) hH hG1 hjn ht24 (fun i hi => by rw [hsm i hi]; exact hf i hi) ?_)
        have hcl : csW (wrW Λ C T) j f t ≤ 4 * j := sumI_le (fun k _ => wrW_le _ _ _ _)
        refine z_if_le (tgt := 98) hX (D_Model_goOn (i := 51) rfl) (by decide) (fun h1 => ?_) (fun h1 => ?_)
        · refine z_aload_n hX (D_Model_goOn (i := 53) rfl) rfl ?_
          refine z_getc hX (D_Model_goOn (i := 54) rfl) f_Model_64 rfl (by decide) (by first | exact Nat.one_pos | assumption | omega) rfl ?_
          refine z_iload_n hX (D_Model_goOn (i := 55) rfl) rfl ?_
          refine z_iload_n hX (D_Model_goOn (i := 56) rfl) rfl ?_
          have hz : csW (wrW Λ C T) j f t = 0 := Nat.le_zero.mp ((nI_leI (b := 0) (by omega) (by decide)).mp h1)
          have hok : okS (trW hb T τ) (fpW Λ C T) j f t = true := by unfold okS; rw [htr, cs0.mp hz]; rfl
          refine z_iast (j := j) hX (D_Model_goOn (i := 57) rfl) rfl (by decide) (by first | exact Nat.one_pos | assumption | omega) (by decide) rfl (by omega) ?_
          rw [tm_up rfl]
          refine z_aload_n hX (D_Model_goOn (i := 58) rfl) rfl ?_
          refine z_iload_n hX (D_Model_goOn (i := 59) rfl) rfl ?_
          refine z_iconst (v := 1) hX (D_Model_goOn (i := 60) rfl) (by decide) ?_
          refine z_iadd hX (D_Model_goOn (i := 61) rfl) ?_
          rw [show nI j + 1 = nI (j + 1) from nI_add j 1]
          refine z_cV1 hX (D_Model_goOn (i := 62) rfl) mi_Model_goOn l_Model_269 rfl rfl (by decide) (by first | exact Nat.one_pos | assumption | omega) (by first | decide | omega) (Nat.le_of_ble_eq_true rfl) (ih (j + 1) (fN f j t) _ _ _ (by omega) (frO_58.gs hG1) ((sU_ne (by omega)).trans g32) ((sU_ne (by omega)).trans g33) ((sU_ne (by omega)).trans k31) ?_ ?_)
          · intro i hi
            by_cases e : i = j
            · subst e
              rw [sU_at, fN_at]; exact ⟨rfl, ht24⟩
            · rw [sU_ne (Or.inr e), fN_ne e, hsm i (by omega)]; exact hf i (by omega)
          · intro S2 hf2 hs2 l31
            first | refine z_inc1 hX (D_Model_goOn (i := 63) rfl) rfl (by decide) rfl ?_ | refine z_iinc hX (D_Model_goOn (i := 63) rfl) rfl rfl (by decide) rfl ?_
            refine z_goto (tgt := 56) hX (D_Model_goOn (i := 64) rfl) (by decide) ?_
            refine ihm (t + 1) S2 (by omega) (hfr.trans (frO_58.trans hf2)) (fun i hi => by rw [hs2 i (by omega), sU_ne (Or.inr (by omega)), hsm i hi]) ?_
            rw [l31, sumI, if_pos hok, Nat.add_assoc]
        · refine z_goto (tgt := 112) hX (D_Model_goOn (i := 52) rfl) (by decide) ?_
          refine nx ?_
          unfold okS
          rw [htr, Bool.true_and]
          cases ha : alI (fun i => fpW Λ C T i j (f i) t) j with
          | false => rfl
          | true => exact absurd (by rw [cs0.mpr ha]; exact Int32.le_refl _) h1
theorem d_goOn_1 (hH : zHas ι pM) (hτ : TUM mem τ sz) (h256 : hb < 256) : ∀ (d j : Nat) (f : Nat → Nat) (S : Nat → Nat → Int32) (Post : Option zV → zM → Prop), j + d = T.length → GS mem S sz Λ C T → S 40 32 = nI hb → S 40 33 = 1 → S 40 31 = 0 → (∀ i, i < j → S 58 i = nI (f i) ∧ f i < 24) → (∀ S', frO S S' → (∀ i, i < j → S' 58 i = S 58 i) → S' 40 31 = 0 → fstS (trW hb T τ) (fpW Λ C T) d j f = none → Post none (tm mem S')) → (∀ S' g, frO S S' → S' 40 31 = 1 → fstS (trW hb T τ) (fpW Λ C T) d j f = some g → (∀ i, i < T.length → S' 59 i = nI (g i)) → Post none (tm mem S')) → zC l ι M_Model_goOn (4 + d) [zP 40 0, zI (nI j)] (tm mem S) Post := by
  intro d
  induction d with
  | zero =>
    intro j f S Post hj hG h32 h33 h31 hf hn hs
    obtain rfl : j = T.length := hj
    have hT := hG.2.2.2.1
    have h4 := hT.2.1
    refine z_enter hH (by decide) (by simp [z_ent, M_Model_goOn]) (fun X hXl hX hR => ?_)
    refine z_iload_n hX (D_Model_goOn (i := 0) rfl) rfl ?_
    refine z_aload_n hX (D_Model_goOn (i := 1) rfl) rfl ?_
    refine z_geti hX (D_Model_goOn (i := 2) rfl) f_Model_237 rfl (by decide) (by first | exact Nat.one_pos | assumption | omega) rfl ?_
    rw [show (tm mem S).1 40 0 28 = nI T.length from hT.1]
    refine z_icmp_ne (tgt := 54) hX (D_Model_goOn (i := 3) rfl) (by decide) (fun hcc => absurd (rfl) hcc) (fun _ => ?_)
    exact d_goOn_end hX hR h4 hT.1 h31 (fun S' f1 h58 k31 h59 => hs S' f f1 (by rw [k31]; rfl) rfl (fun i hi => by rw [h59 rfl i hi]; exact (hf i hi).1))
  | succ d ih =>
    intro j f S Post hj hG h32 h33 h31 hf hn hs
    have hjn : j < T.length := by omega
    have hT := hG.2.2.2.1
    have h4 := hT.2.1
    refine z_enter hH (by decide) (by simp [z_ent, M_Model_goOn]) (fun X hXl hX hR => ?_)
    subst hXl
    refine z_iload_n hX (D_Model_goOn (i := 0) rfl) rfl ?_
    refine z_aload_n hX (D_Model_goOn (i := 1) rfl) rfl ?_
    refine z_geti hX (D_Model_goOn (i := 2) rfl) f_Model_237 rfl (by decide) (by first | exact Nat.one_pos | assumption | omega) rfl ?_
    rw [show (tm mem S).1 40 0 28 = nI T.length from hT.1]
    refine z_icmp_ne (tgt := 54) hX (D_Model_goOn (i := 3) rfl) (by decide) (fun _ => ?_) (fun hcc => absurd hcc ((fun w => absurd ((nI_eq (by omega) (by omega)).mp w) (by omega))))
    refine z_iconst (v := 0) hX (D_Model_goOn (i := 30) rfl) (by decide) ?_
    refine z_istore_n hX (D_Model_goOn (i := 31) rfl) (by decide) rfl ?_
    suffices LP : ∀ (m t : Nat) (S1 : Nat → Nat → Int32), t + m = 24 → frO S S1 → (∀ i, i < j → S1 58 i = S 58 i) → S1 40 31 = 0 → fstS (trW hb T τ) (fpW Λ C T) (d + 1) j f = frI (fun t => if okS (trW hb T τ) (fpW Λ C T) j f t = true then fstS (trW hb T τ) (fpW Λ C T) d (j + 1) (fN f j t) else none) t m → zW ι M_Model_goOn X 56 [some (zP 40 0), some (zI (nI j)), some (zI (nI t))] [] (tm mem S1) from LP 24 0 S rfl (fun _ _ _ _ _ => rfl) (fun _ _ => rfl) h31 rfl
    intro m
    induction m with
    | zero =>
      intro t S1 ht hfr hsm k31 he
      obtain rfl : t = 24 := ht
      refine z_iload_n hX (D_Model_goOn (i := 32) rfl) rfl ?_
      refine z_bipush (v := 24) hX (D_Model_goOn (i := 33) rfl) (by decide) ?_
      refine z_icmp_ge (tgt := 118) hX (D_Model_goOn (i := 34) rfl) (by decide) (fun _ => ?_) (fun hcc => absurd (Int32.le_refl _) hcc)
      exact z_ret hX hR (D_Model_goOn (i := 65) rfl) rfl (hn S1 hfr hsm k31 he)
    | succ m ihm =>
      intro t S1 ht hfr hsm k31 he
      have ht24 : t < 24 := by omega
      have hG1 := hfr.gs hG
      have g32 : S1 40 32 = nI hb := (hfr 40 32 (by omega) (by decide) (by decide)).trans h32
      have g33 : S1 40 33 = 1 := (hfr 40 33 (by omega) (by decide) (by decide)).trans h33
      have nx : okS (trW hb T τ) (fpW Λ C T) j f t = false → zW ι M_Model_goOn X 112 [some (zP 40 0), some (zI (nI j)), some (zI (nI t))] [] (tm mem S1) := by
        intro hno
        first | refine z_inc1 hX (D_Model_goOn (i := 63) rfl) rfl (by decide) rfl ?_ | refine z_iinc hX (D_Model_goOn (i := 63) rfl) rfl rfl (by decide) rfl ?_
        refine z_goto (tgt := 56) hX (D_Model_goOn (i := 64) rfl) (by decide) ?_
        refine ihm (t + 1) S1 (by omega) hfr hsm k31 ?_
        rw [he, frI, hno]; rfl
      refine z_iload_n hX (D_Model_goOn (i := 32) rfl) rfl ?_
      refine z_bipush (v := 24) hX (D_Model_goOn (i := 33) rfl) (by decide) ?_
      refine z_icmp_ge (tgt := 118) hX (D_Model_goOn (i := 34) rfl) (by decide) (fun hcc => absurd hcc (nI_ge (b := 24) ht24 (by decide))) (fun _ => ?_)
      refine z_aload_n hX (D_Model_goOn (i := 35) rfl) rfl ?_
      refine z_geti hX (D_Model_goOn (i := 36) rfl) f_Model_259 rfl (by decide) (by first | exact Nat.one_pos | assumption | omega) rfl ?_
      rw [show (tm mem S1).1 40 0 33 = 1 from g33]
      refine z_if_eq (tgt := 77) hX (D_Model_goOn (i := 37) rfl) (by decide) (fun hcc => absurd hcc (by decide)) (fun _ => ?_)
      refine z_aload_n hX (D_Model_goOn (i := 38) rfl) rfl ?_
      refine z_geti hX (D_Model_goOn (i := 39) rfl) f_Model_256 rfl (by decide) (by first | exact Nat.one_pos | assumption | omega) rfl ?_
      rw [show (tm mem S1).1 40 0 31 = 0 from k31]
      refine z_if_le (tgt := 77) hX (D_Model_goOn (i := 40) rfl) (by decide) (fun _ => ?_) (fun hcc => absurd (Int32.le_refl _) hcc)
      refine z_aload_n hX (D_Model_goOn (i := 42) rfl) rfl ?_
      refine z_iload_n hX (D_Model_goOn (i := 43) rfl) rfl ?_
      refine z_iload_n hX (D_Model_goOn (i := 44) rfl) rfl ?_
      refine z_cV2 hX (D_Model_goOn (i := 45) rfl) mi_Model_isTried l_Model_262 rfl rfl (by decide) (by first | exact Nat.one_pos | assumption | omega) (by first | decide | omega) (Nat.le_of_ble_eq_true rfl) (d_isTried hH hG1.2.2.2.1 hG.2.2.1 hτ h256 g32 hjn ht24 ?_)
      cases htr : trW hb T τ j t with
      | false =>
        refine z_if_eq (tgt := 112) hX (D_Model_goOn (i := 46) rfl) (by decide) (fun _ => ?_) (fun hcc => absurd (rfl) hcc)
        exact nx (by unfold okS; rw [htr]; rfl)
      | true =>
        refine z_if_eq (tgt := 112) hX (D_Model_goOn (i := 46) rfl) (by decide) (fun hcc => absurd hcc (by decide)) (fun _ => ?_)
        refine z_aload_n hX (D_Model_goOn (i := 47) rfl) rfl ?_
        refine z_iload_n hX (D_Model_goOn (i := 48) rfl) rfl ?_
        refine z_iload_n hX (D_Model_goOn (i := 49) rfl) rfl ?_
        refine z_cV2 hX (D_Model_goOn (i := 50) rfl) mi_Model_wrongWith l_Model_266 rfl rfl (by decide) (by first | exact Nat.one_pos | assumption | omega) (by first | decide | omega) (Nat.le_of_ble_eq_true rfl) (d_wrongWith (f := f) hH hG1 hjn ht24 (fun i hi => by rw [hsm i hi]; exact hf i hi) ?_)
        have hcl : csW (wrW Λ C T) j f t ≤ 4 * j := sumI_le (fun k _ => wrW_le _ _ _ _)
        refine z_if_le (tgt := 98) hX (D_Model_goOn (i := 51) rfl) (by decide) (fun h1 => ?_) (fun h1 => ?_)
        · refine z_aload_n hX (D_Model_goOn (i := 53) rfl) rfl ?_
          refine z_getc hX (D_Model_goOn (i := 54) rfl) f_Model_64 rfl (by decide) (by first | exact Nat.one_pos | assumption | omega) rfl ?_
          refine z_iload_n hX (D_Model_goOn (i := 55) rfl) rfl ?_
          refine z_iload_n hX (D_Model_goOn (i := 56) rfl) rfl ?_
          have hz : csW (wrW Λ C T) j f t = 0 := Nat.le_zero.mp ((nI_leI (b := 0) (by omega) (by decide)).mp h1)
          have hok : okS (trW hb T τ) (fpW Λ C T) j f t = true := by unfold okS; rw [htr, cs0.mp hz]; rfl
          refine z_iast (j := j) hX (D_Model_goOn (i := 57) rfl) rfl (by decide) (by first | exact Nat.one_pos | assumption | omega) (by decide) rfl (by omega) ?_
          rw [tm_up rfl]
          refine z_aload_n hX (D_Model_goOn (i := 58) rfl) rfl ?_
          refine z_iload_n hX (D_Model_goOn (i := 59) rfl) rfl ?_
          refine z_iconst (v := 1) hX (D_Model_goOn (i := 60) rfl) (by decide) ?_
          refine z_iadd hX (D_Model_goOn (i := 61) rfl) ?_
          rw [show nI j + 1 = nI (j + 1) from nI_add j 1]
          refine z_cV1 hX (D_Model_goOn (i := 62) rfl) mi_Model_goOn l_Model_269 rfl rfl (by decide) (by first | exact Nat.one_pos | assumption | omega) (by first | decide | omega) (Nat.le_of_ble_eq_true rfl) (ih (j + 1) (fN f j t) _ _ (by omega) (frO_58.gs hG1) ((sU_ne (by omega)).trans g32) ((sU_ne (by omega)).trans g33) ((sU_ne (by omega)).trans k31) ?_ ?_ ?_)
          · intro i hi
            by_cases e : i = j
            · subst e
              rw [sU_at, fN_at]; exact ⟨rfl, ht24⟩
            · rw [sU_ne (Or.inr e), fN_ne e, hsm i (by omega)]; exact hf i (by omega)
          · intro S2 hf2 hs2 l31 hno
            first | refine z_inc1 hX (D_Model_goOn (i := 63) rfl) rfl (by decide) rfl ?_ | refine z_iinc hX (D_Model_goOn (i := 63) rfl) rfl rfl (by decide) rfl ?_
            refine z_goto (tgt := 56) hX (D_Model_goOn (i := 64) rfl) (by decide) ?_
            refine ihm (t + 1) S2 (by omega) (hfr.trans (frO_58.trans hf2)) (fun i hi => by rw [hs2 i (by omega), sU_ne (Or.inr (by omega)), hsm i hi]) l31 ?_
            rw [he, frI, if_pos hok, hno]
          · intro S2 g hf2 l31 hyes h59
            have hp := hs S2 g (hfr.trans (frO_58.trans hf2)) l31 (by rw [he, frI, if_pos hok, hyes]) h59
            have l33 : S2 40 33 = 1 := (hf2 40 33 (by omega) (by decide) (by decide)).trans ((sU_ne (by omega)).trans g33)
            first | refine z_inc1 hX (D_Model_goOn (i := 63) rfl) rfl (by decide) rfl ?_ | refine z_iinc hX (D_Model_goOn (i := 63) rfl) rfl rfl (by decide) rfl ?_
            refine z_goto (tgt := 56) hX (D_Model_goOn (i := 64) rfl) (by decide) ?_
            refine z_iload_n hX (D_Model_goOn (i := 32) rfl) rfl ?_
            refine z_bipush (v := 24) hX (D_Model_goOn (i := 33) rfl) (by decide) ?_
            refine z_icmp_ge (tgt := 118) hX (D_Model_goOn (i := 34) rfl) (by decide) (fun h9 => ?_) (fun h9 => ?_)
            · skip
              exact z_ret hX hR (D_Model_goOn (i := 65) rfl) rfl hp
            · refine z_aload_n hX (D_Model_goOn (i := 35) rfl) rfl ?_
              refine z_geti hX (D_Model_goOn (i := 36) rfl) f_Model_259 rfl (by decide) (by first | exact Nat.one_pos | assumption | omega) rfl ?_
              rw [show (tm mem S2).1 40 0 33 = 1 from l33]
              refine z_if_eq (tgt := 77) hX (D_Model_goOn (i := 37) rfl) (by decide) (fun hcc => absurd hcc (by decide)) (fun _ => ?_)
              refine z_aload_n hX (D_Model_goOn (i := 38) rfl) rfl ?_
              refine z_geti hX (D_Model_goOn (i := 39) rfl) f_Model_256 rfl (by decide) (by first | exact Nat.one_pos | assumption | omega) rfl ?_
              rw [show (tm mem S2).1 40 0 31 = 1 from l31]
              refine z_if_le (tgt := 77) hX (D_Model_goOn (i := 40) rfl) (by decide) (fun hcc => absurd hcc (by decide)) (fun _ => ?_)
              exact z_ret hX hR (D_Model_goOn (i := 41) rfl) rfl hp
        · refine z_goto (tgt := 112) hX (D_Model_goOn (i := 52) rfl) (by decide) ?_
          refine nx ?_
          unfold okS
          rw [htr, Bool.true_and]
          cases ha : alI (fun i => fpW Λ C T i j (f i) t) j with
          | false => rfl
          | true => exact absurd (by rw [cs0.mpr ha]; exact Int32.le_refl _) h1
variable {Post : Option zV → zM → Prop}
theorem d_findWays_1 (hH : zHas ι pM) (hs : mem.1 40 0 1 = nI sz) (h8 : sz ≤ 8) (hA : ArOK mem) (hC : COM mem C) (hτ : TUM mem τ sz) (hM : MyM Λ S) {b : Nat} (hb2 : b < 2 ^ sz) (h4 : (bxL b sz).length ≤ 4) (h256 : hb < 256) (hn : ∀ S', MyM Λ S' → S' 40 31 = 0 → fstS (trW hb (bxL b sz) τ) (fpW Λ C (bxL b sz)) (bxL b sz).length 0 (fun _ => 0) = none → Post none (tm mem S')) (hy : ∀ S' g, MyM Λ S' → S' 40 31 = 1 → fstS (trW hb (bxL b sz) τ) (fpW Λ C (bxL b sz)) (bxL b sz).length 0 (fun _ => 0) = some g → (∀ i, i < (bxL b sz).length → S' 59 i = nI (g i)) → Post none (tm mem S')) : zC l ι M_Model_findWays 9 [zP 40 0, zI (nI b), zI (nI hb), zI 1] (tm mem S) Post := by
  have h25 := p8 sz h8
  refine z_enter hH (by decide) (by simp [z_ent, M_Model_findWays]) (fun X hXl hX hR => ?_)
  refine z_aload_n hX (D_Model_findWays (i := 0) rfl) rfl ?_
  refine z_iload_n hX (D_Model_findWays (i := 1) rfl) rfl ?_
  refine z_cV1 hX (D_Model_findWays (i := 2) rfl) mi_Model_findTower l_Model_243 rfl rfl (by decide) (by first | exact Nat.one_pos | assumption | omega) (by first | decide | omega) (Nat.le_of_ble_eq_true rfl) (d_findTower hH hs h8 (by omega) h4 ?_)
  intro S1 f1 hT
  refine z_aload_n hX (D_Model_findWays (i := 3) rfl) rfl ?_
  refine z_iload_n hX (D_Model_findWays (i := 4) rfl) rfl ?_
  refine z_puti hX (D_Model_findWays (i := 5) rfl) g_Model_250 rfl (by decide) (by first | exact Nat.one_pos | assumption | omega) rfl ?_
  refine z_aload_n hX (D_Model_findWays (i := 6) rfl) rfl ?_
  refine z_iload_n hX (D_Model_findWays (i := 7) rfl) rfl ?_
  refine z_putz hX (D_Model_findWays (i := 8) rfl) g_Model_259 rfl (by decide) (by first | exact Nat.one_pos | assumption | omega) rfl (by first | exact Or.inl rfl | exact Or.inr rfl | assumption) ?_
  refine z_aload_n hX (D_Model_findWays (i := 9) rfl) rfl ?_
  refine z_iconst (v := 0) hX (D_Model_findWays (i := 10) rfl) (by decide) ?_
  refine z_puti hX (D_Model_findWays (i := 11) rfl) g_Model_256 rfl (by decide) (by first | exact Nat.one_pos | assumption | omega) rfl ?_
  refine z_aload_n hX (D_Model_findWays (i := 12) rfl) rfl ?_
  refine z_iconst (v := 0) hX (D_Model_findWays (i := 13) rfl) (by decide) ?_
  rw [tm_up rfl, tm_up rfl, tm_up rfl]
  generalize hS2 : sU (sU (sU S1 40 32 (nI hb)) 40 33 1) 40 31 0 = S2
  have f2 : ∀ p c, p ≠ 40 → S2 p c = S1 p c := fun p c q => by rw [← hS2, sU_ne (Or.inl q), sU_ne (Or.inl q), sU_ne (Or.inl q)]
  have e32 : S2 40 32 = nI hb := by rw [← hS2, sU_ne (by omega), sU_ne (by omega), sU_at]
  have e33 : S2 40 33 = 1 := by rw [← hS2, sU_ne (by omega), sU_at]
  have e31 : S2 40 31 = 0 := by rw [← hS2, sU_at]
  have e28 : S2 40 28 = S1 40 28 := by rw [← hS2, sU_ne (by omega), sU_ne (by omega), sU_ne (by omega)]
  have hG : GS mem S2 sz Λ C (bxL b sz) := ⟨hA, hC, h8, ⟨e28.trans hT.1, hT.2.1, fun i hi => ⟨(f2 57 i (by decide)).trans (hT.2.2 i hi).1, (hT.2.2 i hi).2⟩⟩, hM.fr (fun c => (f2 56 c (by decide)).trans (f1 56 c (by omega) (by decide)))⟩
  refine z_cV1 hX (D_Model_findWays (i := 14) rfl) mi_Model_goOn l_Model_269 rfl rfl (by decide) (by first | exact Nat.one_pos | assumption | omega) (by first | decide | omega) (Nat.le_of_ble_eq_true rfl) (d_goOn_1 (hb := hb) hH hτ h256 (bxL b sz).length 0 (fun _ => 0) S2 _ (Nat.zero_add _) hG e32 e33 e31 (fun i hi => absurd hi (Nat.not_lt_zero _)) ?_ ?_)
  · intro S3 f3 _ k31 hno
    exact z_ret hX hR (D_Model_findWays (i := 15) rfl) rfl (hn S3 (f3.gs hG).2.2.2.2 k31 hno)
  · intro S3 g f3 k31 hyes h59
    exact z_ret hX hR (D_Model_findWays (i := 15) rfl) rfl (hy S3 g (f3.gs hG).2.2.2.2 k31 hyes h59)
theorem d_findWays_n (hH : zHas ι pM) (hs : mem.1 40 0 1 = nI sz) (h8 : sz ≤ 8) (hA : ArOK mem) (hC : COM mem C) (hτ : TUM mem τ sz) (hM : MyM Λ S) {b : Nat} (hb2 : b < 2 ^ sz) (h4 : (bxL b sz).length ≤ 4) (h256 : hb < 256) (h : ∀ S', S' 40 31 = nI (cntS (trW hb (bxL b sz) τ) (fpW Λ C (bxL b sz)) (bxL b sz).length 0 (fun _ => 0)) → Post none (tm mem S')) : zC l ι M_Model_findWays 9 [zP 40 0, zI (nI b), zI (nI hb), zI 0] (tm mem S) Post := by
  have h25 := p8 sz h8
  refine z_enter hH (by decide) (by simp [z_ent, M_Model_findWays]) (fun X hXl hX hR => ?_)
  refine z_aload_n hX (D_Model_findWays (i := 0) rfl) rfl ?_
  refine z_iload_n hX (D_Model_findWays (i := 1) rfl) rfl ?_
  refine z_cV1 hX (D_Model_findWays (i := 2) rfl) mi_Model_findTower l_Model_243 rfl rfl (by decide) (by first | exact Nat.one_pos | assumption | omega) (by first | decide | omega) (Nat.le_of_ble_eq_true rfl) (d_findTower hH hs h8 (by omega) h4 ?_)
  intro S1 f1 hT
  refine z_aload_n hX (D_Model_findWays (i := 3) rfl) rfl ?_
  refine z_iload_n hX (D_Model_findWays (i := 4) rfl) rfl ?_
  refine z_puti hX (D_Model_findWays (i := 5) rfl) g_Model_250 rfl (by decide) (by first | exact Nat.one_pos | assumption | omega) rfl ?_
  refine z_aload_n hX (D_Model_findWays (i := 6) rfl) rfl ?_
  refine z_iload_n hX (D_Model_findWays (i := 7) rfl) rfl ?_
  refine z_putz hX (D_Model_findWays (i := 8) rfl) g_Model_259 rfl (by decide) (by first | exact Nat.one_pos | assumption | omega) rfl (by first | exact Or.inl rfl | exact Or.inr rfl | assumption) ?_
  refine z_aload_n hX (D_Model_findWays (i := 9) rfl) rfl ?_
  refine z_iconst (v := 0) hX (D_Model_findWays (i := 10) rfl) (by decide) ?_
  refine z_puti hX (D_Model_findWays (i := 11) rfl) g_Model_256 rfl (by decide) (by first | exact Nat.one_pos | assumption | omega) rfl ?_
  refine z_aload_n hX (D_Model_findWays (i := 12) rfl) rfl ?_
  refine z_iconst (v := 0) hX (D_Model_findWays (i := 13) rfl) (by decide) ?_
  rw [tm_up rfl, tm_up rfl, tm_up rfl]
  generalize hS2 : sU (sU (sU S1 40 32 (nI hb)) 40 33 0) 40 31 0 = S2
  have f2 : ∀ p c, p ≠ 40 → S2 p c = S1 p c := fun p c q => by rw [← hS2, sU_ne (Or.inl q), sU_ne (Or.inl q), sU_ne (Or.inl q)]
  have e32 : S2 40 32 = nI hb := by rw [← hS2, sU_ne (by omega), sU_ne (by omega), sU_at]
  have e33 : S2 40 33 = 0 := by rw [← hS2, sU_ne (by omega), sU_at]
  have e31 : S2 40 31 = nI 0 := by rw [← hS2, sU_at]; rfl
  have e28 : S2 40 28 = S1 40 28 := by rw [← hS2, sU_ne (by omega), sU_ne (by omega), sU_ne (by omega)]
  have hG : GS mem S2 sz Λ C (bxL b sz) := ⟨hA, hC, h8, ⟨e28.trans hT.1, hT.2.1, fun i hi => ⟨(f2 57 i (by decide)).trans (hT.2.2 i hi).1, (hT.2.2 i hi).2⟩⟩, hM.fr (fun c => (f2 56 c (by decide)).trans (f1 56 c (by omega) (by decide)))⟩
  refine z_cV1 hX (D_Model_findWays (i := 14) rfl) mi_Model_goOn l_Model_269 rfl rfl (by decide) (by first | exact Nat.one_pos | assumption | omega) (by first | decide | omega) (Nat.le_of_ble_eq_true rfl) (d_goOn_n (hb := hb) hH hτ h256 (bxL b sz).length 0 (fun _ => 0) S2 0 _ (Nat.zero_add _) hG e32 e33 e31 (fun i hi => absurd hi (Nat.not_lt_zero _)) ?_)
  intro S3 f3 _ k31
  rw [Nat.zero_add] at k31
  exact z_ret hX hR (D_Model_findWays (i := 15) rfl) rfl (h S3 k31)
theorem d_hasWay (hH : zHas ι pM) (hs : mem.1 40 0 1 = nI sz) (h8 : sz ≤ 8) (hA : ArOK mem) (hC : COM mem C) (hτ : TUM mem τ sz) (hM : MyM Λ S) {b : Nat} (hb2 : b < 2 ^ sz) (h4 : (bxL b 8).length ≤ 4) (h : ∀ S', MyM Λ S' → Post (some (zI (bI (hW Λ C (bxL b 8))))) (tm mem S')) : zC l ι M_Model_hasWay 10 [zP 40 0, zI (nI b)] (tm mem S) Post := by
  rw [← bxL_8 hb2 h8] at h4 h
  have eh : hW Λ C (bxL b sz) = (fstS (trW 0 (bxL b sz) τ) (fpW Λ C (bxL b sz)) (bxL b sz).length 0 (fun _ => 0)).isSome := by unfold hW; rw [trW_0 _ τ (fun _ => 0)]
  refine z_enter hH (by decide) (by simp [z_ent, M_Model_hasWay]) (fun X hXl hX hR => ?_)
  refine z_aload_n hX (D_Model_hasWay (i := 0) rfl) rfl ?_
  refine z_iload_n hX (D_Model_hasWay (i := 1) rfl) rfl ?_
  refine z_iconst (v := 0) hX (D_Model_hasWay (i := 2) rfl) (by decide) ?_
  refine z_iconst (v := 1) hX (D_Model_hasWay (i := 3) rfl) (by decide) ?_
  refine z_cV3 hX (D_Model_hasWay (i := 4) rfl) mi_Model_findWays l_Model_272 rfl rfl (by decide) (by first | exact Nat.one_pos | assumption | omega) (by first | decide | omega) (Nat.le_of_ble_eq_true rfl) (d_findWays_1 (hb := 0) hH hs h8 hA hC hτ hM hb2 h4 (by decide) ?_ ?_)
  · intro S1 hM1 k31 hno
    have := h S1 hM1
    rw [eh, hno] at this
    refine z_aload_n hX (D_Model_hasWay (i := 5) rfl) rfl ?_
    refine z_geti hX (D_Model_hasWay (i := 6) rfl) f_Model_256 rfl (by decide) (by first | exact Nat.one_pos | assumption | omega) rfl ?_
    rw [show (tm mem S1).1 40 0 31 = 0 from k31]
    refine z_if_le (tgt := 18) hX (D_Model_hasWay (i := 7) rfl) (by decide) (fun _ => ?_) (fun hcc => absurd (Int32.le_refl _) hcc)
    refine z_iconst (v := 0) hX (D_Model_hasWay (i := 10) rfl) (by decide) ?_
    exact z_zret hX hR (D_Model_hasWay (i := 11) rfl) rfl (by first | exact Or.inl rfl | exact Or.inr rfl | assumption) this
  · intro S1 g hM1 k31 hyes _
    have := h S1 hM1
    rw [eh, hyes] at this
    refine z_aload_n hX (D_Model_hasWay (i := 5) rfl) rfl ?_
    refine z_geti hX (D_Model_hasWay (i := 6) rfl) f_Model_256 rfl (by decide) (by first | exact Nat.one_pos | assumption | omega) rfl ?_
    rw [show (tm mem S1).1 40 0 31 = 1 from k31]
    refine z_if_le (tgt := 18) hX (D_Model_hasWay (i := 7) rfl) (by decide) (fun hcc => absurd hcc (by decide)) (fun _ => ?_)
    refine z_iconst (v := 1) hX (D_Model_hasWay (i := 8) rfl) (by decide) ?_
    refine z_goto (tgt := 19) hX (D_Model_hasWay (i := 9) rfl) (by decide) ?_
    exact z_zret hX hR (D_Model_hasWay (i := 11) rfl) rfl (by first | exact Or.inl rfl | exact Or.inr rfl | assumption) this
theorem tm_ex (mem : zM) : ∃ S, tm mem S = mem := ⟨_, tm_self mem⟩
theorem d_isSet (hH : zHas ι pM) {x : Int32} (hs : mem.1 40 0 1 = nI sz) (h8 : sz ≤ 8) (h : Post (some (zI (bI (inN x (2 ^ sz))))) mem) : zC l ι M_Model_isSet 0 [zP 40 0, zI x] mem Post := by
  have h256 := p8 sz h8
  refine z_enter hH (by decide) (by simp [z_ent, M_Model_isSet]) (fun X hXl hX hR => ?_)
  refine z_iload_n hX (D_Model_isSet (i := 0) rfl) rfl ?_
  refine z_if_lt (tgt := 17) hX (D_Model_isSet (i := 1) rfl) (by decide) (fun h1 => ?_) (fun h1 => ?_)
  · refine z_iconst (v := 0) hX (D_Model_isSet (i := 9) rfl) (by decide) ?_
    rw [inN_lo h1] at h
    exact z_zret hX hR (D_Model_isSet (i := 10) rfl) rfl (by first | exact Or.inl rfl | exact Or.inr rfl | assumption) h
  · refine z_iload_n hX (D_Model_isSet (i := 2) rfl) rfl ?_
    refine z_aload_n hX (D_Model_isSet (i := 3) rfl) rfl ?_
    refine z_geti hX (D_Model_isSet (i := 4) rfl) f_Model_99 rfl (by decide) (by first | exact Nat.one_pos | assumption | omega) rfl ?_
    refine z_ishr hX (D_Model_isSet (i := 5) rfl) ?_
    obtain ⟨j, j1, rfl⟩ := nI_of h1
    rw [hs]
    refine z_if_ne (tgt := 17) hX (D_Model_isSet (i := 6) rfl) (by decide) (fun h2 => ?_) (fun h2 => ?_)
    · refine z_iconst (v := 0) hX (D_Model_isSet (i := 9) rfl) (by decide) ?_
      rw [inN_nI' j1, decide_eq_false (fun w => h2 (shr_ok sz h8 j w))] at h
      exact z_zret hX hR (D_Model_isSet (i := 10) rfl) rfl (by first | exact Or.inl rfl | exact Or.inr rfl | assumption) h
    · refine z_iconst (v := 1) hX (D_Model_isSet (i := 7) rfl) (by decide) ?_
      refine z_goto (tgt := 18) hX (D_Model_isSet (i := 8) rfl) (by decide) ?_
      rw [inN_nI' j1, decide_eq_true (shr_no h8 j1 h2)] at h
      exact z_zret hX hR (D_Model_isSet (i := 10) rfl) rfl (by first | exact Or.inl rfl | exact Or.inr rfl | assumption) h
theorem d_ways (hH : zHas ι pM) {x y : Int32} {bx : Nat} (hS : MS mem sz bx C τ Λ) (hno : (inN x (2 ^ sz) = false ∨ y < -1 ∨ nI (bxL bx 8).length ≤ y) → Post (some (zI (-1))) mem) (hn : ∀ hb S', hb < 2 ^ sz → x = nI hb → y = -1 → Post (some (zI (nI (cntS (trW hb (bxL bx 8) τ) (fpW Λ C (bxL bx 8)) (bxL bx 8).length 0 (fun _ => 0))))) (tm mem S')) (hk : ∀ hb k S', hb < 2 ^ sz → x = nI hb → k < (bxL bx 8).length → y = nI k → Post (some (zI (match fstS (trW hb (bxL bx 8) τ) (fpW Λ C (bxL bx 8)) (bxL bx 8).length 0 (fun _ => 0) with | none => -2 | some g => nI (g k)))) (tm mem S')) : zC l ι M_Model_ways 10 [zP 40 0, zI x, zI y] mem Post := by
  have h8 := hS.2.1
  have h256 := p8 sz h8
  have hlen := hS.len
  rw [← bxL_8 hS.2.2.2.1 h8] at hno hn hk
  have epc : pcN bx 8 = (bxL bx sz).length := by rw [bxL_8 hS.2.2.2.1 h8, bxL_len]
  refine z_enter hH (by decide) (by simp [z_ent, M_Model_ways]) (fun X hXl hX hR => ?_)
  refine z_aload_n hX (D_Model_ways (i := 0) rfl) rfl ?_
  refine z_iload_n hX (D_Model_ways (i := 1) rfl) rfl ?_
  refine z_cV1 hX (D_Model_ways (i := 2) rfl) mi_Model_isSet l_Model_276 rfl rfl (by decide) (by first | exact Nat.one_pos | assumption | omega) (by first | decide | omega) (Nat.le_of_ble_eq_true rfl) (d_isSet hH hS.1 h8 ?_)
  refine z_if_eq (tgt := 25) hX (D_Model_ways (i := 3) rfl) (by decide) (fun g1 => ?_) (fun g1 => ?_)
  · refine z_iconst (v := -1) hX (D_Model_ways (i := 13) rfl) (by decide) ?_
    exact z_iret hX hR (D_Model_ways (i := 14) rfl) rfl (hno (Or.inl (bI_0.mp g1)))
  · refine z_iload_n hX (D_Model_ways (i := 4) rfl) rfl ?_
    refine z_iconst (v := -1) hX (D_Model_ways (i := 5) rfl) (by decide) ?_
    refine z_aload_n hX (D_Model_ways (i := 6) rfl) rfl ?_
    refine z_geti hX (D_Model_ways (i := 7) rfl) f_Model_147 rfl (by decide) (by first | exact Nat.one_pos | assumption | omega) rfl ?_
    obtain ⟨hb, hb1, rfl⟩ := inN_ex (bI_n.mp g1) (by omega)
    rw [hS.2.2.1]
    refine z_cS1 hX (D_Model_ways (i := 8) rfl) ms_Model_bitsOf l_Model_143 (by first | decide | omega) (Nat.le_of_ble_eq_true rfl) (d_bitsOf hS.b ?_)
    rw [epc]
    refine z_iconst (v := 1) hX (D_Model_ways (i := 9) rfl) (by decide) ?_
    refine z_isub hX (D_Model_ways (i := 10) rfl) ?_
    have ein : ∀ y : Int32, decide ((-1 : Int32) ≤ y ∧ y ≤ nI (bxL bx sz).length - 1) = true ↔ ¬ (y < -1 ∨ nI (bxL bx sz).length ≤ y) := by
      intro y
      have e1 : (nI (bxL bx sz).length - 1).toInt = ((bxL bx sz).length : Int) - 1 := pk_sub_toInt (b := 1) (by omega) (by decide)
      have e2 : (nI (bxL bx sz).length).toInt = ((bxL bx sz).length : Int) := nI_toInt (by omega)
      rw [decide_eq_true_iff, Int32.le_iff_toInt_le, Int32.le_iff_toInt_le, Int32.lt_iff_toInt_lt, Int32.le_iff_toInt_le, e1, e2]
      omega
    refine z_cS3 hX (D_Model_ways (i := 11) rfl) ms_Model_in l_Model_102 (by first | decide | omega) (Nat.le_of_ble_eq_true rfl) (d_in ?_)
    refine z_if_ne (tgt := 27) hX (D_Model_ways (i := 12) rfl) (by decide) (fun g2 => ?_) (fun g2 => ?_)
    · skip
      have g3 := (ein y).mp (bI_n.mp g2)
      obtain ⟨S, eS⟩ := tm_ex mem
      rw [← eS]
      refine z_aload_n hX (D_Model_ways (i := 15) rfl) rfl ?_
      refine z_cV0 hX (D_Model_ways (i := 16) rfl) mi_Model_findMay l_Model_240 rfl rfl (by decide) (by first | exact Nat.one_pos | assumption | omega) (by first | decide | omega) (Nat.le_of_ble_eq_true rfl) (d_findMay hH hS.2.2.2.2.2.2.2.1 ?_)
      intro S1 f1 hM1
      refine z_aload_n hX (D_Model_ways (i := 17) rfl) rfl ?_
      refine z_aload_n hX (D_Model_ways (i := 18) rfl) rfl ?_
      refine z_geti hX (D_Model_ways (i := 19) rfl) f_Model_147 rfl (by decide) (by first | exact Nat.one_pos | assumption | omega) rfl ?_
      refine z_iload_n hX (D_Model_ways (i := 20) rfl) rfl ?_
      refine z_iload_n hX (D_Model_ways (i := 21) rfl) rfl ?_
      rw [show (tm mem S1).1 40 0 4 = nI bx from hS.2.2.1]
      refine z_if_lt (tgt := 45) hX (D_Model_ways (i := 22) rfl) (by decide) (fun g4 => ?_) (fun g4 => ?_)
      · refine z_iconst (v := 0) hX (D_Model_ways (i := 25) rfl) (by decide) ?_
        have ey : y = -1 := by
          have a1 := Int32.lt_iff_toInt_lt.mp g4
          have a2 := Int32.le_iff_toInt_le.mp (Int32.not_lt.mp (fun w => g3 (Or.inl w)))
          have a3 : (-1 : Int32).toInt = -1 := by decide
          apply Int32.toInt_inj.mp
          rw [i32_0] at a1
          rw [a3] at a2 ⊢
          omega
        refine z_cV3 hX (D_Model_ways (i := 26) rfl) mi_Model_findWays l_Model_272 rfl rfl (by decide) (by first | exact Nat.one_pos | assumption | omega) (by first | decide | omega) (Nat.le_of_ble_eq_true rfl) (d_findWays_n (hb := hb) hH hS.1 h8 hS.2.2.2.2.2.2.2.2 hS.2.2.2.2.2.1 hS.2.2.2.2.2.2.1 hM1 hS.2.2.2.1 hlen (by omega) ?_)
        intro S2 k31
        refine z_iload_n hX (D_Model_ways (i := 27) rfl) rfl ?_
        refine z_if_ge (tgt := 58) hX (D_Model_ways (i := 28) rfl) (by decide) (fun hcc => absurd hcc (Int32.not_le.mpr g4)) (fun _ => ?_)
        refine z_aload_n hX (D_Model_ways (i := 29) rfl) rfl ?_
        refine z_geti hX (D_Model_ways (i := 30) rfl) f_Model_256 rfl (by decide) (by first | exact Nat.one_pos | assumption | omega) rfl ?_
        rw [show (tm mem S2).1 40 0 31 = _ from k31]
        exact z_iret hX hR (D_Model_ways (i := 31) rfl) rfl (hn hb S2 hb1 rfl ey)
      · refine z_iconst (v := 1) hX (D_Model_ways (i := 23) rfl) (by decide) ?_
        refine z_goto (tgt := 46) hX (D_Model_ways (i := 24) rfl) (by decide) ?_
        obtain ⟨k, k1, rfl⟩ := nI_of g4
        have hkn : k < (bxL bx sz).length := Nat.lt_of_not_le (fun w => g3 (Or.inr (nI_le w k1)))
        refine z_cV3 hX (D_Model_ways (i := 26) rfl) mi_Model_findWays l_Model_272 rfl rfl (by decide) (by first | exact Nat.one_pos | assumption | omega) (by first | decide | omega) (Nat.le_of_ble_eq_true rfl) (d_findWays_1 (hb := hb) hH hS.1 h8 hS.2.2.2.2.2.2.2.2 hS.2.2.2.2.2.1 hS.2.2.2.2.2.2.1 hM1 hS.2.2.2.1 hlen (by omega) ?_ ?_)
        · intro S2 _ k31 hno2
          have := hk hb k S2 hb1 rfl hkn rfl
          rw [hno2] at this
          refine z_iload_n hX (D_Model_ways (i := 27) rfl) rfl ?_
          refine z_if_ge (tgt := 58) hX (D_Model_ways (i := 28) rfl) (by decide) (fun _ => ?_) (fun hcc => absurd (nI_pos' k1) hcc)
          refine z_aload_n hX (D_Model_ways (i := 32) rfl) rfl ?_
          refine z_geti hX (D_Model_ways (i := 33) rfl) f_Model_256 rfl (by decide) (by first | exact Nat.one_pos | assumption | omega) rfl ?_
          rw [show (tm mem S2).1 40 0 31 = 0 from k31]
          refine z_if_ne (tgt := 70) hX (D_Model_ways (i := 34) rfl) (by decide) (fun hcc => absurd (rfl) hcc) (fun _ => ?_)
          refine z_bipush (v := -2) hX (D_Model_ways (i := 35) rfl) (by decide) ?_
          refine z_goto (tgt := 76) hX (D_Model_ways (i := 36) rfl) (by decide) ?_
          exact z_iret hX hR (D_Model_ways (i := 41) rfl) rfl this
        · intro S2 g _ k31 hyes h59
          have := hk hb k S2 hb1 rfl hkn rfl
          rw [hyes] at this
          refine z_iload_n hX (D_Model_ways (i := 27) rfl) rfl ?_
          refine z_if_ge (tgt := 58) hX (D_Model_ways (i := 28) rfl) (by decide) (fun _ => ?_) (fun hcc => absurd (nI_pos' k1) hcc)
          refine z_aload_n hX (D_Model_ways (i := 32) rfl) rfl ?_
          refine z_geti hX (D_Model_ways (i := 33) rfl) f_Model_256 rfl (by decide) (by first | exact Nat.one_pos | assumption | omega) rfl ?_
          rw [show (tm mem S2).1 40 0 31 = 1 from k31]
          refine z_if_ne (tgt := 70) hX (D_Model_ways (i := 34) rfl) (by decide) (fun _ => ?_) (fun hcc => absurd hcc (by decide))
          refine z_aload_n hX (D_Model_ways (i := 37) rfl) rfl ?_
          refine z_getc hX (D_Model_ways (i := 38) rfl) f_Model_67 rfl (by decide) (by first | exact Nat.one_pos | assumption | omega) rfl ?_
          refine z_iload_n hX (D_Model_ways (i := 39) rfl) rfl ?_
          refine z_iald (j := k) hX (D_Model_ways (i := 40) rfl) rfl (by decide) (by first | exact Nat.one_pos | assumption | omega) (by decide) rfl (by omega) ?_
          rw [show (tm mem S2).1 59 0 k = nI (g k) from h59 k hkn]
          exact z_iret hX hR (D_Model_ways (i := 41) rfl) rfl this
    · refine z_iconst (v := -1) hX (D_Model_ways (i := 13) rfl) (by decide) ?_
      exact z_iret hX hR (D_Model_ways (i := 14) rfl) rfl (hno (Or.inr (Classical.byContradiction (fun w => by rw [(ein y).mpr w] at g2; exact absurd g2 (by decide)))))
end M2
