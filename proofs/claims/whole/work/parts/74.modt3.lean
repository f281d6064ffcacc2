/-! the reference's nearest, building -/
def frY (S S' : Nat → Nat → Int32) : Prop := ∀ p c, ¬ (p = 40 ∧ c = 34) → p ≠ 58 → S' p c = S p c
theorem frY.trans {A B D : Nat → Nat → Int32} (h : frY A B) (h2 : frY B D) : frY A D := fun p c q1 q2 => (h2 p c q1 q2).trans (h p c q1 q2)
theorem frY_58 {S : Nat → Nat → Int32} {j : Nat} {v : Int32} : frY S (sU S 58 j v) := fun p c q1 q2 => sU_ne (Or.inl q2)
theorem frY.gs {mem : zM} {S S' : Nat → Nat → Int32} {sz : Nat} {Λ : Option (List lLn)} {C : Nat → Nat → Nat} {T : List Nat} (hf : frY S S') (h : GS mem S sz Λ C T) : GS mem S' sz Λ C T := by
  obtain ⟨a, b, c, d, e⟩ := h
  exact ⟨a, b, c, ⟨(hf 40 28 (by omega) (by decide)).trans d.1, d.2.1, fun i hi => ⟨(hf 57 i (by omega) (by decide)).trans (d.2.2 i hi).1, (d.2.2 i hi).2⟩⟩, e.fr (fun c => hf 56 c (by omega) (by decide))⟩
section M3
variable {l : Launch} {ι : zE} {mem : zM} {S : Nat → Nat → Int32} {sz hb : Nat} {Λ : Option (List lLn)} {C : Nat → Nat → Nat} {T : List Nat} {τ : Nat → Nat}
theorem d_findNear (hH : zHas ι pM) (hτ : TUM mem τ sz) (h256 : hb < 256) : ∀ (d j : Nat) (f : Nat → Nat) (S : Nat → Nat → Int32) (sum L : Nat) (Post : Option zV → zM → Prop), j + d = T.length → GS mem S sz Λ C T → S 40 32 = nI hb → sum ≤ 100 * j → L ≤ 25 → S 40 34 = nI L → (∀ i, i < j → S 58 i = nI (f i) ∧ f i < 24) → (∀ S', frY S S' → (∀ i, i < j → S' 58 i = S 58 i) → S' 40 34 = nI (mi L (sum + mnS (trW hb T τ) (wrW Λ C T) d j f)) → Post none (tm mem S')) → zC l ι M_Model_findNear (4 + d) [zP 40 0, zI (nI j), zI (nI sum)] (tm mem S) Post := by
  intro d
  induction d with
  | zero =>
    intro j f S sum L Post hj hG h32 hsum hL h34 hf h
    obtain rfl : j = T.length := hj
    have hT := hG.2.2.2.1
    have h4 := hT.2.1
    refine z_enter hH (by decide) (by simp [z_ent, M_Model_findNear]) (fun X hXl hX hR => ?_)
    refine z_iload_n hX (D_Model_findNear (i := 0) rfl) rfl ?_
    refine z_aload_n hX (D_Model_findNear (i := 1) rfl) rfl ?_
    refine z_geti hX (D_Model_findNear (i := 2) rfl) f_Model_279 rfl (by decide) (by first | exact Nat.one_pos | assumption | omega) rfl ?_
    rw [show (tm mem S).1 40 0 34 = nI L from h34]
    refine z_icmp_lt (tgt := 9) hX (D_Model_findNear (i := 3) rfl) (by decide) (fun h1 => ?_) (fun h1 => ?_)
    · refine z_iload_n hX (D_Model_findNear (i := 5) rfl) rfl ?_
      refine z_aload_n hX (D_Model_findNear (i := 6) rfl) rfl ?_
      refine z_geti hX (D_Model_findNear (i := 7) rfl) f_Model_237 rfl (by decide) (by first | exact Nat.one_pos | assumption | omega) rfl ?_
      rw [show (tm mem S).1 40 0 28 = nI T.length from hT.1]
      refine z_icmp_ne (tgt := 23) hX (D_Model_findNear (i := 8) rfl) (by decide) (fun hcc => absurd (rfl) hcc) (fun _ => ?_)
      refine z_aload_n hX (D_Model_findNear (i := 9) rfl) rfl ?_
      refine z_iload_n hX (D_Model_findNear (i := 10) rfl) rfl ?_
      refine z_puti hX (D_Model_findNear (i := 11) rfl) g_Model_279 rfl (by decide) (by first | exact Nat.one_pos | assumption | omega) rfl ?_
      rw [tm_up rfl]
      have hlt : sum < L := (nI_ltI (by omega) (by omega)).mp h1
      refine z_ret hX hR (D_Model_findNear (i := 12) rfl) rfl (h _ (fun p c q1 q2 => sU_ne (by omega)) (fun i hi => sU_ne (by omega)) ?_)
      rw [sU_at]
      show _ = nI (mi L (sum + 0))
      rw [mi, if_pos (by omega)]; rfl
    · skip
      have hge : L ≤ sum := Nat.le_of_not_lt (fun w => h1 (nI_lt w (by omega)))
      refine z_ret hX hR (D_Model_findNear (i := 4) rfl) rfl (h S (fun _ _ _ _ => rfl) (fun _ _ => rfl) ?_)
      show _ = nI (mi L (sum + 0))
      rw [mi, if_neg (by omega)]; exact h34
  | succ d ih =>
    intro j f S sum L Post hj hG h32 hsum hL h34 hf h
    have hjn : j < T.length := by omega
    have hT := hG.2.2.2.1
    have h4 := hT.2.1
    refine z_enter hH (by decide) (by simp [z_ent, M_Model_findNear]) (fun X hXl hX hR => ?_)
    subst hXl
    refine z_iload_n hX (D_Model_findNear (i := 0) rfl) rfl ?_
    refine z_aload_n hX (D_Model_findNear (i := 1) rfl) rfl ?_
    refine z_geti hX (D_Model_findNear (i := 2) rfl) f_Model_279 rfl (by decide) (by first | exact Nat.one_pos | assumption | omega) rfl ?_
    rw [show (tm mem S).1 40 0 34 = nI L from h34]
    refine z_icmp_lt (tgt := 9) hX (D_Model_findNear (i := 3) rfl) (by decide) (fun h1 => ?_) (fun h1 => ?_)
    · refine z_iload_n hX (D_Model_findNear (i := 5) rfl) rfl ?_
      refine z_aload_n hX (D_Model_findNear (i := 6) rfl) rfl ?_
      refine z_geti hX (D_Model_findNear (i := 7) rfl) f_Model_237 rfl (by decide) (by first | exact Nat.one_pos | assumption | omega) rfl ?_
      rw [show (tm mem S).1 40 0 28 = nI T.length from hT.1]
      refine z_icmp_ne (tgt := 23) hX (D_Model_findNear (i := 8) rfl) (by decide) (fun _ => ?_) (fun hcc => absurd hcc ((fun w => absurd ((nI_eq (by omega) (by omega)).mp w) (by omega))))
      refine z_iconst (v := 0) hX (D_Model_findNear (i := 13) rfl) (by decide) ?_
      refine z_istore_n hX (D_Model_findNear (i := 14) rfl) (by decide) rfl ?_
      suffices LP : ∀ (m t : Nat) (S1 : Nat → Nat → Int32), t + m = 24 → frY S S1 → (∀ i, i < j → S1 58 i = S 58 i) → S1 40 34 = nI (mi L (sum + mnF (trW hb T τ j) (fun t => csW (wrW Λ C T) j f t + mnS (trW hb T τ) (wrW Λ C T) d (j + 1) (fN f j t)) t)) → zW ι M_Model_findNear X 25 [some (zP 40 0), some (zI (nI j)), some (zI (nI sum)), some (zI (nI t))] [] (tm mem S1) from LP 24 0 S rfl (fun _ _ _ _ => rfl) (fun _ _ => rfl) (by rw [mnF, mi_big (by omega)]; exact h34)
      intro m
      induction m with
      | zero =>
        intro t S1 ht hfr hsm hl
        obtain rfl : t = 24 := ht
        refine z_iload_n hX (D_Model_findNear (i := 15) rfl) rfl ?_
        refine z_bipush (v := 24) hX (D_Model_findNear (i := 16) rfl) (by decide) ?_
        refine z_icmp_ge (tgt := 71) hX (D_Model_findNear (i := 17) rfl) (by decide) (fun _ => ?_) (fun hcc => absurd (Int32.le_refl _) hcc)
        exact z_ret hX hR (D_Model_findNear (i := 42) rfl) rfl (h S1 hfr hsm hl)
      | succ m ihm =>
        intro t S1 ht hfr hsm hl
        have ht24 : t < 24 := by omega
        have hG1 := hfr.gs hG
        have g32 : S1 40 32 = nI hb := (hfr 40 32 (by omega) (by decide)).trans h32
        refine z_iload_n hX (D_Model_findNear (i := 15) rfl) rfl ?_
        refine z_bipush (v := 24) hX (D_Model_findNear (i := 16) rfl) (by decide) ?_
        refine z_icmp_ge (tgt := 71) hX (D_Model_findNear (i := 17) rfl) (by decide) (fun hcc => absurd hcc (nI_ge (b := 24) ht24 (by decide))) (fun _ => ?_)
        refine z_aload_n hX (D_Model_findNear (i := 18) rfl) rfl ?_
        refine z_iload_n hX (D_Model_findNear (i := 19) rfl) rfl ?_
        refine z_iload_n hX (D_Model_findNear (i := 20) rfl) rfl ?_
        refine z_cV2 hX (D_Model_findNear (i := 21) rfl) mi_Model_isTried l_Model_262 rfl rfl (by decide) (by first | exact Nat.one_pos | assumption | omega) (by first | decide | omega) (Nat.le_of_ble_eq_true rfl) (d_isTried hH hG1.2.2.2.1 hG.2.2.1 hτ h256 g32 hjn ht24 ?_)
        cases htr : trW hb T τ j t with
        | false =>
          refine z_if_ne (tgt := 43) hX (D_Model_findNear (i := 22) rfl) (by decide) (fun hcc => absurd (rfl) hcc) (fun _ => ?_)
          refine z_goto (tgt := 65) hX (D_Model_findNear (i := 23) rfl) (by decide) ?_
          first | refine z_inc1 hX (D_Model_findNear (i := 40) rfl) rfl (by decide) rfl ?_ | refine z_iinc hX (D_Model_findNear (i := 40) rfl) rfl rfl (by decide) rfl ?_
          refine z_goto (tgt := 25) hX (D_Model_findNear (i := 41) rfl) (by decide) ?_
          refine ihm (t + 1) S1 (by omega) hfr hsm ?_
          rw [mnF, htr]; exact hl
        | true =>
          refine z_if_ne (tgt := 43) hX (D_Model_findNear (i := 22) rfl) (by decide) (fun _ => ?_) (fun hcc => absurd hcc (by decide))
          refine z_aload_n hX (D_Model_findNear (i := 24) rfl) rfl ?_
          refine z_getc hX (D_Model_findNear (i := 25) rfl) f_Model_64 rfl (by decide) (by first | exact Nat.one_pos | assumption | omega) rfl ?_
          refine z_iload_n hX (D_Model_findNear (i := 26) rfl) rfl ?_
          refine z_iload_n hX (D_Model_findNear (i := 27) rfl) rfl ?_
          refine z_iast (j := j) hX (D_Model_findNear (i := 28) rfl) rfl (by decide) (by first | exact Nat.one_pos | assumption | omega) (by decide) rfl (by omega) ?_
          rw [tm_up rfl]
          have hcs : csW (wrW Λ C T) j f t ≤ 4 * j := sumI_le (fun k _ => wrW_le _ _ _ _)
          have hG2 := frY_58 (j := j) (v := nI t) |>.gs hG1
          refine z_aload_n hX (D_Model_findNear (i := 29) rfl) rfl ?_
          refine z_iload_n hX (D_Model_findNear (i := 30) rfl) rfl ?_
          refine z_iconst (v := 1) hX (D_Model_findNear (i := 31) rfl) (by decide) ?_
          refine z_iadd hX (D_Model_findNear (i := 32) rfl) ?_
          refine z_iload_n hX (D_Model_findNear (i := 33) rfl) rfl ?_
          refine z_aload_n hX (D_Model_findNear (i := 34) rfl) rfl ?_
          refine z_iload_n hX (D_Model_findNear (i := 35) rfl) rfl ?_
          refine z_iload_n hX (D_Model_findNear (i := 36) rfl) rfl ?_
          refine z_cV2 hX (D_Model_findNear (i := 37) rfl) mi_Model_wrongWith l_Model_266 rfl rfl (by decide) (by first | exact Nat.one_pos | assumption | omega) (by first | decide | omega) (Nat.le_of_ble_eq_true rfl) (d_wrongWith (f := f) hH hG2 hjn ht24 (fun i hi => by rw [sU_ne (by omega), hsm i hi]; exact hf i hi) ?_)
          refine z_iadd hX (D_Model_findNear (i := 38) rfl) ?_
          rw [show nI j + 1 = nI (j + 1) from nI_add j 1, nI_add]
          refine z_cV2 hX (D_Model_findNear (i := 39) rfl) mi_Model_findNear l_Model_282 rfl rfl (by decide) (by first | exact Nat.one_pos | assumption | omega) (by first | decide | omega) (Nat.le_of_ble_eq_true rfl) (ih (j + 1) (fN f j t) _ (sum + csW (wrW Λ C T) j f t) _ _ (by omega) hG2 ((sU_ne (by omega)).trans g32) (by omega) (Nat.le_trans (mi_le _ _) hL) ((sU_ne (by omega)).trans hl) ?_ ?_)
          · intro i hi
            by_cases e : i = j
            · subst e
              rw [sU_at, fN_at]; exact ⟨rfl, ht24⟩
            · rw [sU_ne (Or.inr e), fN_ne e, hsm i (by omega)]; exact hf i (by omega)
          · intro S2 hf2 hs2 hl2
            first | refine z_inc1 hX (D_Model_findNear (i := 40) rfl) rfl (by decide) rfl ?_ | refine z_iinc hX (D_Model_findNear (i := 40) rfl) rfl rfl (by decide) rfl ?_
            refine z_goto (tgt := 25) hX (D_Model_findNear (i := 41) rfl) (by decide) ?_
            refine ihm (t + 1) S2 (by omega) (hfr.trans (frY_58.trans hf2)) (fun i hi => by rw [hs2 i (by omega), sU_ne (Or.inr (by omega)), hsm i hi]) ?_
            rw [hl2, mi_step, mnF, if_pos htr]
    · skip
      have hge : L ≤ sum := Nat.le_of_not_lt (fun w => h1 (nI_lt w (by omega)))
      refine z_ret hX hR (D_Model_findNear (i := 4) rfl) rfl (h S (fun _ _ _ _ => rfl) (fun _ _ => rfl) ?_)
      rw [mi_prune (x := 0) (by omega) (Nat.zero_le _)]; exact h34
variable {Post : Option zV → zM → Prop}
theorem d_near (hH : zHas ι pM) {x : Int32} {bx : Nat} (hS : MS mem sz bx C τ Λ) (hno : inN x (2 ^ sz) = false → Post (some (zI (-1))) mem) (hok : ∀ hb S', hb < 2 ^ sz → x = nI hb → Post (some (zI (nI (mi 25 (mnS (trW hb (bxL bx 8) τ) (wrW Λ C (bxL bx 8)) (bxL bx 8).length 0 (fun _ => 0)))))) (tm mem S')) : zC l ι M_Model_near 10 [zP 40 0, zI x] mem Post := by
  have h8 := hS.2.1
  have h256 := p8 sz h8
  have hlen := hS.len
  rw [← bxL_8 hS.2.2.2.1 h8] at hok
  refine z_enter hH (by decide) (by simp [z_ent, M_Model_near]) (fun X hXl hX hR => ?_)
  refine z_aload_n hX (D_Model_near (i := 0) rfl) rfl ?_
  refine z_iload_n hX (D_Model_near (i := 1) rfl) rfl ?_
  refine z_cV1 hX (D_Model_near (i := 2) rfl) mi_Model_isSet l_Model_276 rfl rfl (by decide) (by first | exact Nat.one_pos | assumption | omega) (by first | decide | omega) (Nat.le_of_ble_eq_true rfl) (d_isSet hH hS.1 h8 ?_)
  refine z_if_ne (tgt := 10) hX (D_Model_near (i := 3) rfl) (by decide) (fun g1 => ?_) (fun g1 => ?_)
  · skip
    obtain ⟨hb, hb1, rfl⟩ := inN_ex (bI_n.mp g1) (by omega)
    obtain ⟨S, eS⟩ := tm_ex mem
    rw [← eS]
    refine z_aload_n hX (D_Model_near (i := 6) rfl) rfl ?_
    refine z_cV0 hX (D_Model_near (i := 7) rfl) mi_Model_findMay l_Model_240 rfl rfl (by decide) (by first | exact Nat.one_pos | assumption | omega) (by first | decide | omega) (Nat.le_of_ble_eq_true rfl) (d_findMay hH hS.2.2.2.2.2.2.2.1 ?_)
    intro S1 f1 hM1
    refine z_aload_n hX (D_Model_near (i := 8) rfl) rfl ?_
    refine z_aload_n hX (D_Model_near (i := 9) rfl) rfl ?_
    refine z_geti hX (D_Model_near (i := 10) rfl) f_Model_147 rfl (by decide) (by first | exact Nat.one_pos | assumption | omega) rfl ?_
    rw [show (tm mem S1).1 40 0 4 = nI bx from hS.2.2.1]
    refine z_cV1 hX (D_Model_near (i := 11) rfl) mi_Model_findTower l_Model_243 rfl rfl (by decide) (by first | exact Nat.one_pos | assumption | omega) (by first | decide | omega) (Nat.le_of_ble_eq_true rfl) (d_findTower hH hS.1 h8 hS.b hlen ?_)
    intro S2 f2 hT
    refine z_aload_n hX (D_Model_near (i := 12) rfl) rfl ?_
    refine z_iload_n hX (D_Model_near (i := 13) rfl) rfl ?_
    refine z_puti hX (D_Model_near (i := 14) rfl) g_Model_250 rfl (by decide) (by first | exact Nat.one_pos | assumption | omega) rfl ?_
    refine z_aload_n hX (D_Model_near (i := 15) rfl) rfl ?_
    refine z_bipush (v := 25) hX (D_Model_near (i := 16) rfl) (by decide) ?_
    refine z_puti hX (D_Model_near (i := 17) rfl) g_Model_279 rfl (by decide) (by first | exact Nat.one_pos | assumption | omega) rfl ?_
    refine z_aload_n hX (D_Model_near (i := 18) rfl) rfl ?_
    refine z_iconst (v := 0) hX (D_Model_near (i := 19) rfl) (by decide) ?_
    refine z_iconst (v := 0) hX (D_Model_near (i := 20) rfl) (by decide) ?_
    rw [tm_up rfl, tm_up rfl]
    have hG : GS mem (sU (sU S2 40 32 (nI hb)) 40 34 25) sz Λ C (bxL bx sz) := ⟨hS.2.2.2.2.2.2.2.2, hS.2.2.2.2.2.1, h8, ⟨(sU_ne (by omega)).trans ((sU_ne (by omega)).trans hT.1), hT.2.1, fun i hi => ⟨(sU_ne (by omega)).trans ((sU_ne (by omega)).trans (hT.2.2 i hi).1), (hT.2.2 i hi).2⟩⟩, hM1.fr (fun c => (sU_ne (by omega)).trans ((sU_ne (by omega)).trans (f2 56 c (by omega) (by decide))))⟩
    refine z_cV2 hX (D_Model_near (i := 21) rfl) mi_Model_findNear l_Model_282 rfl rfl (by decide) (by first | exact Nat.one_pos | assumption | omega) (by first | decide | omega) (Nat.le_of_ble_eq_true rfl) (d_findNear (hb := hb) hH hS.2.2.2.2.2.2.1 (by omega) (bxL bx sz).length 0 (fun _ => 0) _ 0 25 _ (Nat.zero_add _) hG ((sU_ne (by omega)).trans sU_at) (by omega) (Nat.le_refl _) sU_at (fun i hi => absurd hi (Nat.not_lt_zero _)) ?_)
    intro S3 f3 _ hl
    rw [Nat.zero_add] at hl
    refine z_aload_n hX (D_Model_near (i := 22) rfl) rfl ?_
    refine z_geti hX (D_Model_near (i := 23) rfl) f_Model_279 rfl (by decide) (by first | exact Nat.one_pos | assumption | omega) rfl ?_
    rw [show (tm mem S3).1 40 0 34 = _ from hl]
    exact z_iret hX hR (D_Model_near (i := 24) rfl) rfl (hok hb S3 hb1 rfl)
  · refine z_iconst (v := -1) hX (D_Model_near (i := 4) rfl) (by decide) ?_
    exact z_iret hX hR (D_Model_near (i := 5) rfl) rfl (hno (bI_0.mp g1))
theorem d01 {y : Int32} : decide ((0 : Int32) ≤ y ∧ y ≤ 1) = true ↔ (¬ y < 0 ∧ y ≤ 1) := by
  rw [decide_eq_true_iff, Int32.not_lt]
theorem d_build (hH : zHas ι pM) {x y : Int32} {bx : Nat} (hS : MS mem sz bx C τ Λ) (hno : (inN x 24 = false ∨ y < 0 ∨ ¬ y ≤ 1) → Post (some (zI (-1))) mem) (hem : inN x 24 = true → ¬ y < 0 → y ≤ 1 → bx = 0 → Post (some (zI (-5))) mem) (hk : ∀ t S', t < 24 → x = nI t → y = 0 → bx ≠ 0 → Post (some (zI (oI (bdK (fpW Λ C (bxL bx 8)) ((bxL bx 8).length - 1) 1 (fun _ => t))))) (tm mem S')) (hl : ∀ t S', t < 24 → x = nI t → ¬ y = 0 → ¬ y < 0 → y ≤ 1 → bx ≠ 0 → Post (some (zI (nI (bdL (fpW Λ C (bxL bx 8)) ((bxL bx 8).length - 1) 1 (fun _ => t))))) (tm mem S')) : zC l ι M_Model_build 10 [zP 40 0, zI x, zI y] mem Post := by
  have h8 := hS.2.1
  have hbx := hS.b
  have hpos : bx ≠ 0 → 0 < (bxL bx 8).length := by
    intro h0
    rw [bxL_len]
    have : ∀ b, b < 256 → b ≠ 0 → 0 < pcN b 8 := by decide +kernel
    exact this bx hbx h0
  have hlen := hS.len
  rw [← bxL_8 hS.2.2.2.1 h8] at hk hl hpos
  refine z_enter hH (by decide) (by simp [z_ent, M_Model_build]) (fun X hXl hX hR => ?_)
  refine z_iload_n hX (D_Model_build (i := 0) rfl) rfl ?_
  refine z_iconst (v := 0) hX (D_Model_build (i := 1) rfl) (by decide) ?_
  refine z_bipush (v := 23) hX (D_Model_build (i := 2) rfl) (by decide) ?_
  refine z_cS3 hX (D_Model_build (i := 3) rfl) ms_Model_in l_Model_102 (by first | decide | omega) (Nat.le_of_ble_eq_true rfl) (d_in ?_)
  rw [show decide ((0 : Int32) ≤ x ∧ x ≤ 23) = inN x 24 from in0l (n := 23) (by decide)]
  refine z_if_eq (tgt := 19) hX (D_Model_build (i := 4) rfl) (by decide) (fun g1 => ?_) (fun g1 => ?_)
  · refine z_iconst (v := -1) hX (D_Model_build (i := 10) rfl) (by decide) ?_
    exact z_iret hX hR (D_Model_build (i := 11) rfl) rfl (hno (Or.inl (bI_0.mp g1)))
  · refine z_iload_n hX (D_Model_build (i := 5) rfl) rfl ?_
    refine z_iconst (v := 0) hX (D_Model_build (i := 6) rfl) (by decide) ?_
    refine z_iconst (v := 1) hX (D_Model_build (i := 7) rfl) (by decide) ?_
    have hin := bI_n.mp g1
    obtain ⟨t0, t1, rfl⟩ := inN_ex hin (by decide)
    refine z_cS3 hX (D_Model_build (i := 8) rfl) ms_Model_in l_Model_102 (by first | decide | omega) (Nat.le_of_ble_eq_true rfl) (d_in ?_)
    refine z_if_ne (tgt := 21) hX (D_Model_build (i := 9) rfl) (by decide) (fun g2 => ?_) (fun g2 => ?_)
    · refine z_aload_n hX (D_Model_build (i := 12) rfl) rfl ?_
      refine z_geti hX (D_Model_build (i := 13) rfl) f_Model_147 rfl (by decide) (by first | exact Nat.one_pos | assumption | omega) rfl ?_
      obtain ⟨y1, y2⟩ := d01.mp (bI_n.mp g2)
      rw [hS.2.2.1]
      refine z_if_ne (tgt := 31) hX (D_Model_build (i := 14) rfl) (by decide) (fun g3 => ?_) (fun g3 => ?_)
      · skip
        have h0 : bx ≠ 0 := fun w => g3 (by rw [w]; rfl)
        have hpn := hpos h0
        obtain ⟨S, eS⟩ := tm_ex mem
        rw [← eS]
        refine z_aload_n hX (D_Model_build (i := 17) rfl) rfl ?_
        refine z_cV0 hX (D_Model_build (i := 18) rfl) mi_Model_findMay l_Model_240 rfl rfl (by decide) (by first | exact Nat.one_pos | assumption | omega) (by first | decide | omega) (Nat.le_of_ble_eq_true rfl) (d_findMay hH hS.2.2.2.2.2.2.2.1 ?_)
        intro S1 f1 hM1
        refine z_aload_n hX (D_Model_build (i := 19) rfl) rfl ?_
        refine z_aload_n hX (D_Model_build (i := 20) rfl) rfl ?_
        refine z_geti hX (D_Model_build (i := 21) rfl) f_Model_147 rfl (by decide) (by first | exact Nat.one_pos | assumption | omega) rfl ?_
        rw [show (tm mem S1).1 40 0 4 = nI bx from hS.2.2.1]
        refine z_cV1 hX (D_Model_build (i := 22) rfl) mi_Model_findTower l_Model_243 rfl rfl (by decide) (by first | exact Nat.one_pos | assumption | omega) (by first | decide | omega) (Nat.le_of_ble_eq_true rfl) (d_findTower hH hS.1 h8 hbx hlen ?_)
        intro S2 f2 hT
        generalize hTT : bxL bx sz = T at *
        refine z_aload_n hX (D_Model_build (i := 23) rfl) rfl ?_
        refine z_getc hX (D_Model_build (i := 24) rfl) f_Model_64 rfl (by decide) (by first | exact Nat.one_pos | assumption | omega) rfl ?_
        refine z_iconst (v := 0) hX (D_Model_build (i := 25) rfl) (by decide) ?_
        refine z_iload_n hX (D_Model_build (i := 26) rfl) rfl ?_
        refine z_iast (j := 0) hX (D_Model_build (i := 27) rfl) rfl (by decide) (by first | exact Nat.one_pos | assumption | omega) (by decide) rfl (by omega) ?_
        rw [tm_up rfl]
        have hG : GS mem (sU S2 58 0 (nI t0)) sz Λ C T := ⟨hS.2.2.2.2.2.2.2.2, hS.2.2.2.2.2.1, h8, ⟨(sU_ne (by omega)).trans hT.1, hT.2.1, fun i hi => ⟨(sU_ne (by omega)).trans (hT.2.2 i hi).1, (hT.2.2 i hi).2⟩⟩, hM1.fr (fun c => (sU_ne (by omega)).trans (f2 56 c (by omega) (by decide)))⟩
        -- the end
        have fin : ∀ (S3 : Nat → Nat → Int32) (stk lks : Int32) (v5 v6 : Option zV), stk = oI (bdK (fpW Λ C T) (T.length - 1) 1 (fun _ => t0)) → lks = nI (bdL (fpW Λ C T) (T.length - 1) 1 (fun _ => t0)) → zW ι M_Model_build X 134 [some (zP 40 0), some (zI (nI t0)), some (zI y), some (zI lks), some (zI stk), v5, v6] [] (tm mem S3) := by
          intro S3 stk lks v5 v6 e1 e2
          refine z_iload_n hX (D_Model_build (i := 67) rfl) rfl ?_
          refine z_if_ne (tgt := 143) hX (D_Model_build (i := 68) rfl) (by decide) (fun g4 => ?_) (fun g4 => ?_)
          · refine z_iload_n hX (D_Model_build (i := 71) rfl) rfl ?_
            rw [e2]
            exact z_iret hX hR (D_Model_build (i := 72) rfl) rfl (hl t0 S3 t1 rfl g4 y1 y2 h0)
          · refine z_iload hX (D_Model_build (i := 69) rfl) rfl ?_
            refine z_goto (tgt := 144) hX (D_Model_build (i := 70) rfl) (by decide) ?_
            rw [e1]
            exact z_iret hX hR (D_Model_build (i := 72) rfl) rfl (hk t0 S3 t1 rfl g4 h0)
        refine z_iconst (v := 0) hX (D_Model_build (i := 28) rfl) (by decide) ?_
        refine z_istore_n hX (D_Model_build (i := 29) rfl) (by decide) rfl ?_
        refine z_bipush (v := -2) hX (D_Model_build (i := 30) rfl) (by decide) ?_
        refine z_istore hX (D_Model_build (i := 31) rfl) (by decide) rfl ?_
        refine z_iconst (v := 1) hX (D_Model_build (i := 32) rfl) (by decide) ?_
        refine z_istore hX (D_Model_build (i := 33) rfl) (by decide) rfl ?_
        suffices LJ : ∀ (d j L : Nat) (f : Nat → Nat) (S3 : Nat → Nat → Int32) (v6 : Option zV), j + d = T.length → 0 < j → GS mem S3 sz Λ C T → (∀ i, i < j → S3 58 i = nI (f i) ∧ f i < 24) → bdK (fpW Λ C T) (T.length - 1) 1 (fun _ => t0) = bdK (fpW Λ C T) d j f → bdL (fpW Λ C T) (T.length - 1) 1 (fun _ => t0) = L + bdL (fpW Λ C T) d j f → zW ι M_Model_build X 59 [some (zP 40 0), some (zI (nI t0)), some (zI y), some (zI (nI L)), some (zI (-2)), some (zI (nI j)), v6] [] (tm mem S3) by
          refine LJ (T.length - 1) 1 0 (fun _ => t0) _ none (by omega) (by decide) hG (fun i hi => ?_) rfl (by rw [Nat.zero_add])
          obtain rfl : i = 0 := by omega
          exact ⟨sU_at, t1⟩
        intro d
        induction d with
        | zero =>
          intro j L f S3 v6 hj h0j hG3 hf ek el
          obtain rfl : j = T.length := hj
          refine z_iload hX (D_Model_build (i := 34) rfl) rfl ?_
          refine z_aload_n hX (D_Model_build (i := 35) rfl) rfl ?_
          refine z_geti hX (D_Model_build (i := 36) rfl) f_Model_237 rfl (by decide) (by first | exact Nat.one_pos | assumption | omega) rfl ?_
          rw [show (tm mem S3).1 40 0 28 = nI T.length from hG3.2.2.2.1.1]
          refine z_icmp_ge (tgt := 134) hX (D_Model_build (i := 37) rfl) (by decide) (fun _ => ?_) (fun hcc => absurd (Int32.le_refl _) hcc)
          refine fin S3 _ _ _ _ (by rw [ek]; rfl) (by rw [el]; rfl)
        | succ d ih =>
          intro j L f S3 v6 hj h0j hG3 hf ek el
          have hjn : j < T.length := by omega
          refine z_iload hX (D_Model_build (i := 34) rfl) rfl ?_
          refine z_aload_n hX (D_Model_build (i := 35) rfl) rfl ?_
          refine z_geti hX (D_Model_build (i := 36) rfl) f_Model_237 rfl (by decide) (by first | exact Nat.one_pos | assumption | omega) rfl ?_
          rw [show (tm mem S3).1 40 0 28 = nI T.length from hG3.2.2.2.1.1]
          refine z_icmp_ge (tgt := 134) hX (D_Model_build (i := 37) rfl) (by decide) (fun hcc => absurd hcc (nI_ge hjn (by omega))) (fun _ => ?_)
          refine z_iload hX (D_Model_build (i := 38) rfl) rfl ?_
          refine z_if_ge (tgt := 134) hX (D_Model_build (i := 39) rfl) (by decide) (fun hcc => absurd hcc (by decide)) (fun _ => ?_)
          refine z_iload hX (D_Model_build (i := 40) rfl) rfl ?_
          refine z_istore hX (D_Model_build (i := 41) rfl) (by decide) rfl ?_
          refine z_iconst (v := 0) hX (D_Model_build (i := 42) rfl) (by decide) ?_
          refine z_istore hX (D_Model_build (i := 43) rfl) (by decide) rfl ?_
          suffices LU : ∀ (e u : Nat), u + e = 24 → (∀ u', u' < u → gB (fpW Λ C T) j f u' = false) → fsU (fpW Λ C T) j f = frI (fun u => if gB (fpW Λ C T) j f u = true then some u else none) u e → zW ι M_Model_build X 80 [some (zP 40 0), some (zI (nI t0)), some (zI y), some (zI (nI (L + u))), some (zI (nI j)), some (zI (nI j)), some (zI (nI u))] [] (tm mem S3) from LU 24 0 rfl (fun u' hu' => absurd hu' (Nat.not_lt_zero _)) rfl
          intro e
          induction e with
          | zero =>
            intro u hu hno2 hfs
            obtain rfl : u = 24 := hu
            have hfs : fsU (fpW Λ C T) j f = none := hfs
            have ek2 : bdK (fpW Λ C T) (T.length - 1) 1 (fun _ => t0) = some j := by rw [ek, bdK, hfs]
            have el2 : bdL (fpW Λ C T) (T.length - 1) 1 (fun _ => t0) = L + 24 := by rw [el, bdL, hfs]
            refine z_iload hX (D_Model_build (i := 44) rfl) rfl ?_
            refine z_bipush (v := 24) hX (D_Model_build (i := 45) rfl) (by decide) ?_
            refine z_icmp_ge (tgt := 128) hX (D_Model_build (i := 46) rfl) (by decide) (fun _ => ?_) (fun hcc => absurd (Int32.le_refl _) hcc)
            first | refine z_inc1 hX (D_Model_build (i := 65) rfl) rfl (by decide) rfl ?_ | refine z_iinc hX (D_Model_build (i := 65) rfl) rfl rfl (by decide) rfl ?_
            refine z_goto (tgt := 59) hX (D_Model_build (i := 66) rfl) (by decide) ?_
            refine z_iload hX (D_Model_build (i := 34) rfl) rfl ?_
            refine z_aload_n hX (D_Model_build (i := 35) rfl) rfl ?_
            refine z_geti hX (D_Model_build (i := 36) rfl) f_Model_237 rfl (by decide) (by first | exact Nat.one_pos | assumption | omega) rfl ?_
            rw [show (tm mem S3).1 40 0 28 = nI T.length from hG3.2.2.2.1.1]
            refine z_icmp_ge (tgt := 134) hX (D_Model_build (i := 37) rfl) (by decide) (fun g5 => ?_) (fun g5 => ?_)
            · skip
              exact fin S3 _ _ _ _ (by rw [ek2]; rfl) (by rw [el2])
            · refine z_iload hX (D_Model_build (i := 38) rfl) rfl ?_
              refine z_if_ge (tgt := 134) hX (D_Model_build (i := 39) rfl) (by decide) (fun _ => ?_) (fun hcc => absurd (nI_pos' (by omega)) hcc)
              exact fin S3 _ _ _ _ (by rw [ek2]; rfl) (by rw [el2])
          | succ e ihe =>
            intro u hu hno2 hfs
            have hu24 : u < 24 := by omega
            have hcl : csW (wrW Λ C T) j f u ≤ 4 * j := sumI_le (fun k _ => wrW_le _ _ _ _)
            refine z_iload hX (D_Model_build (i := 44) rfl) rfl ?_
            refine z_bipush (v := 24) hX (D_Model_build (i := 45) rfl) (by decide) ?_
            refine z_icmp_ge (tgt := 128) hX (D_Model_build (i := 46) rfl) (by decide) (fun hcc => absurd hcc (nI_ge (b := 24) hu24 (by decide))) (fun _ => ?_)
            refine z_iload hX (D_Model_build (i := 47) rfl) rfl ?_
            refine z_if_lt (tgt := 128) hX (D_Model_build (i := 48) rfl) (by decide) (fun hcc => absurd hcc ((fun w => absurd w (nI_pos (by omega))))) (fun _ => ?_)
            first | refine z_inc1 hX (D_Model_build (i := 49) rfl) rfl (by decide) rfl ?_ | refine z_iinc hX (D_Model_build (i := 49) rfl) rfl rfl (by decide) rfl ?_
            refine z_aload_n hX (D_Model_build (i := 50) rfl) rfl ?_
            refine z_iload hX (D_Model_build (i := 51) rfl) rfl ?_
            refine z_iload hX (D_Model_build (i := 52) rfl) rfl ?_
            refine z_cV2 hX (D_Model_build (i := 53) rfl) mi_Model_wrongWith l_Model_266 rfl rfl (by decide) (by first | exact Nat.one_pos | assumption | omega) (by first | decide | omega) (Nat.le_of_ble_eq_true rfl) (d_wrongWith (f := f) hH hG3 hjn hu24 hf ?_)
            refine z_if_le (tgt := 109) hX (D_Model_build (i := 54) rfl) (by decide) (fun g6 => ?_) (fun g6 => ?_)
            · refine z_aload_n hX (D_Model_build (i := 56) rfl) rfl ?_
              refine z_getc hX (D_Model_build (i := 57) rfl) f_Model_64 rfl (by decide) (by first | exact Nat.one_pos | assumption | omega) rfl ?_
              refine z_iload hX (D_Model_build (i := 58) rfl) rfl ?_
              refine z_iload hX (D_Model_build (i := 59) rfl) rfl ?_
              have hz : csW (wrW Λ C T) j f u = 0 := Nat.le_zero.mp ((nI_leI (b := 0) (by omega) (by decide)).mp g6)
              have hgb : gB (fpW Λ C T) j f u = true := cs0.mp hz
              have hfs2 : fsU (fpW Λ C T) j f = some u := by rw [hfs, frI, hgb]; rfl
              refine z_iast (j := j) hX (D_Model_build (i := 60) rfl) rfl (by decide) (by first | exact Nat.one_pos | assumption | omega) (by decide) rfl (by omega) ?_
              rw [tm_up rfl]
              refine z_bipush (v := -2) hX (D_Model_build (i := 61) rfl) (by decide) ?_
              refine z_istore hX (D_Model_build (i := 62) rfl) (by decide) rfl ?_
              first | refine z_inc1 hX (D_Model_build (i := 63) rfl) rfl (by decide) rfl ?_ | refine z_iinc hX (D_Model_build (i := 63) rfl) rfl rfl (by decide) rfl ?_
              refine z_goto (tgt := 80) hX (D_Model_build (i := 64) rfl) (by decide) ?_
              have lst : zW ι M_Model_build X 128 [some (zP 40 0), some (zI (nI t0)), some (zI y), some (zI (nI (L + u + 1))), some (zI (-2)), some (zI (nI j)), some (zI (nI (u + 1)))] [] (tm mem (sU S3 58 j (nI u))) := by
                first | refine z_inc1 hX (D_Model_build (i := 65) rfl) rfl (by decide) rfl ?_ | refine z_iinc hX (D_Model_build (i := 65) rfl) rfl rfl (by decide) rfl ?_
                refine z_goto (tgt := 59) hX (D_Model_build (i := 66) rfl) (by decide) ?_
                refine ih (j + 1) (L + u + 1) (fN f j u) _ _ (by omega) (by omega) (frY_58.gs hG3) (fun i hi => ?_) ?_ ?_
                · by_cases e : i = j
                  · subst e
                    rw [sU_at, fN_at]; exact ⟨rfl, hu24⟩
                  · rw [sU_ne (Or.inr e), fN_ne e]; exact hf i (by omega)
                · rw [ek, bdK, hfs2]
                · rw [el, bdL, hfs2]
                  simp only []
                  omega
              refine z_iload hX (D_Model_build (i := 44) rfl) rfl ?_
              refine z_bipush (v := 24) hX (D_Model_build (i := 45) rfl) (by decide) ?_
              refine z_icmp_ge (tgt := 128) hX (D_Model_build (i := 46) rfl) (by decide) (fun g7 => ?_) (fun g7 => ?_)
              · skip
                exact lst
              · refine z_iload hX (D_Model_build (i := 47) rfl) rfl ?_
                refine z_if_lt (tgt := 128) hX (D_Model_build (i := 48) rfl) (by decide) (fun _ => ?_) (fun hcc => absurd (by decide) hcc)
                exact lst
            · refine z_goto (tgt := 122) hX (D_Model_build (i := 55) rfl) (by decide) ?_
              first | refine z_inc1 hX (D_Model_build (i := 63) rfl) rfl (by decide) rfl ?_ | refine z_iinc hX (D_Model_build (i := 63) rfl) rfl rfl (by decide) rfl ?_
              have hgb : gB (fpW Λ C T) j f u = false := by
                cases ha : gB (fpW Λ C T) j f u with
                | false => rfl
                | true => exact absurd (by rw [cs0.mpr ha]; exact Int32.le_refl _) g6
              refine z_goto (tgt := 80) hX (D_Model_build (i := 64) rfl) (by decide) ?_
              refine ihe (u + 1) (by omega) (fun u' hu' => ?_) ?_
              · by_cases e : u' = u
                · rw [e]; exact hgb
                · exact hno2 u' (by omega)
              · rw [hfs, frI, hgb]; rfl
      · refine z_bipush (v := -5) hX (D_Model_build (i := 15) rfl) (by decide) ?_
        exact z_iret hX hR (D_Model_build (i := 16) rfl) rfl (hem hin y1 y2 ((nI_eq (b := 0) (by omega) (by decide)).mp g3))
    · refine z_iconst (v := -1) hX (D_Model_build (i := 10) rfl) (by decide) ?_
      refine z_iret hX hR (D_Model_build (i := 11) rfl) rfl (hno (Or.inr (Classical.byContradiction (fun w => ?_))))
      have : decide ((0 : Int32) ≤ y ∧ y ≤ 1) = true := d01.mpr ⟨fun q => w (Or.inl q), Classical.byContradiction (fun q => w (Or.inr q))⟩
      rw [this] at g2
      exact absurd g2 (by decide)
end M3
