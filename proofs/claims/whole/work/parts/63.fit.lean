/-! which turnings fit: a pair -/
def mayW (Λ : Option (List lLn)) (s i j a b : Nat) : Bool := decide (a = 6 ∨ b = 6) || mayP Λ s i j a b
def CO (mem : zM) (C : Nat → Nat → Nat) : Prop := ∀ k, k < 8 → ∀ f, f < 6 → mem.1 3 k f = nI (C k f) ∧ C k f ≤ 6
def MY (mem : zM) (Λ : Option (List lLn)) : Prop := ∀ k, k < 1176 → mem.1 8 0 k = bI (mayK Λ k)
def frF (S S' : Nat → Nat → Int32) : Prop := ∀ p c, p ≠ 16 → p ≠ 17 → S' p c = S p c
section T3
variable {l : Launch} {ι : zE} {mem : zM} {Post : Option zV → zM → Prop} {S : Nat → Nat → Int32} {n : Nat} {Λ : Option (List lLn)} {C : Nat → Nat → Nat} {T : List Nat}
theorem c_allows (hH : zHas ι pX) (hM : MY mem Λ) {pr s a b : Nat} (hp : pr < 6) (hs : s < 4) (ha : a < 7) (hb : b < 7) (h : Post (some (zI (bI (mayW Λ s (loN pr) (hiN pr) a b)))) (tw mem S)) : zC l ι M_Law_allows 0 [zP 4 0, zI (nI pr), zI (nI s), zI (nI a), zI (nI b)] (tw mem S) Post := by
  have e : (tw mem S).1 8 0 (((pr * 4 + s) * 7 + a) * 7 + b) = bI (mayW Λ s (loN pr) (hiN pr) a b) := by
    show mem.1 8 0 _ = _
    rw [hM _ (by omega), mayK_at hp hs ha hb]; rfl
  refine c_Law_allows hH.L hp hs ha hb ?_ ?_
  · rw [e]; exact bI_or _
  · rw [e]; exact h
theorem c_Tower_findAllowed (hH : zHas ι pX) (hT : TW mem S T) (hC : CO mem C) (hM : MY mem Λ) {pr s : Nat} (hp : pr < 6) (hpn : hiN pr < T.length) (hs : s < 4) (h : ∀ S', frF S S' → (∀ f, f < 6 → S' 16 (C (T.getD (loN pr) 0) f) = mkI (fun u => mayW Λ s (loN pr) (hiN pr) (C (T.getD (loN pr) 0) f) (C (T.getD (hiN pr) 0) (stN u s))) 24) → Post none (tw mem S')) : zC l ι M_Tower_findAllowed 1 [zP 9 0, zI (nI pr), zI (nI s)] (tw mem S) Post := by
  obtain ⟨p1, p2, p3, p4, p5⟩ := lo_ok pr hp
  obtain ⟨a1, a2, a3⟩ := hT.2.2.2 (loN pr) (by omega)
  obtain ⟨b1, b2, b3⟩ := hT.2.2.2 (hiN pr) hpn
  generalize hlo : T.getD (loN pr) 0 = lo at *
  generalize hhi : T.getD (hiN pr) 0 = hi at *
  refine z_enter hH (by decide) (by simp [z_ent, M_Tower_findAllowed]) (fun X hXl hX hR => ?_)
  refine z_aload_n hX (D_Tower_findAllowed (i := 0) rfl) rfl ?_
  refine z_getc hX (D_Tower_findAllowed (i := 1) rfl) f_Tower_11 rfl (by decide) (by first | exact Nat.one_pos | assumption | omega) rfl ?_
  refine z_getsN (p := 92) hX (D_Tower_findAllowed (i := 2) rfl) (by decide) (by decide) s_Tower_77 ?_
  refine z_iload_n hX (D_Tower_findAllowed (i := 3) rfl) rfl ?_
  refine z_tald (p := 92) (j := pr) hX (D_Tower_findAllowed (i := 4) rfl) (by decide) (by decide) (by decide +kernel) rfl (show pr < 6 by omega) ?_
  rw [p1]
  refine z_aldCubev (j := loN pr) hX (D_Tower_findAllowed (i := 5) rfl) rfl (by decide) (by first | exact Nat.one_pos | assumption | omega) (by decide) rfl (by omega) ?_
  rw [show (tw mem S).2.2 14 0 (loN pr) = lo from a1]
  refine z_astore_n hX (D_Tower_findAllowed (i := 6) rfl) (by decide) rfl ?_
  refine z_aload_n hX (D_Tower_findAllowed (i := 7) rfl) rfl ?_
  refine z_getc hX (D_Tower_findAllowed (i := 8) rfl) f_Tower_11 rfl (by decide) (by first | exact Nat.one_pos | assumption | omega) rfl ?_
  refine z_getsN (p := 93) hX (D_Tower_findAllowed (i := 9) rfl) (by decide) (by decide) s_Tower_90 ?_
  refine z_iload_n hX (D_Tower_findAllowed (i := 10) rfl) rfl ?_
  refine z_tald (p := 93) (j := pr) hX (D_Tower_findAllowed (i := 11) rfl) (by decide) (by decide) (by decide +kernel) rfl (show pr < 6 by omega) ?_
  rw [p2]
  refine z_aldCubev (j := hiN pr) hX (D_Tower_findAllowed (i := 12) rfl) rfl (by decide) (by first | exact Nat.one_pos | assumption | omega) (by decide) rfl (by omega) ?_
  rw [show (tw mem S).2.2 14 0 (hiN pr) = hi from b1]
  refine z_astore hX (D_Tower_findAllowed (i := 13) rfl) (by decide) rfl ?_
  refine z_aload_n hX (D_Tower_findAllowed (i := 14) rfl) rfl ?_
  refine z_getc hX (D_Tower_findAllowed (i := 15) rfl) f_Tower_24 rfl (by decide) (by first | exact Nat.one_pos | assumption | omega) rfl ?_
  refine z_iconst (v := 0) hX (D_Tower_findAllowed (i := 16) rfl) (by decide) ?_
  refine z_cS2 hX (D_Tower_findAllowed (i := 17) rfl) ms_Arrays_fill_53178 l_Tower_93 (by first | decide | omega) (Nat.le_of_ble_eq_true rfl) (c_fillI hH rfl (by decide) Nat.one_pos (by decide) ?_)
  rw [tw_fl rfl]
  refine z_iconst (v := 0) hX (D_Tower_findAllowed (i := 18) rfl) (by decide) ?_
  refine z_istore hX (D_Tower_findAllowed (i := 19) rfl) (by decide) rfl ?_
  generalize hS0 : (fun a c => if a = 17 ∧ c < 7 then (0 : Int32) else S a c) = S0
  have f0 : frF S S0 := by intro p c h1 h2; rw [← hS0]; exact if_neg (fun w => h2 w.1)
  have z0 : ∀ c, c < 7 → S0 17 c = 0 := by intro c hc; rw [← hS0]; exact if_pos ⟨rfl, hc⟩
  -- what the higher one shows
  suffices H1 : ∀ S2, frF S S2 → (∀ c, c < 7 → S2 17 c = mkI (fun u => decide (C hi (stN u s) = c)) 24) → zW ι M_Tower_findAllowed X 67 [some (zP 9 0), some (zI (nI pr)), some (zI (nI s)), some (zP 2 lo), some (zP 2 hi), some (zI (nI 24)), none, none] [] (tw mem S2) by
    suffices LP : ∀ (d t : Nat) (S1 : Nat → Nat → Int32), t + d = 24 → frF S S1 → (∀ c, c < 7 → S1 17 c = mkI (fun u => decide (u < t) && decide (C hi (stN u s) = c)) 24) → zW ι M_Tower_findAllowed X 34 [some (zP 9 0), some (zI (nI pr)), some (zI (nI s)), some (zP 2 lo), some (zP 2 hi), some (zI (nI t)), none, none] [] (tw mem S1) from LP 24 0 S0 rfl f0 (fun c hc => (z0 c hc).trans (mkI_eq0 (fun t _ => by simp)).symm)
    intro d
    induction d with
    | zero =>
      intro t S1 ht hf hv
      obtain rfl : t = 24 := ht
      refine z_iload hX (D_Tower_findAllowed (i := 20) rfl) rfl ?_
      refine z_bipush (v := 24) hX (D_Tower_findAllowed (i := 21) rfl) (by decide) ?_
      refine z_icmp_ge (tgt := 67) hX (D_Tower_findAllowed (i := 22) rfl) (by decide) (fun _ => ?_) (fun hcc => absurd (Int32.le_refl _) hcc)
      refine H1 S1 hf (fun c hc => ?_)
      rw [hv c hc]
      exact mkI_cong (fun k hk => by rw [decide_eq_true hk, Bool.true_and])
    | succ d ih =>
      intro t S1 ht hf hv
      have ht24 : t < 24 := by omega
      obtain ⟨s1, s2⟩ := st_ok t ht24 s (by omega)
      obtain ⟨c1, c2⟩ := hC hi b3 _ s2
      refine z_iload hX (D_Tower_findAllowed (i := 20) rfl) rfl ?_
      refine z_bipush (v := 24) hX (D_Tower_findAllowed (i := 21) rfl) (by decide) ?_
      refine z_icmp_ge (tgt := 67) hX (D_Tower_findAllowed (i := 22) rfl) (by decide) (fun hcc => absurd hcc (nI_ge (b := 24) ht24 (by decide))) (fun _ => ?_)
      refine z_aload_n hX (D_Tower_findAllowed (i := 23) rfl) rfl ?_
      refine z_getc hX (D_Tower_findAllowed (i := 24) rfl) f_Tower_24 rfl (by decide) (by first | exact Nat.one_pos | assumption | omega) rfl ?_
      refine z_aload hX (D_Tower_findAllowed (i := 25) rfl) rfl ?_
      refine z_iload hX (D_Tower_findAllowed (i := 26) rfl) rfl ?_
      refine z_iload_n hX (D_Tower_findAllowed (i := 27) rfl) rfl ?_
      refine z_cV2 hX (D_Tower_findAllowed (i := 28) rfl) mi_Cube_seen l_Tower_55 rfl rfl (by decide) (by first | exact Nat.one_pos | assumption | omega) (by first | decide | omega) (Nat.le_of_ble_eq_true rfl) (c_Cube_seen hH b3 ht24 (by omega) ?_)
      rw [show (tw mem S1).1 3 hi (stN t s) = nI (C hi (stN t s)) from c1]
      refine z_dup2 hX (D_Tower_findAllowed (i := 29) rfl) ?_
      refine z_iald (j := C hi (stN t s)) hX (D_Tower_findAllowed (i := 30) rfl) rfl (by decide) (by first | exact Nat.one_pos | assumption | omega) (by decide) rfl (by omega) ?_
      rw [show (tw mem S1).1 17 0 (C hi (stN t s)) = S1 17 (C hi (stN t s)) from rfl, hv _ (by omega)]
      refine z_iconst (v := 1) hX (D_Tower_findAllowed (i := 31) rfl) (by decide) ?_
      refine z_iload hX (D_Tower_findAllowed (i := 32) rfl) rfl ?_
      refine z_ishl hX (D_Tower_findAllowed (i := 33) rfl) ?_
      refine z_ior hX (D_Tower_findAllowed (i := 34) rfl) ?_
      rw [mkI_or1 _ ht24]
      refine z_iast (j := C hi (stN t s)) hX (D_Tower_findAllowed (i := 35) rfl) rfl (by decide) (by first | exact Nat.one_pos | assumption | omega) (by decide) rfl (by omega) ?_
      rw [tw_up rfl]
      first | refine z_inc1 hX (D_Tower_findAllowed (i := 36) rfl) rfl (by decide) rfl ?_ | refine z_iinc hX (D_Tower_findAllowed (i := 36) rfl) rfl rfl (by decide) rfl ?_
      refine z_goto (tgt := 34) hX (D_Tower_findAllowed (i := 37) rfl) (by decide) ?_
      refine ih (t + 1) _ (by omega) (fun p c h1 h2 => by rw [sU_ne (Or.inl h2)]; exact hf p c h1 h2) (fun c hc => ?_)
      by_cases e : c = C hi (stN t s)
      · subst e
        rw [sU_at]
        refine mkI_cong (fun k hk => ?_)
        by_cases e1 : k = t
        · subst e1
          rw [decide_eq_true (rfl : k = k), Bool.or_true, decide_eq_true (Nat.lt_succ_self k), decide_eq_true rfl]; rfl
        · rw [decide_eq_false e1, Bool.or_false]
          by_cases e2 : k < t
          · rw [decide_eq_true e2, decide_eq_true (by omega : k < t + 1)]
          · rw [decide_eq_false e2, decide_eq_false (by omega : ¬ k < t + 1)]
      · rw [sU_ne (Or.inr e), hv c hc]
        refine mkI_cong (fun k hk => ?_)
        by_cases e1 : k = t
        · subst e1
          rw [decide_eq_false (show ¬ C hi (stN k s) = c from fun w => e w.symm), Bool.and_false, Bool.and_false]
        · by_cases e2 : k < t
          · rw [decide_eq_true e2, decide_eq_true (by omega : k < t + 1)]
          · rw [decide_eq_false e2, decide_eq_false (by omega : ¬ k < t + 1)]
  intro S2 f2 v17
  refine z_aload_n hX (D_Tower_findAllowed (i := 38) rfl) rfl ?_
  refine z_getc hX (D_Tower_findAllowed (i := 39) rfl) f_Tower_21 rfl (by decide) (by first | exact Nat.one_pos | assumption | omega) rfl ?_
  refine z_iconst (v := 0) hX (D_Tower_findAllowed (i := 40) rfl) (by decide) ?_
  refine z_cS2 hX (D_Tower_findAllowed (i := 41) rfl) ms_Arrays_fill_53178 l_Tower_93 (by first | decide | omega) (Nat.le_of_ble_eq_true rfl) (c_fillI hH rfl (by decide) Nat.one_pos (by decide) ?_)
  rw [tw_fl rfl]
  refine z_iconst (v := 0) hX (D_Tower_findAllowed (i := 42) rfl) (by decide) ?_
  refine z_istore hX (D_Tower_findAllowed (i := 43) rfl) (by decide) rfl ?_
  generalize hS3 : (fun a c => if a = 16 ∧ c < 7 then (0 : Int32) else S2 a c) = S3
  have f3 : frF S S3 := by intro p c h1 h2; rw [← hS3]; exact (if_neg (fun w => h1 w.1)).trans (f2 p c h1 h2)
  have z3 : ∀ c, c < 7 → S3 16 c = 0 := by intro c hc; rw [← hS3]; exact if_pos ⟨rfl, hc⟩
  have v3 : ∀ c, c < 7 → S3 17 c = mkI (fun u => decide (C hi (stN u s) = c)) 24 := by intro c hc; rw [← hS3]; exact (if_neg (fun w => by omega)).trans (v17 c hc)
  have al : ∀ (u : Nat), u < 24 → C hi (stN u s) < 7 := fun u hu => Nat.lt_succ_of_le (hC hi b3 _ (st_ok u hu s (by omega)).2).2
  clear hS3 hS0 f0 z0 v17 f2
  suffices LF : ∀ (d F : Nat) (S1 : Nat → Nat → Int32) (v6 v7 : Option zV), z_isJ (some v6) = false → F + d = 6 → frF S S1 → (∀ c, c < 7 → S1 17 c = mkI (fun u => decide (C hi (stN u s) = c)) 24) → (∀ a, a < 7 → S1 16 a = mkI (fun u => exI (fun f => decide (C lo f = a)) F && mayW Λ s (loN pr) (hiN pr) a (C hi (stN u s))) 24) → zW ι M_Tower_findAllowed X 78 [some (zP 9 0), some (zI (nI pr)), some (zI (nI s)), some (zP 2 lo), some (zP 2 hi), some (zI (nI F)), v6, v7] [] (tw mem S1) from LF 6 0 S3 none none rfl rfl f3 v3 (fun a ha => (z3 a ha).trans (mkI_eq0 (fun t _ => by simp [exI])).symm)
  intro d
  induction d with
  | zero =>
    intro F S1 v6 v7 hJ hF hf h17 h16
    obtain rfl : F = 6 := hF
    refine z_iload hX (D_Tower_findAllowed (i := 44) rfl) rfl ?_
    refine z_bipush (v := 6) hX (D_Tower_findAllowed (i := 45) rfl) (by decide) ?_
    refine z_icmp_ge (tgt := 149) hX (D_Tower_findAllowed (i := 46) rfl) (by decide) (fun _ => ?_) (fun hcc => absurd (Int32.le_refl _) hcc)
    refine z_ret hX hR (D_Tower_findAllowed (i := 80) rfl) rfl (h S1 hf (fun f hf6 => ?_))
    rw [h16 _ (Nat.lt_succ_of_le (hC lo a3 f hf6).2)]
    exact mkI_cong (fun k hk => by rw [exI_true.mpr ⟨f, hf6, decide_eq_true rfl⟩, Bool.true_and])
  | succ d ih =>
    intro F S1 v6 v7 hJ hF hf h17 h16
    have hF6 : F < 6 := by omega
    obtain ⟨c1, c2⟩ := hC lo a3 F hF6
    refine z_iload hX (D_Tower_findAllowed (i := 44) rfl) rfl ?_
    refine z_bipush (v := 6) hX (D_Tower_findAllowed (i := 45) rfl) (by decide) ?_
    refine z_icmp_ge (tgt := 149) hX (D_Tower_findAllowed (i := 46) rfl) (by decide) (fun hcc => absurd hcc (nI_ge (b := 6) hF6 (by decide))) (fun _ => ?_)
    refine z_aload_n hX (D_Tower_findAllowed (i := 47) rfl) rfl ?_
    refine z_getc hX (D_Tower_findAllowed (i := 48) rfl) f_Tower_99 rfl (by decide) (by first | exact Nat.one_pos | assumption | omega) rfl ?_
    refine z_iload hX (D_Tower_findAllowed (i := 49) rfl) rfl ?_
    refine z_iald (j := F) hX (D_Tower_findAllowed (i := 50) rfl) rfl (by decide) (by first | exact Nat.one_pos | assumption | omega) (by decide) rfl hF6 ?_
    rw [show (tw mem S1).1 3 lo F = nI (C lo F) from c1]
    refine z_istore hX (D_Tower_findAllowed (i := 51) rfl) (by decide) rfl ?_
    refine z_iconst (v := 0) hX (D_Tower_findAllowed (i := 52) rfl) (by decide) ?_
    refine z_istore hX (D_Tower_findAllowed (i := 53) rfl) (by decide) rfl ?_
    suffices LB : ∀ (e b : Nat) (S4 : Nat → Nat → Int32), b + e = 7 → frF S S4 → (∀ c, c < 7 → S4 17 c = mkI (fun u => decide (C hi (stN u s) = c)) 24) → (∀ a, a < 7 → a ≠ C lo F → S4 16 a = S1 16 a) → S4 16 (C lo F) = mkI (fun u => (exI (fun f => decide (C lo f = C lo F)) F || decide (C hi (stN u s) < b)) && mayW Λ s (loN pr) (hiN pr) (C lo F) (C hi (stN u s))) 24 → zW ι M_Tower_findAllowed X 97 [some (zP 9 0), some (zI (nI pr)), some (zI (nI s)), some (zP 2 lo), some (zP 2 hi), some (zI (nI F)), some (zI (nI (C lo F))), some (zI (nI b))] [] (tw mem S4) from LB 7 0 S1 rfl hf h17 (fun _ _ _ => rfl) (by
      rw [h16 _ (by omega)]
      exact mkI_cong (fun k hk => by rw [decide_eq_false (Nat.not_lt_zero _), Bool.or_false]))
    intro e
    induction e with
    | zero =>
      intro b S4 hb hf4 h174 hot hme
      obtain rfl : b = 7 := hb
      refine z_iload hX (D_Tower_findAllowed (i := 54) rfl) rfl ?_
      refine z_bipush (v := 7) hX (D_Tower_findAllowed (i := 55) rfl) (by decide) ?_
      refine z_icmp_ge (tgt := 143) hX (D_Tower_findAllowed (i := 56) rfl) (by decide) (fun _ => ?_) (fun hcc => absurd (Int32.le_refl _) hcc)
      first | refine z_inc1 hX (D_Tower_findAllowed (i := 78) rfl) rfl (by decide) rfl ?_ | refine z_iinc hX (D_Tower_findAllowed (i := 78) rfl) rfl rfl (by decide) rfl ?_
      refine z_goto (tgt := 78) hX (D_Tower_findAllowed (i := 79) rfl) (by decide) ?_
      refine ih (F + 1) S4 _ _ rfl (by omega) hf4 h174 (fun a ha => ?_)
      by_cases ea : a = C lo F
      · subst ea
        rw [hme]
        exact mkI_cong (fun k hk => by rw [decide_eq_true (al k hk), Bool.or_true, exI, decide_eq_true rfl, Bool.or_true])
      · rw [hot a ha ea, h16 a ha]
        exact mkI_cong (fun k hk => by rw [exI, decide_eq_false (fun w => ea w.symm), Bool.or_false])
    | succ e ihe =>
      intro b S4 hb hf4 h174 hot hme
      have hb7 : b < 7 := by omega
      refine z_iload hX (D_Tower_findAllowed (i := 54) rfl) rfl ?_
      refine z_bipush (v := 7) hX (D_Tower_findAllowed (i := 55) rfl) (by decide) ?_
      refine z_icmp_ge (tgt := 143) hX (D_Tower_findAllowed (i := 56) rfl) (by decide) (fun hcc => absurd hcc (nI_ge (b := 7) hb7 (by decide))) (fun _ => ?_)
      refine z_aload_n hX (D_Tower_findAllowed (i := 57) rfl) rfl ?_
      refine z_getc hX (D_Tower_findAllowed (i := 58) rfl) f_Tower_37 rfl (by decide) (by first | exact Nat.one_pos | assumption | omega) rfl ?_
      refine z_iload_n hX (D_Tower_findAllowed (i := 59) rfl) rfl ?_
      refine z_iload_n hX (D_Tower_findAllowed (i := 60) rfl) rfl ?_
      refine z_iload hX (D_Tower_findAllowed (i := 61) rfl) rfl ?_
      refine z_iload hX (D_Tower_findAllowed (i := 62) rfl) rfl ?_
      refine z_cV4 hX (D_Tower_findAllowed (i := 63) rfl) mi_Law_allows l_Tower_62 rfl rfl (by decide) (by first | exact Nat.one_pos | assumption | omega) (by first | decide | omega) (Nat.le_of_ble_eq_true rfl) (c_allows hH hM hp hs (by omega) hb7 ?_)
      cases hal : mayW Λ s (loN pr) (hiN pr) (C lo F) b with
      | false =>
        refine z_if_eq (tgt := 137) hX (D_Tower_findAllowed (i := 64) rfl) (by decide) (fun _ => ?_) (fun hcc => absurd (rfl) hcc)
        first | refine z_inc1 hX (D_Tower_findAllowed (i := 76) rfl) rfl (by decide) rfl ?_ | refine z_iinc hX (D_Tower_findAllowed (i := 76) rfl) rfl rfl (by decide) rfl ?_
        refine z_goto (tgt := 97) hX (D_Tower_findAllowed (i := 77) rfl) (by decide) ?_
        refine ihe (b + 1) S4 (by omega) hf4 h174 hot ?_
        rw [hme]
        refine mkI_cong (fun k hk => ?_)
        by_cases e1 : C hi (stN k s) = b
        · rw [e1, hal, Bool.and_false, Bool.and_false]
        · by_cases e2 : C hi (stN k s) < b
          · rw [decide_eq_true e2, decide_eq_true (by omega : C hi (stN k s) < b + 1)]
          · rw [decide_eq_false e2, decide_eq_false (by omega : ¬ C hi (stN k s) < b + 1)]
      | true =>
        refine z_if_eq (tgt := 137) hX (D_Tower_findAllowed (i := 64) rfl) (by decide) (fun hcc => absurd hcc (by decide)) (fun _ => ?_)
        refine z_aload_n hX (D_Tower_findAllowed (i := 65) rfl) rfl ?_
        refine z_getc hX (D_Tower_findAllowed (i := 66) rfl) f_Tower_21 rfl (by decide) (by first | exact Nat.one_pos | assumption | omega) rfl ?_
        refine z_iload hX (D_Tower_findAllowed (i := 67) rfl) rfl ?_
        refine z_dup2 hX (D_Tower_findAllowed (i := 68) rfl) ?_
        refine z_iald (j := C lo F) hX (D_Tower_findAllowed (i := 69) rfl) rfl (by decide) (by first | exact Nat.one_pos | assumption | omega) (by decide) rfl (by omega) ?_
        rw [show (tw mem S4).1 16 0 (C lo F) = S4 16 (C lo F) from rfl, hme]
        refine z_aload_n hX (D_Tower_findAllowed (i := 70) rfl) rfl ?_
        refine z_getc hX (D_Tower_findAllowed (i := 71) rfl) f_Tower_24 rfl (by decide) (by first | exact Nat.one_pos | assumption | omega) rfl ?_
        refine z_iload hX (D_Tower_findAllowed (i := 72) rfl) rfl ?_
        refine z_iald (j := b) hX (D_Tower_findAllowed (i := 73) rfl) rfl (by decide) (by first | exact Nat.one_pos | assumption | omega) (by decide) rfl hb7 ?_
        rw [show (tw mem S4).1 17 0 b = S4 17 b from rfl, h174 b hb7]
        refine z_ior hX (D_Tower_findAllowed (i := 74) rfl) ?_
        rw [mkI_or]
        refine z_iast (j := C lo F) hX (D_Tower_findAllowed (i := 75) rfl) rfl (by decide) (by first | exact Nat.one_pos | assumption | omega) (by decide) rfl (by omega) ?_
        rw [tw_up rfl]
        first | refine z_inc1 hX (D_Tower_findAllowed (i := 76) rfl) rfl (by decide) rfl ?_ | refine z_iinc hX (D_Tower_findAllowed (i := 76) rfl) rfl rfl (by decide) rfl ?_
        refine z_goto (tgt := 97) hX (D_Tower_findAllowed (i := 77) rfl) (by decide) ?_
        refine ihe (b + 1) _ (by omega) (fun p c h1 h2 => by rw [sU_ne (Or.inl h1)]; exact hf4 p c h1 h2) (fun c hc => by rw [sU_ne (Or.inl (by decide))]; exact h174 c hc) (fun a ha ea => by rw [sU_ne (Or.inr ea)]; exact hot a ha ea) ?_
        rw [sU_at]
        refine mkI_cong (fun k hk => ?_)
        by_cases e1 : C hi (stN k s) = b
        · rw [e1, hal, decide_eq_true rfl, decide_eq_true (Nat.lt_succ_self b)]; simp
        · rw [decide_eq_false e1, Bool.or_false]
          by_cases e2 : C hi (stN k s) < b
          · rw [decide_eq_true e2, decide_eq_true (by omega : C hi (stN k s) < b + 1)]
          · rw [decide_eq_false e2, decide_eq_false (by omega : ¬ C hi (stN k s) < b + 1)]
/-- whether two turnings may be together -/
def fpW (Λ : Option (List lLn)) (C : Nat → Nat → Nat) (T : List Nat) (i j t u : Nat) : Bool := alI (fun s => mayW Λ s i j (C (T.getD i 0) (stN t s)) (C (T.getD j 0) (stN u s))) 4
def frG (pr : Nat) (S S' : Nat → Nat → Int32) : Prop := ∀ p c, p ≠ 16 → p ≠ 17 → ¬ (p = 12 ∧ pr * 24 ≤ c ∧ c < pr * 24 + 24) → S' p c = S p c
theorem c_Tower_fitPair (hH : zHas ι pX) (hT : TW mem S T) (hC : CO mem C) (hM : MY mem Λ) {pr : Nat} (hp : pr < 6) (hpn : hiN pr < T.length) (h : ∀ S', frG pr S S' → (∀ t, t < 24 → S' 12 (pr * 24 + t) = mkI (fpW Λ C T (loN pr) (hiN pr) t) 24) → Post none (tw mem S')) : zC l ι M_Tower_fitPair 2 [zP 9 0, zI (nI pr)] (tw mem S) Post := by
  obtain ⟨p1, p2, p3, p4, p5⟩ := lo_ok pr hp
  obtain ⟨a1, a2, a3⟩ := hT.2.2.2 (loN pr) (by omega)
  refine z_enter hH (by decide) (by simp [z_ent, M_Tower_fitPair]) (fun X hXl hX hR => ?_)
  refine z_aload_n hX (D_Tower_fitPair (i := 0) rfl) rfl ?_
  refine z_getc hX (D_Tower_fitPair (i := 1) rfl) f_Tower_11 rfl (by decide) (by first | exact Nat.one_pos | assumption | omega) rfl ?_
  refine z_getsN (p := 92) hX (D_Tower_fitPair (i := 2) rfl) (by decide) (by decide) s_Tower_77 ?_
  refine z_iload_n hX (D_Tower_fitPair (i := 3) rfl) rfl ?_
  refine z_tald (p := 92) (j := pr) hX (D_Tower_fitPair (i := 4) rfl) (by decide) (by decide) (by decide +kernel) rfl (show pr < 6 by omega) ?_
  rw [p1]
  refine z_aldCubev (j := loN pr) hX (D_Tower_fitPair (i := 5) rfl) rfl (by decide) (by first | exact Nat.one_pos | assumption | omega) (by decide) rfl (by omega) ?_
  rw [show (tw mem S).2.2 14 0 (loN pr) = T.getD (loN pr) 0 from a1]
  refine z_astore_n hX (D_Tower_fitPair (i := 6) rfl) (by decide) rfl ?_
  refine z_aload_n hX (D_Tower_fitPair (i := 7) rfl) rfl ?_
  refine z_getc hX (D_Tower_fitPair (i := 8) rfl) f_Tower_41 rfl (by decide) (by first | exact Nat.one_pos | assumption | omega) rfl ?_
  refine z_iload_n hX (D_Tower_fitPair (i := 9) rfl) rfl ?_
  refine z_cV1 hX (D_Tower_fitPair (i := 10) rfl) mi_Search_fitAny l_Tower_80 rfl rfl (by decide) (by first | exact Nat.one_pos | assumption | omega) (by first | decide | omega) (Nat.le_of_ble_eq_true rfl) (c_Search_fitAny hH hp ?_)
  refine z_iconst (v := 0) hX (D_Tower_fitPair (i := 11) rfl) (by decide) ?_
  refine z_istore_n hX (D_Tower_fitPair (i := 12) rfl) (by decide) rfl ?_
  generalize hS0 : fiM S (pr * 24) 24 16777215 = S0
  have f0 : frG pr S S0 := by intro p c h1 h2 h3; rw [← hS0]; exact if_neg h3
  have z0 : ∀ t, t < 24 → S0 12 (pr * 24 + t) = mkI (fun _ => true) 24 := by intro t ht; rw [← hS0, mkI_all]; exact if_pos ⟨rfl, by omega, by omega⟩
  clear hS0
  have tr : ∀ {A B : Nat → Nat → Int32}, frG pr S A → frF A B → frG pr S B := fun h1 h2 p c q1 q2 q3 => (h2 p c q1 q2).trans (h1 p c q1 q2 q3)
  have tT : ∀ {A : Nat → Nat → Int32}, frG pr S A → TW mem A T := fun hf => ⟨(hf 9 5 (by decide) (by decide) (by omega)).trans hT.1, (hf 10 0 (by decide) (by decide) (by omega)).trans hT.2.1, hT.2.2.1, fun i hi => ⟨(hT.2.2.2 i hi).1, (hf 15 i (by decide) (by decide) (by omega)).trans (hT.2.2.2 i hi).2.1, (hT.2.2.2 i hi).2.2⟩⟩
  suffices LS : ∀ (d s : Nat) (S1 : Nat → Nat → Int32) (v4 : Option zV), s + d = 4 → frG pr S S1 → (∀ t, t < 24 → S1 12 (pr * 24 + t) = mkI (fun u => alI (fun s => mayW Λ s (loN pr) (hiN pr) (C (T.getD (loN pr) 0) (stN t s)) (C (T.getD (hiN pr) 0) (stN u s))) s) 24) → zW ι M_Tower_fitPair X 21 [some (zP 9 0), some (zI (nI pr)), some (zP 2 (T.getD (loN pr) 0)), some (zI (nI s)), v4] [] (tw mem S1) from LS 4 0 S0 none rfl f0 z0
  intro d
  induction d with
  | zero =>
    intro s S1 v4 hs hf hv
    obtain rfl : s = 4 := hs
    refine z_iload_n hX (D_Tower_fitPair (i := 13) rfl) rfl ?_
    refine z_iconst (v := 4) hX (D_Tower_fitPair (i := 14) rfl) (by decide) ?_
    refine z_icmp_ge (tgt := 84) hX (D_Tower_fitPair (i := 15) rfl) (by decide) (fun _ => ?_) (fun hcc => absurd (Int32.le_refl _) hcc)
    exact z_ret hX hR (D_Tower_fitPair (i := 48) rfl) rfl (h S1 hf hv)
  | succ d ih =>
    intro s S1 v4 hs hf hv
    have hs4 : s < 4 := by omega
    refine z_iload_n hX (D_Tower_fitPair (i := 13) rfl) rfl ?_
    refine z_iconst (v := 4) hX (D_Tower_fitPair (i := 14) rfl) (by decide) ?_
    refine z_icmp_ge (tgt := 84) hX (D_Tower_fitPair (i := 15) rfl) (by decide) (fun hcc => absurd hcc (nI_ge (b := 4) hs4 (by decide))) (fun _ => ?_)
    refine z_aload_n hX (D_Tower_fitPair (i := 16) rfl) rfl ?_
    refine z_iload_n hX (D_Tower_fitPair (i := 17) rfl) rfl ?_
    refine z_iload_n hX (D_Tower_fitPair (i := 18) rfl) rfl ?_
    refine z_cV2 hX (D_Tower_fitPair (i := 19) rfl) mi_Tower_findAllowed l_Tower_83 rfl rfl (by decide) (by first | exact Nat.one_pos | assumption | omega) (by first | decide | omega) (Nat.le_of_ble_eq_true rfl) (c_Tower_findAllowed hH (tT hf) hC hM hp hpn hs4 ?_)
    intro S2 hf2 h16
    refine z_iconst (v := 0) hX (D_Tower_fitPair (i := 20) rfl) (by decide) ?_
    refine z_istore hX (D_Tower_fitPair (i := 21) rfl) (by decide) rfl ?_
    suffices LT : ∀ (e t : Nat) (S3 : Nat → Nat → Int32), t + e = 24 → (∀ p c, p ≠ 12 → S3 p c = S2 p c) → frG pr S S3 → (∀ t', t' < 24 → S3 12 (pr * 24 + t') = mkI (fun u => alI (fun s => mayW Λ s (loN pr) (hiN pr) (C (T.getD (loN pr) 0) (stN t' s)) (C (T.getD (hiN pr) 0) (stN u s))) (if t' < t then s + 1 else s)) 24) → zW ι M_Tower_fitPair X 35 [some (zP 9 0), some (zI (nI pr)), some (zP 2 (T.getD (loN pr) 0)), some (zI (nI s)), some (zI (nI t))] [] (tw mem S3) from LT 24 0 S2 rfl (fun _ _ _ => rfl) (tr hf hf2) (fun t' ht' => by rw [hf2 12 _ (by decide) (by decide), hv t' ht', if_neg (Nat.not_lt_zero _)])
    intro e
    induction e with
    | zero =>
      intro t S3 ht hkeep hf3 hv3
      obtain rfl : t = 24 := ht
      refine z_iload hX (D_Tower_fitPair (i := 22) rfl) rfl ?_
      refine z_bipush (v := 24) hX (D_Tower_fitPair (i := 23) rfl) (by decide) ?_
      refine z_icmp_ge (tgt := 78) hX (D_Tower_fitPair (i := 24) rfl) (by decide) (fun _ => ?_) (fun hcc => absurd (Int32.le_refl _) hcc)
      first | refine z_inc1 hX (D_Tower_fitPair (i := 46) rfl) rfl (by decide) rfl ?_ | refine z_iinc hX (D_Tower_fitPair (i := 46) rfl) rfl rfl (by decide) rfl ?_
      refine z_goto (tgt := 21) hX (D_Tower_fitPair (i := 47) rfl) (by decide) ?_
      refine ih (s + 1) S3 _ (by omega) hf3 (fun t' ht' => ?_)
      rw [hv3 t' ht', if_pos ht']
    | succ e ihe =>
      intro t S3 ht hkeep hf3 hv3
      have ht24 : t < 24 := by omega
      obtain ⟨s1, s2⟩ := st_ok t ht24 s (by omega)
      obtain ⟨c1, c2⟩ := hC (T.getD (loN pr) 0) a3 _ s2
      refine z_iload hX (D_Tower_fitPair (i := 22) rfl) rfl ?_
      refine z_bipush (v := 24) hX (D_Tower_fitPair (i := 23) rfl) (by decide) ?_
      refine z_icmp_ge (tgt := 78) hX (D_Tower_fitPair (i := 24) rfl) (by decide) (fun hcc => absurd hcc (nI_ge (b := 24) ht24 (by decide))) (fun _ => ?_)
      refine z_aload_n hX (D_Tower_fitPair (i := 25) rfl) rfl ?_
      refine z_getc hX (D_Tower_fitPair (i := 26) rfl) f_Tower_41 rfl (by decide) (by first | exact Nat.one_pos | assumption | omega) rfl ?_
      refine z_getc hX (D_Tower_fitPair (i := 27) rfl) f_Tower_87 rfl (by decide) (by first | exact Nat.one_pos | assumption | omega) rfl ?_
      refine z_iload_n hX (D_Tower_fitPair (i := 28) rfl) rfl ?_
      refine z_bipush (v := 24) hX (D_Tower_fitPair (i := 29) rfl) (by decide) ?_
      refine z_imul hX (D_Tower_fitPair (i := 30) rfl) ?_
      refine z_iload hX (D_Tower_fitPair (i := 31) rfl) rfl ?_
      refine z_iadd hX (D_Tower_fitPair (i := 32) rfl) ?_
      refine z_dup2 hX (D_Tower_fitPair (i := 33) rfl) ?_
      refine z_iald (j := pr * 24 + t) hX (D_Tower_fitPair (i := 34) rfl) rfl (by decide) (by first | exact Nat.one_pos | assumption | omega) (by decide) (by simp only [nlit, pk_mul, nI_add]) (by omega) ?_
      rw [show (tw mem S3).1 12 0 (pr * 24 + t) = S3 12 (pr * 24 + t) from rfl, hv3 t ht24, if_neg (Nat.lt_irrefl _)]
      refine z_aload_n hX (D_Tower_fitPair (i := 35) rfl) rfl ?_
      refine z_getc hX (D_Tower_fitPair (i := 36) rfl) f_Tower_21 rfl (by decide) (by first | exact Nat.one_pos | assumption | omega) rfl ?_
      refine z_aload_n hX (D_Tower_fitPair (i := 37) rfl) rfl ?_
      refine z_iload hX (D_Tower_fitPair (i := 38) rfl) rfl ?_
      refine z_iload_n hX (D_Tower_fitPair (i := 39) rfl) rfl ?_
      refine z_cV2 hX (D_Tower_fitPair (i := 40) rfl) mi_Cube_seen l_Tower_55 rfl rfl (by decide) (by first | exact Nat.one_pos | assumption | omega) (by first | decide | omega) (Nat.le_of_ble_eq_true rfl) (c_Cube_seen hH a3 ht24 (by omega) ?_)
      rw [show (tw mem S3).1 3 (T.getD (loN pr) 0) (stN t s) = nI (C (T.getD (loN pr) 0) (stN t s)) from c1]
      refine z_iald (j := C (T.getD (loN pr) 0) (stN t s)) hX (D_Tower_fitPair (i := 41) rfl) rfl (by decide) (by first | exact Nat.one_pos | assumption | omega) (by decide) rfl (by omega) ?_
      rw [show (tw mem S3).1 16 0 (C (T.getD (loN pr) 0) (stN t s)) = _ from (hkeep 16 _ (by decide)).trans (h16 _ s2)]
      refine z_iand hX (D_Tower_fitPair (i := 42) rfl) ?_
      rw [mkI_and]
      refine z_iast (j := pr * 24 + t) hX (D_Tower_fitPair (i := 43) rfl) rfl (by decide) (by first | exact Nat.one_pos | assumption | omega) (by decide) (by simp only [nlit, pk_mul, nI_add]) (by omega) ?_
      rw [tw_up rfl]
      first | refine z_inc1 hX (D_Tower_fitPair (i := 44) rfl) rfl (by decide) rfl ?_ | refine z_iinc hX (D_Tower_fitPair (i := 44) rfl) rfl rfl (by decide) rfl ?_
      refine z_goto (tgt := 35) hX (D_Tower_fitPair (i := 45) rfl) (by decide) ?_
      refine ihe (t + 1) _ (by omega) (fun p c h1 => by rw [sU_ne (Or.inl h1)]; exact hkeep p c h1) (fun p c h1 h2 h3 => by rw [sU_ne (by omega)]; exact hf3 p c h1 h2 h3) (fun t' ht' => ?_)
      by_cases et : t' = t
      · subst et
        rw [sU_at, if_pos (Nat.lt_succ_self _)]
        rfl
      · rw [sU_ne (by omega), hv3 t' ht']
        by_cases e2 : t' < t
        · rw [if_pos e2, if_pos (by omega)]
        · rw [if_neg e2, if_neg (by omega)]
end T3
