/-! bodies: the search upward, the whole act, the rest -/
section F3
variable {l : Launch} {ι : zE}
theorem c_Bodies_runFrom_step (hH : zHas ι pX) (n N : Nat) (hN : N = 20 ∨ True)
    (ihR : ∀ {mem : zM} {Post : Option zV → zM → Prop} {f a : Nat} {x : Int32} {dp s κ r : Nat}, (f, a) ∈ vpL → dp + n = 20 → BodyOK mem s κ r → r + (rnP n κ (nI s) f a x).2.length < 1000000 → Post (some (zI (rnP n κ (nI s) f a x).1)) (trM mem r (rnP n κ (nI s) f a x).2) → zC l ι M_Bodies_run (2 * n) [zP 27 0, zI (nI f), zI (nI a), zI x, zI (nI dp)] mem Post)
    {mem : zM} {Post : Option zV → zM → Prop} {k d : Nat} {x : Int32} {dp s κ r : Nat} (hk : k < 8) (hd : d < 4) (hdp : dp + n = 20) (hB : BodyOK mem s κ r) (hlen : r + (rfP n κ (nI s) k d x).2.length < 1000000) (h : Post (some (zI (rfP n κ (nI s) k d x).1)) (trM mem r (rfP n κ (nI s) k d x).2)) : zC l ι M_Bodies_runFrom (2 * n + 1) [zP 27 0, zI (nI k), zI (nI d), zI x, zI (nI dp)] mem Post := by
  have hvp := fnd_vp k hk d hd
  refine z_enter hH (by decide) (by simp [z_ent, M_Bodies_runFrom]) (fun X hXl hX hR => ?_)
  subst hXl
  refine z_iload_n hX (D_Bodies_runFrom (i := 0) rfl) rfl ?_
  refine z_istore hX (D_Bodies_runFrom (i := 1) rfl) (by decide) rfl ?_
  refine z_iconst (v := 0) hX (D_Bodies_runFrom (i := 2) rfl) (by decide) ?_
  refine z_istore hX (D_Bodies_runFrom (i := 3) rfl) (by decide) rfl ?_
  suffices H : ∀ (m a i : Nat) (v7 : Option zV), a < 8 → depK a ≤ m → i + m ≤ 7 → fnd a d = fnd k d → zW ι M_Bodies_runFrom X 6 [some (zP 27 0), some (zI (nI k)), some (zI (nI d)), some (zI x), some (zI (nI dp)), some (zI (nI a)), some (zI (nI i)), v7] [] mem from H 3 k 0 none hk hvp.2 (by decide) rfl
  intro m
  induction m with
  | zero =>
    intro a i v7 ha hm hi hf
    obtain ⟨e1, e2, e3⟩ := own_ok a ha d hd
    have e4 : ¬ owN a d = 0 := fun z => by
      rcases e3 with e3 | e3
      · exact e3 z
      · have := e3.2.2.2; omega
    have e5 : fnd a d = (owN a d, a) := e2.resolve_left e4
    have e6 : owN a d < 100 := by have := (vp_ok _ (hf ▸ hvp.1)).1; rw [e5] at this; exact this
    refine z_iload hX (D_Bodies_runFrom (i := 4) rfl) rfl ?_
    refine z_bipush (v := 8) hX (D_Bodies_runFrom (i := 5) rfl) (by decide) ?_
    refine z_icmp_ge (tgt := 61) hX (D_Bodies_runFrom (i := 6) rfl) (by decide) (fun hcc => absurd hcc (nI_ge (b := 8) (by omega) (by decide))) (fun _ => ?_)
    refine z_iload hX (D_Bodies_runFrom (i := 7) rfl) rfl ?_
    refine z_if_lt (tgt := 61) hX (D_Bodies_runFrom (i := 8) rfl) (by decide) (fun hcc => absurd hcc (nI_pos (by omega))) (fun _ => ?_)
    refine z_gets (p := 95) hX (D_Bodies_runFrom (i := 9) rfl) (by decide) (by decide) s_Bodies_41 ?_
    refine z_iconst (v := 4) hX (D_Bodies_runFrom (i := 10) rfl) (by decide) ?_
    refine z_iload hX (D_Bodies_runFrom (i := 11) rfl) rfl ?_
    refine z_imul hX (D_Bodies_runFrom (i := 12) rfl) ?_
    refine z_iload_n hX (D_Bodies_runFrom (i := 13) rfl) rfl ?_
    refine z_iadd hX (D_Bodies_runFrom (i := 14) rfl) ?_
    refine z_tald (p := 95) (j := 4 * a + d) hX (D_Bodies_runFrom (i := 15) rfl) (by decide) (by decide) (by decide +kernel) (by first | (simp only [nlit, nI_add, pk_mul]; done) | rfl) (show 4 * a + d < 32 by omega) ?_
    rw [e1]
    refine z_istore hX (D_Bodies_runFrom (i := 16) rfl) (by decide) rfl ?_
    refine z_iload hX (D_Bodies_runFrom (i := 17) rfl) rfl ?_
    refine z_if_eq (tgt := 47) hX (D_Bodies_runFrom (i := 18) rfl) (by decide) (fun hcc => absurd hcc (nI_ne0 (by omega) (by omega))) (fun _ => ?_)
    refine z_aload_n hX (D_Bodies_runFrom (i := 19) rfl) rfl ?_
    refine z_iload hX (D_Bodies_runFrom (i := 20) rfl) rfl ?_
    refine z_iload hX (D_Bodies_runFrom (i := 21) rfl) rfl ?_
    refine z_iload_n hX (D_Bodies_runFrom (i := 22) rfl) rfl ?_
    refine z_iload hX (D_Bodies_runFrom (i := 23) rfl) rfl ?_
    rw [hf] at e5
    simp only [rfP, e5] at hlen h
    refine z_cV4 hX (D_Bodies_runFrom (i := 24) rfl) mi_Bodies_run l_Bodies_44 rfl rfl (by decide) (by first | exact Nat.one_pos | assumption | omega) (by first | decide | omega) (Nat.le_of_ble_eq_true rfl) (ihR (by rw [← e5]; exact hvp.1) hdp hB hlen ?_)
    exact z_iret hX hR (D_Bodies_runFrom (i := 25) rfl) rfl (by assumption)
  | succ m ih =>
    intro a i v7 ha hm hi hf
    obtain ⟨e1, e2, e3⟩ := own_ok a ha d hd
    refine z_iload hX (D_Bodies_runFrom (i := 4) rfl) rfl ?_
    refine z_bipush (v := 8) hX (D_Bodies_runFrom (i := 5) rfl) (by decide) ?_
    refine z_icmp_ge (tgt := 61) hX (D_Bodies_runFrom (i := 6) rfl) (by decide) (fun hcc => absurd hcc (nI_ge (b := 8) (by omega) (by decide))) (fun _ => ?_)
    refine z_iload hX (D_Bodies_runFrom (i := 7) rfl) rfl ?_
    refine z_if_lt (tgt := 61) hX (D_Bodies_runFrom (i := 8) rfl) (by decide) (fun hcc => absurd hcc (nI_pos (by omega))) (fun _ => ?_)
    refine z_gets (p := 95) hX (D_Bodies_runFrom (i := 9) rfl) (by decide) (by decide) s_Bodies_41 ?_
    refine z_iconst (v := 4) hX (D_Bodies_runFrom (i := 10) rfl) (by decide) ?_
    refine z_iload hX (D_Bodies_runFrom (i := 11) rfl) rfl ?_
    refine z_imul hX (D_Bodies_runFrom (i := 12) rfl) ?_
    refine z_iload_n hX (D_Bodies_runFrom (i := 13) rfl) rfl ?_
    refine z_iadd hX (D_Bodies_runFrom (i := 14) rfl) ?_
    refine z_tald (p := 95) (j := 4 * a + d) hX (D_Bodies_runFrom (i := 15) rfl) (by decide) (by decide) (by decide +kernel) (by first | (simp only [nlit, nI_add, pk_mul]; done) | rfl) (show 4 * a + d < 32 by omega) ?_
    rw [e1]
    refine z_istore hX (D_Bodies_runFrom (i := 16) rfl) (by decide) rfl ?_
    refine z_iload hX (D_Bodies_runFrom (i := 17) rfl) rfl ?_
    by_cases e4 : owN a d = 0
    · have e5 := e3.resolve_left (fun z => z e4)
      rw [e4]
      refine z_if_eq (tgt := 47) hX (D_Bodies_runFrom (i := 18) rfl) (by decide) (fun _ => ?_) (fun hcc => absurd (rfl) hcc)
      refine z_gets (p := 94) hX (D_Bodies_runFrom (i := 26) rfl) (by decide) (by decide) s_Bodies_22 ?_
      refine z_iload hX (D_Bodies_runFrom (i := 27) rfl) rfl ?_
      refine z_tald (p := 94) (j := a) hX (D_Bodies_runFrom (i := 28) rfl) (by decide) (by decide) (by decide +kernel) rfl ha ?_
      rw [e5.2.1]
      refine z_istore hX (D_Bodies_runFrom (i := 29) rfl) (by decide) rfl ?_
      first | refine z_inc1 hX (D_Bodies_runFrom (i := 30) rfl) rfl (by decide) rfl ?_ | refine z_iinc hX (D_Bodies_runFrom (i := 30) rfl) rfl rfl (by decide) rfl ?_
      refine z_goto (tgt := 6) hX (D_Bodies_runFrom (i := 31) rfl) (by decide) ?_
      exact ih (abN a) (i + 1) _ e5.2.2.1 (by omega) (by omega) (e5.1 ▸ hf)
    · have e5 : fnd a d = (owN a d, a) := e2.resolve_left e4
      have e6 : owN a d < 100 := by have := (vp_ok _ (hf ▸ hvp.1)).1; rw [e5] at this; exact this
      refine z_if_eq (tgt := 47) hX (D_Bodies_runFrom (i := 18) rfl) (by decide) (fun hcc => absurd hcc (nI_ne0 (by omega) (by omega))) (fun _ => ?_)
      refine z_aload_n hX (D_Bodies_runFrom (i := 19) rfl) rfl ?_
      refine z_iload hX (D_Bodies_runFrom (i := 20) rfl) rfl ?_
      refine z_iload hX (D_Bodies_runFrom (i := 21) rfl) rfl ?_
      refine z_iload_n hX (D_Bodies_runFrom (i := 22) rfl) rfl ?_
      refine z_iload hX (D_Bodies_runFrom (i := 23) rfl) rfl ?_
      rw [hf] at e5
      simp only [rfP, e5] at hlen h
      refine z_cV4 hX (D_Bodies_runFrom (i := 24) rfl) mi_Bodies_run l_Bodies_44 rfl rfl (by decide) (by first | exact Nat.one_pos | assumption | omega) (by first | decide | omega) (Nat.le_of_ble_eq_true rfl) (ihR (by rw [← e5]; exact hvp.1) hdp hB hlen ?_)
      exact z_iret hX hR (D_Bodies_runFrom (i := 25) rfl) rfl (by assumption)
theorem c_Bodies_run_0 (hH : zHas ι pX) {mem : zM} {Post : Option zV → zM → Prop} {f a : Nat} {x : Int32} {dp s κ r : Nat} (hdp : dp + 0 = 20) (h : Post (some (zI (rnP 0 κ (nI s) f a x).1)) (trM mem r (rnP 0 κ (nI s) f a x).2)) : zC l ι M_Bodies_run (2 * 0) [zP 27 0, zI (nI f), zI (nI a), zI x, zI (nI dp)] mem Post := by
  refine z_enter hH (by decide) (by simp [z_ent, M_Bodies_run]) (fun X hXl hX hR => ?_)
  refine z_iload hX (D_Bodies_run (i := 0) rfl) rfl ?_
  refine z_bipush (v := 20) hX (D_Bodies_run (i := 1) rfl) (by decide) ?_
  refine z_icmp_lt (tgt := 9) hX (D_Bodies_run (i := 2) rfl) (by decide) (fun hcc => absurd hcc (nI_nlt (b := 20) (by omega) (by omega))) (fun _ => ?_)
  refine z_iconst (v := 0) hX (D_Bodies_run (i := 3) rfl) (by decide) ?_
  exact z_iret hX hR (D_Bodies_run (i := 4) rfl) rfl h
theorem c_Bodies_both (hH : zHas ι pX) : ∀ n : Nat, (∀ {mem : zM} {Post : Option zV → zM → Prop} {f a : Nat} {x : Int32} {dp s κ r : Nat}, (f, a) ∈ vpL → dp + n = 20 → BodyOK mem s κ r → r + (rnP n κ (nI s) f a x).2.length < 1000000 → Post (some (zI (rnP n κ (nI s) f a x).1)) (trM mem r (rnP n κ (nI s) f a x).2) → zC l ι M_Bodies_run (2 * n) [zP 27 0, zI (nI f), zI (nI a), zI x, zI (nI dp)] mem Post) ∧ (∀ {mem : zM} {Post : Option zV → zM → Prop} {k d : Nat} {x : Int32} {dp s κ r : Nat}, k < 8 → d < 4 → dp + n = 20 → BodyOK mem s κ r → r + (rfP n κ (nI s) k d x).2.length < 1000000 → Post (some (zI (rfP n κ (nI s) k d x).1)) (trM mem r (rfP n κ (nI s) k d x).2) → zC l ι M_Bodies_runFrom (2 * n + 1) [zP 27 0, zI (nI k), zI (nI d), zI x, zI (nI dp)] mem Post) := by
  intro n
  induction n with
  | zero =>
    have R : ∀ {mem : zM} {Post : Option zV → zM → Prop} {f a : Nat} {x : Int32} {dp s κ r : Nat}, (f, a) ∈ vpL → dp + 0 = 20 → BodyOK mem s κ r → r + (rnP 0 κ (nI s) f a x).2.length < 1000000 → Post (some (zI (rnP 0 κ (nI s) f a x).1)) (trM mem r (rnP 0 κ (nI s) f a x).2) → zC l ι M_Bodies_run (2 * 0) [zP 27 0, zI (nI f), zI (nI a), zI x, zI (nI dp)] mem Post := fun _ h2 _ _ h5 => c_Bodies_run_0 hH h2 h5
    exact ⟨R, c_Bodies_runFrom_step hH 0 0 (Or.inr trivial) R⟩
  | succ n ih =>
    have R : ∀ {mem : zM} {Post : Option zV → zM → Prop} {f a : Nat} {x : Int32} {dp s κ r : Nat}, (f, a) ∈ vpL → dp + (n + 1) = 20 → BodyOK mem s κ r → r + (rnP (n + 1) κ (nI s) f a x).2.length < 1000000 → Post (some (zI (rnP (n + 1) κ (nI s) f a x).1)) (trM mem r (rnP (n + 1) κ (nI s) f a x).2) → zC l ι M_Bodies_run (2 * (n + 1)) [zP 27 0, zI (nI f), zI (nI a), zI x, zI (nI dp)] mem Post := fun h1 h2 h3 h4 h5 => c_Bodies_run_step hH n ih.2 h1 h2 h3 h4 h5
    exact ⟨R, c_Bodies_runFrom_step hH (n + 1) 0 (Or.inr trivial) R⟩
variable {mem : zM} {Post : Option zV → zM → Prop} {x y z : Int32}
theorem c_Bodies_perform_no (hH : zHas ι pX) {nb : Nat} (hn : mem.1 27 0 1 = nI nb) (h50 : nb ≤ 50) (hno : (inN x nb && inN y 4) = false) (h : Post (some (zI 0)) (upI mem 27 0 3 0)) : zC l ι M_Bodies_perform 42 [zP 27 0, zI x, zI y, zI z] mem Post := by
  have e : (upI mem 27 0 3 0).1 27 0 1 = nI nb := by simp [upI_get, hn]
  refine z_enter hH (by decide) (by simp [z_ent, M_Bodies_perform]) (fun X hXl hX hR => ?_)
  refine z_aload_n hX (D_Bodies_perform (i := 0) rfl) rfl ?_
  refine z_iconst (v := 0) hX (D_Bodies_perform (i := 1) rfl) (by decide) ?_
  refine z_puti hX (D_Bodies_perform (i := 2) rfl) g_Bodies_25 rfl (by decide) (by first | exact Nat.one_pos | assumption | omega) rfl ?_
  refine z_iload_n hX (D_Bodies_perform (i := 3) rfl) rfl ?_
  refine z_if_lt (tgt := 26) hX (D_Bodies_perform (i := 4) rfl) (by decide) (fun h1 => ?_) (fun h1 => ?_)
  · refine z_iconst (v := 0) hX (D_Bodies_perform (i := 14) rfl) (by decide) ?_
    exact z_iret hX hR (D_Bodies_perform (i := 15) rfl) rfl (by assumption)
  · refine z_iload_n hX (D_Bodies_perform (i := 5) rfl) rfl ?_
    refine z_aload_n hX (D_Bodies_perform (i := 6) rfl) rfl ?_
    refine z_geti hX (D_Bodies_perform (i := 7) rfl) f_Bodies_18 rfl (by decide) (by first | exact Nat.one_pos | assumption | omega) rfl ?_
    rw [e]
    refine z_icmp_ge (tgt := 26) hX (D_Bodies_perform (i := 8) rfl) (by decide) (fun h2 => ?_) (fun h2 => ?_)
    · refine z_iconst (v := 0) hX (D_Bodies_perform (i := 14) rfl) (by decide) ?_
      exact z_iret hX hR (D_Bodies_perform (i := 15) rfl) rfl (by assumption)
    · refine z_iload_n hX (D_Bodies_perform (i := 9) rfl) rfl ?_
      refine z_if_lt (tgt := 26) hX (D_Bodies_perform (i := 10) rfl) (by decide) (fun h3 => ?_) (fun h3 => ?_)
      · refine z_iconst (v := 0) hX (D_Bodies_perform (i := 14) rfl) (by decide) ?_
        exact z_iret hX hR (D_Bodies_perform (i := 15) rfl) rfl (by assumption)
      · refine z_iload_n hX (D_Bodies_perform (i := 11) rfl) rfl ?_
        refine z_iconst (v := 4) hX (D_Bodies_perform (i := 12) rfl) (by decide) ?_
        refine z_icmp_lt (tgt := 28) hX (D_Bodies_perform (i := 13) rfl) (by decide) (fun h4 => ?_) (fun h4 => ?_)
        · skip
          rw [inN_in h1 h2 (by omega), inN_in (n := 4) h3 (fun z => absurd h4 (Int32.not_lt.mpr z)) (by decide)] at hno
          cases hno
        · refine z_iconst (v := 0) hX (D_Bodies_perform (i := 14) rfl) (by decide) ?_
          exact z_iret hX hR (D_Bodies_perform (i := 15) rfl) rfl (by assumption)
theorem c_Bodies_perform (hH : zHas ι pX) {nb b d κ : Nat} (hn : mem.1 27 0 1 = nI nb) (h50 : nb ≤ 50) (hb : b < nb) (hd : d < 4) (hκ : mem.1 28 0 b = nI κ) (h8 : κ < 8) (hlen : (rfP 20 κ (nI b) κ d z).2.length < 1000000) (h : Post (some (zI (rfP 20 κ (nI b) κ d z).1)) (trM (upI (upI mem 27 0 3 0) 27 0 4 (nI b)) 0 (rfP 20 κ (nI b) κ d z).2)) : zC l ι M_Bodies_perform 42 [zP 27 0, zI (nI b), zI (nI d), zI z] mem Post := by
  have e : (upI mem 27 0 3 0).1 27 0 1 = nI nb := by simp [upI_get, hn]
  have e2 : (upI (upI mem 27 0 3 0) 27 0 4 (nI b)).1 27 0 4 = nI b := by simp [upI_get]
  have e3 : (upI (upI mem 27 0 3 0) 27 0 4 (nI b)).1 28 0 b = nI κ := by simp [upI_get, hκ]
  have e4 : (upI (upI mem 27 0 3 0) 27 0 4 (nI b)).1 27 0 3 = nI 0 := by simp [upI_get]; rfl
  refine z_enter hH (by decide) (by simp [z_ent, M_Bodies_perform]) (fun X hXl hX hR => ?_)
  refine z_aload_n hX (D_Bodies_perform (i := 0) rfl) rfl ?_
  refine z_iconst (v := 0) hX (D_Bodies_perform (i := 1) rfl) (by decide) ?_
  refine z_puti hX (D_Bodies_perform (i := 2) rfl) g_Bodies_25 rfl (by decide) (by first | exact Nat.one_pos | assumption | omega) rfl ?_
  refine z_iload_n hX (D_Bodies_perform (i := 3) rfl) rfl ?_
  refine z_if_lt (tgt := 26) hX (D_Bodies_perform (i := 4) rfl) (by decide) (fun hcc => absurd hcc (nI_pos (by omega))) (fun _ => ?_)
  refine z_iload_n hX (D_Bodies_perform (i := 5) rfl) rfl ?_
  refine z_aload_n hX (D_Bodies_perform (i := 6) rfl) rfl ?_
  refine z_geti hX (D_Bodies_perform (i := 7) rfl) f_Bodies_18 rfl (by decide) (by first | exact Nat.one_pos | assumption | omega) rfl ?_
  rw [e]
  refine z_icmp_ge (tgt := 26) hX (D_Bodies_perform (i := 8) rfl) (by decide) (fun hcc => absurd hcc (nI_ge hb (by omega))) (fun _ => ?_)
  refine z_iload_n hX (D_Bodies_perform (i := 9) rfl) rfl ?_
  refine z_if_lt (tgt := 26) hX (D_Bodies_perform (i := 10) rfl) (by decide) (fun hcc => absurd hcc (nI_pos (by omega))) (fun _ => ?_)
  refine z_iload_n hX (D_Bodies_perform (i := 11) rfl) rfl ?_
  refine z_iconst (v := 4) hX (D_Bodies_perform (i := 12) rfl) (by decide) ?_
  refine z_icmp_lt (tgt := 28) hX (D_Bodies_perform (i := 13) rfl) (by decide) (fun _ => ?_) (fun hcc => absurd (nI_lt (b := 4) hd (by decide)) hcc)
  refine z_aload_n hX (D_Bodies_perform (i := 16) rfl) rfl ?_
  refine z_iload_n hX (D_Bodies_perform (i := 17) rfl) rfl ?_
  refine z_puti hX (D_Bodies_perform (i := 18) rfl) g_Bodies_34 rfl (by decide) (by first | exact Nat.one_pos | assumption | omega) rfl ?_
  refine z_aload_n hX (D_Bodies_perform (i := 19) rfl) rfl ?_
  refine z_aload_n hX (D_Bodies_perform (i := 20) rfl) rfl ?_
  refine z_getc hX (D_Bodies_perform (i := 21) rfl) f_Bodies_11 rfl (by decide) (by first | exact Nat.one_pos | assumption | omega) rfl ?_
  refine z_aload_n hX (D_Bodies_perform (i := 22) rfl) rfl ?_
  refine z_geti hX (D_Bodies_perform (i := 23) rfl) f_Bodies_34 rfl (by decide) (by first | exact Nat.one_pos | assumption | omega) rfl ?_
  rw [e2]
  refine z_iald (j := b) hX (D_Bodies_perform (i := 24) rfl) rfl (by decide) (by first | exact Nat.one_pos | assumption | omega) (by decide) rfl (by omega) ?_
  rw [e3]
  refine z_iload_n hX (D_Bodies_perform (i := 25) rfl) rfl ?_
  refine z_iload_n hX (D_Bodies_perform (i := 26) rfl) rfl ?_
  refine z_iconst (v := 0) hX (D_Bodies_perform (i := 27) rfl) (by decide) ?_
  refine z_cV4 hX (D_Bodies_perform (i := 28) rfl) mi_Bodies_runFrom l_Bodies_37 rfl rfl (by decide) (by first | exact Nat.one_pos | assumption | omega) (by first | decide | omega) (Nat.le_of_ble_eq_true rfl) ((c_Bodies_both hH 20).2 (dp := 0) h8 hd rfl ⟨e2, by omega, e3, h8, e4⟩ (by rw [Nat.zero_add]; exact hlen) ?_)
  exact z_iret hX hR (D_Bodies_perform (i := 29) rfl) rfl (by assumption)
theorem c_Bodies_add (hH : zHas ι pX) {nb : Nat} (hn : mem.1 27 0 1 = nI nb) (hb : nb < 50) (h : Post (some (zI (nI nb))) (upI (upI mem 28 0 nb x) 27 0 1 (nI (nb + 1)))) : zC l ι M_Bodies_add 0 [zP 27 0, zI x] mem Post := by
  have e : (upI mem 28 0 nb x).1 27 0 1 = nI nb := by simp [upI_get, hn]
  have e2 : (upI (upI mem 28 0 nb x) 27 0 1 (nI (nb + 1))).1 27 0 1 = nI (nb + 1) := by simp [upI_get]
  refine z_enter hH (by decide) (by simp [z_ent, M_Bodies_add]) (fun X hXl hX hR => ?_)
  refine z_aload_n hX (D_Bodies_add (i := 0) rfl) rfl ?_
  refine z_geti hX (D_Bodies_add (i := 1) rfl) f_Bodies_18 rfl (by decide) (by first | exact Nat.one_pos | assumption | omega) rfl ?_
  refine z_bipush (v := 50) hX (D_Bodies_add (i := 2) rfl) (by decide) ?_
  rw [hn]
  refine z_icmp_lt (tgt := 12) hX (D_Bodies_add (i := 3) rfl) (by decide) (fun _ => ?_) (fun hcc => absurd (nI_lt (b := 50) hb (by decide)) hcc)
  refine z_aload_n hX (D_Bodies_add (i := 6) rfl) rfl ?_
  refine z_getc hX (D_Bodies_add (i := 7) rfl) f_Bodies_11 rfl (by decide) (by first | exact Nat.one_pos | assumption | omega) rfl ?_
  refine z_aload_n hX (D_Bodies_add (i := 8) rfl) rfl ?_
  refine z_geti hX (D_Bodies_add (i := 9) rfl) f_Bodies_18 rfl (by decide) (by first | exact Nat.one_pos | assumption | omega) rfl ?_
  refine z_iload_n hX (D_Bodies_add (i := 10) rfl) rfl ?_
  rw [hn]
  refine z_iast (j := nb) hX (D_Bodies_add (i := 11) rfl) rfl (by decide) (by first | exact Nat.one_pos | assumption | omega) (by decide) rfl hb ?_
  refine z_aload_n hX (D_Bodies_add (i := 12) rfl) rfl ?_
  refine z_dupP hX (D_Bodies_add (i := 13) rfl) ?_
  refine z_geti hX (D_Bodies_add (i := 14) rfl) f_Bodies_18 rfl (by decide) (by first | exact Nat.one_pos | assumption | omega) rfl ?_
  refine z_iconst (v := 1) hX (D_Bodies_add (i := 15) rfl) (by decide) ?_
  rw [e]
  refine z_iadd hX (D_Bodies_add (i := 16) rfl) ?_
  refine z_puti hX (D_Bodies_add (i := 17) rfl) g_Bodies_18 rfl (by decide) (by first | exact Nat.one_pos | assumption | omega) rfl ?_
  refine z_aload_n hX (D_Bodies_add (i := 18) rfl) rfl ?_
  refine z_geti hX (D_Bodies_add (i := 19) rfl) f_Bodies_18 rfl (by decide) (by first | exact Nat.one_pos | assumption | omega) rfl ?_
  refine z_iconst (v := 1) hX (D_Bodies_add (i := 20) rfl) (by decide) ?_
  refine z_isub hX (D_Bodies_add (i := 21) rfl) ?_
  rw [nI_1]
  rw [nlit, e2, pk_sub (by omega), Nat.add_sub_cancel]
  exact z_iret hX hR (D_Bodies_add (i := 22) rfl) rfl (by assumption)
theorem c_Bodies_add_full (hH : zHas ι pX) (hn : mem.1 27 0 1 = nI 50) (h : Post (some (zI (-3))) mem) : zC l ι M_Bodies_add 0 [zP 27 0, zI x] mem Post := by
  refine z_enter hH (by decide) (by simp [z_ent, M_Bodies_add]) (fun X hXl hX hR => ?_)
  refine z_aload_n hX (D_Bodies_add (i := 0) rfl) rfl ?_
  refine z_geti hX (D_Bodies_add (i := 1) rfl) f_Bodies_18 rfl (by decide) (by first | exact Nat.one_pos | assumption | omega) rfl ?_
  refine z_bipush (v := 50) hX (D_Bodies_add (i := 2) rfl) (by decide) ?_
  rw [hn]
  refine z_icmp_lt (tgt := 12) hX (D_Bodies_add (i := 3) rfl) (by decide) (fun hcc => absurd hcc (by decide)) (fun _ => ?_)
  refine z_bipush (v := -3) hX (D_Bodies_add (i := 4) rfl) (by decide) ?_
  exact z_iret hX hR (D_Bodies_add (i := 5) rfl) rfl (by assumption)
theorem c_Bodies_kindOf (hH : zHas ι pX) {nb b : Nat} (hn : mem.1 27 0 1 = nI nb) (h50 : nb ≤ 50) (hb : b < nb) (h : Post (some (zI (mem.1 28 0 b))) mem) : zC l ι M_Bodies_kindOf 0 [zP 27 0, zI (nI b)] mem Post := by
  refine z_enter hH (by decide) (by simp [z_ent, M_Bodies_kindOf]) (fun X hXl hX hR => ?_)
  refine z_iload_n hX (D_Bodies_kindOf (i := 0) rfl) rfl ?_
  refine z_if_lt (tgt := 21) hX (D_Bodies_kindOf (i := 1) rfl) (by decide) (fun hcc => absurd hcc (nI_pos (by omega))) (fun _ => ?_)
  refine z_iload_n hX (D_Bodies_kindOf (i := 2) rfl) rfl ?_
  refine z_aload_n hX (D_Bodies_kindOf (i := 3) rfl) rfl ?_
  refine z_geti hX (D_Bodies_kindOf (i := 4) rfl) f_Bodies_18 rfl (by decide) (by first | exact Nat.one_pos | assumption | omega) rfl ?_
  rw [hn]
  refine z_icmp_ge (tgt := 21) hX (D_Bodies_kindOf (i := 5) rfl) (by decide) (fun hcc => absurd hcc (nI_ge hb (by omega))) (fun _ => ?_)
  refine z_aload_n hX (D_Bodies_kindOf (i := 6) rfl) rfl ?_
  refine z_getc hX (D_Bodies_kindOf (i := 7) rfl) f_Bodies_11 rfl (by decide) (by first | exact Nat.one_pos | assumption | omega) rfl ?_
  refine z_iload_n hX (D_Bodies_kindOf (i := 8) rfl) rfl ?_
  refine z_iald (j := b) hX (D_Bodies_kindOf (i := 9) rfl) rfl (by decide) (by first | exact Nat.one_pos | assumption | omega) (by decide) rfl (by omega) ?_
  refine z_goto (tgt := 22) hX (D_Bodies_kindOf (i := 10) rfl) (by decide) ?_
  exact z_iret hX hR (D_Bodies_kindOf (i := 12) rfl) rfl (by assumption)
def unN : Nat → Nat → Nat → Bool
  | 0, _, _ => false
  | n + 1, a, t => if a = t then true else if a = 0 then false else unN n (abN a) t
theorem ab_ok : ∀ a, a < 8 → (a = 0 ∧ zstf 94 a = -1) ∨ (a ≠ 0 ∧ zstf 94 a = nI (abN a) ∧ abN a < 8) := by decide +kernel
theorem c_Bodies_isUnder {a t : Nat} (ha : a < 8) (ht : t < 8) (h : Post (some (zI (bI (unN 8 a t)))) mem) : zC l ι M_Bodies_isUnder 0 [zI (nI a), zI (nI t)] mem Post := by
  have hH : zHas ι [] := zHas.nil
  refine z_enter hH (by decide) (by simp [z_ent, M_Bodies_isUnder]) (fun X hXl hX hR => ?_)
  refine z_iload_n hX (D_Bodies_isUnder (i := 0) rfl) rfl ?_
  refine z_istore_n hX (D_Bodies_isUnder (i := 1) rfl) (by decide) rfl ?_
  refine z_iconst (v := 0) hX (D_Bodies_isUnder (i := 2) rfl) (by decide) ?_
  refine z_istore_n hX (D_Bodies_isUnder (i := 3) rfl) (by decide) rfl ?_
  suffices H : ∀ (n b i : Nat), b < 8 → i + n = 8 → unN n b t = unN 8 a t → zW ι M_Bodies_isUnder X 4 [some (zI (nI a)), some (zI (nI t)), some (zI (nI b)), some (zI (nI i))] [] mem from H 8 a 0 ha rfl rfl
  intro n
  induction n with
  | zero =>
    intro b i hb hi e
    obtain rfl : i = 8 := by omega
    refine z_iload_n hX (D_Bodies_isUnder (i := 4) rfl) rfl ?_
    refine z_bipush (v := 8) hX (D_Bodies_isUnder (i := 5) rfl) (by decide) ?_
    refine z_icmp_ge (tgt := 33) hX (D_Bodies_isUnder (i := 6) rfl) (by decide) (fun _ => ?_) (fun hcc => absurd (Int32.le_refl _) hcc)
    refine z_iconst (v := 0) hX (D_Bodies_isUnder (i := 20) rfl) (by decide) ?_
    rw [← e] at h
    exact z_zret hX hR (D_Bodies_isUnder (i := 21) rfl) rfl (by first | exact Or.inl rfl | exact Or.inr rfl | assumption) (by assumption)
  | succ n ih =>
    intro b i hb hi e
    refine z_iload_n hX (D_Bodies_isUnder (i := 4) rfl) rfl ?_
    refine z_bipush (v := 8) hX (D_Bodies_isUnder (i := 5) rfl) (by decide) ?_
    refine z_icmp_ge (tgt := 33) hX (D_Bodies_isUnder (i := 6) rfl) (by decide) (fun hcc => absurd hcc (nI_ge (b := 8) (by omega) (by decide))) (fun _ => ?_)
    refine z_iload_n hX (D_Bodies_isUnder (i := 7) rfl) rfl ?_
    refine z_if_lt (tgt := 33) hX (D_Bodies_isUnder (i := 8) rfl) (by decide) (fun hcc => absurd hcc (nI_pos (by omega))) (fun _ => ?_)
    refine z_iload_n hX (D_Bodies_isUnder (i := 9) rfl) rfl ?_
    refine z_iload_n hX (D_Bodies_isUnder (i := 10) rfl) rfl ?_
    refine z_icmp_ne (tgt := 21) hX (D_Bodies_isUnder (i := 11) rfl) (by decide) (fun hc => ?_) (fun hc => ?_)
    · skip
      have hc' : ¬ b = t := fun z => hc (by rw [z])
      refine z_gets (p := 94) hX (D_Bodies_isUnder (i := 14) rfl) (by decide) (by decide) s_Bodies_22 ?_
      refine z_iload_n hX (D_Bodies_isUnder (i := 15) rfl) rfl ?_
      refine z_tald (p := 94) (j := b) hX (D_Bodies_isUnder (i := 16) rfl) (by decide) (by decide) (by decide +kernel) rfl (show b < 8 from hb) ?_
      refine z_istore_n hX (D_Bodies_isUnder (i := 17) rfl) (by decide) rfl ?_
      first | refine z_inc1 hX (D_Bodies_isUnder (i := 18) rfl) rfl (by decide) rfl ?_ | refine z_iinc hX (D_Bodies_isUnder (i := 18) rfl) rfl rfl (by decide) rfl ?_
      rcases ab_ok b hb with ⟨b0, e1⟩ | ⟨b0, e1, e2⟩
      · rw [e1]
        refine z_goto (tgt := 4) hX (D_Bodies_isUnder (i := 19) rfl) (by decide) ?_
        rw [unN, if_neg hc', if_pos b0] at e
        rw [← e] at h
        refine z_iload_n hX (D_Bodies_isUnder (i := 4) rfl) rfl ?_
        refine z_bipush (v := 8) hX (D_Bodies_isUnder (i := 5) rfl) (by decide) ?_
        refine z_icmp_ge (tgt := 33) hX (D_Bodies_isUnder (i := 6) rfl) (by decide) (fun h8 => ?_) (fun h8 => ?_)
        · refine z_iconst (v := 0) hX (D_Bodies_isUnder (i := 20) rfl) (by decide) ?_
          exact z_zret hX hR (D_Bodies_isUnder (i := 21) rfl) rfl (by first | exact Or.inl rfl | exact Or.inr rfl | assumption) (by assumption)
        · refine z_iload_n hX (D_Bodies_isUnder (i := 7) rfl) rfl ?_
          refine z_if_lt (tgt := 33) hX (D_Bodies_isUnder (i := 8) rfl) (by decide) (fun _ => ?_) (fun hcc => absurd (by decide) hcc)
          refine z_iconst (v := 0) hX (D_Bodies_isUnder (i := 20) rfl) (by decide) ?_
          exact z_zret hX hR (D_Bodies_isUnder (i := 21) rfl) rfl (by first | exact Or.inl rfl | exact Or.inr rfl | assumption) (by assumption)
      · rw [e1]
        refine z_goto (tgt := 4) hX (D_Bodies_isUnder (i := 19) rfl) (by decide) ?_
        rw [unN, if_neg hc', if_neg b0] at e
        exact ih (abN b) (i + 1) e2 (by omega) e
    · refine z_iconst (v := 1) hX (D_Bodies_isUnder (i := 12) rfl) (by decide) ?_
      have hc' : b = t := (nI_eq (by omega) (by omega)).mp hc
      rw [unN, if_pos hc'] at e
      rw [← e] at h
      exact z_zret hX hR (D_Bodies_isUnder (i := 13) rfl) rfl (by first | exact Or.inl rfl | exact Or.inr rfl | assumption) (by assumption)
theorem c_Bodies_traced (hH : zHas ι pX) {r : Nat} (hr : mem.1 27 0 3 = nI r) (h3 : r < 2 ^ 31) (h : Post (some (zI (nI (if 24 < r then 24 else r)))) mem) : zC l ι M_Bodies_traced 1 [zP 27 0] mem Post := by
  refine z_enter hH (by decide) (by simp [z_ent, M_Bodies_traced]) (fun X hXl hX hR => ?_)
  refine z_aload_n hX (D_Bodies_traced (i := 0) rfl) rfl ?_
  refine z_geti hX (D_Bodies_traced (i := 1) rfl) f_Bodies_25 rfl (by decide) (by first | exact Nat.one_pos | assumption | omega) rfl ?_
  refine z_bipush (v := 24) hX (D_Bodies_traced (i := 2) rfl) (by decide) ?_
  refine z_min hX (D_Bodies_traced (i := 3) rfl) l_Bodies_28 (by first | decide | omega) (Nat.le_of_ble_eq_true rfl) ?_
  rw [hr]
  have e : (if (24 : Int32) < nI r then 24 else nI r) = nI (if 24 < r then 24 else r) := nI_iflt (a := 24) (x := 24) (by decide) h3
  rw [e]
  exact z_iret hX hR (D_Bodies_traced (i := 4) rfl) rfl (by assumption)
end F3
