/-! the reference asks its law, and fills the table of what may be -/
def lAt (mem : zM) : Nat → Nat → List lLn → Prop
  | _, _, [] => True
  | i, b, L :: r => mem.1 52 0 i = nI (lnT b L).1 ∧ mem.1 53 0 i = nI (lnT b L).2 ∧ lAt mem (i + 1) (lnT b L).2 r
theorem lAt_of {mem : zM} : ∀ {Λ : List lLn} {i b : Nat}, (∀ j, j < Λ.length → mem.1 52 0 (i + j) = nI ((tbT b Λ).getD j (0, 0)).1 ∧ mem.1 53 0 (i + j) = nI ((tbT b Λ).getD j (0, 0)).2) → lAt mem i b Λ
  | [], i, b, _ => trivial
  | L :: Λ, i, b, h => ⟨(h 0 (by simp)).1, (h 0 (by simp)).2, lAt_of (fun j hj => by
      have := h (j + 1) (by simp; omega)
      rw [show i + 1 + j = i + (j + 1) by omega, this.1, this.2]
      exact ⟨rfl, rfl⟩)⟩
theorem lgd_pos {e : lE} (h : lgd e) : 0 < e.length := by
  cases e with
  | nil =>
    obtain ⟨v, hv⟩ := h.2 (fun _ => 0)
    have := hv []
    exact absurd (Option.some.inj this) (by simp)
  | cons s e => exact Nat.succ_pos _
/-- the law as the reference holds it -/
def ML (mem : zM) : Option (List lLn) → Prop
  | none => mem.1 40 0 25 = 0
  | some Λ => mem.1 40 0 25 = 1 ∧ MLaw mem Λ
section D9
variable {l : Launch} {ι : zE} {mem : zM} {X : zX} {S : Nat → Nat → Int32} {Post : Option zV → zM → Prop} {x y z : Int32} {n p : Nat}
theorem d_gives_loop (hH : zHas ι pM) (hX : zG ι M_Model_gives X 2 pM) (hR : zRt ι X Post) {N : Nat} (hN : mem.1 51 0 0 = nI N) (hN2 : N ≤ 61) : ∀ (Λ : List lLn) (i b : Nat) (S : Nat → Nat → Int32), (∀ L ∈ Λ, lnG L) → lAt mem i b Λ → mAt mem b (txM Λ) → i + Λ.length = N → b + (txM Λ).length ≤ 121 → (∀ S', frP S S' → Post (some (zI (lawV (fmS S) Λ))) (tm mem S')) → zW ι M_Model_gives X 7 [some (zP 40 0), some (zI (nI 0)), some (zI (nI b)), some (zI (nI i))] [] (tm mem S) := by
  intro Λ
  induction Λ with
  | nil =>
    intro i b S hg hl hm hi hb h
    obtain rfl : i = N := hi
    refine z_iload_n hX (D_Model_gives (i := 6) rfl) rfl ?_
    refine z_bipush (v := 61) hX (D_Model_gives (i := 7) rfl) (by decide) ?_
    refine z_iload_n hX (D_Model_gives (i := 8) rfl) rfl ?_
    refine z_imul hX (D_Model_gives (i := 9) rfl) ?_
    refine z_aload_n hX (D_Model_gives (i := 10) rfl) rfl ?_
    refine z_getc hX (D_Model_gives (i := 11) rfl) f_Model_41 rfl (by decide) (by first | exact Nat.one_pos | assumption | omega) rfl ?_
    refine z_iload_n hX (D_Model_gives (i := 12) rfl) rfl ?_
    refine z_iald (j := 0) hX (D_Model_gives (i := 13) rfl) rfl (by decide) (by first | exact Nat.one_pos | assumption | omega) (by decide) rfl (by omega) ?_
    rw [show (tm mem S).1 51 0 0 = mem.1 51 0 0 from rfl, hN]
    refine z_iadd hX (D_Model_gives (i := 14) rfl) ?_
    rw [show (61 : Int32) * nI 0 + nI i = nI i by rw [show (61 : Int32) * nI 0 = nI 0 from rfl, nI_add, Nat.zero_add]]
    refine z_icmp_ge (tgt := 78) hX (D_Model_gives (i := 15) rfl) (by decide) (fun _ => ?_) (fun hcc => absurd (Int32.le_refl _) hcc)
    refine z_iconst (v := 0) hX (D_Model_gives (i := 50) rfl) (by decide) ?_
    exact z_iret hX hR (D_Model_gives (i := 51) rfl) rfl (h S (fun _ _ _ => rfl))
  | cons L Λ ih =>
    intro i b S hg hl hm hi hb h
    rw [List.length_cons] at hi
    have hgL := hg L (List.mem_cons_self ..)
    have hgR := fun q hq => hg q (List.mem_cons_of_mem L hq)
    obtain ⟨l1, l2, l3⟩ := hl
    rw [show txM (L :: Λ) = lnM L ++ txM Λ from rfl] at hm hb
    rw [List.length_append] at hb
    obtain ⟨m1, m2⟩ := mAt_app hm
    have e2 := lnT_2 b L
    rw [← e2] at m2
    have go65 : ∀ S1, frP S S1 → (∀ S', frP S1 S' → Post (some (zI (lawV (fmS S1) Λ))) (tm mem S')) → zW ι M_Model_gives X 65 [some (zP 40 0), some (zI (nI 0)), some (zI (nI b)), some (zI (nI i))] [] (tm mem S1) := by
      intro S1 hf hp
      refine z_aload_n hX (D_Model_gives (i := 43) rfl) rfl ?_
      refine z_getc hX (D_Model_gives (i := 44) rfl) f_Model_48 rfl (by decide) (by first | exact Nat.one_pos | assumption | omega) rfl ?_
      refine z_iload_n hX (D_Model_gives (i := 45) rfl) rfl ?_
      refine z_sald (j := i) hX (D_Model_gives (i := 46) rfl) rfl (by decide) (by first | exact Nat.one_pos | assumption | omega) (by decide) rfl (by omega) ?_
      rw [show (tm mem S1).1 53 0 i = mem.1 53 0 i from rfl, l2]
      refine z_istore_n hX (D_Model_gives (i := 47) rfl) (by decide) rfl ?_
      first | refine z_inc1 hX (D_Model_gives (i := 48) rfl) rfl (by decide) rfl ?_ | refine z_iinc hX (D_Model_gives (i := 48) rfl) rfl rfl (by decide) rfl ?_
      refine z_goto (tgt := 7) hX (D_Model_gives (i := 49) rfl) (by decide) ?_
      exact ih (i + 1) _ S1 hgR l3 m2 (by omega) (by omega) hp
    have go47 : ∀ S1 (v : lE), frP S S1 → lgd v → (lnT b L).1 + v.length = (lnT b L).2 → mAt mem (lnT b L).1 (mdC v) → (∀ S', frP S1 S' → Post (some (zI (vE (fmS S1) v))) (tm mem S')) → zW ι M_Model_gives X 47 [some (zP 40 0), some (zI (nI 0)), some (zI (nI b)), some (zI (nI i))] [] (tm mem S1) := by
      intro S1 v hf hv he hm hp
      refine z_aload_n hX (D_Model_gives (i := 31) rfl) rfl ?_
      refine z_iload_n hX (D_Model_gives (i := 32) rfl) rfl ?_
      refine z_aload_n hX (D_Model_gives (i := 33) rfl) rfl ?_
      refine z_getc hX (D_Model_gives (i := 34) rfl) f_Model_44 rfl (by decide) (by first | exact Nat.one_pos | assumption | omega) rfl ?_
      refine z_iload_n hX (D_Model_gives (i := 35) rfl) rfl ?_
      refine z_sald (j := i) hX (D_Model_gives (i := 36) rfl) rfl (by decide) (by first | exact Nat.one_pos | assumption | omega) (by decide) rfl (by omega) ?_
      rw [show (tm mem S1).1 52 0 i = mem.1 52 0 i from rfl, l1]
      refine z_aload_n hX (D_Model_gives (i := 37) rfl) rfl ?_
      refine z_getc hX (D_Model_gives (i := 38) rfl) f_Model_48 rfl (by decide) (by first | exact Nat.one_pos | assumption | omega) rfl ?_
      refine z_iload_n hX (D_Model_gives (i := 39) rfl) rfl ?_
      refine z_sald (j := i) hX (D_Model_gives (i := 40) rfl) rfl (by decide) (by first | exact Nat.one_pos | assumption | omega) (by decide) rfl (by omega) ?_
      rw [show (tm mem S1).1 53 0 i = mem.1 53 0 i from rfl, l2, ← he]
      refine z_cV3 hX (D_Model_gives (i := 41) rfl) mi_Model_worked l_Model_210 rfl rfl (by decide) (by first | exact Nat.one_pos | assumption | omega) (by first | decide | omega) (Nat.le_of_ble_eq_true rfl) (d_worked hH hv hm (by omega) ?_)
      intro S' hf'
      exact z_iret hX hR (D_Model_gives (i := 42) rfl) rfl (hp S' hf')
    refine z_iload_n hX (D_Model_gives (i := 6) rfl) rfl ?_
    refine z_bipush (v := 61) hX (D_Model_gives (i := 7) rfl) (by decide) ?_
    refine z_iload_n hX (D_Model_gives (i := 8) rfl) rfl ?_
    refine z_imul hX (D_Model_gives (i := 9) rfl) ?_
    refine z_aload_n hX (D_Model_gives (i := 10) rfl) rfl ?_
    refine z_getc hX (D_Model_gives (i := 11) rfl) f_Model_41 rfl (by decide) (by first | exact Nat.one_pos | assumption | omega) rfl ?_
    refine z_iload_n hX (D_Model_gives (i := 12) rfl) rfl ?_
    refine z_iald (j := 0) hX (D_Model_gives (i := 13) rfl) rfl (by decide) (by first | exact Nat.one_pos | assumption | omega) (by decide) rfl (by omega) ?_
    rw [show (tm mem S).1 51 0 0 = mem.1 51 0 0 from rfl, hN]
    refine z_iadd hX (D_Model_gives (i := 14) rfl) ?_
    rw [show (61 : Int32) * nI 0 + nI N = nI N by rw [show (61 : Int32) * nI 0 = nI 0 from rfl, nI_add, Nat.zero_add]]
    refine z_icmp_ge (tgt := 78) hX (D_Model_gives (i := 15) rfl) (by decide) (fun hcc => absurd hcc (nI_ge (by omega) (by omega))) (fun _ => ?_)
    refine z_aload_n hX (D_Model_gives (i := 16) rfl) rfl ?_
    refine z_getc hX (D_Model_gives (i := 17) rfl) f_Model_44 rfl (by decide) (by first | exact Nat.one_pos | assumption | omega) rfl ?_
    refine z_iload_n hX (D_Model_gives (i := 18) rfl) rfl ?_
    refine z_sald (j := i) hX (D_Model_gives (i := 19) rfl) rfl (by decide) (by first | exact Nat.one_pos | assumption | omega) (by decide) rfl (by omega) ?_
    rw [show (tm mem S).1 52 0 i = mem.1 52 0 i from rfl, l1]
    refine z_iload_n hX (D_Model_gives (i := 20) rfl) rfl ?_
    obtain ⟨t, v⟩ := L
    cases t with
    | none =>
      refine z_icmp_eq (tgt := 47) hX (D_Model_gives (i := 21) rfl) (by decide) (fun _ => ?_) (fun hcc => absurd (rfl) hcc)
      refine go47 S v (fun _ _ _ => rfl) hgL.2 rfl m1 h
    | some t =>
      have hgt := hgL.1 t rfl
      have ht := lgd_pos hgt
      have e1 : lnT b (some t, v) = (b + t.length, b + t.length + v.length) := rfl
      rw [show lnM (some t, v) = mdC t ++ mdC v from rfl] at m1 hb
      rw [List.length_append, mdC_len, mdC_len] at hb
      obtain ⟨m3, m4⟩ := mAt_app m1
      rw [mdC_len] at m4
      rw [e1]
      refine z_icmp_eq (tgt := 47) hX (D_Model_gives (i := 21) rfl) (by decide) (fun hcc => absurd hcc ((fun w => absurd ((nI_eq (by omega) (by omega)).mp w) (by omega)))) (fun _ => ?_)
      refine z_aload_n hX (D_Model_gives (i := 22) rfl) rfl ?_
      refine z_iload_n hX (D_Model_gives (i := 23) rfl) rfl ?_
      refine z_iload_n hX (D_Model_gives (i := 24) rfl) rfl ?_
      refine z_aload_n hX (D_Model_gives (i := 25) rfl) rfl ?_
      refine z_getc hX (D_Model_gives (i := 26) rfl) f_Model_44 rfl (by decide) (by first | exact Nat.one_pos | assumption | omega) rfl ?_
      refine z_iload_n hX (D_Model_gives (i := 27) rfl) rfl ?_
      refine z_sald (j := i) hX (D_Model_gives (i := 28) rfl) rfl (by decide) (by first | exact Nat.one_pos | assumption | omega) (by decide) rfl (by omega) ?_
      rw [show (tm mem S).1 52 0 i = mem.1 52 0 i from rfl, l1, e1]
      refine z_cV3 hX (D_Model_gives (i := 29) rfl) mi_Model_worked l_Model_210 rfl rfl (by decide) (by first | exact Nat.one_pos | assumption | omega) (by first | decide | omega) (Nat.le_of_ble_eq_true rfl) (d_worked hH hgt m3 (by omega) ?_)
      intro S1 hf
      rw [show lawV (fmS S) ((some t, v) :: Λ) = if vE (fmS S) t = 0 then lawV (fmS S) Λ else vE (fmS S) v from rfl] at h
      refine z_if_eq (tgt := 65) hX (D_Model_gives (i := 30) rfl) (by decide) (fun h1 => ?_) (fun h1 => ?_)
      · skip
        rw [if_pos h1] at h
        exact go65 S1 hf (fun S' h' => by rw [hf.fm]; exact h S' (hf.tr h'))
      · skip
        rw [if_neg h1] at h
        exact go47 S1 v hf hgL.2 rfl m4 (fun S' h' => by rw [hf.fm]; exact h S' (hf.tr h'))
theorem d_gives (hH : zHas ι pM) {Λ : List lLn} (hL : MLaw mem Λ) (h : ∀ S', frP S S' → Post (some (zI (lawV (fmS S) Λ))) (tm mem S')) : zC l ι M_Model_gives 2 [zP 40 0, zI (nI 0)] (tm mem S) Post := by
  obtain ⟨h1, h2, h3, h4, h5, h6⟩ := hL
  refine z_enter hH (by decide) (by simp [z_ent, M_Model_gives]) (fun X hXl hX hR => ?_)
  refine z_iconst (v := 0) hX (D_Model_gives (i := 0) rfl) (by decide) ?_
  refine z_istore_n hX (D_Model_gives (i := 1) rfl) (by decide) rfl ?_
  refine z_bipush (v := 61) hX (D_Model_gives (i := 2) rfl) (by decide) ?_
  refine z_iload_n hX (D_Model_gives (i := 3) rfl) rfl ?_
  refine z_imul hX (D_Model_gives (i := 4) rfl) ?_
  refine z_istore_n hX (D_Model_gives (i := 5) rfl) (by decide) rfl ?_
  exact d_gives_loop hH hX hR h4 h1 Λ 0 0 S h3 (lAt_of (fun j hj => by rw [Nat.zero_add]; exact h6 j hj)) (mAt_of (fun j hj => by rw [Nat.zero_add]; exact h5 j hj)) (by omega) (by omega) h
def frA (S S' : Nat → Nat → Int32) : Prop := ∀ p c, p ≠ 54 → p ≠ 55 → S' p c = S p c
theorem d_asks (hH : zHas ι pM) {Λ : Option (List lLn)} (hL : ML mem Λ) {s i j a b : Nat} (ha : a < 6) (hb : b < 6) (h : ∀ S', frA S S' → Post (some (zI (bI (mayP Λ s i j a b)))) (tm mem S')) : zC l ι M_Model_asks 3 [zP 40 0, zI (nI s), zI (nI i), zI (nI j), zI (nI a), zI (nI b)] (tm mem S) Post := by
  refine z_enter hH (by decide) (by simp [z_ent, M_Model_asks]) (fun X hXl hX hR => ?_)
  refine z_aload_n hX (D_Model_asks (i := 0) rfl) rfl ?_
  refine z_geti hX (D_Model_asks (i := 1) rfl) f_Model_216 rfl (by decide) (by first | exact Nat.one_pos | assumption | omega) rfl ?_
  rw [show (tm mem S).1 40 0 25 = mem.1 40 0 25 from rfl]
  cases Λ with
  | none =>
    have hL : mem.1 40 0 25 = 0 := hL
    rw [hL]
    refine z_if_ne (tgt := 20) hX (D_Model_asks (i := 2) rfl) (by decide) (fun hcc => absurd (rfl) hcc) (fun _ => ?_)
    refine z_iload hX (D_Model_asks (i := 3) rfl) rfl ?_
    refine z_iload hX (D_Model_asks (i := 4) rfl) rfl ?_
    have h := h S (fun _ _ _ _ => rfl)
    rw [show mayP none s i j a b = decide (a ≠ b) from rfl] at h
    refine z_icmp_eq (tgt := 18) hX (D_Model_asks (i := 5) rfl) (by decide) (fun h1 => ?_) (fun h1 => ?_)
    · refine z_iconst (v := 0) hX (D_Model_asks (i := 8) rfl) (by decide) ?_
      rw [decide_eq_false (fun w => w ((nI_eq (by omega) (by omega)).mp h1))] at h
      exact z_zret hX hR (D_Model_asks (i := 9) rfl) rfl (by first | exact Or.inl rfl | exact Or.inr rfl | assumption) (by assumption)
    · refine z_iconst (v := 1) hX (D_Model_asks (i := 6) rfl) (by decide) ?_
      refine z_goto (tgt := 19) hX (D_Model_asks (i := 7) rfl) (by decide) ?_
      rw [decide_eq_true (show a ≠ b from fun w => h1 (by rw [w]))] at h
      exact z_zret hX hR (D_Model_asks (i := 9) rfl) rfl (by first | exact Or.inl rfl | exact Or.inr rfl | assumption) (by assumption)
  | some Λ =>
    have hL : mem.1 40 0 25 = 1 ∧ MLaw mem Λ := hL
    rw [hL.1]
    refine z_if_ne (tgt := 20) hX (D_Model_asks (i := 2) rfl) (by decide) (fun _ => ?_) (fun hcc => absurd hcc (by decide))
    refine z_aload_n hX (D_Model_asks (i := 10) rfl) rfl ?_
    refine z_getc hX (D_Model_asks (i := 11) rfl) f_Model_51 rfl (by decide) (by first | exact Nat.one_pos | assumption | omega) rfl ?_
    refine z_iconst (v := 0) hX (D_Model_asks (i := 12) rfl) (by decide) ?_
    refine z_iload hX (D_Model_asks (i := 13) rfl) rfl ?_
    refine z_iast (j := 0) hX (D_Model_asks (i := 14) rfl) rfl (by decide) (by first | exact Nat.one_pos | assumption | omega) (by decide) rfl (by omega) ?_
    rw [tm_up rfl]
    refine z_aload_n hX (D_Model_asks (i := 15) rfl) rfl ?_
    refine z_getc hX (D_Model_asks (i := 16) rfl) f_Model_51 rfl (by decide) (by first | exact Nat.one_pos | assumption | omega) rfl ?_
    refine z_iconst (v := 1) hX (D_Model_asks (i := 17) rfl) (by decide) ?_
    refine z_iload hX (D_Model_asks (i := 18) rfl) rfl ?_
    refine z_iast (j := 1) hX (D_Model_asks (i := 19) rfl) rfl (by decide) (by first | exact Nat.one_pos | assumption | omega) (by decide) rfl (by omega) ?_
    rw [tm_up rfl]
    refine z_aload_n hX (D_Model_asks (i := 20) rfl) rfl ?_
    refine z_getc hX (D_Model_asks (i := 21) rfl) f_Model_51 rfl (by decide) (by first | exact Nat.one_pos | assumption | omega) rfl ?_
    refine z_iconst (v := 2) hX (D_Model_asks (i := 22) rfl) (by decide) ?_
    refine z_iload_n hX (D_Model_asks (i := 23) rfl) rfl ?_
    refine z_iast (j := 2) hX (D_Model_asks (i := 24) rfl) rfl (by decide) (by first | exact Nat.one_pos | assumption | omega) (by decide) rfl (by omega) ?_
    rw [tm_up rfl]
    refine z_aload_n hX (D_Model_asks (i := 25) rfl) rfl ?_
    refine z_getc hX (D_Model_asks (i := 26) rfl) f_Model_51 rfl (by decide) (by first | exact Nat.one_pos | assumption | omega) rfl ?_
    refine z_iconst (v := 3) hX (D_Model_asks (i := 27) rfl) (by decide) ?_
    refine z_iload_n hX (D_Model_asks (i := 28) rfl) rfl ?_
    refine z_iast (j := 3) hX (D_Model_asks (i := 29) rfl) rfl (by decide) (by first | exact Nat.one_pos | assumption | omega) (by decide) rfl (by omega) ?_
    rw [tm_up rfl]
    refine z_aload_n hX (D_Model_asks (i := 30) rfl) rfl ?_
    refine z_getc hX (D_Model_asks (i := 31) rfl) f_Model_51 rfl (by decide) (by first | exact Nat.one_pos | assumption | omega) rfl ?_
    refine z_iconst (v := 4) hX (D_Model_asks (i := 32) rfl) (by decide) ?_
    refine z_iload_n hX (D_Model_asks (i := 33) rfl) rfl ?_
    refine z_iast (j := 4) hX (D_Model_asks (i := 34) rfl) rfl (by decide) (by first | exact Nat.one_pos | assumption | omega) (by decide) rfl (by omega) ?_
    rw [tm_up rfl]
    refine z_aload_n hX (D_Model_asks (i := 35) rfl) rfl ?_
    refine z_iconst (v := 0) hX (D_Model_asks (i := 36) rfl) (by decide) ?_
    have ef : fmS (sU (sU (sU (sU (sU S 54 0 (nI a)) 54 1 (nI b)) 54 2 (nI s)) 54 3 (nI i)) 54 4 (nI j)) = fvN a b s i j := by
      funext c
      simp only [fmS, nmI, fvN]
      repeat' split
      all_goals rfl
    refine z_cV1 hX (D_Model_asks (i := 37) rfl) mi_Model_gives l_Model_234 rfl rfl (by decide) (by first | exact Nat.one_pos | assumption | omega) (by first | decide | omega) (Nat.le_of_ble_eq_true rfl) (d_gives hH hL.2 ?_)
    intro S' hf
    rw [ef]
    have h := h S' (fun p c h1 h2 => by
      rw [hf p c h2, sU_ne (Or.inl h1), sU_ne (Or.inl h1), sU_ne (Or.inl h1), sU_ne (Or.inl h1), sU_ne (Or.inl h1)])
    rw [show mayP (some Λ) s i j a b = decide (lawV (fvN a b s i j) Λ ≠ 0) from rfl] at h
    refine z_if_eq (tgt := 69) hX (D_Model_asks (i := 38) rfl) (by decide) (fun h1 => ?_) (fun h1 => ?_)
    · refine z_iconst (v := 0) hX (D_Model_asks (i := 41) rfl) (by decide) ?_
      rw [decide_eq_false (fun w => w h1)] at h
      exact z_zret hX hR (D_Model_asks (i := 42) rfl) rfl (by first | exact Or.inl rfl | exact Or.inr rfl | assumption) (by assumption)
    · refine z_iconst (v := 1) hX (D_Model_asks (i := 39) rfl) (by decide) ?_
      refine z_goto (tgt := 70) hX (D_Model_asks (i := 40) rfl) (by decide) ?_
      rw [decide_eq_true h1] at h
      exact z_zret hX hR (D_Model_asks (i := 42) rfl) rfl (by first | exact Or.inl rfl | exact Or.inr rfl | assumption) (by assumption)
def maN (s i j a b : Nat) : Nat := 36 * (16 * s + 4 * i + j) + 6 * a + b
theorem d_mayAt {s i j a b : Nat} (h : Post (some (zI (nI (maN s i j a b)))) mem) : zC l ι M_Model_mayAt 0 [zI (nI s), zI (nI i), zI (nI j), zI (nI a), zI (nI b)] mem Post := by
  have hH : zHas ι [] := zHas.nil
  refine z_enter hH (by decide) (by simp [z_ent, M_Model_mayAt]) (fun X hXl hX hR => ?_)
  refine z_bipush (v := 36) hX (D_Model_mayAt (i := 0) rfl) (by decide) ?_
  refine z_bipush (v := 16) hX (D_Model_mayAt (i := 1) rfl) (by decide) ?_
  refine z_iload_n hX (D_Model_mayAt (i := 2) rfl) rfl ?_
  refine z_imul hX (D_Model_mayAt (i := 3) rfl) ?_
  refine z_iconst (v := 4) hX (D_Model_mayAt (i := 4) rfl) (by decide) ?_
  refine z_iload_n hX (D_Model_mayAt (i := 5) rfl) rfl ?_
  refine z_imul hX (D_Model_mayAt (i := 6) rfl) ?_
  refine z_iadd hX (D_Model_mayAt (i := 7) rfl) ?_
  refine z_iload_n hX (D_Model_mayAt (i := 8) rfl) rfl ?_
  refine z_iadd hX (D_Model_mayAt (i := 9) rfl) ?_
  refine z_imul hX (D_Model_mayAt (i := 10) rfl) ?_
  refine z_bipush (v := 6) hX (D_Model_mayAt (i := 11) rfl) (by decide) ?_
  refine z_iload_n hX (D_Model_mayAt (i := 12) rfl) rfl ?_
  refine z_imul hX (D_Model_mayAt (i := 13) rfl) ?_
  refine z_iadd hX (D_Model_mayAt (i := 14) rfl) ?_
  refine z_iload hX (D_Model_mayAt (i := 15) rfl) rfl ?_
  refine z_iadd hX (D_Model_mayAt (i := 16) rfl) ?_
  have e : (36 : Int32) * ((16 : Int32) * nI s + (4 : Int32) * nI i + nI j) + (6 : Int32) * nI a + nI b = nI (maN s i j a b) := by
    simp only [nlit, pk_mul, nI_add]; rfl
  rw [e]
  exact z_iret hX hR (D_Model_mayAt (i := 17) rfl) rfl (by assumption)
def frM (S S' : Nat → Nat → Int32) : Prop := ∀ p c, p ≠ 54 → p ≠ 55 → p ≠ 56 → S' p c = S p c
/-- the table, as far as it is filled -/
def mdn (s i j a b s' i' j' a' b' : Nat) : Prop := s' < s ∨ (s' = s ∧ (i' < i ∨ (i' = i ∧ (j' < j ∨ (j' = j ∧ (a' < a ∨ (a' = a ∧ b' < b)))))))
def mtb (Λ : Option (List lLn)) (S0 S : Nat → Nat → Int32) (s i j a b : Nat) : Prop := frM S0 S ∧ ∀ s' i' j' a' b', s' < 4 → i' < j' → j' < 4 → a' < 6 → b' < 6 → mdn s i j a b s' i' j' a' b' → S 56 (maN s' i' j' a' b') = bI (mayP Λ s' i' j' a' b')
def MyM (Λ : Option (List lLn)) (S : Nat → Nat → Int32) : Prop := ∀ s i j a b, s < 4 → i < j → j < 4 → a < 6 → b < 6 → S 56 (maN s i j a b) = bI (mayP Λ s i j a b)
theorem mtb.mv {Λ : Option (List lLn)} {S0 S : Nat → Nat → Int32} {s i j a b s2 i2 j2 a2 b2 : Nat} (h : mtb Λ S0 S s i j a b) (w : ∀ s' i' j' a' b', s' < 4 → i' < j' → j' < 4 → a' < 6 → b' < 6 → mdn s2 i2 j2 a2 b2 s' i' j' a' b' → mdn s i j a b s' i' j' a' b') : mtb Λ S0 S s2 i2 j2 a2 b2 := ⟨h.1, fun s' i' j' a' b' q1 q2 q3 q4 q5 q6 => h.2 s' i' j' a' b' q1 q2 q3 q4 q5 (w s' i' j' a' b' q1 q2 q3 q4 q5 q6)⟩
theorem d_findMay (hH : zHas ι pM) {Λ : Option (List lLn)} (hL : ML mem Λ) (h : ∀ S', frM S S' → MyM Λ S' → Post none (tm mem S')) : zC l ι M_Model_findMay 4 [zP 40 0] (tm mem S) Post := by
  refine z_enter hH (by decide) (by simp [z_ent, M_Model_findMay]) (fun X hXl hX hR => ?_)
  have LB : ∀ (d b s i j a : Nat) (S1 : Nat → Nat → Int32), s < 4 → i < j → j < 4 → a < 6 → b + d = 6 → mtb Λ S S1 s i j a b → (∀ S2, mtb Λ S S2 s i j (a + 1) 0 → zW ι M_Model_findMay X 75 [some (zP 40 0), some (zI (nI s)), some (zI (nI i)), some (zI (nI j)), some (zI (nI a)), some (zI (nI 6))] [] (tm mem S2)) → zW ι M_Model_findMay X 36 [some (zP 40 0), some (zI (nI s)), some (zI (nI i)), some (zI (nI j)), some (zI (nI a)), some (zI (nI b))] [] (tm mem S1) := by
    intro d
    induction d with
    | zero =>
      intro b s i j a S1 hs hi hj ha hb ht k
      obtain rfl : b = 6 := hb
      refine z_iload hX (D_Model_findMay (i := 24) rfl) rfl ?_
      refine z_bipush (v := 6) hX (D_Model_findMay (i := 25) rfl) (by decide) ?_
      refine z_icmp_ge (tgt := 75) hX (D_Model_findMay (i := 26) rfl) (by decide) (fun _ => ?_) (fun hcc => absurd (Int32.le_refl _) hcc)
      exact k S1 (ht.mv (fun s' i' j' a' b' q1 q2 q3 q4 q5 q6 => by unfold mdn at q6 ⊢; omega))
    | succ d ih =>
      intro b s i j a S1 hs hi hj ha hb ht k
      have hb6 : b < 6 := by omega
      refine z_iload hX (D_Model_findMay (i := 24) rfl) rfl ?_
      refine z_bipush (v := 6) hX (D_Model_findMay (i := 25) rfl) (by decide) ?_
      refine z_icmp_ge (tgt := 75) hX (D_Model_findMay (i := 26) rfl) (by decide) (fun hcc => absurd hcc (nI_ge (b := 6) hb6 (by decide))) (fun _ => ?_)
      refine z_aload_n hX (D_Model_findMay (i := 27) rfl) rfl ?_
      refine z_getc hX (D_Model_findMay (i := 28) rfl) f_Model_57 rfl (by decide) (by first | exact Nat.one_pos | assumption | omega) rfl ?_
      refine z_iload_n hX (D_Model_findMay (i := 29) rfl) rfl ?_
      refine z_iload_n hX (D_Model_findMay (i := 30) rfl) rfl ?_
      refine z_iload_n hX (D_Model_findMay (i := 31) rfl) rfl ?_
      refine z_iload hX (D_Model_findMay (i := 32) rfl) rfl ?_
      refine z_iload hX (D_Model_findMay (i := 33) rfl) rfl ?_
      refine z_cS5 hX (D_Model_findMay (i := 34) rfl) ms_Model_mayAt l_Model_226 (by first | decide | omega) (Nat.le_of_ble_eq_true rfl) (d_mayAt ?_)
      refine z_aload_n hX (D_Model_findMay (i := 35) rfl) rfl ?_
      refine z_iload_n hX (D_Model_findMay (i := 36) rfl) rfl ?_
      refine z_iload_n hX (D_Model_findMay (i := 37) rfl) rfl ?_
      refine z_iload_n hX (D_Model_findMay (i := 38) rfl) rfl ?_
      refine z_iload hX (D_Model_findMay (i := 39) rfl) rfl ?_
      refine z_iload hX (D_Model_findMay (i := 40) rfl) rfl ?_
      refine z_cV5 hX (D_Model_findMay (i := 41) rfl) mi_Model_asks l_Model_230 rfl rfl (by decide) (by first | exact Nat.one_pos | assumption | omega) (by first | decide | omega) (Nat.le_of_ble_eq_true rfl) (d_asks hH hL ha hb6 ?_)
      intro S2 hf
      refine z_zast (j := maN s i j a b) hX (D_Model_findMay (i := 42) rfl) rfl (by decide) (by first | exact Nat.one_pos | assumption | omega) (by decide) rfl (by unfold maN; omega) ?_
      rw [show vp_nar .boolean (bI (mayP Λ s i j a b)) = bI (mayP Λ s i j a b) by cases mayP Λ s i j a b <;> decide, tm_up rfl]
      first | refine z_inc1 hX (D_Model_findMay (i := 43) rfl) rfl (by decide) rfl ?_ | refine z_iinc hX (D_Model_findMay (i := 43) rfl) rfl rfl (by decide) rfl ?_
      refine z_goto (tgt := 36) hX (D_Model_findMay (i := 44) rfl) (by decide) ?_
      refine ih (b + 1) s i j a _ hs hi hj ha (by omega) ⟨fun p c h1 h2 h3 => ?_, fun s' i' j' a' b' q1 q2 q3 q4 q5 q6 => ?_⟩ k
      · rw [sU_ne (Or.inl h3), hf p c h1 h2]; exact ht.1 p c h1 h2 h3
      · by_cases e : maN s' i' j' a' b' = maN s i j a b
        · have e2 : s' = s ∧ i' = i ∧ j' = j ∧ a' = a ∧ b' = b := by unfold maN at e; omega
          obtain ⟨rfl, rfl, rfl, rfl, rfl⟩ := e2
          rw [sU_at]
        · rw [sU_ne (Or.inr e), hf 56 _ (by decide) (by decide)]
          refine ht.2 s' i' j' a' b' q1 q2 q3 q4 q5 ?_
          unfold mdn at q6 ⊢
          unfold maN at e
          omega
  have LA : ∀ (d a s i j : Nat) (v5 : Option zV) (S1 : Nat → Nat → Int32), s < 4 → i < j → j < 4 → a + d = 6 → mtb Λ S S1 s i j a 0 → (∀ v5 S2, mtb Λ S S2 s i (j + 1) 0 0 → zW ι M_Model_findMay X 81 [some (zP 40 0), some (zI (nI s)), some (zI (nI i)), some (zI (nI j)), some (zI (nI 6)), v5] [] (tm mem S2)) → zW ι M_Model_findMay X 26 [some (zP 40 0), some (zI (nI s)), some (zI (nI i)), some (zI (nI j)), some (zI (nI a)), v5] [] (tm mem S1) := by
    intro d
    induction d with
    | zero =>
      intro a s i j v5 S1 hs hi hj ha ht k
      obtain rfl : a = 6 := ha
      refine z_iload hX (D_Model_findMay (i := 19) rfl) rfl ?_
      refine z_bipush (v := 6) hX (D_Model_findMay (i := 20) rfl) (by decide) ?_
      refine z_icmp_ge (tgt := 81) hX (D_Model_findMay (i := 21) rfl) (by decide) (fun _ => ?_) (fun hcc => absurd (Int32.le_refl _) hcc)
      exact k _ S1 (ht.mv (fun s' i' j' a' b' q1 q2 q3 q4 q5 q6 => by unfold mdn at q6 ⊢; omega))
    | succ d ih =>
      intro a s i j v5 S1 hs hi hj ha ht k
      have ha6 : a < 6 := by omega
      refine z_iload hX (D_Model_findMay (i := 19) rfl) rfl ?_
      refine z_bipush (v := 6) hX (D_Model_findMay (i := 20) rfl) (by decide) ?_
      refine z_icmp_ge (tgt := 81) hX (D_Model_findMay (i := 21) rfl) (by decide) (fun hcc => absurd hcc (nI_ge (b := 6) ha6 (by decide))) (fun _ => ?_)
      refine z_iconst (v := 0) hX (D_Model_findMay (i := 22) rfl) (by decide) ?_
      refine z_istore hX (D_Model_findMay (i := 23) rfl) (by decide) rfl ?_
      refine LB 6 0 s i j a S1 hs hi hj ha6 rfl ht (fun S2 h2 => ?_)
      first | refine z_inc1 hX (D_Model_findMay (i := 45) rfl) rfl (by decide) rfl ?_ | refine z_iinc hX (D_Model_findMay (i := 45) rfl) rfl rfl (by decide) rfl ?_
      refine z_goto (tgt := 26) hX (D_Model_findMay (i := 46) rfl) (by decide) ?_
      exact ih (a + 1) s i j _ S2 hs hi hj (by omega) h2 k
  have LJ : ∀ (d j s i : Nat) (v4 v5 : Option zV) (S1 : Nat → Nat → Int32), z_isJ (some v4) = false → s < 4 → i < j → j + d = 4 → mtb Λ S S1 s i j 0 0 → (∀ v4 v5 S2, z_isJ (some v4) = false → mtb Λ S S2 s (i + 1) 0 0 0 → zW ι M_Model_findMay X 87 [some (zP 40 0), some (zI (nI s)), some (zI (nI i)), some (zI (nI 4)), v4, v5] [] (tm mem S2)) → zW ι M_Model_findMay X 18 [some (zP 40 0), some (zI (nI s)), some (zI (nI i)), some (zI (nI j)), v4, v5] [] (tm mem S1) := by
    intro d
    induction d with
    | zero =>
      intro j s i v4 v5 S1 hv hs hi hj ht k
      obtain rfl : j = 4 := hj
      refine z_iload_n hX (D_Model_findMay (i := 14) rfl) rfl ?_
      refine z_iconst (v := 4) hX (D_Model_findMay (i := 15) rfl) (by decide) ?_
      refine z_icmp_ge (tgt := 87) hX (D_Model_findMay (i := 16) rfl) (by decide) (fun _ => ?_) (fun hcc => absurd (Int32.le_refl _) hcc)
      exact k _ _ S1 hv (ht.mv (fun s' i' j' a' b' q1 q2 q3 q4 q5 q6 => by unfold mdn at q6 ⊢; omega))
    | succ d ih =>
      intro j s i v4 v5 S1 hv hs hi hj ht k
      have hj4 : j < 4 := by omega
      refine z_iload_n hX (D_Model_findMay (i := 14) rfl) rfl ?_
      refine z_iconst (v := 4) hX (D_Model_findMay (i := 15) rfl) (by decide) ?_
      refine z_icmp_ge (tgt := 87) hX (D_Model_findMay (i := 16) rfl) (by decide) (fun hcc => absurd hcc (nI_ge (b := 4) hj4 (by decide))) (fun _ => ?_)
      refine z_iconst (v := 0) hX (D_Model_findMay (i := 17) rfl) (by decide) ?_
      refine z_istore hX (D_Model_findMay (i := 18) rfl) (by decide) rfl ?_
      refine LA 6 0 s i j _ S1 hs hi hj4 rfl ht (fun v5 S2 h2 => ?_)
      first | refine z_inc1 hX (D_Model_findMay (i := 47) rfl) rfl (by decide) rfl ?_ | refine z_iinc hX (D_Model_findMay (i := 47) rfl) rfl rfl (by decide) rfl ?_
      refine z_goto (tgt := 18) hX (D_Model_findMay (i := 48) rfl) (by decide) ?_
      exact ih (j + 1) s i _ _ S2 rfl hs (by omega) (by omega) h2 k
  have LI : ∀ (d i s : Nat) (v3 v4 v5 : Option zV) (S1 : Nat → Nat → Int32), z_isJ (some v3) = false → z_isJ (some v4) = false → s < 4 → i + d = 4 → mtb Λ S S1 s i 0 0 0 → (∀ v3 v4 v5 S2, z_isJ (some v3) = false → z_isJ (some v4) = false → mtb Λ S S2 (s + 1) 0 0 0 0 → zW ι M_Model_findMay X 93 [some (zP 40 0), some (zI (nI s)), some (zI (nI 4)), v3, v4, v5] [] (tm mem S2)) → zW ι M_Model_findMay X 9 [some (zP 40 0), some (zI (nI s)), some (zI (nI i)), v3, v4, v5] [] (tm mem S1) := by
    intro d
    induction d with
    | zero =>
      intro i s v3 v4 v5 S1 hv3 hv hs hi ht k
      obtain rfl : i = 4 := hi
      refine z_iload_n hX (D_Model_findMay (i := 7) rfl) rfl ?_
      refine z_iconst (v := 4) hX (D_Model_findMay (i := 8) rfl) (by decide) ?_
      refine z_icmp_ge (tgt := 93) hX (D_Model_findMay (i := 9) rfl) (by decide) (fun _ => ?_) (fun hcc => absurd (Int32.le_refl _) hcc)
      exact k _ _ _ S1 hv3 hv (ht.mv (fun s' i' j' a' b' q1 q2 q3 q4 q5 q6 => by unfold mdn at q6 ⊢; omega))
    | succ d ih =>
      intro i s v3 v4 v5 S1 hv3 hv hs hi ht k
      have hi4 : i < 4 := by omega
      refine z_iload_n hX (D_Model_findMay (i := 7) rfl) rfl ?_
      refine z_iconst (v := 4) hX (D_Model_findMay (i := 8) rfl) (by decide) ?_
      refine z_icmp_ge (tgt := 93) hX (D_Model_findMay (i := 9) rfl) (by decide) (fun hcc => absurd hcc (nI_ge (b := 4) hi4 (by decide))) (fun _ => ?_)
      refine z_iload_n hX (D_Model_findMay (i := 10) rfl) rfl ?_
      refine z_iconst (v := 1) hX (D_Model_findMay (i := 11) rfl) (by decide) ?_
      refine z_iadd hX (D_Model_findMay (i := 12) rfl) ?_
      rw [show nI i + 1 = nI (i + 1) from nI_add i 1]
      refine z_istore_n hX (D_Model_findMay (i := 13) rfl) (by decide) rfl ?_
      refine LJ (4 - (i + 1)) (i + 1) s i _ _ S1 hv hs (by omega) (by omega) (ht.mv (fun s' i' j' a' b' q1 q2 q3 q4 q5 q6 => by unfold mdn at q6 ⊢; omega)) (fun v4 v5 S2 hv4 h2 => ?_)
      first | refine z_inc1 hX (D_Model_findMay (i := 49) rfl) rfl (by decide) rfl ?_ | refine z_iinc hX (D_Model_findMay (i := 49) rfl) rfl rfl (by decide) rfl ?_
      refine z_goto (tgt := 9) hX (D_Model_findMay (i := 50) rfl) (by decide) ?_
      exact ih (i + 1) s _ _ _ S2 rfl hv4 hs (by omega) h2 k
  have LS : ∀ (d s : Nat) (v2 v3 v4 v5 : Option zV) (S1 : Nat → Nat → Int32), z_isJ (some v2) = false → z_isJ (some v3) = false → z_isJ (some v4) = false → s + d = 4 → mtb Λ S S1 s 0 0 0 0 → zW ι M_Model_findMay X 2 [some (zP 40 0), some (zI (nI s)), v2, v3, v4, v5] [] (tm mem S1) := by
    intro d
    induction d with
    | zero =>
      intro s v2 v3 v4 v5 S1 hv2 hv3 hv hs ht
      obtain rfl : s = 4 := hs
      refine z_iload_n hX (D_Model_findMay (i := 2) rfl) rfl ?_
      refine z_iconst (v := 4) hX (D_Model_findMay (i := 3) rfl) (by decide) ?_
      refine z_icmp_ge (tgt := 99) hX (D_Model_findMay (i := 4) rfl) (by decide) (fun _ => ?_) (fun hcc => absurd (Int32.le_refl _) hcc)
      exact z_ret hX hR (D_Model_findMay (i := 53) rfl) rfl (h S1 ht.1 (fun s' i' j' a' b' q1 q2 q3 q4 q5 => ht.2 s' i' j' a' b' q1 q2 q3 q4 q5 (Or.inl q1)))
    | succ d ih =>
      intro s v2 v3 v4 v5 S1 hv2 hv3 hv hs ht
      have hs4 : s < 4 := by omega
      refine z_iload_n hX (D_Model_findMay (i := 2) rfl) rfl ?_
      refine z_iconst (v := 4) hX (D_Model_findMay (i := 3) rfl) (by decide) ?_
      refine z_icmp_ge (tgt := 99) hX (D_Model_findMay (i := 4) rfl) (by decide) (fun hcc => absurd hcc (nI_ge (b := 4) hs4 (by decide))) (fun _ => ?_)
      refine z_iconst (v := 0) hX (D_Model_findMay (i := 5) rfl) (by decide) ?_
      refine z_istore_n hX (D_Model_findMay (i := 6) rfl) (by decide) rfl ?_
      refine LI 4 0 s _ _ _ S1 hv3 hv hs4 rfl ht (fun v3 v4 v5 S2 hv3 hv4 h2 => ?_)
      first | refine z_inc1 hX (D_Model_findMay (i := 51) rfl) rfl (by decide) rfl ?_ | refine z_iinc hX (D_Model_findMay (i := 51) rfl) rfl rfl (by decide) rfl ?_
      refine z_goto (tgt := 2) hX (D_Model_findMay (i := 52) rfl) (by decide) ?_
      exact ih (s + 1) _ _ _ _ S2 rfl hv3 hv4 (by omega) h2
  refine z_iconst (v := 0) hX (D_Model_findMay (i := 0) rfl) (by decide) ?_
  refine z_istore_n hX (D_Model_findMay (i := 1) rfl) (by decide) rfl ?_
  exact LS 4 0 none none none none S rfl rfl rfl rfl ⟨fun _ _ _ _ _ => rfl, fun s' i' j' a' b' q1 q2 q3 q4 q5 q6 => by unfold mdn at q6; omega⟩
end D9
