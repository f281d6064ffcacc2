/-! the reference: bodies and acts -/
def aTM (mem : zM) (r : Nat) (b : Int32) : zM := upI (if r < 24 then upI mem 63 0 r b else mem) 40 0 39 (nI (r + 1))
def trMM : zM → Nat → List Int32 → zM
  | mem, _, [] => mem
  | mem, r, b :: t => trMM (aTM mem r b) (r + 1) t
theorem trMM_app : ∀ (mem : zM) (r : Nat) (a b : List Int32), trMM mem r (a ++ b) = trMM (trMM mem r a) (r + a.length) b
  | mem, r, [], b => rfl
  | mem, r, x :: a, b => by
    show trMM (aTM mem r x) (r + 1) (a ++ b) = trMM (trMM (aTM mem r x) (r + 1) a) (r + (a.length + 1)) b
    rw [trMM_app, show r + (a.length + 1) = r + 1 + a.length by omega]
def BodyM (mem : zM) (s κ r : Nat) : Prop := s < 50 ∧ mem.1 62 0 s = nI κ ∧ κ < 8 ∧ mem.1 40 0 39 = nI r
theorem BodyM.aT {mem : zM} {s κ r : Nat} (b : Int32) (h : BodyM mem s κ r) : BodyM (aTM mem r b) s κ (r + 1) := by
  obtain ⟨h1, h2, h3, h4⟩ := h
  show BodyM (upI (if r < 24 then upI mem 63 0 r b else mem) 40 0 39 (nI (r + 1))) s κ (r + 1)
  refine ⟨h1, ?_, h3, ?_⟩
  · split
    · simp [upI_get, h2]
    · simp [upI_get, h2]
  · simp [upI_get]
theorem BodyM.tr {s κ : Nat} : ∀ (bs : List Int32) {mem : zM} {r : Nat}, BodyM mem s κ r → BodyM (trMM mem r bs) s κ (r + bs.length)
  | [], mem, r, h => h
  | b :: t, mem, r, h => by
    have := BodyM.tr t (h.aT b)
    rw [show r + 1 + t.length = r + (b :: t).length by simp; omega] at this
    exact this
def ptP (s x : Int32) : Int32 × List Int32 := (x + s, [1])
def ttP (s x : Int32) : Int32 × List Int32 := ((ptP s x).1 * 2, 70 :: (ptP s x).2)
def tuP (κ : Nat) (s x : Int32) : Int32 × List Int32 := if unN 8 κ 1 = true then ((ptP s x).1 + 3, 20 :: (ptP s x).2) else if κ = 7 then ((ttP s x).1 - 1, 81 :: (ttP s x).2) else if κ = 6 then ttP s x else ptP s x
def psP (κ : Nat) (s x : Int32) : Int32 × List Int32 := ((tuP κ s x).1 * 2, 10 :: (tuP κ s x).2)
def wsP (κ : Nat) (s x : Int32) : Int32 × List Int32 := (-(psP κ s x).1, 30 :: (psP κ s x).2)
def plP (s x : Int32) : Int32 × List Int32 := (x ^^^ s, [11])
def liP (κ : Nat) (s x : Int32) : Int32 × List Int32 := if κ = 3 then ((plP s x).1 * 3, 40 :: (plP s x).2) else if κ = 5 then ((plP s x).1 - (tuP κ s 2).1, 60 :: ((plP s x).2 ++ (tuP κ s 2).2)) else plP s x
def shP (κ : Nat) (s x : Int32) : Int32 × List Int32 := if κ = 3 then ((wsP κ s (x + 1)).1, 41 :: (wsP κ s (x + 1)).2) else if κ = 7 then ((psP κ s x).1 + (liP κ s 2).1, 80 :: ((psP κ s x).2 ++ (liP κ s 2).2)) else if κ = 2 then wsP κ s x else psP κ s x
def peP (κ : Nat) (s x : Int32) : Int32 × List Int32 := ((shP κ s x).1 - (liP κ s 1).1, 2 :: ((shP κ s x).2 ++ (liP κ s 1).2))
def reP (κ : Nat) (s x : Int32) : Int32 × List Int32 := ((peP κ s x).1 ^^^ 5, 50 :: (peP κ s x).2)
def teP (κ : Nat) (s x : Int32) : Int32 × List Int32 := if κ = 5 then ((reP κ s x).1 + 1, 61 :: (reP κ s x).2) else if κ = 4 then reP κ s x else peP κ s x
def acP (κ d : Nat) (s x : Int32) : Int32 × List Int32 := if d = 0 then tuP κ s x else if d = 1 then shP κ s x else if d = 2 then liP κ s x else teP κ s x
theorem ac_eq (s x : Int32) : ∀ κ, κ < 8 → ∀ d, d < 4 → rfP 20 κ s κ d x = acP κ d s x := by
  intro κ hκ d hd
  match κ, hκ, d, hd with
  | 0, _, 0, _ => rfl
  | 0, _, 1, _ => rfl
  | 0, _, 2, _ => rfl
  | 0, _, 3, _ => rfl
  | 1, _, 0, _ => rfl
  | 1, _, 1, _ => rfl
  | 1, _, 2, _ => rfl
  | 1, _, 3, _ => rfl
  | 2, _, 0, _ => rfl
  | 2, _, 1, _ => rfl
  | 2, _, 2, _ => rfl
  | 2, _, 3, _ => rfl
  | 3, _, 0, _ => rfl
  | 3, _, 1, _ => rfl
  | 3, _, 2, _ => rfl
  | 3, _, 3, _ => rfl
  | 4, _, 0, _ => rfl
  | 4, _, 1, _ => rfl
  | 4, _, 2, _ => rfl
  | 4, _, 3, _ => rfl
  | 5, _, 0, _ => rfl
  | 5, _, 1, _ => rfl
  | 5, _, 2, _ => rfl
  | 5, _, 3, _ => rfl
  | 6, _, 0, _ => rfl
  | 6, _, 1, _ => rfl
  | 6, _, 2, _ => rfl
  | 6, _, 3, _ => rfl
  | 7, _, 0, _ => rfl
  | 7, _, 1, _ => rfl
  | 7, _, 2, _ => rfl
  | 7, _, 3, _ => rfl
theorem ln_tu (κ : Nat) (s x : Int32) : (tuP κ s x).2.length ≤ 3 := by unfold tuP; split; exact (by decide : 2 ≤ 3); split; exact Nat.le_refl 3; split; exact (by decide : 2 ≤ 3); exact (by decide : 1 ≤ 3)
theorem ln_ps (κ : Nat) (s x : Int32) : (psP κ s x).2.length ≤ 4 := Nat.succ_le_succ (ln_tu κ s x)
theorem ln_ws (κ : Nat) (s x : Int32) : (wsP κ s x).2.length ≤ 5 := Nat.succ_le_succ (ln_ps κ s x)
theorem ln_li (κ : Nat) (s x : Int32) : (liP κ s x).2.length ≤ 5 := by
  unfold liP
  split
  · exact (by decide : 2 ≤ 5)
  · split
    · have := ln_tu κ s 2
      show ((plP s x).2 ++ (tuP κ s 2).2).length + 1 ≤ 5
      rw [List.length_append]
      show 1 + _ + 1 ≤ 5
      omega
    · exact (by decide : 1 ≤ 5)
theorem ln_sh (κ : Nat) (s x : Int32) : (shP κ s x).2.length ≤ 10 := by
  unfold shP
  have h1 := ln_ws κ s (x + 1)
  have h2 := ln_ps κ s x
  have h3 := ln_li κ s 2
  have h4 := ln_ws κ s x
  split
  · show (wsP κ s (x + 1)).2.length + 1 ≤ 10
    omega
  · split
    · show ((psP κ s x).2 ++ (liP κ s 2).2).length + 1 ≤ 10
      rw [List.length_append]; omega
    · split <;> omega
theorem ln_pe (κ : Nat) (s x : Int32) : (peP κ s x).2.length ≤ 16 := by
  have h1 := ln_sh κ s x
  have h2 := ln_li κ s 1
  show ((shP κ s x).2 ++ (liP κ s 1).2).length + 1 ≤ 16
  rw [List.length_append]; omega
theorem ln_te (κ : Nat) (s x : Int32) : (teP κ s x).2.length ≤ 18 := by
  have h1 := ln_pe κ s x
  unfold teP
  split
  · show (peP κ s x).2.length + 1 + 1 ≤ 18
    omega
  · split
    · show (peP κ s x).2.length + 1 ≤ 18
      omega
    · omega
theorem ln_ac (κ d : Nat) (s x : Int32) : (acP κ d s x).2.length ≤ 18 := by
  unfold acP
  have h1 := ln_tu κ s x
  have h2 := ln_sh κ s x
  have h3 := ln_li κ s x
  have h4 := ln_te κ s x
  split
  · omega
  · split
    · omega
    · split <;> omega
theorem un_tab : ∀ a, a < 8 → ∀ t, t < 8 → unN 8 a t = decide (t = 0 ∨ a = t ∨ (t = 1 ∧ (a = 4 ∨ a = 5)) ∨ (t = 2 ∧ a = 3) ∨ (t = 4 ∧ a = 5) ∨ (t = 6 ∧ a = 7)) := by decide +kernel
section G3
variable {l : Launch} {ι : zE} {mem : zM} {Post : Option zV → zM → Prop} {x y z : Int32} {sz nb : Nat} {s κ r : Nat}
theorem d_ran (hH : zHas ι pM) (hr : mem.1 40 0 39 = nI r) (h3 : r < 1000000) (h : Post none (aTM mem r x)) : zC l ι M_Model_ran 0 [zP 40 0, zI x] mem Post := by
  unfold aTM at h
  refine z_enter hH (by decide) (by simp [z_ent, M_Model_ran]) (fun X hXl hX hR => ?_)
  have main : zW ι M_Model_ran X 19 [some (zP 40 0), some (zI x)] [] (if r < 24 then upI mem 63 0 r x else mem) := by
    refine z_aload_n hX (D_Model_ran (i := 10) rfl) rfl ?_
    refine z_dupP hX (D_Model_ran (i := 11) rfl) ?_
    refine z_geti hX (D_Model_ran (i := 12) rfl) f_Model_348 rfl (by decide) (by first | exact Nat.one_pos | assumption | omega) rfl ?_
    rw [show (if r < 24 then upI mem 63 0 r x else mem).1 40 0 39 = nI r by split; simp [upI_get, hr]; exact hr]
    refine z_iconst (v := 1) hX (D_Model_ran (i := 13) rfl) (by decide) ?_
    refine z_iadd hX (D_Model_ran (i := 14) rfl) ?_
    rw [nlit, nI_add]
    refine z_puti hX (D_Model_ran (i := 15) rfl) g_Model_348 rfl (by decide) (by first | exact Nat.one_pos | assumption | omega) rfl ?_
    exact z_ret hX hR (D_Model_ran (i := 16) rfl) rfl (by assumption)
  refine z_aload_n hX (D_Model_ran (i := 0) rfl) rfl ?_
  refine z_geti hX (D_Model_ran (i := 1) rfl) f_Model_348 rfl (by decide) (by first | exact Nat.one_pos | assumption | omega) rfl ?_
  refine z_bipush (v := 24) hX (D_Model_ran (i := 2) rfl) (by decide) ?_
  rw [hr]
  refine z_icmp_ge (tgt := 19) hX (D_Model_ran (i := 3) rfl) (by decide) (fun h1 => ?_) (fun h1 => ?_)
  · skip
    have : ¬ r < 24 := fun w => absurd h1 (nI_ge (b := 24) w (by decide))
    rw [if_neg this] at main
    exact main
  · refine z_aload_n hX (D_Model_ran (i := 4) rfl) rfl ?_
    refine z_getc hX (D_Model_ran (i := 5) rfl) f_Model_79 rfl (by decide) (by first | exact Nat.one_pos | assumption | omega) rfl ?_
    refine z_aload_n hX (D_Model_ran (i := 6) rfl) rfl ?_
    refine z_geti hX (D_Model_ran (i := 7) rfl) f_Model_348 rfl (by decide) (by first | exact Nat.one_pos | assumption | omega) rfl ?_
    refine z_iload_n hX (D_Model_ran (i := 8) rfl) rfl ?_
    have : r < 24 := Nat.not_le.mp (fun w => h1 (nI_le (a := 24) w (by omega)))
    rw [if_pos this] at main
    rw [hr]
    refine z_iast (j := r) hX (D_Model_ran (i := 9) rfl) rfl (by decide) (by first | exact Nat.one_pos | assumption | omega) (by decide) rfl this ?_
    exact main
theorem d_isUnder {a t : Nat} (ha : a < 8) (ht : t < 8) (h : Post (some (zI (bI (unN 8 a t)))) mem) : zC l ι M_Model_isUnder 0 [zI (nI a), zI (nI t)] mem Post := by
  have hH : zHas ι [] := zHas.nil
  have T : unN 8 a t = true ↔ (t = 0 ∨ a = t ∨ (t = 1 ∧ (a = 4 ∨ a = 5)) ∨ (t = 2 ∧ a = 3) ∨ (t = 4 ∧ a = 5) ∨ (t = 6 ∧ a = 7)) := by
    rw [un_tab a ha t ht, decide_eq_true_iff]
  have lit : ∀ {u n : Nat}, u < 8 → n < 8 → (nI u = nI n ↔ u = n) := fun h1 h2 => nI_eq (by omega) (by omega)
  refine z_enter hH (by decide) (by simp [z_ent, M_Model_isUnder]) (fun X hXl hX hR => ?_)
  have yes : (t = 0 ∨ a = t ∨ (t = 1 ∧ (a = 4 ∨ a = 5)) ∨ (t = 2 ∧ a = 3) ∨ (t = 4 ∧ a = 5) ∨ (t = 6 ∧ a = 7)) → zW ι M_Model_isUnder X 56 [some (zI (nI a)), some (zI (nI t))] [] mem := by
    intro q
    rw [T.mpr q] at h
    refine z_iconst (v := 1) hX (D_Model_isUnder (i := 32) rfl) (by decide) ?_
    refine z_goto (tgt := 61) hX (D_Model_isUnder (i := 33) rfl) (by decide) ?_
    exact z_zret hX hR (D_Model_isUnder (i := 35) rfl) rfl (by first | exact Or.inl rfl | exact Or.inr rfl | assumption) (by assumption)
  refine z_iload_n hX (D_Model_isUnder (i := 0) rfl) rfl ?_
  refine z_if_eq (tgt := 56) hX (D_Model_isUnder (i := 1) rfl) (by decide) (fun q0 => ?_) (fun q0 => ?_)
  · skip
    exact yes (Or.inl ((lit (n := 0) ht (by decide)).mp q0))
  · refine z_iload_n hX (D_Model_isUnder (i := 2) rfl) rfl ?_
    refine z_iload_n hX (D_Model_isUnder (i := 3) rfl) rfl ?_
    have n0 : ¬ t = 0 := fun e => q0 (by rw [e]; rfl)
    refine z_icmp_eq (tgt := 56) hX (D_Model_isUnder (i := 4) rfl) (by decide) (fun q1 => ?_) (fun q1 => ?_)
    · skip
      exact yes (Or.inr (Or.inl ((lit ha ht).mp q1)))
    · skip
      have n1 : ¬ a = t := fun e => q1 (by rw [e])
      have c6 : ¬ (t = 1 ∧ (a = 4 ∨ a = 5)) → ¬ (t = 2 ∧ a = 3) → ¬ (t = 4 ∧ a = 5) → zW ι M_Model_isUnder X 44 [some (zI (nI a)), some (zI (nI t))] [] mem := by
        intro m1 m2 m3
        refine z_iload_n hX (D_Model_isUnder (i := 26) rfl) rfl ?_
        refine z_bipush (v := 6) hX (D_Model_isUnder (i := 27) rfl) (by decide) ?_
        refine z_icmp_ne (tgt := 60) hX (D_Model_isUnder (i := 28) rfl) (by decide) (fun q2 => ?_) (fun q2 => ?_)
        · refine z_iconst (v := 0) hX (D_Model_isUnder (i := 34) rfl) (by decide) ?_
          have m4 : ¬ t = 6 := fun e => q2 (by rw [e]; rfl)
          have : unN 8 a t = false := by
            cases hu : unN 8 a t with
            | false => rfl
            | true =>
              rcases T.mp hu with e | e | e | e | e | e
              · exact absurd e n0
              · exact absurd e n1
              · exact absurd e m1
              · exact absurd e m2
              · exact absurd e m3
              · exact absurd e.1 m4
          rw [this] at h
          exact z_zret hX hR (D_Model_isUnder (i := 35) rfl) rfl (by first | exact Or.inl rfl | exact Or.inr rfl | assumption) (by assumption)
        · refine z_iload_n hX (D_Model_isUnder (i := 29) rfl) rfl ?_
          refine z_bipush (v := 7) hX (D_Model_isUnder (i := 30) rfl) (by decide) ?_
          have m4 : t = 6 := (lit (n := 6) ht (by decide)).mp q2
          refine z_icmp_ne (tgt := 60) hX (D_Model_isUnder (i := 31) rfl) (by decide) (fun q3 => ?_) (fun q3 => ?_)
          · refine z_iconst (v := 0) hX (D_Model_isUnder (i := 34) rfl) (by decide) ?_
            have m5 : ¬ a = 7 := fun e => q3 (by rw [e]; rfl)
            have : unN 8 a t = false := by
              cases hu : unN 8 a t with
              | false => rfl
              | true =>
                rcases T.mp hu with e | e | e | e | e | e
                · exact absurd e n0
                · exact absurd e n1
                · exact absurd e m1
                · exact absurd e m2
                · exact absurd e m3
                · exact absurd e.2 m5
            rw [this] at h
            exact z_zret hX hR (D_Model_isUnder (i := 35) rfl) rfl (by first | exact Or.inl rfl | exact Or.inr rfl | assumption) (by assumption)
          · skip
            exact yes (Or.inr (Or.inr (Or.inr (Or.inr (Or.inr ⟨m4, (lit (n := 7) ha (by decide)).mp q3⟩)))))
      have c4 : ¬ (t = 1 ∧ (a = 4 ∨ a = 5)) → ¬ (t = 2 ∧ a = 3) → zW ι M_Model_isUnder X 34 [some (zI (nI a)), some (zI (nI t))] [] mem := by
        intro m1 m2
        refine z_iload_n hX (D_Model_isUnder (i := 20) rfl) rfl ?_
        refine z_iconst (v := 4) hX (D_Model_isUnder (i := 21) rfl) (by decide) ?_
        refine z_icmp_ne (tgt := 44) hX (D_Model_isUnder (i := 22) rfl) (by decide) (fun q2 => ?_) (fun q2 => ?_)
        · skip
          exact c6 m1 m2 (fun e => q2 (by rw [e.1]; rfl))
        · refine z_iload_n hX (D_Model_isUnder (i := 23) rfl) rfl ?_
          refine z_iconst (v := 5) hX (D_Model_isUnder (i := 24) rfl) (by decide) ?_
          have m4 : t = 4 := (lit (n := 4) ht (by decide)).mp q2
          refine z_icmp_eq (tgt := 56) hX (D_Model_isUnder (i := 25) rfl) (by decide) (fun q3 => ?_) (fun q3 => ?_)
          · skip
            exact yes (Or.inr (Or.inr (Or.inr (Or.inr (Or.inl ⟨m4, (lit (n := 5) ha (by decide)).mp q3⟩)))))
          · skip
            exact c6 m1 m2 (fun e => q3 (by rw [e.2]; rfl))
      have c2 : ¬ (t = 1 ∧ (a = 4 ∨ a = 5)) → zW ι M_Model_isUnder X 24 [some (zI (nI a)), some (zI (nI t))] [] mem := by
        intro m1
        refine z_iload_n hX (D_Model_isUnder (i := 14) rfl) rfl ?_
        refine z_iconst (v := 2) hX (D_Model_isUnder (i := 15) rfl) (by decide) ?_
        refine z_icmp_ne (tgt := 34) hX (D_Model_isUnder (i := 16) rfl) (by decide) (fun q2 => ?_) (fun q2 => ?_)
        · skip
          exact c4 m1 (fun e => q2 (by rw [e.1]; rfl))
        · refine z_iload_n hX (D_Model_isUnder (i := 17) rfl) rfl ?_
          refine z_iconst (v := 3) hX (D_Model_isUnder (i := 18) rfl) (by decide) ?_
          have m4 : t = 2 := (lit (n := 2) ht (by decide)).mp q2
          refine z_icmp_eq (tgt := 56) hX (D_Model_isUnder (i := 19) rfl) (by decide) (fun q3 => ?_) (fun q3 => ?_)
          · skip
            exact yes (Or.inr (Or.inr (Or.inr (Or.inl ⟨m4, (lit (n := 3) ha (by decide)).mp q3⟩))))
          · skip
            exact c4 m1 (fun e => q3 (by rw [e.2]; rfl))
      refine z_iload_n hX (D_Model_isUnder (i := 5) rfl) rfl ?_
      refine z_iconst (v := 1) hX (D_Model_isUnder (i := 6) rfl) (by decide) ?_
      refine z_icmp_ne (tgt := 24) hX (D_Model_isUnder (i := 7) rfl) (by decide) (fun q2 => ?_) (fun q2 => ?_)
      · skip
        exact c2 (fun e => q2 (by rw [e.1]; rfl))
      · refine z_iload_n hX (D_Model_isUnder (i := 8) rfl) rfl ?_
        refine z_iconst (v := 4) hX (D_Model_isUnder (i := 9) rfl) (by decide) ?_
        have m4 : t = 1 := (lit (n := 1) ht (by decide)).mp q2
        refine z_icmp_eq (tgt := 56) hX (D_Model_isUnder (i := 10) rfl) (by decide) (fun q3 => ?_) (fun q3 => ?_)
        · skip
          exact yes (Or.inr (Or.inr (Or.inl ⟨m4, Or.inl ((lit (n := 4) ha (by decide)).mp q3)⟩)))
        · refine z_iload_n hX (D_Model_isUnder (i := 11) rfl) rfl ?_
          refine z_iconst (v := 5) hX (D_Model_isUnder (i := 12) rfl) (by decide) ?_
          refine z_icmp_eq (tgt := 56) hX (D_Model_isUnder (i := 13) rfl) (by decide) (fun q4 => ?_) (fun q4 => ?_)
          · skip
            exact yes (Or.inr (Or.inr (Or.inl ⟨m4, Or.inr ((lit (n := 5) ha (by decide)).mp q4)⟩)))
          · skip
            exact c2 (fun e => e.2.elim (fun e => q3 (by rw [e]; rfl)) (fun e => q4 (by rw [e]; rfl)))
theorem d_plainTurns (hH : zHas ι pM) (hB : BodyM mem s κ r) (h3 : r < 900000) (h : Post (some (zI (ptP (nI s) x).1)) (trMM mem r (ptP (nI s) x).2)) : zC l ι M_Model_plainTurns 1 [zP 40 0, zI (nI s), zI x] mem Post := by
  refine z_enter hH (by decide) (by simp [z_ent, M_Model_plainTurns]) (fun X hXl hX hR => ?_)
  refine z_aload_n hX (D_Model_plainTurns (i := 0) rfl) rfl ?_
  refine z_iconst (v := 1) hX (D_Model_plainTurns (i := 1) rfl) (by decide) ?_
  refine z_cV1 hX (D_Model_plainTurns (i := 2) rfl) mi_Model_ran l_Model_351 rfl rfl (by decide) (by first | exact Nat.one_pos | assumption | omega) (by first | decide | omega) (Nat.le_of_ble_eq_true rfl) (d_ran hH hB.2.2.2 (by omega) ?_)
  refine z_iload_n hX (D_Model_plainTurns (i := 3) rfl) rfl ?_
  refine z_iload_n hX (D_Model_plainTurns (i := 4) rfl) rfl ?_
  refine z_iadd hX (D_Model_plainTurns (i := 5) rfl) ?_
  exact z_iret hX hR (D_Model_plainTurns (i := 6) rfl) rfl h
theorem d_toldTurns (hH : zHas ι pM) (hB : BodyM mem s κ r) (h3 : r < 800000) (h : Post (some (zI (ttP (nI s) x).1)) (trMM mem r (ttP (nI s) x).2)) : zC l ι M_Model_toldTurns 2 [zP 40 0, zI (nI s), zI x] mem Post := by
  refine z_enter hH (by decide) (by simp [z_ent, M_Model_toldTurns]) (fun X hXl hX hR => ?_)
  refine z_aload_n hX (D_Model_toldTurns (i := 0) rfl) rfl ?_
  refine z_bipush (v := 70) hX (D_Model_toldTurns (i := 1) rfl) (by decide) ?_
  refine z_cV1 hX (D_Model_toldTurns (i := 2) rfl) mi_Model_ran l_Model_351 rfl rfl (by decide) (by first | exact Nat.one_pos | assumption | omega) (by first | decide | omega) (Nat.le_of_ble_eq_true rfl) (d_ran hH hB.2.2.2 (by omega) ?_)
  refine z_aload_n hX (D_Model_toldTurns (i := 3) rfl) rfl ?_
  refine z_iload_n hX (D_Model_toldTurns (i := 4) rfl) rfl ?_
  refine z_iload_n hX (D_Model_toldTurns (i := 5) rfl) rfl ?_
  refine z_cV2 hX (D_Model_toldTurns (i := 6) rfl) mi_Model_plainTurns l_Model_354 rfl rfl (by decide) (by first | exact Nat.one_pos | assumption | omega) (by first | decide | omega) (Nat.le_of_ble_eq_true rfl) (d_plainTurns hH (hB.aT 70) (by omega) ?_)
  refine z_iconst (v := 2) hX (D_Model_toldTurns (i := 7) rfl) (by decide) ?_
  refine z_imul hX (D_Model_toldTurns (i := 8) rfl) ?_
  exact z_iret hX hR (D_Model_toldTurns (i := 9) rfl) rfl h
theorem d_turningBy (hH : zHas ι pM) (hB : BodyM mem s κ r) (h3 : r < 700000) (h : Post (some (zI (tuP κ (nI s) x).1)) (trMM mem r (tuP κ (nI s) x).2)) : zC l ι M_Model_turningBy 3 [zP 40 0, zI (nI s), zI x] mem Post := by
  unfold tuP at h
  refine z_enter hH (by decide) (by simp [z_ent, M_Model_turningBy]) (fun X hXl hX hR => ?_)
  refine z_aload_n hX (D_Model_turningBy (i := 0) rfl) rfl ?_
  refine z_getc hX (D_Model_turningBy (i := 1) rfl) f_Model_76 rfl (by decide) (by first | exact Nat.one_pos | assumption | omega) rfl ?_
  refine z_iload_n hX (D_Model_turningBy (i := 2) rfl) rfl ?_
  refine z_iald (j := s) hX (D_Model_turningBy (i := 3) rfl) rfl (by decide) (by first | exact Nat.one_pos | assumption | omega) (by decide) rfl hB.1 ?_
  rw [hB.2.1]
  refine z_iconst (v := 1) hX (D_Model_turningBy (i := 4) rfl) (by decide) ?_
  refine z_cS2 hX (D_Model_turningBy (i := 5) rfl) ms_Model_isUnder l_Model_357 (by first | decide | omega) (Nat.le_of_ble_eq_true rfl) (d_isUnder (t := 1) hB.2.2.1 (by decide) ?_)
  refine z_if_eq (tgt := 28) hX (D_Model_turningBy (i := 6) rfl) (by decide) (fun h1 => ?_) (fun h1 => ?_)
  · refine z_aload_n hX (D_Model_turningBy (i := 17) rfl) rfl ?_
    refine z_getc hX (D_Model_turningBy (i := 18) rfl) f_Model_76 rfl (by decide) (by first | exact Nat.one_pos | assumption | omega) rfl ?_
    refine z_iload_n hX (D_Model_turningBy (i := 19) rfl) rfl ?_
    rw [if_neg (by rw [bI_0.mp h1]; decide)] at h
    refine z_iald (j := s) hX (D_Model_turningBy (i := 20) rfl) rfl (by decide) (by first | exact Nat.one_pos | assumption | omega) (by decide) rfl hB.1 ?_
    rw [hB.2.1]
    refine z_bipush (v := 7) hX (D_Model_turningBy (i := 21) rfl) (by decide) ?_
    refine z_icmp_ne (tgt := 54) hX (D_Model_turningBy (i := 22) rfl) (by decide) (fun h2 => ?_) (fun h2 => ?_)
    · refine z_aload_n hX (D_Model_turningBy (i := 33) rfl) rfl ?_
      refine z_getc hX (D_Model_turningBy (i := 34) rfl) f_Model_76 rfl (by decide) (by first | exact Nat.one_pos | assumption | omega) rfl ?_
      refine z_iload_n hX (D_Model_turningBy (i := 35) rfl) rfl ?_
      rw [if_neg (fun e => h2 (by rw [e]; rfl))] at h
      refine z_iald (j := s) hX (D_Model_turningBy (i := 36) rfl) rfl (by decide) (by first | exact Nat.one_pos | assumption | omega) (by decide) rfl hB.1 ?_
      rw [hB.2.1]
      refine z_bipush (v := 6) hX (D_Model_turningBy (i := 37) rfl) (by decide) ?_
      refine z_icmp_ne (tgt := 74) hX (D_Model_turningBy (i := 38) rfl) (by decide) (fun h4 => ?_) (fun h4 => ?_)
      · refine z_aload_n hX (D_Model_turningBy (i := 44) rfl) rfl ?_
        refine z_iload_n hX (D_Model_turningBy (i := 45) rfl) rfl ?_
        refine z_iload_n hX (D_Model_turningBy (i := 46) rfl) rfl ?_
        rw [if_neg (fun e => h4 (by rw [e]; rfl))] at h
        refine z_cV2 hX (D_Model_turningBy (i := 47) rfl) mi_Model_plainTurns l_Model_354 rfl rfl (by decide) (by first | exact Nat.one_pos | assumption | omega) (by first | decide | omega) (Nat.le_of_ble_eq_true rfl) (d_plainTurns hH hB (by omega) ?_)
        exact z_iret hX hR (D_Model_turningBy (i := 48) rfl) rfl (by assumption)
      · refine z_aload_n hX (D_Model_turningBy (i := 39) rfl) rfl ?_
        refine z_iload_n hX (D_Model_turningBy (i := 40) rfl) rfl ?_
        refine z_iload_n hX (D_Model_turningBy (i := 41) rfl) rfl ?_
        rw [if_pos ((nI_eq (b := 6) (by have := hB.2.2.1; omega) (by decide)).mp h4)] at h
        refine z_cV2 hX (D_Model_turningBy (i := 42) rfl) mi_Model_toldTurns l_Model_360 rfl rfl (by decide) (by first | exact Nat.one_pos | assumption | omega) (by first | decide | omega) (Nat.le_of_ble_eq_true rfl) (d_toldTurns hH hB (by omega) ?_)
        refine z_goto (tgt := 80) hX (D_Model_turningBy (i := 43) rfl) (by decide) ?_
        exact z_iret hX hR (D_Model_turningBy (i := 48) rfl) rfl (by assumption)
    · refine z_aload_n hX (D_Model_turningBy (i := 23) rfl) rfl ?_
      refine z_bipush (v := 81) hX (D_Model_turningBy (i := 24) rfl) (by decide) ?_
      rw [if_pos ((nI_eq (b := 7) (by have := hB.2.2.1; omega) (by decide)).mp h2)] at h
      refine z_cV1 hX (D_Model_turningBy (i := 25) rfl) mi_Model_ran l_Model_351 rfl rfl (by decide) (by first | exact Nat.one_pos | assumption | omega) (by first | decide | omega) (Nat.le_of_ble_eq_true rfl) (d_ran hH hB.2.2.2 (by omega) ?_)
      refine z_aload_n hX (D_Model_turningBy (i := 26) rfl) rfl ?_
      refine z_iload_n hX (D_Model_turningBy (i := 27) rfl) rfl ?_
      refine z_iload_n hX (D_Model_turningBy (i := 28) rfl) rfl ?_
      refine z_cV2 hX (D_Model_turningBy (i := 29) rfl) mi_Model_toldTurns l_Model_360 rfl rfl (by decide) (by first | exact Nat.one_pos | assumption | omega) (by first | decide | omega) (Nat.le_of_ble_eq_true rfl) (d_toldTurns hH (hB.aT 81) (by omega) ?_)
      refine z_iconst (v := 1) hX (D_Model_turningBy (i := 30) rfl) (by decide) ?_
      refine z_isub hX (D_Model_turningBy (i := 31) rfl) ?_
      exact z_iret hX hR (D_Model_turningBy (i := 32) rfl) rfl (by assumption)
  · refine z_aload_n hX (D_Model_turningBy (i := 7) rfl) rfl ?_
    refine z_bipush (v := 20) hX (D_Model_turningBy (i := 8) rfl) (by decide) ?_
    rw [if_pos (bI_n.mp h1)] at h
    refine z_cV1 hX (D_Model_turningBy (i := 9) rfl) mi_Model_ran l_Model_351 rfl rfl (by decide) (by first | exact Nat.one_pos | assumption | omega) (by first | decide | omega) (Nat.le_of_ble_eq_true rfl) (d_ran hH hB.2.2.2 (by omega) ?_)
    refine z_aload_n hX (D_Model_turningBy (i := 10) rfl) rfl ?_
    refine z_iload_n hX (D_Model_turningBy (i := 11) rfl) rfl ?_
    refine z_iload_n hX (D_Model_turningBy (i := 12) rfl) rfl ?_
    refine z_cV2 hX (D_Model_turningBy (i := 13) rfl) mi_Model_plainTurns l_Model_354 rfl rfl (by decide) (by first | exact Nat.one_pos | assumption | omega) (by first | decide | omega) (Nat.le_of_ble_eq_true rfl) (d_plainTurns hH (hB.aT 20) (by omega) ?_)
    refine z_iconst (v := 3) hX (D_Model_turningBy (i := 14) rfl) (by decide) ?_
    refine z_iadd hX (D_Model_turningBy (i := 15) rfl) ?_
    exact z_iret hX hR (D_Model_turningBy (i := 16) rfl) rfl (by assumption)
theorem d_plainShows (hH : zHas ι pM) (hB : BodyM mem s κ r) (h3 : r < 600000) (h : Post (some (zI (psP κ (nI s) x).1)) (trMM mem r (psP κ (nI s) x).2)) : zC l ι M_Model_plainShows 4 [zP 40 0, zI (nI s), zI x] mem Post := by
  refine z_enter hH (by decide) (by simp [z_ent, M_Model_plainShows]) (fun X hXl hX hR => ?_)
  refine z_aload_n hX (D_Model_plainShows (i := 0) rfl) rfl ?_
  refine z_bipush (v := 10) hX (D_Model_plainShows (i := 1) rfl) (by decide) ?_
  refine z_cV1 hX (D_Model_plainShows (i := 2) rfl) mi_Model_ran l_Model_351 rfl rfl (by decide) (by first | exact Nat.one_pos | assumption | omega) (by first | decide | omega) (Nat.le_of_ble_eq_true rfl) (d_ran hH hB.2.2.2 (by omega) ?_)
  refine z_aload_n hX (D_Model_plainShows (i := 3) rfl) rfl ?_
  refine z_iload_n hX (D_Model_plainShows (i := 4) rfl) rfl ?_
  refine z_iload_n hX (D_Model_plainShows (i := 5) rfl) rfl ?_
  refine z_cV2 hX (D_Model_plainShows (i := 6) rfl) mi_Model_turningBy l_Model_363 rfl rfl (by decide) (by first | exact Nat.one_pos | assumption | omega) (by first | decide | omega) (Nat.le_of_ble_eq_true rfl) (d_turningBy hH (hB.aT 10) (by omega) ?_)
  refine z_iconst (v := 2) hX (D_Model_plainShows (i := 7) rfl) (by decide) ?_
  refine z_imul hX (D_Model_plainShows (i := 8) rfl) ?_
  exact z_iret hX hR (D_Model_plainShows (i := 9) rfl) rfl h
theorem d_wallShows (hH : zHas ι pM) (hB : BodyM mem s κ r) (h3 : r < 500000) (h : Post (some (zI (wsP κ (nI s) x).1)) (trMM mem r (wsP κ (nI s) x).2)) : zC l ι M_Model_wallShows 5 [zP 40 0, zI (nI s), zI x] mem Post := by
  refine z_enter hH (by decide) (by simp [z_ent, M_Model_wallShows]) (fun X hXl hX hR => ?_)
  refine z_aload_n hX (D_Model_wallShows (i := 0) rfl) rfl ?_
  refine z_bipush (v := 30) hX (D_Model_wallShows (i := 1) rfl) (by decide) ?_
  refine z_cV1 hX (D_Model_wallShows (i := 2) rfl) mi_Model_ran l_Model_351 rfl rfl (by decide) (by first | exact Nat.one_pos | assumption | omega) (by first | decide | omega) (Nat.le_of_ble_eq_true rfl) (d_ran hH hB.2.2.2 (by omega) ?_)
  refine z_aload_n hX (D_Model_wallShows (i := 3) rfl) rfl ?_
  refine z_iload_n hX (D_Model_wallShows (i := 4) rfl) rfl ?_
  refine z_iload_n hX (D_Model_wallShows (i := 5) rfl) rfl ?_
  refine z_cV2 hX (D_Model_wallShows (i := 6) rfl) mi_Model_plainShows l_Model_366 rfl rfl (by decide) (by first | exact Nat.one_pos | assumption | omega) (by first | decide | omega) (Nat.le_of_ble_eq_true rfl) (d_plainShows hH (hB.aT 30) (by omega) ?_)
  refine z_ineg hX (D_Model_wallShows (i := 7) rfl) ?_
  exact z_iret hX hR (D_Model_wallShows (i := 8) rfl) rfl h
theorem d_plainLies (hH : zHas ι pM) (hB : BodyM mem s κ r) (h3 : r < 900000) (h : Post (some (zI (plP (nI s) x).1)) (trMM mem r (plP (nI s) x).2)) : zC l ι M_Model_plainLies 1 [zP 40 0, zI (nI s), zI x] mem Post := by
  refine z_enter hH (by decide) (by simp [z_ent, M_Model_plainLies]) (fun X hXl hX hR => ?_)
  refine z_aload_n hX (D_Model_plainLies (i := 0) rfl) rfl ?_
  refine z_bipush (v := 11) hX (D_Model_plainLies (i := 1) rfl) (by decide) ?_
  refine z_cV1 hX (D_Model_plainLies (i := 2) rfl) mi_Model_ran l_Model_351 rfl rfl (by decide) (by first | exact Nat.one_pos | assumption | omega) (by first | decide | omega) (Nat.le_of_ble_eq_true rfl) (d_ran hH hB.2.2.2 (by omega) ?_)
  refine z_iload_n hX (D_Model_plainLies (i := 3) rfl) rfl ?_
  refine z_iload_n hX (D_Model_plainLies (i := 4) rfl) rfl ?_
  refine z_ixor hX (D_Model_plainLies (i := 5) rfl) ?_
  exact z_iret hX hR (D_Model_plainLies (i := 6) rfl) rfl h
theorem d_lying (hH : zHas ι pM) (hB : BodyM mem s κ r) (h3 : r < 500000) (h : Post (some (zI (liP κ (nI s) x).1)) (trMM mem r (liP κ (nI s) x).2)) : zC l ι M_Model_lying 4 [zP 40 0, zI (nI s), zI x] mem Post := by
  unfold liP at h
  have hκ := hB.2.2.1
  refine z_enter hH (by decide) (by simp [z_ent, M_Model_lying]) (fun X hXl hX hR => ?_)
  refine z_aload_n hX (D_Model_lying (i := 0) rfl) rfl ?_
  refine z_getc hX (D_Model_lying (i := 1) rfl) f_Model_76 rfl (by decide) (by first | exact Nat.one_pos | assumption | omega) rfl ?_
  refine z_iload_n hX (D_Model_lying (i := 2) rfl) rfl ?_
  refine z_iald (j := s) hX (D_Model_lying (i := 3) rfl) rfl (by decide) (by first | exact Nat.one_pos | assumption | omega) (by decide) rfl hB.1 ?_
  rw [hB.2.1]
  refine z_iconst (v := 3) hX (D_Model_lying (i := 4) rfl) (by decide) ?_
  refine z_icmp_ne (tgt := 25) hX (D_Model_lying (i := 5) rfl) (by decide) (fun h1 => ?_) (fun h1 => ?_)
  · refine z_aload_n hX (D_Model_lying (i := 16) rfl) rfl ?_
    refine z_getc hX (D_Model_lying (i := 17) rfl) f_Model_76 rfl (by decide) (by first | exact Nat.one_pos | assumption | omega) rfl ?_
    refine z_iload_n hX (D_Model_lying (i := 18) rfl) rfl ?_
    rw [if_neg (fun e => h1 (by rw [e]; rfl))] at h
    refine z_iald (j := s) hX (D_Model_lying (i := 19) rfl) rfl (by decide) (by first | exact Nat.one_pos | assumption | omega) (by decide) rfl hB.1 ?_
    rw [hB.2.1]
    refine z_iconst (v := 5) hX (D_Model_lying (i := 20) rfl) (by decide) ?_
    refine z_icmp_ne (tgt := 57) hX (D_Model_lying (i := 21) rfl) (by decide) (fun h2 => ?_) (fun h2 => ?_)
    · refine z_aload_n hX (D_Model_lying (i := 37) rfl) rfl ?_
      refine z_iload_n hX (D_Model_lying (i := 38) rfl) rfl ?_
      refine z_iload_n hX (D_Model_lying (i := 39) rfl) rfl ?_
      rw [if_neg (fun e => h2 (by rw [e]; rfl))] at h
      refine z_cV2 hX (D_Model_lying (i := 40) rfl) mi_Model_plainLies l_Model_375 rfl rfl (by decide) (by first | exact Nat.one_pos | assumption | omega) (by first | decide | omega) (Nat.le_of_ble_eq_true rfl) (d_plainLies hH hB (by omega) ?_)
      exact z_iret hX hR (D_Model_lying (i := 41) rfl) rfl (by assumption)
    · refine z_aload_n hX (D_Model_lying (i := 22) rfl) rfl ?_
      refine z_bipush (v := 60) hX (D_Model_lying (i := 23) rfl) (by decide) ?_
      rw [if_pos ((nI_eq (b := 5) (by omega) (by decide)).mp h2)] at h
      refine z_cV1 hX (D_Model_lying (i := 24) rfl) mi_Model_ran l_Model_351 rfl rfl (by decide) (by first | exact Nat.one_pos | assumption | omega) (by first | decide | omega) (Nat.le_of_ble_eq_true rfl) (d_ran hH hB.2.2.2 (by omega) ?_)
      refine z_aload_n hX (D_Model_lying (i := 25) rfl) rfl ?_
      refine z_iload_n hX (D_Model_lying (i := 26) rfl) rfl ?_
      refine z_iload_n hX (D_Model_lying (i := 27) rfl) rfl ?_
      refine z_cV2 hX (D_Model_lying (i := 28) rfl) mi_Model_plainLies l_Model_375 rfl rfl (by decide) (by first | exact Nat.one_pos | assumption | omega) (by first | decide | omega) (Nat.le_of_ble_eq_true rfl) (d_plainLies hH (hB.aT 60) (by omega) ?_)
      refine z_istore_n hX (D_Model_lying (i := 29) rfl) (by decide) rfl ?_
      refine z_iload_n hX (D_Model_lying (i := 30) rfl) rfl ?_
      refine z_aload_n hX (D_Model_lying (i := 31) rfl) rfl ?_
      refine z_iload_n hX (D_Model_lying (i := 32) rfl) rfl ?_
      refine z_iconst (v := 2) hX (D_Model_lying (i := 33) rfl) (by decide) ?_
      refine z_cV2 hX (D_Model_lying (i := 34) rfl) mi_Model_turningBy l_Model_363 rfl rfl (by decide) (by first | exact Nat.one_pos | assumption | omega) (by first | decide | omega) (Nat.le_of_ble_eq_true rfl) (d_turningBy hH ((hB.aT 60).aT 11) (by omega) ?_)
      refine z_isub hX (D_Model_lying (i := 35) rfl) ?_
      exact z_iret hX hR (D_Model_lying (i := 36) rfl) rfl (by assumption)
  · refine z_aload_n hX (D_Model_lying (i := 6) rfl) rfl ?_
    refine z_bipush (v := 40) hX (D_Model_lying (i := 7) rfl) (by decide) ?_
    rw [if_pos ((nI_eq (b := 3) (by omega) (by decide)).mp h1)] at h
    refine z_cV1 hX (D_Model_lying (i := 8) rfl) mi_Model_ran l_Model_351 rfl rfl (by decide) (by first | exact Nat.one_pos | assumption | omega) (by first | decide | omega) (Nat.le_of_ble_eq_true rfl) (d_ran hH hB.2.2.2 (by omega) ?_)
    refine z_aload_n hX (D_Model_lying (i := 9) rfl) rfl ?_
    refine z_iload_n hX (D_Model_lying (i := 10) rfl) rfl ?_
    refine z_iload_n hX (D_Model_lying (i := 11) rfl) rfl ?_
    refine z_cV2 hX (D_Model_lying (i := 12) rfl) mi_Model_plainLies l_Model_375 rfl rfl (by decide) (by first | exact Nat.one_pos | assumption | omega) (by first | decide | omega) (Nat.le_of_ble_eq_true rfl) (d_plainLies hH (hB.aT 40) (by omega) ?_)
    refine z_iconst (v := 3) hX (D_Model_lying (i := 13) rfl) (by decide) ?_
    refine z_imul hX (D_Model_lying (i := 14) rfl) ?_
    exact z_iret hX hR (D_Model_lying (i := 15) rfl) rfl (by assumption)
theorem d_showing (hH : zHas ι pM) (hB : BodyM mem s κ r) (h3 : r < 400000) (h : Post (some (zI (shP κ (nI s) x).1)) (trMM mem r (shP κ (nI s) x).2)) : zC l ι M_Model_showing 6 [zP 40 0, zI (nI s), zI x] mem Post := by
  unfold shP at h
  have hκ := hB.2.2.1
  refine z_enter hH (by decide) (by simp [z_ent, M_Model_showing]) (fun X hXl hX hR => ?_)
  refine z_aload_n hX (D_Model_showing (i := 0) rfl) rfl ?_
  refine z_getc hX (D_Model_showing (i := 1) rfl) f_Model_76 rfl (by decide) (by first | exact Nat.one_pos | assumption | omega) rfl ?_
  refine z_iload_n hX (D_Model_showing (i := 2) rfl) rfl ?_
  refine z_iald (j := s) hX (D_Model_showing (i := 3) rfl) rfl (by decide) (by first | exact Nat.one_pos | assumption | omega) (by decide) rfl hB.1 ?_
  rw [hB.2.1]
  refine z_iconst (v := 3) hX (D_Model_showing (i := 4) rfl) (by decide) ?_
  refine z_icmp_ne (tgt := 25) hX (D_Model_showing (i := 5) rfl) (by decide) (fun h1 => ?_) (fun h1 => ?_)
  · refine z_aload_n hX (D_Model_showing (i := 16) rfl) rfl ?_
    refine z_getc hX (D_Model_showing (i := 17) rfl) f_Model_76 rfl (by decide) (by first | exact Nat.one_pos | assumption | omega) rfl ?_
    refine z_iload_n hX (D_Model_showing (i := 18) rfl) rfl ?_
    rw [if_neg (fun e => h1 (by rw [e]; rfl))] at h
    refine z_iald (j := s) hX (D_Model_showing (i := 19) rfl) rfl (by decide) (by first | exact Nat.one_pos | assumption | omega) (by decide) rfl hB.1 ?_
    rw [hB.2.1]
    refine z_bipush (v := 7) hX (D_Model_showing (i := 20) rfl) (by decide) ?_
    refine z_icmp_ne (tgt := 58) hX (D_Model_showing (i := 21) rfl) (by decide) (fun h2 => ?_) (fun h2 => ?_)
    · refine z_aload_n hX (D_Model_showing (i := 37) rfl) rfl ?_
      refine z_getc hX (D_Model_showing (i := 38) rfl) f_Model_76 rfl (by decide) (by first | exact Nat.one_pos | assumption | omega) rfl ?_
      refine z_iload_n hX (D_Model_showing (i := 39) rfl) rfl ?_
      rw [if_neg (fun e => h2 (by rw [e]; rfl))] at h
      refine z_iald (j := s) hX (D_Model_showing (i := 40) rfl) rfl (by decide) (by first | exact Nat.one_pos | assumption | omega) (by decide) rfl hB.1 ?_
      rw [hB.2.1]
      refine z_iconst (v := 2) hX (D_Model_showing (i := 41) rfl) (by decide) ?_
      refine z_icmp_ne (tgt := 77) hX (D_Model_showing (i := 42) rfl) (by decide) (fun h4 => ?_) (fun h4 => ?_)
      · refine z_aload_n hX (D_Model_showing (i := 48) rfl) rfl ?_
        refine z_iload_n hX (D_Model_showing (i := 49) rfl) rfl ?_
        refine z_iload_n hX (D_Model_showing (i := 50) rfl) rfl ?_
        rw [if_neg (fun e => h4 (by rw [e]; rfl))] at h
        refine z_cV2 hX (D_Model_showing (i := 51) rfl) mi_Model_plainShows l_Model_366 rfl rfl (by decide) (by first | exact Nat.one_pos | assumption | omega) (by first | decide | omega) (Nat.le_of_ble_eq_true rfl) (d_plainShows hH hB (by omega) ?_)
        exact z_iret hX hR (D_Model_showing (i := 52) rfl) rfl (by assumption)
      · refine z_aload_n hX (D_Model_showing (i := 43) rfl) rfl ?_
        refine z_iload_n hX (D_Model_showing (i := 44) rfl) rfl ?_
        refine z_iload_n hX (D_Model_showing (i := 45) rfl) rfl ?_
        rw [if_pos ((nI_eq (b := 2) (by omega) (by decide)).mp h4)] at h
        refine z_cV2 hX (D_Model_showing (i := 46) rfl) mi_Model_wallShows l_Model_369 rfl rfl (by decide) (by first | exact Nat.one_pos | assumption | omega) (by first | decide | omega) (Nat.le_of_ble_eq_true rfl) (d_wallShows hH hB (by omega) ?_)
        refine z_goto (tgt := 83) hX (D_Model_showing (i := 47) rfl) (by decide) ?_
        exact z_iret hX hR (D_Model_showing (i := 52) rfl) rfl (by assumption)
    · refine z_aload_n hX (D_Model_showing (i := 22) rfl) rfl ?_
      refine z_bipush (v := 80) hX (D_Model_showing (i := 23) rfl) (by decide) ?_
      rw [if_pos ((nI_eq (b := 7) (by omega) (by decide)).mp h2)] at h
      have hl := ln_ps κ (nI s) x
      refine z_cV1 hX (D_Model_showing (i := 24) rfl) mi_Model_ran l_Model_351 rfl rfl (by decide) (by first | exact Nat.one_pos | assumption | omega) (by first | decide | omega) (Nat.le_of_ble_eq_true rfl) (d_ran hH hB.2.2.2 (by omega) ?_)
      refine z_aload_n hX (D_Model_showing (i := 25) rfl) rfl ?_
      refine z_iload_n hX (D_Model_showing (i := 26) rfl) rfl ?_
      refine z_iload_n hX (D_Model_showing (i := 27) rfl) rfl ?_
      refine z_cV2 hX (D_Model_showing (i := 28) rfl) mi_Model_plainShows l_Model_366 rfl rfl (by decide) (by first | exact Nat.one_pos | assumption | omega) (by first | decide | omega) (Nat.le_of_ble_eq_true rfl) (d_plainShows hH (hB.aT 80) (by omega) ?_)
      refine z_istore_n hX (D_Model_showing (i := 29) rfl) (by decide) rfl ?_
      refine z_iload_n hX (D_Model_showing (i := 30) rfl) rfl ?_
      refine z_aload_n hX (D_Model_showing (i := 31) rfl) rfl ?_
      refine z_iload_n hX (D_Model_showing (i := 32) rfl) rfl ?_
      refine z_iconst (v := 2) hX (D_Model_showing (i := 33) rfl) (by decide) ?_
      refine z_cV2 hX (D_Model_showing (i := 34) rfl) mi_Model_lying l_Model_372 rfl rfl (by decide) (by first | exact Nat.one_pos | assumption | omega) (by first | decide | omega) (Nat.le_of_ble_eq_true rfl) (d_lying hH ((hB.aT 80).tr _) (by omega) ?_)
      rw [← trMM_app]
      refine z_iadd hX (D_Model_showing (i := 35) rfl) ?_
      exact z_iret hX hR (D_Model_showing (i := 36) rfl) rfl (by assumption)
  · refine z_aload_n hX (D_Model_showing (i := 6) rfl) rfl ?_
    refine z_bipush (v := 41) hX (D_Model_showing (i := 7) rfl) (by decide) ?_
    rw [if_pos ((nI_eq (b := 3) (by omega) (by decide)).mp h1)] at h
    refine z_cV1 hX (D_Model_showing (i := 8) rfl) mi_Model_ran l_Model_351 rfl rfl (by decide) (by first | exact Nat.one_pos | assumption | omega) (by first | decide | omega) (Nat.le_of_ble_eq_true rfl) (d_ran hH hB.2.2.2 (by omega) ?_)
    refine z_aload_n hX (D_Model_showing (i := 9) rfl) rfl ?_
    refine z_iload_n hX (D_Model_showing (i := 10) rfl) rfl ?_
    refine z_iload_n hX (D_Model_showing (i := 11) rfl) rfl ?_
    refine z_iconst (v := 1) hX (D_Model_showing (i := 12) rfl) (by decide) ?_
    refine z_iadd hX (D_Model_showing (i := 13) rfl) ?_
    refine z_cV2 hX (D_Model_showing (i := 14) rfl) mi_Model_wallShows l_Model_369 rfl rfl (by decide) (by first | exact Nat.one_pos | assumption | omega) (by first | decide | omega) (Nat.le_of_ble_eq_true rfl) (d_wallShows hH (hB.aT 41) (by omega) ?_)
    exact z_iret hX hR (D_Model_showing (i := 15) rfl) rfl (by assumption)
theorem d_plainTells (hH : zHas ι pM) (hB : BodyM mem s κ r) (h3 : r < 300000) (h : Post (some (zI (peP κ (nI s) x).1)) (trMM mem r (peP κ (nI s) x).2)) : zC l ι M_Model_plainTells 7 [zP 40 0, zI (nI s), zI x] mem Post := by
  have hl := ln_sh κ (nI s) x
  refine z_enter hH (by decide) (by simp [z_ent, M_Model_plainTells]) (fun X hXl hX hR => ?_)
  refine z_aload_n hX (D_Model_plainTells (i := 0) rfl) rfl ?_
  refine z_iconst (v := 2) hX (D_Model_plainTells (i := 1) rfl) (by decide) ?_
  refine z_cV1 hX (D_Model_plainTells (i := 2) rfl) mi_Model_ran l_Model_351 rfl rfl (by decide) (by first | exact Nat.one_pos | assumption | omega) (by first | decide | omega) (Nat.le_of_ble_eq_true rfl) (d_ran hH hB.2.2.2 (by omega) ?_)
  refine z_aload_n hX (D_Model_plainTells (i := 3) rfl) rfl ?_
  refine z_iload_n hX (D_Model_plainTells (i := 4) rfl) rfl ?_
  refine z_iload_n hX (D_Model_plainTells (i := 5) rfl) rfl ?_
  refine z_cV2 hX (D_Model_plainTells (i := 6) rfl) mi_Model_showing l_Model_378 rfl rfl (by decide) (by first | exact Nat.one_pos | assumption | omega) (by first | decide | omega) (Nat.le_of_ble_eq_true rfl) (d_showing hH (hB.aT 2) (by omega) ?_)
  refine z_istore_n hX (D_Model_plainTells (i := 7) rfl) (by decide) rfl ?_
  refine z_iload_n hX (D_Model_plainTells (i := 8) rfl) rfl ?_
  refine z_aload_n hX (D_Model_plainTells (i := 9) rfl) rfl ?_
  refine z_iload_n hX (D_Model_plainTells (i := 10) rfl) rfl ?_
  refine z_iconst (v := 1) hX (D_Model_plainTells (i := 11) rfl) (by decide) ?_
  refine z_cV2 hX (D_Model_plainTells (i := 12) rfl) mi_Model_lying l_Model_372 rfl rfl (by decide) (by first | exact Nat.one_pos | assumption | omega) (by first | decide | omega) (Nat.le_of_ble_eq_true rfl) (d_lying hH ((hB.aT 2).tr _) (by omega) ?_)
  rw [← trMM_app]
  refine z_isub hX (D_Model_plainTells (i := 13) rfl) ?_
  exact z_iret hX hR (D_Model_plainTells (i := 14) rfl) rfl h
theorem d_rowTells (hH : zHas ι pM) (hB : BodyM mem s κ r) (h3 : r < 200000) (h : Post (some (zI (reP κ (nI s) x).1)) (trMM mem r (reP κ (nI s) x).2)) : zC l ι M_Model_rowTells 8 [zP 40 0, zI (nI s), zI x] mem Post := by
  refine z_enter hH (by decide) (by simp [z_ent, M_Model_rowTells]) (fun X hXl hX hR => ?_)
  refine z_aload_n hX (D_Model_rowTells (i := 0) rfl) rfl ?_
  refine z_bipush (v := 50) hX (D_Model_rowTells (i := 1) rfl) (by decide) ?_
  refine z_cV1 hX (D_Model_rowTells (i := 2) rfl) mi_Model_ran l_Model_351 rfl rfl (by decide) (by first | exact Nat.one_pos | assumption | omega) (by first | decide | omega) (Nat.le_of_ble_eq_true rfl) (d_ran hH hB.2.2.2 (by omega) ?_)
  refine z_aload_n hX (D_Model_rowTells (i := 3) rfl) rfl ?_
  refine z_iload_n hX (D_Model_rowTells (i := 4) rfl) rfl ?_
  refine z_iload_n hX (D_Model_rowTells (i := 5) rfl) rfl ?_
  refine z_cV2 hX (D_Model_rowTells (i := 6) rfl) mi_Model_plainTells l_Model_381 rfl rfl (by decide) (by first | exact Nat.one_pos | assumption | omega) (by first | decide | omega) (Nat.le_of_ble_eq_true rfl) (d_plainTells hH (hB.aT 50) (by omega) ?_)
  refine z_iconst (v := 5) hX (D_Model_rowTells (i := 7) rfl) (by decide) ?_
  refine z_ixor hX (D_Model_rowTells (i := 8) rfl) ?_
  exact z_iret hX hR (D_Model_rowTells (i := 9) rfl) rfl h
theorem d_telling (hH : zHas ι pM) (hB : BodyM mem s κ r) (h3 : r < 100000) (h : Post (some (zI (teP κ (nI s) x).1)) (trMM mem r (teP κ (nI s) x).2)) : zC l ι M_Model_telling 9 [zP 40 0, zI (nI s), zI x] mem Post := by
  unfold teP at h
  have hκ := hB.2.2.1
  refine z_enter hH (by decide) (by simp [z_ent, M_Model_telling]) (fun X hXl hX hR => ?_)
  refine z_aload_n hX (D_Model_telling (i := 0) rfl) rfl ?_
  refine z_getc hX (D_Model_telling (i := 1) rfl) f_Model_76 rfl (by decide) (by first | exact Nat.one_pos | assumption | omega) rfl ?_
  refine z_iload_n hX (D_Model_telling (i := 2) rfl) rfl ?_
  refine z_iald (j := s) hX (D_Model_telling (i := 3) rfl) rfl (by decide) (by first | exact Nat.one_pos | assumption | omega) (by decide) rfl hB.1 ?_
  rw [hB.2.1]
  refine z_iconst (v := 5) hX (D_Model_telling (i := 4) rfl) (by decide) ?_
  refine z_icmp_ne (tgt := 25) hX (D_Model_telling (i := 5) rfl) (by decide) (fun h1 => ?_) (fun h1 => ?_)
  · refine z_aload_n hX (D_Model_telling (i := 16) rfl) rfl ?_
    refine z_getc hX (D_Model_telling (i := 17) rfl) f_Model_76 rfl (by decide) (by first | exact Nat.one_pos | assumption | omega) rfl ?_
    refine z_iload_n hX (D_Model_telling (i := 18) rfl) rfl ?_
    rw [if_neg (fun e => h1 (by rw [e]; rfl))] at h
    refine z_iald (j := s) hX (D_Model_telling (i := 19) rfl) rfl (by decide) (by first | exact Nat.one_pos | assumption | omega) (by decide) rfl hB.1 ?_
    rw [hB.2.1]
    refine z_iconst (v := 4) hX (D_Model_telling (i := 20) rfl) (by decide) ?_
    refine z_icmp_ne (tgt := 44) hX (D_Model_telling (i := 21) rfl) (by decide) (fun h2 => ?_) (fun h2 => ?_)
    · refine z_aload_n hX (D_Model_telling (i := 27) rfl) rfl ?_
      refine z_iload_n hX (D_Model_telling (i := 28) rfl) rfl ?_
      refine z_iload_n hX (D_Model_telling (i := 29) rfl) rfl ?_
      rw [if_neg (fun e => h2 (by rw [e]; rfl))] at h
      refine z_cV2 hX (D_Model_telling (i := 30) rfl) mi_Model_plainTells l_Model_381 rfl rfl (by decide) (by first | exact Nat.one_pos | assumption | omega) (by first | decide | omega) (Nat.le_of_ble_eq_true rfl) (d_plainTells hH hB (by omega) ?_)
      exact z_iret hX hR (D_Model_telling (i := 31) rfl) rfl (by assumption)
    · refine z_aload_n hX (D_Model_telling (i := 22) rfl) rfl ?_
      refine z_iload_n hX (D_Model_telling (i := 23) rfl) rfl ?_
      refine z_iload_n hX (D_Model_telling (i := 24) rfl) rfl ?_
      rw [if_pos ((nI_eq (b := 4) (by omega) (by decide)).mp h2)] at h
      refine z_cV2 hX (D_Model_telling (i := 25) rfl) mi_Model_rowTells l_Model_384 rfl rfl (by decide) (by first | exact Nat.one_pos | assumption | omega) (by first | decide | omega) (Nat.le_of_ble_eq_true rfl) (d_rowTells hH hB (by omega) ?_)
      refine z_goto (tgt := 50) hX (D_Model_telling (i := 26) rfl) (by decide) ?_
      exact z_iret hX hR (D_Model_telling (i := 31) rfl) rfl (by assumption)
  · refine z_aload_n hX (D_Model_telling (i := 6) rfl) rfl ?_
    refine z_bipush (v := 61) hX (D_Model_telling (i := 7) rfl) (by decide) ?_
    rw [if_pos ((nI_eq (b := 5) (by omega) (by decide)).mp h1)] at h
    refine z_cV1 hX (D_Model_telling (i := 8) rfl) mi_Model_ran l_Model_351 rfl rfl (by decide) (by first | exact Nat.one_pos | assumption | omega) (by first | decide | omega) (Nat.le_of_ble_eq_true rfl) (d_ran hH hB.2.2.2 (by omega) ?_)
    refine z_aload_n hX (D_Model_telling (i := 9) rfl) rfl ?_
    refine z_iload_n hX (D_Model_telling (i := 10) rfl) rfl ?_
    refine z_iload_n hX (D_Model_telling (i := 11) rfl) rfl ?_
    refine z_cV2 hX (D_Model_telling (i := 12) rfl) mi_Model_rowTells l_Model_384 rfl rfl (by decide) (by first | exact Nat.one_pos | assumption | omega) (by first | decide | omega) (Nat.le_of_ble_eq_true rfl) (d_rowTells hH (hB.aT 61) (by omega) ?_)
    refine z_iconst (v := 1) hX (D_Model_telling (i := 13) rfl) (by decide) ?_
    refine z_iadd hX (D_Model_telling (i := 14) rfl) ?_
    exact z_iret hX hR (D_Model_telling (i := 15) rfl) rfl (by assumption)
end G3
