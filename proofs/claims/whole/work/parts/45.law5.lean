/-! the class works the whole law out, and takes the tape -/
def cAt (mem : zM) : Nat → List Int32 → Prop
  | _, [] => True
  | k, x :: r => mem.1 6 0 k = x ∧ cAt mem (k + 1) r
theorem cAt_app {mem : zM} : ∀ {a b : List Int32} {k : Nat}, cAt mem k (a ++ b) → cAt mem k a ∧ cAt mem (k + a.length) b
  | [], b, k, h => ⟨trivial, h⟩
  | x :: a, b, k, h => by
    have := cAt_app (a := a) (b := b) (k := k + 1) h.2
    exact ⟨⟨h.1, this.1⟩, by rw [List.length_cons, show k + (a.length + 1) = k + 1 + a.length by omega]; exact this.2⟩
theorem cAt_of {mem : zM} : ∀ {L : List Int32} {k : Nat}, (∀ i, i < L.length → mem.1 6 0 (k + i) = L.getD i 0) → cAt mem k L
  | [], k, _ => trivial
  | x :: L, k, h => ⟨h 0 (by simp), cAt_of (fun i hi => by
      have := h (i + 1) (by simp; omega)
      rw [show k + 1 + i = k + (i + 1) by omega, this]; simp)⟩
section C6
variable {ι : zE} {mem : zM} {X : zX} {N : Nat}
theorem w_seg (hX : zG ι M_Law_workedOut X 1 pL) (hH : zHas ι pL) (hN : mem.1 4 0 4 = nI N) (hN2 : N ≤ 121) : ∀ (e : lE) (k : Nat) (st st2 : List Int32) (w : Nat → Int32) (s3 s4 s5 : Option zV), (∀ s ∈ e, sgOK s) → cAt mem k (cdC e) → k + e.length ≤ N → st.length + e.length ≤ 121 → stW w st → rnE (fvM mem) e st = some st2 → (∀ w s3 s4 s5, stW w st2 → zW ι M_Law_workedOut X 4 [some (zP 4 0), some (zI (nI st2.length)), some (zI (nI (k + e.length))), s3, s4, s5] [] (skM mem w)) → zW ι M_Law_workedOut X 4 [some (zP 4 0), some (zI (nI st.length)), some (zI (nI k)), s3, s4, s5] [] (skM mem w)
  | [], k, st, st2, w, s3, s4, s5, hs, hx, hk, hl, hw, hr, hc => by
    rw [show rnE (fvM mem) [] st = some st from rfl] at hr
    obtain rfl := Option.some.inj hr
    exact hc w s3 s4 s5 hw
  | s :: e, k, st, st2, w, s3, s4, s5, hs, hx, hk, hl, hw, hr, hc => by
    rw [List.length_cons] at hk hl hc
    unfold rnE at hr
    cases h1 : rnS (fvM mem) s st with
    | none => rw [h1] at hr; cases hr
    | some st3 =>
      rw [h1] at hr
      have hlen : st3.length ≤ st.length + 1 := by
        revert h1
        unfold rnS
        split
        · intro h; rw [← Option.some.inj h]; exact Nat.le_refl _
        · split
          · intro h; rw [← Option.some.inj h]; exact Nat.le_refl _
          · cases st with
            | nil => intro h; cases h
            | cons v r =>
              show (if s.1 = 2 then _ else _) = _ → _
              split
              · intro h; rw [← Option.some.inj h]; simp
              · cases r with
                | nil => intro h; cases h
                | cons u r => intro h; rw [← Option.some.inj h]; simp
      refine w_step hX hH hN hN2 (by omega) (hs s (List.mem_cons_self ..)) hx.1 (by omega) hw h1 ?_
      intro w s3 s4 s5 hw
      refine w_seg hX hH hN hN2 e (k + 1) st3 st2 w s3 s4 s5 (fun q hq => hs q (List.mem_cons_of_mem _ hq)) hx.2 (by omega) (by omega) hw hr ?_
      rw [show k + 1 + e.length = k + (e.length + 1) by omega]
      exact hc
variable {l : Launch} {Post : Option zV → zM → Prop} {x y z : Int32} {n p : Nat}
theorem w_lines (hX : zG ι M_Law_workedOut X 1 pL) (hH : zHas ι pL) (hR : zRt ι X Post) (hN : mem.1 4 0 4 = nI N) (hN2 : N ≤ 121) : ∀ (Λ : List lLn) (k : Nat) (w : Nat → Int32) (s3 s4 s5 : Option zV), (∀ L ∈ Λ, lnG L) → cAt mem k (txC Λ) → k + (txC Λ).length = N → (∀ w, Post (some (zI (lawV (fvM mem) Λ))) (skM mem w)) → zW ι M_Law_workedOut X 4 [some (zP 4 0), some (zI (nI 0)), some (zI (nI k)), s3, s4, s5] [] (skM mem w) := by
  intro Λ
  induction Λ with
  | nil =>
    intro k w s3 s4 s5 hg hx hk h
    obtain rfl : k = N := hk
    refine z_iload_n hX (D_Law_workedOut (i := 4) rfl) rfl ?_
    refine z_aload_n hX (D_Law_workedOut (i := 5) rfl) rfl ?_
    refine z_geti hX (D_Law_workedOut (i := 6) rfl) f_Law_35 rfl (by decide) (by first | exact Nat.one_pos | assumption | omega) rfl ?_
    rw [skM_4, hN]
    refine z_icmp_ge (tgt := 196) hX (D_Law_workedOut (i := 7) rfl) (by decide) (fun _ => ?_) (fun hcc => absurd (Int32.le_refl _) hcc)
    refine z_iconst (v := 0) hX (D_Law_workedOut (i := 112) rfl) (by decide) ?_
    exact z_iret hX hR (D_Law_workedOut (i := 113) rfl) rfl (h w)
  | cons L Λ ih =>
    intro k w s3 s4 s5 hg hx hk h
    have hgL := hg L (List.mem_cons_self ..)
    have hgR := fun q hq => hg q (List.mem_cons_of_mem L hq)
    rw [show txC (L :: Λ) = lnC L ++ txC Λ from rfl] at hx hk
    rw [List.length_append] at hk
    obtain ⟨hx1, hx2⟩ := cAt_app hx
    obtain ⟨t, v⟩ := L
    cases t with
    | none =>
      rw [show lnC (none, v) = cdC v ++ [-59] from rfl] at hx1 hx2 hk
      rw [List.length_append, cdC_len, List.length_cons, List.length_nil] at hk
      obtain ⟨hx3, hx4⟩ := cAt_app hx1
      rw [cdC_len] at hx4
      refine w_seg hX hH hN hN2 v k [] _ w s3 s4 s5 hgL.2.1 hx3 (by omega) (by show 0 + _ ≤ _; omega) trivial (vE_run hgL.2 []) ?_
      intro w s3 s4 s5 hw
      show zW ι M_Law_workedOut X 4 [some (zP 4 0), some (zI (nI 1)), some (zI (nI (k + v.length))), s3, s4, s5] [] (skM mem w)
      refine w_head hX hN hN2 (by omega) hx4.1 ?_
      rw [show -(-59 : Int32) = nI 59 from rfl]
      refine w_sgn hX (by decide) (by decide) (by decide) ?_
      refine z_iload_n hX (D_Law_workedOut (i := 38) rfl) rfl ?_
      refine z_bipush (v := 33) hX (D_Law_workedOut (i := 39) rfl) (by decide) ?_
      refine z_icmp_eq (tgt := 78) hX (D_Law_workedOut (i := 40) rfl) (by decide) (fun hcc => absurd hcc (by decide)) (fun _ => ?_)
      refine z_iload_n hX (D_Law_workedOut (i := 41) rfl) rfl ?_
      refine z_bipush (v := 126) hX (D_Law_workedOut (i := 42) rfl) (by decide) ?_
      refine z_icmp_ne (tgt := 106) hX (D_Law_workedOut (i := 43) rfl) (by decide) (fun _ => ?_) (fun hcc => absurd hcc (by decide))
      refine z_iload_n hX (D_Law_workedOut (i := 62) rfl) rfl ?_
      refine z_bipush (v := 59) hX (D_Law_workedOut (i := 63) rfl) (by decide) ?_
      refine z_icmp_ne (tgt := 130) hX (D_Law_workedOut (i := 64) rfl) (by decide) (fun hcc => absurd (rfl) hcc) (fun _ => ?_)
      refine z_iload_n hX (D_Law_workedOut (i := 65) rfl) rfl ?_
      refine z_iconst (v := 1) hX (D_Law_workedOut (i := 66) rfl) (by decide) ?_
      refine z_icmp_lt (tgt := 128) hX (D_Law_workedOut (i := 67) rfl) (by decide) (fun hcc => absurd hcc (by decide)) (fun _ => ?_)
      refine z_aload_n hX (D_Law_workedOut (i := 68) rfl) rfl ?_
      refine z_getc hX (D_Law_workedOut (i := 69) rfl) f_Law_18 rfl (by decide) (by first | exact Nat.one_pos | assumption | omega) rfl ?_
      refine z_iload_n hX (D_Law_workedOut (i := 70) rfl) rfl ?_
      refine z_iconst (v := 1) hX (D_Law_workedOut (i := 71) rfl) (by decide) ?_
      refine z_isub hX (D_Law_workedOut (i := 72) rfl) ?_
      refine z_iald (j := 0) hX (D_Law_workedOut (i := 73) rfl) rfl (by decide) (by first | exact Nat.one_pos | assumption | omega) (by decide) rfl (by omega) ?_
      rw [skM_7, show w 0 = vE (fvM mem) v from hw.1]
      refine z_goto (tgt := 129) hX (D_Law_workedOut (i := 74) rfl) (by decide) ?_
      exact z_iret hX hR (D_Law_workedOut (i := 76) rfl) rfl (h w)
    | some t =>
      rw [show lnC (some t, v) = cdC t ++ cdC v ++ [-63] from rfl] at hx1 hx2 hk
      rw [List.length_append, List.length_append, cdC_len, cdC_len, List.length_cons, List.length_nil] at hk
      rw [List.length_append, List.length_append, cdC_len, cdC_len, List.length_cons, List.length_nil] at hx2
      obtain ⟨hx3, hx4⟩ := cAt_app hx1
      obtain ⟨hx5, hx6⟩ := cAt_app hx3
      rw [List.length_append, cdC_len, cdC_len] at hx4
      rw [cdC_len] at hx6
      have hgt := hgL.1 t rfl
      refine w_seg hX hH hN hN2 t k [] _ w s3 s4 s5 hgt.1 hx5 (by omega) (by show 0 + _ ≤ _; omega) trivial (vE_run hgt []) ?_
      intro w s3 s4 s5 hw
      refine w_seg hX hH hN hN2 v (k + t.length) [vE (fvM mem) t] _ w s3 s4 s5 hgL.2.1 hx6 (by omega) (by show 1 + _ ≤ _; omega) hw (vE_run hgL.2 _) ?_
      intro w s3 s4 s5 hw
      show zW ι M_Law_workedOut X 4 [some (zP 4 0), some (zI (nI 2)), some (zI (nI (k + t.length + v.length))), s3, s4, s5] [] (skM mem w)
      rw [show k + t.length + v.length = k + (t.length + v.length) by omega]
      refine w_head hX hN hN2 (by omega) hx4.1 ?_
      rw [show -(-63 : Int32) = nI 63 from rfl]
      refine w_sgn hX (by decide) (by decide) (by decide) ?_
      refine z_iload_n hX (D_Law_workedOut (i := 38) rfl) rfl ?_
      refine z_bipush (v := 33) hX (D_Law_workedOut (i := 39) rfl) (by decide) ?_
      refine z_icmp_eq (tgt := 78) hX (D_Law_workedOut (i := 40) rfl) (by decide) (fun hcc => absurd hcc (by decide)) (fun _ => ?_)
      refine z_iload_n hX (D_Law_workedOut (i := 41) rfl) rfl ?_
      refine z_bipush (v := 126) hX (D_Law_workedOut (i := 42) rfl) (by decide) ?_
      refine z_icmp_ne (tgt := 106) hX (D_Law_workedOut (i := 43) rfl) (by decide) (fun _ => ?_) (fun hcc => absurd hcc (by decide))
      refine z_iload_n hX (D_Law_workedOut (i := 62) rfl) rfl ?_
      refine z_bipush (v := 59) hX (D_Law_workedOut (i := 63) rfl) (by decide) ?_
      refine z_icmp_ne (tgt := 130) hX (D_Law_workedOut (i := 64) rfl) (by decide) (fun _ => ?_) (fun hcc => absurd hcc (by decide))
      refine z_iload_n hX (D_Law_workedOut (i := 77) rfl) rfl ?_
      refine z_iconst (v := 2) hX (D_Law_workedOut (i := 78) rfl) (by decide) ?_
      refine z_icmp_lt (tgt := 190) hX (D_Law_workedOut (i := 79) rfl) (by decide) (fun hcc => absurd hcc (by decide)) (fun _ => ?_)
      refine z_iinc (v := nI 0) hX (D_Law_workedOut (i := 80) rfl) rfl ((by decide)) (by decide) rfl ?_
      refine z_aload_n hX (D_Law_workedOut (i := 81) rfl) rfl ?_
      refine z_getc hX (D_Law_workedOut (i := 82) rfl) f_Law_18 rfl (by decide) (by first | exact Nat.one_pos | assumption | omega) rfl ?_
      refine z_iload_n hX (D_Law_workedOut (i := 83) rfl) rfl ?_
      refine z_iald (j := 0) hX (D_Law_workedOut (i := 84) rfl) rfl (by decide) (by first | exact Nat.one_pos | assumption | omega) (by decide) rfl (by omega) ?_
      rw [skM_7, show w 0 = vE (fvM mem) t from hw.2.1]
      refine z_istore hX (D_Law_workedOut (i := 85) rfl) (by decide) rfl ?_
      refine z_aload_n hX (D_Law_workedOut (i := 86) rfl) rfl ?_
      refine z_getc hX (D_Law_workedOut (i := 87) rfl) f_Law_18 rfl (by decide) (by first | exact Nat.one_pos | assumption | omega) rfl ?_
      refine z_iload_n hX (D_Law_workedOut (i := 88) rfl) rfl ?_
      refine z_iconst (v := 1) hX (D_Law_workedOut (i := 89) rfl) (by decide) ?_
      refine z_iadd hX (D_Law_workedOut (i := 90) rfl) ?_
      refine z_iald (j := 1) hX (D_Law_workedOut (i := 91) rfl) rfl (by decide) (by first | exact Nat.one_pos | assumption | omega) (by decide) rfl (by omega) ?_
      rw [skM_7, show w 1 = vE (fvM mem) v from hw.1]
      refine z_istore hX (D_Law_workedOut (i := 92) rfl) (by decide) rfl ?_
      refine z_iload_n hX (D_Law_workedOut (i := 93) rfl) rfl ?_
      refine z_bipush (v := 63) hX (D_Law_workedOut (i := 94) rfl) (by decide) ?_
      refine z_icmp_eq (tgt := 182) hX (D_Law_workedOut (i := 95) rfl) (by decide) (fun _ => ?_) (fun hcc => absurd (rfl) hcc)
      refine z_iload hX (D_Law_workedOut (i := 106) rfl) rfl ?_
      refine z_if_eq (tgt := 190) hX (D_Law_workedOut (i := 107) rfl) (by decide) (fun h1 => ?_) (fun h1 => ?_)
      · skip
        refine w_tail hX ?_
        rw [show k + (t.length + v.length) + 1 = k + (t.length + v.length + (0 + 1)) by omega]
        refine ih _ w _ _ _ hgR hx2 (by omega) (fun w => ?_)
        have := h w
        rw [show lawV (fvM mem) ((some t, v) :: Λ) = if vE (fvM mem) t = 0 then lawV (fvM mem) Λ else vE (fvM mem) v from rfl, if_pos h1] at this
        exact this
      · refine z_iload hX (D_Law_workedOut (i := 108) rfl) rfl ?_
        have := h w
        rw [show lawV (fvM mem) ((some t, v) :: Λ) = if vE (fvM mem) t = 0 then lawV (fvM mem) Λ else vE (fvM mem) v from rfl, if_neg h1] at this
        exact z_iret hX hR (D_Law_workedOut (i := 109) rfl) rfl this
/-- the law as the class holds it -/
def LC (mem : zM) : Option (List lLn) → Prop
  | none => mem.1 4 0 4 = 0
  | some Λ => Λ ≠ [] ∧ (∀ L ∈ Λ, lnG L) ∧ cAt mem 0 (txC Λ) ∧ mem.1 4 0 4 = nI (txC Λ).length ∧ (txC Λ).length ≤ 121
theorem c_Law_workedOut (hH : zHas ι pL) {Λ : List lLn} (hL : LC mem (some Λ)) (h : ∀ w, Post (some (zI (lawV (fvM mem) Λ))) (skM mem w)) : zC l ι M_Law_workedOut 1 [zP 4 0] mem Post := by
  obtain ⟨_, h2, h3, h4, h5⟩ := hL
  rw [← skM_self mem]
  refine z_enter hH (by decide) (by simp [z_ent, M_Law_workedOut]) (fun X hXl hX hR => ?_)
  refine z_iconst (v := 0) hX (D_Law_workedOut (i := 0) rfl) (by decide) ?_
  refine z_istore_n hX (D_Law_workedOut (i := 1) rfl) (by decide) rfl ?_
  refine z_iconst (v := 0) hX (D_Law_workedOut (i := 2) rfl) (by decide) ?_
  refine z_istore_n hX (D_Law_workedOut (i := 3) rfl) (by decide) rfl ?_
  exact w_lines hX hH hR h4 h5 Λ 0 _ _ _ _ h2 h3 (by omega) h
def fvN (a b s i j : Nat) (c : Nat) : Int32 := if c = 97 then nI a else if c = 98 then nI b else if c = 115 then nI s else if c = 105 then nI i else nI j
def loN (pr : Nat) : Nat := (zstf 92 pr).toNatClampNeg
def hiN (pr : Nat) : Nat := (zstf 93 pr).toNatClampNeg
theorem lo_ok : ∀ q, q < 6 → zstf 92 q = nI (loN q) ∧ zstf 93 q = nI (hiN q) ∧ loN q < hiN q ∧ hiN q < 4 ∧ hiN q * (hiN q - 1) / 2 + loN q = q := by decide +kernel
def mayP (Λ : Option (List lLn)) (s i j a b : Nat) : Bool := match Λ with
  | none => decide (a ≠ b)
  | some Λ => decide (lawV (fvN a b s i j) Λ ≠ 0)
def mayK (Λ : Option (List lLn)) (k : Nat) : Bool := decide (k / 7 % 7 = 6 ∨ k % 7 = 6) || mayP Λ (k / 49 % 4) (loN (k / 196)) (hiN (k / 196)) (k / 7 % 7) (k % 7)
def woM (mem : zM) (f w g : Nat → Int32) : zM := (fun a b c => if a = 4 ∧ b = 0 ∧ 6 ≤ c ∧ c ≤ 10 then f c else if a = 7 ∧ b = 0 then w c else if a = 8 ∧ b = 0 then g c else mem.1 a b c, mem.2)
theorem woM_self (mem : zM) : woM mem (fun c => mem.1 4 0 c) (fun c => mem.1 7 0 c) (fun c => mem.1 8 0 c) = mem := by
  refine Prod.ext ?_ rfl
  funext a b c
  show (if a = 4 ∧ b = 0 ∧ 6 ≤ c ∧ c ≤ 10 then mem.1 4 0 c else if a = 7 ∧ b = 0 then mem.1 7 0 c else if a = 8 ∧ b = 0 then mem.1 8 0 c else mem.1 a b c) = mem.1 a b c
  split
  · next h => rw [h.1, h.2.1]
  · split
    · next h => rw [h.1, h.2]
    · split
      · next h => rw [h.1, h.2]
      · rfl
theorem woM_f {mem : zM} {f w g : Nat → Int32} {j : Nat} {v : Int32} (h8 : 6 ≤ j) (h12 : j ≤ 10) : upI (woM mem f w g) 4 0 j v = woM mem (fU f j v) w g := by
  refine Prod.ext ?_ rfl
  funext a b c
  show (if a = 4 ∧ b = 0 ∧ c = j then v else if a = 4 ∧ b = 0 ∧ 6 ≤ c ∧ c ≤ 10 then f c else if a = 7 ∧ b = 0 then w c else if a = 8 ∧ b = 0 then g c else mem.1 a b c) = (if a = 4 ∧ b = 0 ∧ 6 ≤ c ∧ c ≤ 10 then (if c = j then v else f c) else if a = 7 ∧ b = 0 then w c else if a = 8 ∧ b = 0 then g c else mem.1 a b c)
  by_cases h : a = 4 ∧ b = 0 ∧ 6 ≤ c ∧ c ≤ 10
  · rw [if_pos h, if_pos h]
    by_cases h2 : c = j
    · rw [if_pos ⟨h.1, h.2.1, h2⟩, if_pos h2]
    · rw [if_neg (fun w => h2 w.2.2), if_neg h2]
  · rw [if_neg h, if_neg h, if_neg (fun w => h ⟨w.1, w.2.1, by omega, by omega⟩)]
theorem woM_g {mem : zM} {f w g : Nat → Int32} {j : Nat} {v : Int32} : upI (woM mem f w g) 8 0 j v = woM mem f w (fU g j v) := by
  refine Prod.ext ?_ rfl
  funext a b c
  show (if a = 8 ∧ b = 0 ∧ c = j then v else if a = 4 ∧ b = 0 ∧ 6 ≤ c ∧ c ≤ 10 then f c else if a = 7 ∧ b = 0 then w c else if a = 8 ∧ b = 0 then g c else mem.1 a b c) = (if a = 4 ∧ b = 0 ∧ 6 ≤ c ∧ c ≤ 10 then f c else if a = 7 ∧ b = 0 then w c else if a = 8 ∧ b = 0 then (if c = j then v else g c) else mem.1 a b c)
  by_cases h : a = 8 ∧ b = 0
  · rw [if_neg (show ¬ (a = 4 ∧ b = 0 ∧ 6 ≤ c ∧ c ≤ 10) by omega), if_neg (show ¬ (a = 7 ∧ b = 0) by omega), if_pos h]
    rw [if_neg (show ¬ (a = 4 ∧ b = 0 ∧ 6 ≤ c ∧ c ≤ 10) by omega), if_neg (show ¬ (a = 7 ∧ b = 0) by omega), if_pos h]
    by_cases h2 : c = j
    · rw [if_pos ⟨h.1, h.2, h2⟩, if_pos h2]
    · rw [if_neg (fun w => h2 w.2.2), if_neg h2]
  · rw [if_neg (fun w => h ⟨w.1, w.2.1⟩), if_neg h]
    rw [if_neg h]
theorem skM_wo {mem : zM} {f w g w2 : Nat → Int32} : skM (woM mem f w g) w2 = woM mem f w2 g := by
  refine Prod.ext ?_ rfl
  funext a b c
  show (if a = 7 ∧ b = 0 then w2 c else if a = 4 ∧ b = 0 ∧ 6 ≤ c ∧ c ≤ 10 then f c else if a = 7 ∧ b = 0 then w c else if a = 8 ∧ b = 0 then g c else mem.1 a b c) = (if a = 4 ∧ b = 0 ∧ 6 ≤ c ∧ c ≤ 10 then f c else if a = 7 ∧ b = 0 then w2 c else if a = 8 ∧ b = 0 then g c else mem.1 a b c)
  by_cases h : a = 7 ∧ b = 0
  · rw [if_pos h, if_pos h, if_neg (show ¬ (a = 4 ∧ b = 0 ∧ 6 ≤ c ∧ c ≤ 10) by omega)]
  · rw [if_neg h, if_neg h, if_neg h]
theorem cAt_wo {mem : zM} {f w g : Nat → Int32} : ∀ {L : List Int32} {k : Nat}, cAt mem k L → cAt (woM mem f w g) k L
  | [], _, _ => trivial
  | _ :: _, _, h => ⟨h.1, cAt_wo h.2⟩
theorem LC.wo {mem : zM} {f w g : Nat → Int32} {Λ : Option (List lLn)} (h : LC mem Λ) : LC (woM mem f w g) Λ := by
  cases Λ with
  | none => exact h
  | some Λ => exact ⟨h.1, h.2.1, cAt_wo h.2.2.1, h.2.2.2⟩
theorem c_Law_workOutAll (hH : zHas ι pL) {Λ : Option (List lLn)} (hL : LC mem Λ) (h : ∀ f w g, (∀ k, k < 1176 → g k = bI (mayK Λ k)) → Post none (woM mem f w g)) : zC l ι M_Law_workOutAll 2 [zP 4 0] mem Post := by
  rw [← woM_self mem]
  refine z_enter hH (by decide) (by simp [z_ent, M_Law_workOutAll]) (fun X hXl hX hR => ?_)
  refine z_iconst (v := 0) hX (D_Law_workOutAll (i := 0) rfl) (by decide) ?_
  refine z_istore_n hX (D_Law_workOutAll (i := 1) rfl) (by decide) rfl ?_
  suffices H : ∀ (d k : Nat) (f w g : Nat → Int32) (s2 : Option zV), k + d = 1176 → (∀ i, i < k → g i = bI (mayK Λ i)) → zW ι M_Law_workOutAll X 2 [some (zP 4 0), some (zI (nI k)), s2] [] (woM mem f w g) from H 1176 0 _ _ _ _ rfl (fun _ q => absurd q (Nat.not_lt_zero _))
  intro d
  induction d with
  | zero =>
    intro k f w g s2 hk hg
    obtain rfl : k = 1176 := hk
    refine z_iload_n hX (D_Law_workOutAll (i := 2) rfl) rfl ?_
    refine z_aload_n hX (D_Law_workOutAll (i := 3) rfl) rfl ?_
    refine z_getc hX (D_Law_workOutAll (i := 4) rfl) f_Law_21 rfl (by decide) (by first | exact Nat.one_pos | assumption | omega) rfl ?_
    refine z_alen (t0 := 3) (v := 1176) hX (D_Law_workOutAll (i := 5) rfl) rfl (by decide) (by first | exact Nat.one_pos | assumption | omega) rfl (by decide) ?_
    refine z_icmp_ge (tgt := 127) hX (D_Law_workOutAll (i := 6) rfl) (by decide) (fun _ => ?_) (fun hcc => absurd (Int32.le_refl _) hcc)
    exact z_ret hX hR (D_Law_workOutAll (i := 69) rfl) rfl (h f w g hg)
  | succ d ih =>
    intro k f w g s2 hk hg
    have hq : k / 196 < 6 := by omega
    obtain ⟨l1, l2, l3, l4, _⟩ := lo_ok _ hq
    refine z_iload_n hX (D_Law_workOutAll (i := 2) rfl) rfl ?_
    refine z_aload_n hX (D_Law_workOutAll (i := 3) rfl) rfl ?_
    refine z_getc hX (D_Law_workOutAll (i := 4) rfl) f_Law_21 rfl (by decide) (by first | exact Nat.one_pos | assumption | omega) rfl ?_
    refine z_alen (t0 := 3) (v := 1176) hX (D_Law_workOutAll (i := 5) rfl) rfl (by decide) (by first | exact Nat.one_pos | assumption | omega) rfl (by decide) ?_
    refine z_icmp_ge (tgt := 127) hX (D_Law_workOutAll (i := 6) rfl) (by decide) (fun hcc => absurd hcc (nI_ge (b := 1176) (by omega) (by decide))) (fun _ => ?_)
    refine z_iload_n hX (D_Law_workOutAll (i := 7) rfl) rfl ?_
    refine z_sipush (v := 196) hX (D_Law_workOutAll (i := 8) rfl) (by decide) ?_
    refine z_idiv hX (D_Law_workOutAll (i := 9) rfl) (by decide) ?_
    rw [show nI k / 196 = nI (k / 196) from pk_div (d := 196) (by omega) (by decide) (by decide)]
    refine z_istore_n hX (D_Law_workOutAll (i := 10) rfl) (by decide) rfl ?_
    refine z_aload_n hX (D_Law_workOutAll (i := 11) rfl) rfl ?_
    refine z_iload_n hX (D_Law_workOutAll (i := 12) rfl) rfl ?_
    refine z_bipush (v := 7) hX (D_Law_workOutAll (i := 13) rfl) (by decide) ?_
    refine z_idiv hX (D_Law_workOutAll (i := 14) rfl) (by decide) ?_
    rw [show nI k / 7 = nI (k / 7) from pk_div (d := 7) (by omega) (by decide) (by decide)]
    refine z_bipush (v := 7) hX (D_Law_workOutAll (i := 15) rfl) (by decide) ?_
    refine z_irem hX (D_Law_workOutAll (i := 16) rfl) (by decide) ?_
    rw [show nI (k / 7) - nI (k / 7) / 7 * 7 = nI (k / 7 % 7) from pk_rem (d := 7) (by omega) (by decide) (by decide)]
    refine z_puti hX (D_Law_workOutAll (i := 17) rfl) g_Law_79 rfl (by decide) (by first | exact Nat.one_pos | assumption | omega) rfl ?_
    rw [woM_f (by decide) (by decide)]
    refine z_aload_n hX (D_Law_workOutAll (i := 18) rfl) rfl ?_
    refine z_iload_n hX (D_Law_workOutAll (i := 19) rfl) rfl ?_
    refine z_bipush (v := 7) hX (D_Law_workOutAll (i := 20) rfl) (by decide) ?_
    refine z_irem hX (D_Law_workOutAll (i := 21) rfl) (by decide) ?_
    rw [show nI k - nI k / 7 * 7 = nI (k % 7) from pk_rem (d := 7) (by omega) (by decide) (by decide)]
    refine z_puti hX (D_Law_workOutAll (i := 22) rfl) g_Law_82 rfl (by decide) (by first | exact Nat.one_pos | assumption | omega) rfl ?_
    rw [woM_f (by decide) (by decide)]
    refine z_aload_n hX (D_Law_workOutAll (i := 23) rfl) rfl ?_
    refine z_iload_n hX (D_Law_workOutAll (i := 24) rfl) rfl ?_
    refine z_bipush (v := 49) hX (D_Law_workOutAll (i := 25) rfl) (by decide) ?_
    refine z_idiv hX (D_Law_workOutAll (i := 26) rfl) (by decide) ?_
    rw [show nI k / 49 = nI (k / 49) from pk_div (d := 49) (by omega) (by decide) (by decide)]
    refine z_iconst (v := 4) hX (D_Law_workOutAll (i := 27) rfl) (by decide) ?_
    refine z_irem hX (D_Law_workOutAll (i := 28) rfl) (by decide) ?_
    rw [show nI (k / 49) - nI (k / 49) / 4 * 4 = nI (k / 49 % 4) from pk_rem (d := 4) (by omega) (by decide) (by decide)]
    refine z_puti hX (D_Law_workOutAll (i := 29) rfl) g_Law_85 rfl (by decide) (by first | exact Nat.one_pos | assumption | omega) rfl ?_
    rw [woM_f (by decide) (by decide)]
    refine z_aload_n hX (D_Law_workOutAll (i := 30) rfl) rfl ?_
    refine z_getsN (p := 92) hX (D_Law_workOutAll (i := 31) rfl) (by decide) (by decide) s_Law_88 ?_
    refine z_iload_n hX (D_Law_workOutAll (i := 32) rfl) rfl ?_
    refine z_tald (p := 92) (j := k / 196) hX (D_Law_workOutAll (i := 33) rfl) (by decide) (by decide) (by decide +kernel) rfl hq ?_
    rw [l1]
    refine z_puti hX (D_Law_workOutAll (i := 34) rfl) g_Law_91 rfl (by decide) (by first | exact Nat.one_pos | assumption | omega) rfl ?_
    rw [woM_f (by decide) (by decide)]
    refine z_aload_n hX (D_Law_workOutAll (i := 35) rfl) rfl ?_
    refine z_getsN (p := 93) hX (D_Law_workOutAll (i := 36) rfl) (by decide) (by decide) s_Law_94 ?_
    refine z_iload_n hX (D_Law_workOutAll (i := 37) rfl) rfl ?_
    refine z_tald (p := 93) (j := k / 196) hX (D_Law_workOutAll (i := 38) rfl) (by decide) (by decide) (by decide +kernel) rfl hq ?_
    rw [l2]
    refine z_puti hX (D_Law_workOutAll (i := 39) rfl) g_Law_97 rfl (by decide) (by first | exact Nat.one_pos | assumption | omega) rfl ?_
    rw [woM_f (by decide) (by decide)]
    generalize hf : fU (fU (fU (fU (fU f 6 (nI (k / 7 % 7))) 7 (nI (k % 7))) 8 (nI (k / 49 % 4))) 9 (nI (loN (k / 196)))) 10 (nI (hiN (k / 196))) = f2
    have e8 : (woM mem f2 w g).1 4 0 6 = nI (k / 7 % 7) := by rw [← hf]; rfl
    have e9 : (woM mem f2 w g).1 4 0 7 = nI (k % 7) := by rw [← hf]; rfl
    have fin : ∀ (w : Nat → Int32) (b : Bool), b = mayK Λ k → zW ι M_Law_workOutAll X 120 [some (zP 4 0), some (zI (nI k)), some (zI (nI (k / 196)))] [zI (bI b), zI (nI k), zP 8 0] (woM mem f2 w g) := by
      intro w b hb
      subst hb
      refine z_zast (j := k) hX (D_Law_workOutAll (i := 66) rfl) rfl (by decide) (by first | exact Nat.one_pos | assumption | omega) (by decide) rfl (by omega) ?_
      rw [show vp_nar .boolean (bI (mayK Λ k)) = bI (mayK Λ k) by cases mayK Λ k <;> decide, woM_g]
      first | refine z_inc1 hX (D_Law_workOutAll (i := 67) rfl) rfl (by decide) rfl ?_ | refine z_iinc hX (D_Law_workOutAll (i := 67) rfl) rfl rfl (by decide) rfl ?_
      refine z_goto (tgt := 2) hX (D_Law_workOutAll (i := 68) rfl) (by decide) ?_
      exact ih (k + 1) f2 w _ _ (by omega) (fun i hi => by
        by_cases e : i = k
        · rw [e]; exact if_pos rfl
        · exact (if_neg e).trans (hg i (by omega)))
    have yes : ∀ (w : Nat → Int32), mayK Λ k = true → zW ι M_Law_workOutAll X 115 [some (zP 4 0), some (zI (nI k)), some (zI (nI (k / 196)))] [zI (nI k), zP 8 0] (woM mem f2 w g) := by
      intro w hb
      refine z_iconst (v := 1) hX (D_Law_workOutAll (i := 63) rfl) (by decide) ?_
      refine z_goto (tgt := 120) hX (D_Law_workOutAll (i := 64) rfl) (by decide) ?_
      exact fin w true hb.symm
    have non : ∀ (w : Nat → Int32), mayK Λ k = false → zW ι M_Law_workOutAll X 119 [some (zP 4 0), some (zI (nI k)), some (zI (nI (k / 196)))] [zI (nI k), zP 8 0] (woM mem f2 w g) := by
      intro w hb
      refine z_iconst (v := 0) hX (D_Law_workOutAll (i := 65) rfl) (by decide) ?_
      exact fin w false hb.symm
    refine z_aload_n hX (D_Law_workOutAll (i := 40) rfl) rfl ?_
    refine z_getc hX (D_Law_workOutAll (i := 41) rfl) f_Law_21 rfl (by decide) (by first | exact Nat.one_pos | assumption | omega) rfl ?_
    refine z_iload_n hX (D_Law_workOutAll (i := 42) rfl) rfl ?_
    refine z_aload_n hX (D_Law_workOutAll (i := 43) rfl) rfl ?_
    refine z_geti hX (D_Law_workOutAll (i := 44) rfl) f_Law_79 rfl (by decide) (by first | exact Nat.one_pos | assumption | omega) rfl ?_
    refine z_bipush (v := 6) hX (D_Law_workOutAll (i := 45) rfl) (by decide) ?_
    rw [e8]
    refine z_icmp_eq (tgt := 115) hX (D_Law_workOutAll (i := 46) rfl) (by decide) (fun h1 => ?_) (fun h1 => ?_)
    · skip
      have h1 := (nI_eq (a := k / 7 % 7) (b := 6) (by omega) (by decide)).mp h1
      exact yes w (by unfold mayK; rw [decide_eq_true (Or.inl h1)]; rfl)
    · refine z_aload_n hX (D_Law_workOutAll (i := 47) rfl) rfl ?_
      refine z_geti hX (D_Law_workOutAll (i := 48) rfl) f_Law_82 rfl (by decide) (by first | exact Nat.one_pos | assumption | omega) rfl ?_
      refine z_bipush (v := 6) hX (D_Law_workOutAll (i := 49) rfl) (by decide) ?_
      have h1 : ¬ k / 7 % 7 = 6 := fun q => h1 (by rw [q]; rfl)
      rw [e9]
      refine z_icmp_eq (tgt := 115) hX (D_Law_workOutAll (i := 50) rfl) (by decide) (fun h2 => ?_) (fun h2 => ?_)
      · skip
        have h2 := (nI_eq (a := k % 7) (b := 6) (by omega) (by decide)).mp h2
        exact yes w (by unfold mayK; rw [decide_eq_true (Or.inr h2)]; rfl)
      · refine z_aload_n hX (D_Law_workOutAll (i := 51) rfl) rfl ?_
        refine z_geti hX (D_Law_workOutAll (i := 52) rfl) f_Law_35 rfl (by decide) (by first | exact Nat.one_pos | assumption | omega) rfl ?_
        have h2 : ¬ k % 7 = 6 := fun q => h2 (by rw [q]; rfl)
        have em : mayK Λ k = mayP Λ (k / 49 % 4) (loN (k / 196)) (hiN (k / 196)) (k / 7 % 7) (k % 7) := by
          unfold mayK
          rw [decide_eq_false (by omega)]; rfl
        rw [em] at yes non
        cases Λ with
        | none =>
          rw [show (woM mem f2 w g).1 4 0 4 = mem.1 4 0 4 from rfl, show mem.1 4 0 4 = 0 from hL]
          refine z_if_ne (tgt := 108) hX (D_Law_workOutAll (i := 53) rfl) (by decide) (fun hcc => absurd (rfl) hcc) (fun _ => ?_)
          refine z_aload_n hX (D_Law_workOutAll (i := 54) rfl) rfl ?_
          refine z_geti hX (D_Law_workOutAll (i := 55) rfl) f_Law_79 rfl (by decide) (by first | exact Nat.one_pos | assumption | omega) rfl ?_
          refine z_aload_n hX (D_Law_workOutAll (i := 56) rfl) rfl ?_
          refine z_geti hX (D_Law_workOutAll (i := 57) rfl) f_Law_82 rfl (by decide) (by first | exact Nat.one_pos | assumption | omega) rfl ?_
          rw [e8, e9]
          refine z_icmp_eq (tgt := 119) hX (D_Law_workOutAll (i := 58) rfl) (by decide) (fun h3 => ?_) (fun h3 => ?_)
          · skip
            exact non w (decide_eq_false (fun q => q ((nI_eq (by omega) (by omega)).mp h3)))
          · refine z_goto (tgt := 115) hX (D_Law_workOutAll (i := 59) rfl) (by decide) ?_
            exact yes w (decide_eq_true (fun q => h3 (by rw [q])))
        | some Λ =>
          rw [show (woM mem f2 w g).1 4 0 4 = mem.1 4 0 4 from rfl, show mem.1 4 0 4 = nI (txC Λ).length from hL.2.2.2.1]
          have hpos : 0 < (txC Λ).length := by
            cases Λ with
            | nil => exact absurd rfl hL.1
            | cons L Λ =>
              rw [show txC (L :: Λ) = lnC L ++ txC Λ from rfl, List.length_append]
              obtain ⟨t, v⟩ := L
              have : 0 < (lnC (t, v)).length := by cases t <;> simp [lnC] <;> omega
              omega
          refine z_if_ne (tgt := 108) hX (D_Law_workOutAll (i := 53) rfl) (by decide) (fun _ => ?_) (fun hcc => absurd hcc ((fun q => absurd ((nI_eq (a := (txC Λ).length) (b := 0) (by have := hL.2.2.2.2; omega) (by decide)).mp q) (by omega))))
          refine z_aload_n hX (D_Law_workOutAll (i := 60) rfl) rfl ?_
          refine z_cV0 hX (D_Law_workOutAll (i := 61) rfl) mi_Law_workedOut l_Law_100 rfl rfl (by decide) (by first | exact Nat.one_pos | assumption | omega) (by first | decide | omega) (Nat.le_of_ble_eq_true rfl) (c_Law_workedOut hH hL.wo ?_)
          intro w2
          rw [skM_wo]
          have ev : fvM (woM mem f2 w g) = fvN (k / 7 % 7) (k % 7) (k / 49 % 4) (loN (k / 196)) (hiN (k / 196)) := by
            funext c
            rw [← hf]; rfl
          rw [ev]
          refine z_if_eq (tgt := 119) hX (D_Law_workOutAll (i := 62) rfl) (by decide) (fun h3 => ?_) (fun h3 => ?_)
          · skip
            exact non w2 (decide_eq_false (fun q => q h3))
          · skip
            exact yes w2 (decide_eq_true h3)
theorem c_Law_allows (hH : zHas ι pL) {pr s a b : Nat} (hp : pr < 6) (hs : s < 4) (ha : a < 7) (hb : b < 7) (hbool : mem.1 8 0 (((pr * 4 + s) * 7 + a) * 7 + b) = 0 ∨ mem.1 8 0 (((pr * 4 + s) * 7 + a) * 7 + b) = 1) (h : Post (some (zI (mem.1 8 0 (((pr * 4 + s) * 7 + a) * 7 + b)))) mem) : zC l ι M_Law_allows 0 [zP 4 0, zI (nI pr), zI (nI s), zI (nI a), zI (nI b)] mem Post := by
  refine z_enter hH (by decide) (by simp [z_ent, M_Law_allows]) (fun X hXl hX hR => ?_)
  refine z_aload_n hX (D_Law_allows (i := 0) rfl) rfl ?_
  refine z_getc hX (D_Law_allows (i := 1) rfl) f_Law_21 rfl (by decide) (by first | exact Nat.one_pos | assumption | omega) rfl ?_
  refine z_iload_n hX (D_Law_allows (i := 2) rfl) rfl ?_
  refine z_iconst (v := 4) hX (D_Law_allows (i := 3) rfl) (by decide) ?_
  refine z_imul hX (D_Law_allows (i := 4) rfl) ?_
  refine z_iload_n hX (D_Law_allows (i := 5) rfl) rfl ?_
  refine z_iadd hX (D_Law_allows (i := 6) rfl) ?_
  refine z_bipush (v := 7) hX (D_Law_allows (i := 7) rfl) (by decide) ?_
  refine z_imul hX (D_Law_allows (i := 8) rfl) ?_
  refine z_iload_n hX (D_Law_allows (i := 9) rfl) rfl ?_
  refine z_iadd hX (D_Law_allows (i := 10) rfl) ?_
  refine z_bipush (v := 7) hX (D_Law_allows (i := 11) rfl) (by decide) ?_
  refine z_imul hX (D_Law_allows (i := 12) rfl) ?_
  refine z_iload hX (D_Law_allows (i := 13) rfl) rfl ?_
  refine z_iadd hX (D_Law_allows (i := 14) rfl) ?_
  rw [show ((nI pr * 4 + nI s) * 7 + nI a) * 7 + nI b = nI (((pr * 4 + s) * 7 + a) * 7 + b) by simp only [nlit, pk_mul, nI_add]]
  refine z_zald (j := ((pr * 4 + s) * 7 + a) * 7 + b) hX (D_Law_allows (i := 15) rfl) rfl (by decide) (by first | exact Nat.one_pos | assumption | omega) (by decide) rfl (by omega) ?_
  exact z_zret hX hR (D_Law_allows (i := 16) rfl) rfl hbool h
theorem mayK_at {Λ : Option (List lLn)} {pr s a b : Nat} (hp : pr < 6) (hs : s < 4) (ha : a < 7) (hb : b < 7) : mayK Λ (((pr * 4 + s) * 7 + a) * 7 + b) = (decide (a = 6 ∨ b = 6) || mayP Λ s (loN pr) (hiN pr) a b) := by
  unfold mayK
  rw [show (((pr * 4 + s) * 7 + a) * 7 + b) / 7 % 7 = a by omega, show (((pr * 4 + s) * 7 + a) * 7 + b) % 7 = b by omega, show (((pr * 4 + s) * 7 + a) * 7 + b) / 49 % 4 = s by omega, show (((pr * 4 + s) * 7 + a) * 7 + b) / 196 = pr by omega]
end C6
