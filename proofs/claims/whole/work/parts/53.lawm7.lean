/-! the reference works its law out -/
def smB (a c : Nat) : Bool := decide (54 ≤ a ∧ a ≤ 61) || (decide (a = 40) && decide (c = 28 ∨ (31 ≤ c ∧ c ≤ 34)))
def tm (mem : zM) (S : Nat → Nat → Int32) : zM := (fun a b c => if smB a c = true ∧ b = 0 then S a c else mem.1 a b c, mem.2)
def sU (S : Nat → Nat → Int32) (p j : Nat) (v : Int32) : Nat → Nat → Int32 := fun a c => if a = p ∧ c = j then v else S a c
theorem sU_at {S : Nat → Nat → Int32} {p j : Nat} {v : Int32} : sU S p j v p j = v := if_pos ⟨rfl, rfl⟩
theorem sU_ne {S : Nat → Nat → Int32} {p j a c : Nat} {v : Int32} (h : a ≠ p ∨ c ≠ j) : sU S p j v a c = S a c := if_neg (fun w => h.elim (fun q => q w.1) (fun q => q w.2))
theorem tm_self (mem : zM) : tm mem (fun a c => mem.1 a 0 c) = mem := by
  refine Prod.ext ?_ rfl
  funext a b c
  simp only [tm]
  split
  · next h => rw [h.2]
  · rfl
theorem tm_up {mem : zM} {S : Nat → Nat → Int32} {p j : Nat} {v : Int32} (h : smB p j = true) : upI (tm mem S) p 0 j v = tm mem (sU S p j v) := by
  refine Prod.ext ?_ rfl
  funext a b c
  rw [upI_get]
  simp only [tm, sU]
  by_cases e : a = p ∧ b = 0 ∧ c = j
  · obtain ⟨rfl, rfl, rfl⟩ := e
    rw [if_pos ⟨rfl, rfl, rfl⟩, if_pos ⟨h, rfl⟩, if_pos ⟨rfl, rfl⟩]
  · rw [if_neg e]
    by_cases g : smB a c = true ∧ b = 0
    · rw [if_pos g, if_pos g, if_neg (fun w => e ⟨w.1, g.2, w.2⟩)]
    · rw [if_neg g, if_neg g]
theorem tm_out {mem : zM} {S : Nat → Nat → Int32} {p k j : Nat} {v : Int32} (h : k ≠ 0 ∨ smB p j = false) : upI (tm mem S) p k j v = tm (upI mem p k j v) S := by
  refine Prod.ext ?_ rfl
  funext a b c
  rw [upI_get]
  simp only [tm]
  rw [upI_get]
  by_cases e : a = p ∧ b = k ∧ c = j
  · obtain ⟨rfl, rfl, rfl⟩ := e
    have g : ¬ (smB a c = true ∧ b = 0) := by
      intro g
      rcases h with h | h
      · exact absurd g.2 h
      · rw [g.1] at h; cases h
    rw [if_pos ⟨rfl, rfl, rfl⟩, if_neg g, if_pos ⟨rfl, rfl, rfl⟩]
  · rw [if_neg e, if_neg e]
theorem tm_tm {mem : zM} {S S2 : Nat → Nat → Int32} : tm (tm mem S) S2 = tm mem S2 := by
  refine Prod.ext ?_ rfl
  funext a b c
  simp only [tm]
  split
  · rfl
  · rfl
theorem i32_divm1 (x : Int32) : x / -1 = -x := by
  apply Int32.toInt_inj.mp
  have e : (-1 : Int32).toInt = -1 := by decide
  rw [Int32.toInt_div, e, Int32.toInt_neg, Int.tdiv_neg, Int.tdiv_one]
section D7
variable {l : Launch} {ι : zE} {mem : zM} {Post : Option zV → zM → Prop} {x y z : Int32} {n p : Nat}
theorem d_twoOf {c : Nat} (hc : isJo c) (h : Post (some (zI (biV c x y))) mem) : zC l ι M_Model_twoOf 0 [zI (nI c), zI x, zI y] mem Post := by
  have hH : zHas ι [] := zHas.nil
  refine z_enter hH (by decide) (by simp [z_ent, M_Model_twoOf]) (fun X hXl hX hR => ?_)
  refine z_iload_n hX (D_Model_twoOf (i := 0) rfl) rfl ?_
  rcases hc with rfl | rfl | rfl | rfl | rfl | rfl | rfl | rfl | rfl | rfl
  · rw [show biV 124 x y = if x ≠ 0 ∨ y ≠ 0 then 1 else 0 from rfl] at h
    refine z_tabOut (tgt := 218) hX (D_Model_twoOf (i := 1) rfl) (by decide) (by decide) ?_
    refine z_iload_n hX (D_Model_twoOf (i := 68) rfl) rfl ?_
    refine z_if_ne (tgt := 226) hX (D_Model_twoOf (i := 69) rfl) (by decide) (fun h1 => ?_) (fun h1 => ?_)
    · refine z_iconst (v := 1) hX (D_Model_twoOf (i := 72) rfl) (by decide) ?_
      refine z_goto (tgt := 231) hX (D_Model_twoOf (i := 73) rfl) (by decide) ?_
      rw [if_pos (Or.inl h1)] at h
      exact z_iret hX hR (D_Model_twoOf (i := 75) rfl) rfl (by assumption)
    · refine z_iload_n hX (D_Model_twoOf (i := 70) rfl) rfl ?_
      refine z_if_eq (tgt := 230) hX (D_Model_twoOf (i := 71) rfl) (by decide) (fun h2 => ?_) (fun h2 => ?_)
      · refine z_iconst (v := 0) hX (D_Model_twoOf (i := 74) rfl) (by decide) ?_
        rw [if_neg (fun w => w.elim (fun a => a h1) (fun a => a h2))] at h
        exact z_iret hX hR (D_Model_twoOf (i := 75) rfl) rfl (by assumption)
      · refine z_iconst (v := 1) hX (D_Model_twoOf (i := 72) rfl) (by decide) ?_
        refine z_goto (tgt := 231) hX (D_Model_twoOf (i := 73) rfl) (by decide) ?_
        rw [if_pos (Or.inr h2)] at h
        exact z_iret hX hR (D_Model_twoOf (i := 75) rfl) rfl (by assumption)
  · rw [show biV 38 x y = if x ≠ 0 ∧ y ≠ 0 then 1 else 0 from rfl] at h
    refine z_tabIn (off := 203) (tgt := 204) hX (D_Model_twoOf (i := 1) rfl) (by decide) (by decide) (by decide) (by decide) ?_
    refine z_iload_n hX (D_Model_twoOf (i := 60) rfl) rfl ?_
    refine z_if_eq (tgt := 216) hX (D_Model_twoOf (i := 61) rfl) (by decide) (fun h1 => ?_) (fun h1 => ?_)
    · refine z_iconst (v := 0) hX (D_Model_twoOf (i := 66) rfl) (by decide) ?_
      rw [if_neg (fun w => w.1 h1)] at h
      exact z_iret hX hR (D_Model_twoOf (i := 67) rfl) rfl (by assumption)
    · refine z_iload_n hX (D_Model_twoOf (i := 62) rfl) rfl ?_
      refine z_if_eq (tgt := 216) hX (D_Model_twoOf (i := 63) rfl) (by decide) (fun h2 => ?_) (fun h2 => ?_)
      · refine z_iconst (v := 0) hX (D_Model_twoOf (i := 66) rfl) (by decide) ?_
        rw [if_neg (fun w => w.2 h2)] at h
        exact z_iret hX hR (D_Model_twoOf (i := 67) rfl) rfl (by assumption)
      · refine z_iconst (v := 1) hX (D_Model_twoOf (i := 64) rfl) (by decide) ?_
        refine z_goto (tgt := 217) hX (D_Model_twoOf (i := 65) rfl) (by decide) ?_
        rw [if_pos ⟨h1, h2⟩] at h
        exact z_iret hX hR (D_Model_twoOf (i := 67) rfl) rfl (by assumption)
  · rw [show biV 60 x y = if x < y then 1 else 0 from rfl] at h
    refine z_tabIn (off := 170) (tgt := 171) hX (D_Model_twoOf (i := 1) rfl) (by decide) (by decide) (by decide) (by decide) ?_
    refine z_iload_n hX (D_Model_twoOf (i := 39) rfl) rfl ?_
    refine z_iload_n hX (D_Model_twoOf (i := 40) rfl) rfl ?_
    refine z_icmp_ge (tgt := 180) hX (D_Model_twoOf (i := 41) rfl) (by decide) (fun h1 => ?_) (fun h1 => ?_)
    · refine z_iconst (v := 0) hX (D_Model_twoOf (i := 44) rfl) (by decide) ?_
      rw [if_neg (Int32.not_lt.mpr h1)] at h
      exact z_iret hX hR (D_Model_twoOf (i := 45) rfl) rfl (by assumption)
    · refine z_iconst (v := 1) hX (D_Model_twoOf (i := 42) rfl) (by decide) ?_
      refine z_goto (tgt := 181) hX (D_Model_twoOf (i := 43) rfl) (by decide) ?_
      rw [if_pos (Int32.not_le.mp h1)] at h
      exact z_iret hX hR (D_Model_twoOf (i := 45) rfl) rfl (by assumption)
  · rw [show biV 61 x y = if x = y then 1 else 0 from rfl] at h
    refine z_tabIn (off := 181) (tgt := 182) hX (D_Model_twoOf (i := 1) rfl) (by decide) (by decide) (by decide) (by decide) ?_
    refine z_iload_n hX (D_Model_twoOf (i := 46) rfl) rfl ?_
    refine z_iload_n hX (D_Model_twoOf (i := 47) rfl) rfl ?_
    refine z_icmp_ne (tgt := 191) hX (D_Model_twoOf (i := 48) rfl) (by decide) (fun h1 => ?_) (fun h1 => ?_)
    · refine z_iconst (v := 0) hX (D_Model_twoOf (i := 51) rfl) (by decide) ?_
      rw [if_neg h1] at h
      exact z_iret hX hR (D_Model_twoOf (i := 52) rfl) rfl (by assumption)
    · refine z_iconst (v := 1) hX (D_Model_twoOf (i := 49) rfl) (by decide) ?_
      refine z_goto (tgt := 192) hX (D_Model_twoOf (i := 50) rfl) (by decide) ?_
      rw [if_pos h1] at h
      exact z_iret hX hR (D_Model_twoOf (i := 52) rfl) rfl (by assumption)
  · rw [show biV 62 x y = if y < x then 1 else 0 from rfl] at h
    refine z_tabIn (off := 192) (tgt := 193) hX (D_Model_twoOf (i := 1) rfl) (by decide) (by decide) (by decide) (by decide) ?_
    refine z_iload_n hX (D_Model_twoOf (i := 53) rfl) rfl ?_
    refine z_iload_n hX (D_Model_twoOf (i := 54) rfl) rfl ?_
    refine z_icmp_le (tgt := 202) hX (D_Model_twoOf (i := 55) rfl) (by decide) (fun h1 => ?_) (fun h1 => ?_)
    · refine z_iconst (v := 0) hX (D_Model_twoOf (i := 58) rfl) (by decide) ?_
      rw [if_neg (Int32.not_lt.mpr h1)] at h
      exact z_iret hX hR (D_Model_twoOf (i := 59) rfl) rfl (by assumption)
    · refine z_iconst (v := 1) hX (D_Model_twoOf (i := 56) rfl) (by decide) ?_
      refine z_goto (tgt := 203) hX (D_Model_twoOf (i := 57) rfl) (by decide) ?_
      rw [if_pos (Int32.not_le.mp h1)] at h
      exact z_iret hX hR (D_Model_twoOf (i := 59) rfl) rfl (by assumption)
  · refine z_tabIn (off := 119) (tgt := 120) hX (D_Model_twoOf (i := 1) rfl) (by decide) (by decide) (by decide) (by decide) ?_
    refine z_iload_n hX (D_Model_twoOf (i := 2) rfl) rfl ?_
    refine z_iload_n hX (D_Model_twoOf (i := 3) rfl) rfl ?_
    refine z_iadd hX (D_Model_twoOf (i := 4) rfl) ?_
    exact z_iret hX hR (D_Model_twoOf (i := 5) rfl) rfl h
  · refine z_tabIn (off := 123) (tgt := 124) hX (D_Model_twoOf (i := 1) rfl) (by decide) (by decide) (by decide) (by decide) ?_
    refine z_iload_n hX (D_Model_twoOf (i := 6) rfl) rfl ?_
    refine z_iload_n hX (D_Model_twoOf (i := 7) rfl) rfl ?_
    refine z_isub hX (D_Model_twoOf (i := 8) rfl) ?_
    exact z_iret hX hR (D_Model_twoOf (i := 9) rfl) rfl h
  · refine z_tabIn (off := 127) (tgt := 128) hX (D_Model_twoOf (i := 1) rfl) (by decide) (by decide) (by decide) (by decide) ?_
    refine z_iload_n hX (D_Model_twoOf (i := 10) rfl) rfl ?_
    refine z_iload_n hX (D_Model_twoOf (i := 11) rfl) rfl ?_
    refine z_imul hX (D_Model_twoOf (i := 12) rfl) ?_
    exact z_iret hX hR (D_Model_twoOf (i := 13) rfl) rfl h
  · rw [show biV 47 x y = if y = 0 then 0 else x / y from rfl] at h
    refine z_tabIn (off := 131) (tgt := 132) hX (D_Model_twoOf (i := 1) rfl) (by decide) (by decide) (by decide) (by decide) ?_
    refine z_iload_n hX (D_Model_twoOf (i := 14) rfl) rfl ?_
    refine z_if_ne (tgt := 140) hX (D_Model_twoOf (i := 15) rfl) (by decide) (fun h1 => ?_) (fun h1 => ?_)
    · refine z_iload_n hX (D_Model_twoOf (i := 18) rfl) rfl ?_
      refine z_iconst (v := -1) hX (D_Model_twoOf (i := 19) rfl) (by decide) ?_
      rw [if_neg h1] at h
      refine z_icmp_ne (tgt := 150) hX (D_Model_twoOf (i := 20) rfl) (by decide) (fun h2 => ?_) (fun h2 => ?_)
      · refine z_iload_n hX (D_Model_twoOf (i := 24) rfl) rfl ?_
        refine z_iload_n hX (D_Model_twoOf (i := 25) rfl) rfl ?_
        refine z_idiv hX (D_Model_twoOf (i := 26) rfl) h1 ?_
        exact z_iret hX hR (D_Model_twoOf (i := 27) rfl) rfl (by assumption)
      · refine z_iload_n hX (D_Model_twoOf (i := 21) rfl) rfl ?_
        refine z_ineg hX (D_Model_twoOf (i := 22) rfl) ?_
        refine z_goto (tgt := 153) hX (D_Model_twoOf (i := 23) rfl) (by decide) ?_
        rw [h2, i32_divm1] at h
        exact z_iret hX hR (D_Model_twoOf (i := 27) rfl) rfl (by assumption)
    · refine z_iconst (v := 0) hX (D_Model_twoOf (i := 16) rfl) (by decide) ?_
      refine z_goto (tgt := 153) hX (D_Model_twoOf (i := 17) rfl) (by decide) ?_
      rw [if_pos h1] at h
      exact z_iret hX hR (D_Model_twoOf (i := 27) rfl) rfl (by assumption)
  · rw [show biV 37 x y = if y = 0 then 0 else x - x / y * y from rfl] at h
    refine z_tabIn (off := 153) (tgt := 154) hX (D_Model_twoOf (i := 1) rfl) (by decide) (by decide) (by decide) (by decide) ?_
    refine z_iload_n hX (D_Model_twoOf (i := 28) rfl) rfl ?_
    refine z_if_eq (tgt := 163) hX (D_Model_twoOf (i := 29) rfl) (by decide) (fun h1 => ?_) (fun h1 => ?_)
    · refine z_iconst (v := 0) hX (D_Model_twoOf (i := 33) rfl) (by decide) ?_
      refine z_goto (tgt := 170) hX (D_Model_twoOf (i := 34) rfl) (by decide) ?_
      rw [if_pos h1] at h
      exact z_iret hX hR (D_Model_twoOf (i := 38) rfl) rfl (by assumption)
    · refine z_iload_n hX (D_Model_twoOf (i := 30) rfl) rfl ?_
      refine z_iconst (v := -1) hX (D_Model_twoOf (i := 31) rfl) (by decide) ?_
      rw [if_neg h1] at h
      refine z_icmp_ne (tgt := 167) hX (D_Model_twoOf (i := 32) rfl) (by decide) (fun h2 => ?_) (fun h2 => ?_)
      · refine z_iload_n hX (D_Model_twoOf (i := 35) rfl) rfl ?_
        refine z_iload_n hX (D_Model_twoOf (i := 36) rfl) rfl ?_
        refine z_irem hX (D_Model_twoOf (i := 37) rfl) h1 ?_
        exact z_iret hX hR (D_Model_twoOf (i := 38) rfl) rfl (by assumption)
      · refine z_iconst (v := 0) hX (D_Model_twoOf (i := 33) rfl) (by decide) ?_
        refine z_goto (tgt := 170) hX (D_Model_twoOf (i := 34) rfl) (by decide) ?_
        rw [h2, i32_divm1, Int32.mul_neg, Int32.mul_one, Int32.neg_neg, Int32.sub_self] at h
        exact z_iret hX hR (D_Model_twoOf (i := 38) rfl) rfl (by assumption)
end D7
def nmI (c : Nat) : Nat := if c = 97 then 0 else if c = 98 then 1 else if c = 115 then 2 else if c = 105 then 3 else 4
theorem nmI_lt (c : Nat) : nmI c < 5 := by unfold nmI; repeat' split
                                           all_goals decide
def fmS (S : Nat → Nat → Int32) (c : Nat) : Int32 := S 54 (nmI c)
section D8
variable {ι : zE} {mem : zM} {X : zX} {S : Nat → Nat → Int32} {st : List Int32} {E k : Nat} {s6 : Option zV} {F : zV}
def frP (S S' : Nat → Nat → Int32) : Prop := ∀ p c, p ≠ 55 → S' p c = S p c
theorem v_step (hX : zG ι M_Model_worked X 1 pM) (hE : E ≤ 130) (hk : k < E) {s : Nat × Nat} (hs : sgOK s) (ha : mem.1 49 0 k = (mdS s).1) (hb : mem.1 50 0 k = (mdS s).2) (hl : st.length < 130) (hw : stW (S 55) st) {st2 : List Int32} (hr : rnS (fmS S) s st = some st2) (hc : ∀ S' s6, frP S S' → stW (S' 55) st2 → zW ι M_Model_worked X 12 [some (zP 40 0), some (zI (nI 0)), some F, some (zI (nI E)), some (zI (nI st2.length)), some (zI (nI (k + 1))), s6] [] (tm mem S')) : zW ι M_Model_worked X 12 [some (zP 40 0), some (zI (nI 0)), some F, some (zI (nI E)), some (zI (nI st.length)), some (zI (nI k)), s6] [] (tm mem S) := by
  have fr1 : ∀ {j : Nat} {v : Int32}, frP S (sU S 55 j v) := fun p c h => sU_ne (Or.inl h)
  have st1 : ∀ {j : Nat} {v : Int32} {r : List Int32}, r.length ≤ j → stW (S 55) r → stW (sU S 55 j v 55) r := by
    intro j v r hj hr
    have e : sU S 55 j v 55 = fU (S 55) j v := by
      funext c
      simp only [sU, fU]
      by_cases h : c = j
      · rw [if_pos ⟨trivial, h⟩, if_pos h]
      · rw [if_neg (fun w => h w.2), if_neg h]
    rw [e]; exact stW_up hj hr
  obtain ⟨s1, c⟩ := s
  refine z_iload hX (D_Model_worked (i := 8) rfl) rfl ?_
  refine z_sipush (v := 130) hX (D_Model_worked (i := 9) rfl) (by decide) ?_
  refine z_iload_n hX (D_Model_worked (i := 10) rfl) rfl ?_
  refine z_imul hX (D_Model_worked (i := 11) rfl) ?_
  refine z_iload_n hX (D_Model_worked (i := 12) rfl) rfl ?_
  refine z_iadd hX (D_Model_worked (i := 13) rfl) ?_
  rw [show (130 : Int32) * nI 0 + nI E = nI E by rw [show (130 : Int32) * nI 0 = nI 0 from rfl, nI_add, Nat.zero_add]]
  refine z_icmp_ge (tgt := 188) hX (D_Model_worked (i := 14) rfl) (by decide) (fun hcc => absurd hcc (nI_ge hk (by omega))) (fun _ => ?_)
  refine z_aload_n hX (D_Model_worked (i := 15) rfl) rfl ?_
  refine z_getc hX (D_Model_worked (i := 16) rfl) f_Model_35 rfl (by decide) (by first | exact Nat.one_pos | assumption | omega) rfl ?_
  refine z_iload hX (D_Model_worked (i := 17) rfl) rfl ?_
  refine z_bald (j := k) hX (D_Model_worked (i := 18) rfl) rfl (by decide) (by first | exact Nat.one_pos | assumption | omega) (by decide) rfl (by omega) ?_
  rw [show (tm mem S).1 49 0 k = mem.1 49 0 k from rfl, ha]
  refine z_istore hX (D_Model_worked (i := 19) rfl) (by decide) rfl ?_
  refine z_iload hX (D_Model_worked (i := 20) rfl) rfl ?_
  refine z_iconst (v := 1) hX (D_Model_worked (i := 21) rfl) (by decide) ?_
  rcases hs with ⟨rfl, h⟩ | ⟨rfl, h⟩ | ⟨rfl, h⟩ | ⟨rfl, h⟩
  · rw [show rnS (fmS S) (0, c) st = some (nI c :: st) from rfl] at hr
    obtain rfl := Option.some.inj hr
    rw [show (mdS (0, c)).1 = 1 from rfl]
    refine z_icmp_eq (tgt := 45) hX (D_Model_worked (i := 22) rfl) (by decide) (fun _ => ?_) (fun hcc => absurd (rfl) hcc)
    refine z_aload_n hX (D_Model_worked (i := 26) rfl) rfl ?_
    refine z_getc hX (D_Model_worked (i := 27) rfl) f_Model_54 rfl (by decide) (by first | exact Nat.one_pos | assumption | omega) rfl ?_
    refine z_iload hX (D_Model_worked (i := 28) rfl) rfl ?_
    refine z_iload hX (D_Model_worked (i := 29) rfl) rfl ?_
    refine z_iconst (v := 1) hX (D_Model_worked (i := 30) rfl) (by decide) ?_
    refine z_icmp_ne (tgt := 67) hX (D_Model_worked (i := 31) rfl) (by decide) (fun hcc => absurd (rfl) hcc) (fun _ => ?_)
    refine z_aload_n hX (D_Model_worked (i := 32) rfl) rfl ?_
    refine z_getc hX (D_Model_worked (i := 33) rfl) f_Model_38 rfl (by decide) (by first | exact Nat.one_pos | assumption | omega) rfl ?_
    refine z_iload hX (D_Model_worked (i := 34) rfl) rfl ?_
    refine z_iald (j := k) hX (D_Model_worked (i := 35) rfl) rfl (by decide) (by first | exact Nat.one_pos | assumption | omega) (by decide) rfl (by omega) ?_
    rw [show (tm mem S).1 50 0 k = mem.1 50 0 k from rfl, hb, show (mdS (0, c)).2 = nI c from rfl]
    refine z_goto (tgt := 79) hX (D_Model_worked (i := 36) rfl) (by decide) ?_
    refine z_iast (j := st.length) hX (D_Model_worked (i := 44) rfl) rfl (by decide) (by first | exact Nat.one_pos | assumption | omega) (by decide) rfl hl ?_
    rw [tm_up rfl]
    first | refine z_inc1 hX (D_Model_worked (i := 45) rfl) rfl (by decide) rfl ?_ | refine z_iinc hX (D_Model_worked (i := 45) rfl) rfl rfl (by decide) rfl ?_
    refine z_goto (tgt := 182) hX (D_Model_worked (i := 46) rfl) (by decide) ?_
    first | refine z_inc1 hX (D_Model_worked (i := 103) rfl) rfl (by decide) rfl ?_ | refine z_iinc hX (D_Model_worked (i := 103) rfl) rfl rfl (by decide) rfl ?_
    refine z_goto (tgt := 12) hX (D_Model_worked (i := 104) rfl) (by decide) ?_
    exact hc _ _ fr1 ⟨sU_at, st1 (Nat.le_refl _) hw⟩
  · rw [show rnS (fmS S) (1, c) st = some (fmS S c :: st) from rfl] at hr
    obtain rfl := Option.some.inj hr
    rw [show (mdS (1, c)).1 = 2 from rfl]
    refine z_icmp_eq (tgt := 45) hX (D_Model_worked (i := 22) rfl) (by decide) (fun hcc => absurd hcc (by decide)) (fun _ => ?_)
    refine z_iload hX (D_Model_worked (i := 23) rfl) rfl ?_
    refine z_iconst (v := 2) hX (D_Model_worked (i := 24) rfl) (by decide) ?_
    refine z_icmp_ne (tgt := 86) hX (D_Model_worked (i := 25) rfl) (by decide) (fun hcc => absurd (rfl) hcc) (fun _ => ?_)
    refine z_aload_n hX (D_Model_worked (i := 26) rfl) rfl ?_
    refine z_getc hX (D_Model_worked (i := 27) rfl) f_Model_54 rfl (by decide) (by first | exact Nat.one_pos | assumption | omega) rfl ?_
    refine z_iload hX (D_Model_worked (i := 28) rfl) rfl ?_
    refine z_iload hX (D_Model_worked (i := 29) rfl) rfl ?_
    refine z_iconst (v := 1) hX (D_Model_worked (i := 30) rfl) (by decide) ?_
    refine z_icmp_ne (tgt := 67) hX (D_Model_worked (i := 31) rfl) (by decide) (fun _ => ?_) (fun hcc => absurd hcc (by decide))
    refine z_aload_n hX (D_Model_worked (i := 37) rfl) rfl ?_
    refine z_getc hX (D_Model_worked (i := 38) rfl) f_Model_51 rfl (by decide) (by first | exact Nat.one_pos | assumption | omega) rfl ?_
    refine z_aload_n hX (D_Model_worked (i := 39) rfl) rfl ?_
    refine z_getc hX (D_Model_worked (i := 40) rfl) f_Model_38 rfl (by decide) (by first | exact Nat.one_pos | assumption | omega) rfl ?_
    refine z_iload hX (D_Model_worked (i := 41) rfl) rfl ?_
    refine z_iald (j := k) hX (D_Model_worked (i := 42) rfl) rfl (by decide) (by first | exact Nat.one_pos | assumption | omega) (by decide) rfl (by omega) ?_
    rw [show (tm mem S).1 50 0 k = mem.1 50 0 k from rfl, hb, show (mdS (1, c)).2 = nI (nmI c) from rfl]
    refine z_iald (j := nmI c) hX (D_Model_worked (i := 43) rfl) rfl (by decide) (by first | exact Nat.one_pos | assumption | omega) (by decide) rfl (nmI_lt c) ?_
    rw [show (tm mem S).1 54 0 (nmI c) = fmS S c from rfl]
    refine z_iast (j := st.length) hX (D_Model_worked (i := 44) rfl) rfl (by decide) (by first | exact Nat.one_pos | assumption | omega) (by decide) rfl hl ?_
    rw [tm_up rfl]
    first | refine z_inc1 hX (D_Model_worked (i := 45) rfl) rfl (by decide) rfl ?_ | refine z_iinc hX (D_Model_worked (i := 45) rfl) rfl rfl (by decide) rfl ?_
    refine z_goto (tgt := 182) hX (D_Model_worked (i := 46) rfl) (by decide) ?_
    first | refine z_inc1 hX (D_Model_worked (i := 103) rfl) rfl (by decide) rfl ?_ | refine z_iinc hX (D_Model_worked (i := 103) rfl) rfl rfl (by decide) rfl ?_
    refine z_goto (tgt := 12) hX (D_Model_worked (i := 104) rfl) (by decide) ?_
    exact hc _ _ fr1 ⟨sU_at, st1 (Nat.le_refl _) hw⟩
  · have h : c = 33 ∨ c = 45 := h
    cases st with
    | nil => cases hr
    | cons v r =>
      rw [show rnS (fmS S) (2, c) (v :: r) = some (unV c v :: r) from rfl] at hr
      obtain rfl := Option.some.inj hr
      have hl' : r.length + 1 < 130 := hl
      have es : nI (v :: r).length - 1 = nI r.length := pk_sub (a := r.length + 1) (b := 1) (by omega)
      rcases h with rfl | rfl
      · rw [show (mdS (2, 33)).1 = 3 from rfl]
        refine z_icmp_eq (tgt := 45) hX (D_Model_worked (i := 22) rfl) (by decide) (fun hcc => absurd hcc (by decide)) (fun _ => ?_)
        refine z_iload hX (D_Model_worked (i := 23) rfl) rfl ?_
        refine z_iconst (v := 2) hX (D_Model_worked (i := 24) rfl) (by decide) ?_
        refine z_icmp_ne (tgt := 86) hX (D_Model_worked (i := 25) rfl) (by decide) (fun _ => ?_) (fun hcc => absurd hcc (by decide))
        refine z_iload hX (D_Model_worked (i := 47) rfl) rfl ?_
        refine z_iconst (v := 3) hX (D_Model_worked (i := 48) rfl) (by decide) ?_
        refine z_icmp_ne (tgt := 121) hX (D_Model_worked (i := 49) rfl) (by decide) (fun hcc => absurd (rfl) hcc) (fun _ => ?_)
        refine z_aload_n hX (D_Model_worked (i := 50) rfl) rfl ?_
        refine z_getc hX (D_Model_worked (i := 51) rfl) f_Model_54 rfl (by decide) (by first | exact Nat.one_pos | assumption | omega) rfl ?_
        refine z_iload hX (D_Model_worked (i := 52) rfl) rfl ?_
        refine z_iconst (v := 1) hX (D_Model_worked (i := 53) rfl) (by decide) ?_
        refine z_isub hX (D_Model_worked (i := 54) rfl) ?_
        refine z_aload_n hX (D_Model_worked (i := 55) rfl) rfl ?_
        refine z_getc hX (D_Model_worked (i := 56) rfl) f_Model_54 rfl (by decide) (by first | exact Nat.one_pos | assumption | omega) rfl ?_
        refine z_iload hX (D_Model_worked (i := 57) rfl) rfl ?_
        refine z_iconst (v := 1) hX (D_Model_worked (i := 58) rfl) (by decide) ?_
        refine z_isub hX (D_Model_worked (i := 59) rfl) ?_
        rw [es]
        refine z_iald (j := r.length) hX (D_Model_worked (i := 60) rfl) rfl (by decide) (by first | exact Nat.one_pos | assumption | omega) (by decide) rfl (by omega) ?_
        rw [show (tm mem S).1 55 0 r.length = v from hw.1]
        refine z_if_ne (tgt := 116) hX (D_Model_worked (i := 61) rfl) (by decide) (fun h1 => ?_) (fun h1 => ?_)
        · refine z_iconst (v := 0) hX (D_Model_worked (i := 64) rfl) (by decide) ?_
          refine z_iast (j := r.length) hX (D_Model_worked (i := 65) rfl) rfl (by decide) (by first | exact Nat.one_pos | assumption | omega) (by decide) rfl (by omega) ?_
          rw [tm_up rfl]
          refine z_goto (tgt := 182) hX (D_Model_worked (i := 66) rfl) (by decide) ?_
          first | refine z_inc1 hX (D_Model_worked (i := 103) rfl) rfl (by decide) rfl ?_ | refine z_iinc hX (D_Model_worked (i := 103) rfl) rfl rfl (by decide) rfl ?_
          refine z_goto (tgt := 12) hX (D_Model_worked (i := 104) rfl) (by decide) ?_
          exact hc _ _ fr1 ⟨sU_at.trans (if_neg h1).symm, st1 (Nat.le_refl _) hw.2⟩
        · refine z_iconst (v := 1) hX (D_Model_worked (i := 62) rfl) (by decide) ?_
          refine z_goto (tgt := 117) hX (D_Model_worked (i := 63) rfl) (by decide) ?_
          refine z_iast (j := r.length) hX (D_Model_worked (i := 65) rfl) rfl (by decide) (by first | exact Nat.one_pos | assumption | omega) (by decide) rfl (by omega) ?_
          rw [tm_up rfl]
          refine z_goto (tgt := 182) hX (D_Model_worked (i := 66) rfl) (by decide) ?_
          first | refine z_inc1 hX (D_Model_worked (i := 103) rfl) rfl (by decide) rfl ?_ | refine z_iinc hX (D_Model_worked (i := 103) rfl) rfl rfl (by decide) rfl ?_
          refine z_goto (tgt := 12) hX (D_Model_worked (i := 104) rfl) (by decide) ?_
          exact hc _ _ fr1 ⟨sU_at.trans (if_pos h1).symm, st1 (Nat.le_refl _) hw.2⟩
      · rw [show (mdS (2, 45)).1 = 4 from rfl]
        refine z_icmp_eq (tgt := 45) hX (D_Model_worked (i := 22) rfl) (by decide) (fun hcc => absurd hcc (by decide)) (fun _ => ?_)
        refine z_iload hX (D_Model_worked (i := 23) rfl) rfl ?_
        refine z_iconst (v := 2) hX (D_Model_worked (i := 24) rfl) (by decide) ?_
        refine z_icmp_ne (tgt := 86) hX (D_Model_worked (i := 25) rfl) (by decide) (fun _ => ?_) (fun hcc => absurd hcc (by decide))
        refine z_iload hX (D_Model_worked (i := 47) rfl) rfl ?_
        refine z_iconst (v := 3) hX (D_Model_worked (i := 48) rfl) (by decide) ?_
        refine z_icmp_ne (tgt := 121) hX (D_Model_worked (i := 49) rfl) (by decide) (fun _ => ?_) (fun hcc => absurd hcc (by decide))
        refine z_iload hX (D_Model_worked (i := 67) rfl) rfl ?_
        refine z_iconst (v := 4) hX (D_Model_worked (i := 68) rfl) (by decide) ?_
        refine z_icmp_ne (tgt := 149) hX (D_Model_worked (i := 69) rfl) (by decide) (fun hcc => absurd (rfl) hcc) (fun _ => ?_)
        refine z_aload_n hX (D_Model_worked (i := 70) rfl) rfl ?_
        refine z_getc hX (D_Model_worked (i := 71) rfl) f_Model_54 rfl (by decide) (by first | exact Nat.one_pos | assumption | omega) rfl ?_
        refine z_iload hX (D_Model_worked (i := 72) rfl) rfl ?_
        refine z_iconst (v := 1) hX (D_Model_worked (i := 73) rfl) (by decide) ?_
        refine z_isub hX (D_Model_worked (i := 74) rfl) ?_
        refine z_aload_n hX (D_Model_worked (i := 75) rfl) rfl ?_
        refine z_getc hX (D_Model_worked (i := 76) rfl) f_Model_54 rfl (by decide) (by first | exact Nat.one_pos | assumption | omega) rfl ?_
        refine z_iload hX (D_Model_worked (i := 77) rfl) rfl ?_
        refine z_iconst (v := 1) hX (D_Model_worked (i := 78) rfl) (by decide) ?_
        refine z_isub hX (D_Model_worked (i := 79) rfl) ?_
        rw [es]
        refine z_iald (j := r.length) hX (D_Model_worked (i := 80) rfl) rfl (by decide) (by first | exact Nat.one_pos | assumption | omega) (by decide) rfl (by omega) ?_
        rw [show (tm mem S).1 55 0 r.length = v from hw.1]
        refine z_ineg hX (D_Model_worked (i := 81) rfl) ?_
        refine z_iast (j := r.length) hX (D_Model_worked (i := 82) rfl) rfl (by decide) (by first | exact Nat.one_pos | assumption | omega) (by decide) rfl (by omega) ?_
        rw [tm_up rfl]
        refine z_goto (tgt := 182) hX (D_Model_worked (i := 83) rfl) (by decide) ?_
        first | refine z_inc1 hX (D_Model_worked (i := 103) rfl) rfl (by decide) rfl ?_ | refine z_iinc hX (D_Model_worked (i := 103) rfl) rfl rfl (by decide) rfl ?_
        refine z_goto (tgt := 12) hX (D_Model_worked (i := 104) rfl) (by decide) ?_
        exact hc _ _ fr1 ⟨sU_at, st1 (Nat.le_refl _) hw.2⟩
  · have h : isJo c := h
    cases st with
    | nil => cases hr
    | cons v r =>
      cases r with
      | nil => cases hr
      | cons u r =>
        rw [show rnS (fmS S) (3, c) (v :: u :: r) = some (biV c u v :: r) from rfl] at hr
        obtain rfl := Option.some.inj hr
        have hl' : r.length + 2 < 130 := hl
        have hcb : 5 ≤ c ∧ c < 128 := by unfold isJo at h; omega
        have E : ∀ d : Nat, d < 5 → ¬ nI c = nI d := fun d hd w => absurd ((nI_eq (by omega) (by omega)).mp w) (by omega)
        have es : nI (r.length + 1) - 1 = nI r.length := pk_sub (a := r.length + 1) (b := 1) (by omega)
        rw [show (mdS (3, c)).1 = nI c from rfl]
        refine z_icmp_eq (tgt := 45) hX (D_Model_worked (i := 22) rfl) (by decide) (fun hcc => absurd hcc (E 1 (by decide))) (fun _ => ?_)
        refine z_iload hX (D_Model_worked (i := 23) rfl) rfl ?_
        refine z_iconst (v := 2) hX (D_Model_worked (i := 24) rfl) (by decide) ?_
        refine z_icmp_ne (tgt := 86) hX (D_Model_worked (i := 25) rfl) (by decide) (fun _ => ?_) (fun hcc => absurd hcc (E 2 (by decide)))
        refine z_iload hX (D_Model_worked (i := 47) rfl) rfl ?_
        refine z_iconst (v := 3) hX (D_Model_worked (i := 48) rfl) (by decide) ?_
        refine z_icmp_ne (tgt := 121) hX (D_Model_worked (i := 49) rfl) (by decide) (fun _ => ?_) (fun hcc => absurd hcc (E 3 (by decide)))
        refine z_iload hX (D_Model_worked (i := 67) rfl) rfl ?_
        refine z_iconst (v := 4) hX (D_Model_worked (i := 68) rfl) (by decide) ?_
        refine z_icmp_ne (tgt := 149) hX (D_Model_worked (i := 69) rfl) (by decide) (fun _ => ?_) (fun hcc => absurd hcc (E 4 (by decide)))
        refine z_iinc (v := nI (r.length + 1)) hX (D_Model_worked (i := 84) rfl) rfl ((by have := pk_sub (a := r.length + 2) (b := 1) (by omega); rw [Int32.sub_eq_add_neg] at this; exact this)) (by decide) rfl ?_
        refine z_aload_n hX (D_Model_worked (i := 85) rfl) rfl ?_
        refine z_getc hX (D_Model_worked (i := 86) rfl) f_Model_54 rfl (by decide) (by first | exact Nat.one_pos | assumption | omega) rfl ?_
        refine z_iload hX (D_Model_worked (i := 87) rfl) rfl ?_
        refine z_iconst (v := 1) hX (D_Model_worked (i := 88) rfl) (by decide) ?_
        refine z_isub hX (D_Model_worked (i := 89) rfl) ?_
        refine z_iload hX (D_Model_worked (i := 90) rfl) rfl ?_
        refine z_aload_n hX (D_Model_worked (i := 91) rfl) rfl ?_
        refine z_getc hX (D_Model_worked (i := 92) rfl) f_Model_54 rfl (by decide) (by first | exact Nat.one_pos | assumption | omega) rfl ?_
        refine z_iload hX (D_Model_worked (i := 93) rfl) rfl ?_
        refine z_iconst (v := 1) hX (D_Model_worked (i := 94) rfl) (by decide) ?_
        refine z_isub hX (D_Model_worked (i := 95) rfl) ?_
        rw [es]
        refine z_iald (j := r.length) hX (D_Model_worked (i := 96) rfl) rfl (by decide) (by first | exact Nat.one_pos | assumption | omega) (by decide) rfl (by omega) ?_
        rw [show (tm mem S).1 55 0 r.length = u from hw.2.1]
        refine z_aload_n hX (D_Model_worked (i := 97) rfl) rfl ?_
        refine z_getc hX (D_Model_worked (i := 98) rfl) f_Model_54 rfl (by decide) (by first | exact Nat.one_pos | assumption | omega) rfl ?_
        refine z_iload hX (D_Model_worked (i := 99) rfl) rfl ?_
        refine z_iald (j := r.length + 1) hX (D_Model_worked (i := 100) rfl) rfl (by decide) (by first | exact Nat.one_pos | assumption | omega) (by decide) rfl (by omega) ?_
        rw [show (tm mem S).1 55 0 (r.length + 1) = v from hw.1]
        refine z_cS3 hX (D_Model_worked (i := 101) rfl) ms_Model_twoOf l_Model_207 (by first | decide | omega) (Nat.le_of_ble_eq_true rfl) (d_twoOf h ?_)
        refine z_iast (j := r.length) hX (D_Model_worked (i := 102) rfl) rfl (by decide) (by first | exact Nat.one_pos | assumption | omega) (by decide) rfl (by omega) ?_
        rw [tm_up rfl]
        first | refine z_inc1 hX (D_Model_worked (i := 103) rfl) rfl (by decide) rfl ?_ | refine z_iinc hX (D_Model_worked (i := 103) rfl) rfl rfl (by decide) rfl ?_
        refine z_goto (tgt := 12) hX (D_Model_worked (i := 104) rfl) (by decide) ?_
        exact hc _ _ fr1 ⟨sU_at, st1 (Nat.le_refl _) hw.2.2⟩
def mAt (mem : zM) : Nat → List (Int32 × Int32) → Prop
  | _, [] => True
  | k, x :: r => (mem.1 49 0 k = x.1 ∧ mem.1 50 0 k = x.2) ∧ mAt mem (k + 1) r
theorem mAt_app {mem : zM} : ∀ {a b : List (Int32 × Int32)} {k : Nat}, mAt mem k (a ++ b) → mAt mem k a ∧ mAt mem (k + a.length) b
  | [], b, k, h => ⟨trivial, h⟩
  | x :: a, b, k, h => by
    have := mAt_app (a := a) (b := b) (k := k + 1) h.2
    exact ⟨⟨h.1, this.1⟩, by rw [List.length_cons, show k + (a.length + 1) = k + 1 + a.length by omega]; exact this.2⟩
theorem mAt_of {mem : zM} : ∀ {L : List (Int32 × Int32)} {k : Nat}, (∀ i, i < L.length → mem.1 49 0 (k + i) = (L.getD i (0, 0)).1 ∧ mem.1 50 0 (k + i) = (L.getD i (0, 0)).2) → mAt mem k L
  | [], k, _ => trivial
  | x :: L, k, h => ⟨h 0 (by simp), mAt_of (fun i hi => by
      have := h (i + 1) (by simp; omega)
      rw [show k + 1 + i = k + (i + 1) by omega, this.1, this.2]; simp)⟩
theorem frP.tr {A B C : Nat → Nat → Int32} (h : frP A B) (h2 : frP B C) : frP A C := fun p c q => (h2 p c q).trans (h p c q)
theorem frP.fm {A B : Nat → Nat → Int32} (h : frP A B) : fmS B = fmS A := by funext c; exact h 54 _ (by decide)
theorem v_seg (hX : zG ι M_Model_worked X 1 pM) (hE : E ≤ 130) : ∀ (e : lE) (k : Nat) (st st2 : List Int32) (S : Nat → Nat → Int32) (s6 : Option zV), (∀ s ∈ e, sgOK s) → mAt mem k (mdC e) → k + e.length ≤ E → st.length + e.length ≤ 130 → stW (S 55) st → rnE (fmS S) e st = some st2 → (∀ S' s6, frP S S' → stW (S' 55) st2 → zW ι M_Model_worked X 12 [some (zP 40 0), some (zI (nI 0)), some F, some (zI (nI E)), some (zI (nI st2.length)), some (zI (nI (k + e.length))), s6] [] (tm mem S')) → zW ι M_Model_worked X 12 [some (zP 40 0), some (zI (nI 0)), some F, some (zI (nI E)), some (zI (nI st.length)), some (zI (nI k)), s6] [] (tm mem S)
  | [], k, st, st2, S, s6, hs, hx, hk, hl, hw, hr, hc => by
    rw [show rnE (fmS S) [] st = some st from rfl] at hr
    obtain rfl := Option.some.inj hr
    exact hc S s6 (fun _ _ _ => rfl) hw
  | s :: e, k, st, st2, S, s6, hs, hx, hk, hl, hw, hr, hc => by
    rw [List.length_cons] at hk hl hc
    unfold rnE at hr
    cases h1 : rnS (fmS S) s st with
    | none => rw [h1] at hr; cases hr
    | some st3 =>
      rw [h1] at hr
      have hlen : st3.length ≤ st.length + 1 := by
        revert h1
        unfold rnS
        split
        · intro h; rw [← Option.some.inj h]; exact Nat.le_refl _
        · split
          · intro h; rw [← Option.some.inj h]; exact Nat.le_refl _
          · cases st with
            | nil => intro h; cases h
            | cons v r =>
              show (if s.1 = 2 then _ else _) = _ → _
              split
              · intro h; rw [← Option.some.inj h]; simp
              · cases r with
                | nil => intro h; cases h
                | cons u r => intro h; rw [← Option.some.inj h]; simp
      refine v_step hX hE (by omega) (hs s (List.mem_cons_self ..)) hx.1.1 hx.1.2 (by omega) hw h1 ?_
      intro S1 s6 hf hw
      refine v_seg hX hE e (k + 1) st3 st2 S1 s6 (fun q hq => hs q (List.mem_cons_of_mem _ hq)) hx.2 (by omega) (by omega) hw (by rw [hf.fm]; exact hr) ?_
      rw [show k + 1 + e.length = k + (e.length + 1) by omega]
      exact fun S' s6 h => hc S' s6 (hf.tr h)
variable {l : Launch} {Post : Option zV → zM → Prop} {x y z : Int32} {n p : Nat}
theorem d_worked (hH : zHas ι pM) {e : lE} (he : lgd e) {k : Nat} (hx : mAt mem k (mdC e)) (hk : k + e.length ≤ 130) (h : ∀ S', frP S S' → Post (some (zI (vE (fmS S) e))) (tm mem S')) : zC l ι M_Model_worked 1 [zP 40 0, zI (nI 0), zI (nI k), zI (nI (k + e.length))] (tm mem S) Post := by
  refine z_enter hH (by decide) (by simp [z_ent, M_Model_worked]) (fun X hXl hX hR => ?_)
  refine z_iconst (v := 0) hX (D_Model_worked (i := 0) rfl) (by decide) ?_
  refine z_istore hX (D_Model_worked (i := 1) rfl) (by decide) rfl ?_
  refine z_sipush (v := 130) hX (D_Model_worked (i := 2) rfl) (by decide) ?_
  refine z_iload_n hX (D_Model_worked (i := 3) rfl) rfl ?_
  refine z_imul hX (D_Model_worked (i := 4) rfl) ?_
  refine z_iload_n hX (D_Model_worked (i := 5) rfl) rfl ?_
  refine z_iadd hX (D_Model_worked (i := 6) rfl) ?_
  rw [show (130 : Int32) * nI 0 + nI k = nI k by rw [show (130 : Int32) * nI 0 = nI 0 from rfl, nI_add, Nat.zero_add]]
  refine z_istore hX (D_Model_worked (i := 7) rfl) (by decide) rfl ?_
  refine v_seg hX hk e k [] _ S _ he.1 hx (Nat.le_refl _) (by show 0 + _ ≤ _; omega) trivial (vE_run he []) ?_
  intro S' s6 hf hw
  refine z_iload hX (D_Model_worked (i := 8) rfl) rfl ?_
  refine z_sipush (v := 130) hX (D_Model_worked (i := 9) rfl) (by decide) ?_
  refine z_iload_n hX (D_Model_worked (i := 10) rfl) rfl ?_
  refine z_imul hX (D_Model_worked (i := 11) rfl) ?_
  refine z_iload_n hX (D_Model_worked (i := 12) rfl) rfl ?_
  refine z_iadd hX (D_Model_worked (i := 13) rfl) ?_
  rw [show (130 : Int32) * nI 0 + nI (k + e.length) = nI (k + e.length) by rw [show (130 : Int32) * nI 0 = nI 0 from rfl, nI_add, Nat.zero_add]]
  refine z_icmp_ge (tgt := 188) hX (D_Model_worked (i := 14) rfl) (by decide) (fun _ => ?_) (fun hcc => absurd (Int32.le_refl _) hcc)
  refine z_aload_n hX (D_Model_worked (i := 105) rfl) rfl ?_
  refine z_getc hX (D_Model_worked (i := 106) rfl) f_Model_54 rfl (by decide) (by first | exact Nat.one_pos | assumption | omega) rfl ?_
  refine z_iconst (v := 0) hX (D_Model_worked (i := 107) rfl) (by decide) ?_
  refine z_iald (j := 0) hX (D_Model_worked (i := 108) rfl) rfl (by decide) (by first | exact Nat.one_pos | assumption | omega) (by decide) rfl (by omega) ?_
  rw [show (tm mem S').1 55 0 0 = vE (fmS S) e from hw.1]
  exact z_iret hX hR (D_Model_worked (i := 109) rfl) rfl (h S' hf)
end D8
