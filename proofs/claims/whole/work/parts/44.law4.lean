/-! the class works the law out -/
def fvM (mem : zM) (c : Nat) : Int32 := if c = 97 then mem.1 4 0 6 else if c = 98 then mem.1 4 0 7 else if c = 115 then mem.1 4 0 8 else if c = 105 then mem.1 4 0 9 else mem.1 4 0 10
def vE (φ : Nat → Int32) (e : lE) : Int32 := match rnE φ e [] with
  | some (v :: _) => v
  | _ => 0
theorem vE_run {φ : Nat → Int32} {e : lE} (h : lgd e) (st : List Int32) : rnE φ e st = some (vE φ e :: st) := by
  obtain ⟨v, hv⟩ := h.2 φ
  have : vE φ e = v := by unfold vE; rw [hv []]
  rw [this, hv]
def lawV (φ : Nat → Int32) : List lLn → Int32
  | [] => 0
  | (none, v) :: _ => vE φ v
  | (some t, v) :: r => if vE φ t = 0 then lawV φ r else vE φ v
def skM (mem : zM) (w : Nat → Int32) : zM := (fun a b c => if a = 7 ∧ b = 0 then w c else mem.1 a b c, mem.2)
def fU (w : Nat → Int32) (j : Nat) (v : Int32) : Nat → Int32 := fun c => if c = j then v else w c
theorem skM_self (mem : zM) : skM mem (fun c => mem.1 7 0 c) = mem := by
  refine Prod.ext ?_ rfl
  funext a b c
  show (if a = 7 ∧ b = 0 then mem.1 7 0 c else mem.1 a b c) = mem.1 a b c
  split
  · next h => rw [h.1, h.2]
  · rfl
theorem skM_up {mem : zM} {w : Nat → Int32} {j : Nat} {v : Int32} : upI (skM mem w) 7 0 j v = skM mem (fU w j v) := by
  refine Prod.ext ?_ rfl
  funext a b c
  show (if a = 7 ∧ b = 0 ∧ c = j then v else if a = 7 ∧ b = 0 then w c else mem.1 a b c) = (if a = 7 ∧ b = 0 then (if c = j then v else w c) else mem.1 a b c)
  by_cases h : a = 7 ∧ b = 0
  · rw [if_pos h, if_pos h]
    by_cases h2 : c = j
    · rw [if_pos ⟨h.1, h.2, h2⟩, if_pos h2]
    · rw [if_neg (fun w => h2 w.2.2), if_neg h2]
  · rw [if_neg h, if_neg h, if_neg (fun w => h ⟨w.1, w.2.1⟩)]
theorem skM_7 {mem : zM} {w : Nat → Int32} {j : Nat} : (skM mem w).1 7 0 j = w j := rfl
theorem skM_4 {mem : zM} {w : Nat → Int32} {j : Nat} : (skM mem w).1 4 0 j = mem.1 4 0 j := rfl
theorem skM_6 {mem : zM} {w : Nat → Int32} {i j : Nat} : (skM mem w).1 6 i j = mem.1 6 i j := rfl
def stW (w : Nat → Int32) : List Int32 → Prop
  | [] => True
  | v :: r => w r.length = v ∧ stW w r
theorem stW_up {w : Nat → Int32} {j : Nat} {v : Int32} : ∀ {st : List Int32}, st.length ≤ j → stW w st → stW (fU w j v) st
  | [], _, _ => trivial
  | u :: r, h, hs => by
    have h' : r.length < j := h
    exact ⟨(if_neg (by omega)).trans hs.1, stW_up (by omega) hs.2⟩
theorem stW_push {w : Nat → Int32} {v : Int32} {st : List Int32} (h : stW w st) : stW (fU w st.length v) (v :: st) := ⟨if_pos rfl, stW_up (Nat.le_refl _) h⟩
section C4
variable {l : Launch} {ι : zE} {mem : zM} {Post : Option zV → zM → Prop} {x y z : Int32} {n p : Nat}
theorem c_Law_named (hH : zHas ι pL) {c : Nat} (hc : isNm c = true) (h : Post (some (zI (fvM mem c))) mem) : zC l ι M_Law_named 0 [zP 4 0, zI (nI c)] mem Post := by
  have hc := of_decide_eq_true hc
  refine z_enter hH (by decide) (by simp [z_ent, M_Law_named]) (fun X hXl hX hR => ?_)
  refine z_iload_n hX (D_Law_named (i := 0) rfl) rfl ?_
  rcases hc with rfl | rfl | rfl | rfl | rfl
  · refine z_lookup (off := 43) (tgt := 44) hX (D_Law_named (i := 1) rfl) (by decide) (by decide) (by decide) ?_
    refine z_aload_n hX (D_Law_named (i := 2) rfl) rfl ?_
    refine z_geti hX (D_Law_named (i := 3) rfl) f_Law_79 rfl (by decide) (by first | exact Nat.one_pos | assumption | omega) rfl ?_
    exact z_iret hX hR (D_Law_named (i := 4) rfl) rfl h
  · refine z_lookup (off := 48) (tgt := 49) hX (D_Law_named (i := 1) rfl) (by decide) (by decide) (by decide) ?_
    refine z_aload_n hX (D_Law_named (i := 5) rfl) rfl ?_
    refine z_geti hX (D_Law_named (i := 6) rfl) f_Law_82 rfl (by decide) (by first | exact Nat.one_pos | assumption | omega) rfl ?_
    exact z_iret hX hR (D_Law_named (i := 7) rfl) rfl h
  · refine z_lookup (off := 53) (tgt := 54) hX (D_Law_named (i := 1) rfl) (by decide) (by decide) (by decide) ?_
    refine z_aload_n hX (D_Law_named (i := 8) rfl) rfl ?_
    refine z_geti hX (D_Law_named (i := 9) rfl) f_Law_85 rfl (by decide) (by first | exact Nat.one_pos | assumption | omega) rfl ?_
    exact z_iret hX hR (D_Law_named (i := 10) rfl) rfl h
  · refine z_lookup (off := 58) (tgt := 59) hX (D_Law_named (i := 1) rfl) (by decide) (by decide) (by decide) ?_
    refine z_aload_n hX (D_Law_named (i := 11) rfl) rfl ?_
    refine z_geti hX (D_Law_named (i := 12) rfl) f_Law_91 rfl (by decide) (by first | exact Nat.one_pos | assumption | omega) rfl ?_
    exact z_iret hX hR (D_Law_named (i := 13) rfl) rfl h
  · refine z_lookup (off := 63) (tgt := 64) hX (D_Law_named (i := 1) rfl) (by decide) (by decide) (by decide) ?_
    refine z_aload_n hX (D_Law_named (i := 14) rfl) rfl ?_
    refine z_geti hX (D_Law_named (i := 15) rfl) f_Law_97 rfl (by decide) (by first | exact Nat.one_pos | assumption | omega) rfl ?_
    exact z_iret hX hR (D_Law_named (i := 16) rfl) rfl h
theorem c_Law_turned {c : Nat} (hc : c = 33 ∨ c = 45) (h : Post (some (zI (unV c y))) mem) : zC l ι M_Law_turned 0 [zI (-(cdS (2, c))), zI y] mem Post := by
  have hH : zHas ι [] := zHas.nil
  refine z_enter hH (by decide) (by simp [z_ent, M_Law_turned]) (fun X hXl hX hR => ?_)
  refine z_iload_n hX (D_Law_turned (i := 0) rfl) rfl ?_
  refine z_bipush (v := 126) hX (D_Law_turned (i := 1) rfl) (by decide) ?_
  rcases hc with rfl | rfl
  · skip
    refine z_icmp_ne (tgt := 9) hX (D_Law_turned (i := 2) rfl) (by decide) (fun _ => ?_) (fun hcc => absurd hcc (by decide))
    refine z_iload_n hX (D_Law_turned (i := 6) rfl) rfl ?_
    refine z_if_ne (tgt := 17) hX (D_Law_turned (i := 7) rfl) (by decide) (fun h1 => ?_) (fun h1 => ?_)
    · refine z_iconst (v := 0) hX (D_Law_turned (i := 10) rfl) (by decide) ?_
      rw [show unV 33 y = if y = 0 then 1 else 0 from rfl, if_neg h1] at h
      exact z_iret hX hR (D_Law_turned (i := 11) rfl) rfl (by assumption)
    · refine z_iconst (v := 1) hX (D_Law_turned (i := 8) rfl) (by decide) ?_
      refine z_goto (tgt := 18) hX (D_Law_turned (i := 9) rfl) (by decide) ?_
      rw [show unV 33 y = if y = 0 then 1 else 0 from rfl, if_pos h1] at h
      exact z_iret hX hR (D_Law_turned (i := 11) rfl) rfl (by assumption)
  · skip
    refine z_icmp_ne (tgt := 9) hX (D_Law_turned (i := 2) rfl) (by decide) (fun hcc => absurd (by decide) hcc) (fun _ => ?_)
    refine z_iload_n hX (D_Law_turned (i := 3) rfl) rfl ?_
    refine z_ineg hX (D_Law_turned (i := 4) rfl) ?_
    exact z_iret hX hR (D_Law_turned (i := 5) rfl) rfl h
theorem c_Law_joined {c : Nat} (hc : isJo c) (h : Post (some (zI (biV c x y))) mem) : zC l ι M_Law_joined 0 [zI (nI c), zI x, zI y] mem Post := by
  have hH : zHas ι [] := zHas.nil
  refine z_enter hH (by decide) (by simp [z_ent, M_Law_joined]) (fun X hXl hX hR => ?_)
  refine z_iload_n hX (D_Law_joined (i := 0) rfl) rfl ?_
  rcases hc with rfl | rfl | rfl | rfl | rfl | rfl | rfl | rfl | rfl | rfl
  · rw [show biV 124 x y = if x ≠ 0 ∨ y ≠ 0 then 1 else 0 from rfl] at h
    refine z_lookup (off := 91) (tgt := 92) hX (D_Law_joined (i := 1) rfl) (by decide) (by decide) (by decide) ?_
    refine z_iload_n hX (D_Law_joined (i := 2) rfl) rfl ?_
    refine z_if_ne (tgt := 100) hX (D_Law_joined (i := 3) rfl) (by decide) (fun h1 => ?_) (fun h1 => ?_)
    · refine z_iconst (v := 1) hX (D_Law_joined (i := 6) rfl) (by decide) ?_
      refine z_goto (tgt := 105) hX (D_Law_joined (i := 7) rfl) (by decide) ?_
      rw [if_pos (Or.inl h1)] at h
      exact z_iret hX hR (D_Law_joined (i := 9) rfl) rfl (by assumption)
    · refine z_iload_n hX (D_Law_joined (i := 4) rfl) rfl ?_
      refine z_if_eq (tgt := 104) hX (D_Law_joined (i := 5) rfl) (by decide) (fun h2 => ?_) (fun h2 => ?_)
      · refine z_iconst (v := 0) hX (D_Law_joined (i := 8) rfl) (by decide) ?_
        rw [if_neg (fun w => w.elim (fun a => a h1) (fun a => a h2))] at h
        exact z_iret hX hR (D_Law_joined (i := 9) rfl) rfl (by assumption)
      · refine z_iconst (v := 1) hX (D_Law_joined (i := 6) rfl) (by decide) ?_
        refine z_goto (tgt := 105) hX (D_Law_joined (i := 7) rfl) (by decide) ?_
        rw [if_pos (Or.inr h2)] at h
        exact z_iret hX hR (D_Law_joined (i := 9) rfl) rfl (by assumption)
  · rw [show biV 38 x y = if x ≠ 0 ∧ y ≠ 0 then 1 else 0 from rfl] at h
    refine z_lookup (off := 105) (tgt := 106) hX (D_Law_joined (i := 1) rfl) (by decide) (by decide) (by decide) ?_
    refine z_iload_n hX (D_Law_joined (i := 10) rfl) rfl ?_
    refine z_if_eq (tgt := 118) hX (D_Law_joined (i := 11) rfl) (by decide) (fun h1 => ?_) (fun h1 => ?_)
    · refine z_iconst (v := 0) hX (D_Law_joined (i := 16) rfl) (by decide) ?_
      rw [if_neg (fun w => w.1 h1)] at h
      exact z_iret hX hR (D_Law_joined (i := 17) rfl) rfl (by assumption)
    · refine z_iload_n hX (D_Law_joined (i := 12) rfl) rfl ?_
      refine z_if_eq (tgt := 118) hX (D_Law_joined (i := 13) rfl) (by decide) (fun h2 => ?_) (fun h2 => ?_)
      · refine z_iconst (v := 0) hX (D_Law_joined (i := 16) rfl) (by decide) ?_
        rw [if_neg (fun w => w.2 h2)] at h
        exact z_iret hX hR (D_Law_joined (i := 17) rfl) rfl (by assumption)
      · refine z_iconst (v := 1) hX (D_Law_joined (i := 14) rfl) (by decide) ?_
        refine z_goto (tgt := 119) hX (D_Law_joined (i := 15) rfl) (by decide) ?_
        rw [if_pos ⟨h1, h2⟩] at h
        exact z_iret hX hR (D_Law_joined (i := 17) rfl) rfl (by assumption)
  · rw [show biV 60 x y = if x < y then 1 else 0 from rfl] at h
    refine z_lookup (off := 119) (tgt := 120) hX (D_Law_joined (i := 1) rfl) (by decide) (by decide) (by decide) ?_
    refine z_iload_n hX (D_Law_joined (i := 18) rfl) rfl ?_
    refine z_iload_n hX (D_Law_joined (i := 19) rfl) rfl ?_
    refine z_icmp_ge (tgt := 129) hX (D_Law_joined (i := 20) rfl) (by decide) (fun h1 => ?_) (fun h1 => ?_)
    · refine z_iconst (v := 0) hX (D_Law_joined (i := 23) rfl) (by decide) ?_
      rw [if_neg (Int32.not_lt.mpr h1)] at h
      exact z_iret hX hR (D_Law_joined (i := 24) rfl) rfl (by assumption)
    · refine z_iconst (v := 1) hX (D_Law_joined (i := 21) rfl) (by decide) ?_
      refine z_goto (tgt := 130) hX (D_Law_joined (i := 22) rfl) (by decide) ?_
      rw [if_pos (Int32.not_le.mp h1)] at h
      exact z_iret hX hR (D_Law_joined (i := 24) rfl) rfl (by assumption)
  · rw [show biV 61 x y = if x = y then 1 else 0 from rfl] at h
    refine z_lookup (off := 130) (tgt := 131) hX (D_Law_joined (i := 1) rfl) (by decide) (by decide) (by decide) ?_
    refine z_iload_n hX (D_Law_joined (i := 25) rfl) rfl ?_
    refine z_iload_n hX (D_Law_joined (i := 26) rfl) rfl ?_
    refine z_icmp_ne (tgt := 140) hX (D_Law_joined (i := 27) rfl) (by decide) (fun h1 => ?_) (fun h1 => ?_)
    · refine z_iconst (v := 0) hX (D_Law_joined (i := 30) rfl) (by decide) ?_
      rw [if_neg h1] at h
      exact z_iret hX hR (D_Law_joined (i := 31) rfl) rfl (by assumption)
    · refine z_iconst (v := 1) hX (D_Law_joined (i := 28) rfl) (by decide) ?_
      refine z_goto (tgt := 141) hX (D_Law_joined (i := 29) rfl) (by decide) ?_
      rw [if_pos h1] at h
      exact z_iret hX hR (D_Law_joined (i := 31) rfl) rfl (by assumption)
  · rw [show biV 62 x y = if y < x then 1 else 0 from rfl] at h
    refine z_lookup (off := 141) (tgt := 142) hX (D_Law_joined (i := 1) rfl) (by decide) (by decide) (by decide) ?_
    refine z_iload_n hX (D_Law_joined (i := 32) rfl) rfl ?_
    refine z_iload_n hX (D_Law_joined (i := 33) rfl) rfl ?_
    refine z_icmp_le (tgt := 151) hX (D_Law_joined (i := 34) rfl) (by decide) (fun h1 => ?_) (fun h1 => ?_)
    · refine z_iconst (v := 0) hX (D_Law_joined (i := 37) rfl) (by decide) ?_
      rw [if_neg (Int32.not_lt.mpr h1)] at h
      exact z_iret hX hR (D_Law_joined (i := 38) rfl) rfl (by assumption)
    · refine z_iconst (v := 1) hX (D_Law_joined (i := 35) rfl) (by decide) ?_
      refine z_goto (tgt := 152) hX (D_Law_joined (i := 36) rfl) (by decide) ?_
      rw [if_pos (Int32.not_le.mp h1)] at h
      exact z_iret hX hR (D_Law_joined (i := 38) rfl) rfl (by assumption)
  · refine z_lookup (off := 152) (tgt := 153) hX (D_Law_joined (i := 1) rfl) (by decide) (by decide) (by decide) ?_
    refine z_iload_n hX (D_Law_joined (i := 39) rfl) rfl ?_
    refine z_iload_n hX (D_Law_joined (i := 40) rfl) rfl ?_
    refine z_iadd hX (D_Law_joined (i := 41) rfl) ?_
    exact z_iret hX hR (D_Law_joined (i := 42) rfl) rfl h
  · refine z_lookup (off := 156) (tgt := 157) hX (D_Law_joined (i := 1) rfl) (by decide) (by decide) (by decide) ?_
    refine z_iload_n hX (D_Law_joined (i := 43) rfl) rfl ?_
    refine z_iload_n hX (D_Law_joined (i := 44) rfl) rfl ?_
    refine z_isub hX (D_Law_joined (i := 45) rfl) ?_
    exact z_iret hX hR (D_Law_joined (i := 46) rfl) rfl h
  · refine z_lookup (off := 160) (tgt := 161) hX (D_Law_joined (i := 1) rfl) (by decide) (by decide) (by decide) ?_
    refine z_iload_n hX (D_Law_joined (i := 47) rfl) rfl ?_
    refine z_iload_n hX (D_Law_joined (i := 48) rfl) rfl ?_
    refine z_imul hX (D_Law_joined (i := 49) rfl) ?_
    exact z_iret hX hR (D_Law_joined (i := 50) rfl) rfl h
  · rw [show biV 47 x y = if y = 0 then 0 else x / y from rfl] at h
    refine z_lookup (off := 164) (tgt := 165) hX (D_Law_joined (i := 1) rfl) (by decide) (by decide) (by decide) ?_
    refine z_iload_n hX (D_Law_joined (i := 51) rfl) rfl ?_
    refine z_if_ne (tgt := 173) hX (D_Law_joined (i := 52) rfl) (by decide) (fun h1 => ?_) (fun h1 => ?_)
    · refine z_iload_n hX (D_Law_joined (i := 55) rfl) rfl ?_
      refine z_iload_n hX (D_Law_joined (i := 56) rfl) rfl ?_
      rw [if_neg h1] at h
      refine z_idiv hX (D_Law_joined (i := 57) rfl) h1 ?_
      exact z_iret hX hR (D_Law_joined (i := 58) rfl) rfl (by assumption)
    · refine z_iconst (v := 0) hX (D_Law_joined (i := 53) rfl) (by decide) ?_
      refine z_goto (tgt := 176) hX (D_Law_joined (i := 54) rfl) (by decide) ?_
      rw [if_pos h1] at h
      exact z_iret hX hR (D_Law_joined (i := 58) rfl) rfl (by assumption)
  · rw [show biV 37 x y = if y = 0 then 0 else x - x / y * y from rfl] at h
    refine z_lookup (off := 176) (tgt := 177) hX (D_Law_joined (i := 1) rfl) (by decide) (by decide) (by decide) ?_
    refine z_iload_n hX (D_Law_joined (i := 59) rfl) rfl ?_
    refine z_if_ne (tgt := 185) hX (D_Law_joined (i := 60) rfl) (by decide) (fun h1 => ?_) (fun h1 => ?_)
    · refine z_iload_n hX (D_Law_joined (i := 63) rfl) rfl ?_
      refine z_iload_n hX (D_Law_joined (i := 64) rfl) rfl ?_
      rw [if_neg h1] at h
      refine z_irem hX (D_Law_joined (i := 65) rfl) h1 ?_
      exact z_iret hX hR (D_Law_joined (i := 66) rfl) rfl (by assumption)
    · refine z_iconst (v := 0) hX (D_Law_joined (i := 61) rfl) (by decide) ?_
      refine z_goto (tgt := 188) hX (D_Law_joined (i := 62) rfl) (by decide) ?_
      rw [if_pos h1] at h
      exact z_iret hX hR (D_Law_joined (i := 66) rfl) rfl (by assumption)
end C4
section C5
variable {ι : zE} {mem : zM} {X : zX} {w : Nat → Int32} {st : List Int32} {N k : Nat} {s3 s4 s5 : Option zV} {x : Int32}
theorem w_head (hX : zG ι M_Law_workedOut X 1 pL) (hN : mem.1 4 0 4 = nI N) (hN2 : N ≤ 121) (hk : k < N) (hx : mem.1 6 0 k = x) {t : Int32} (hc : zW ι M_Law_workedOut X 20 [some (zP 4 0), some (zI t), some (zI (nI k)), some (zI (-x)), s4, s5] [] (skM mem w)) : zW ι M_Law_workedOut X 4 [some (zP 4 0), some (zI t), some (zI (nI k)), s3, s4, s5] [] (skM mem w) := by
  refine z_iload_n hX (D_Law_workedOut (i := 4) rfl) rfl ?_
  refine z_aload_n hX (D_Law_workedOut (i := 5) rfl) rfl ?_
  refine z_geti hX (D_Law_workedOut (i := 6) rfl) f_Law_35 rfl (by decide) (by first | exact Nat.one_pos | assumption | omega) rfl ?_
  rw [skM_4, hN]
  refine z_icmp_ge (tgt := 196) hX (D_Law_workedOut (i := 7) rfl) (by decide) (fun hcc => absurd hcc (nI_ge hk (by omega))) (fun _ => ?_)
  refine z_aload_n hX (D_Law_workedOut (i := 8) rfl) rfl ?_
  refine z_getc hX (D_Law_workedOut (i := 9) rfl) f_Law_15 rfl (by decide) (by first | exact Nat.one_pos | assumption | omega) rfl ?_
  refine z_iload_n hX (D_Law_workedOut (i := 10) rfl) rfl ?_
  refine z_iald (j := k) hX (D_Law_workedOut (i := 11) rfl) rfl (by decide) (by first | exact Nat.one_pos | assumption | omega) (by decide) rfl (by omega) ?_
  rw [skM_6, hx]
  refine z_ineg hX (D_Law_workedOut (i := 12) rfl) ?_
  refine z_istore_n hX (D_Law_workedOut (i := 13) rfl) (by decide) rfl ?_
  exact hc
theorem w_tail (hX : zG ι M_Law_workedOut X 1 pL) {t : Int32} (hc : zW ι M_Law_workedOut X 4 [some (zP 4 0), some (zI t), some (zI (nI (k + 1))), s3, s4, s5] [] (skM mem w)) : zW ι M_Law_workedOut X 190 [some (zP 4 0), some (zI t), some (zI (nI k)), s3, s4, s5] [] (skM mem w) := by
  first | refine z_inc1 hX (D_Law_workedOut (i := 110) rfl) rfl (by decide) rfl ?_ | refine z_iinc hX (D_Law_workedOut (i := 110) rfl) rfl rfl (by decide) rfl ?_
  refine z_goto (tgt := 4) hX (D_Law_workedOut (i := 111) rfl) (by decide) ?_
  exact hc
theorem w_sgn (hX : zG ι M_Law_workedOut X 1 pL) {c : Nat} (h0 : 0 < c) (h2 : c < 256) (hn : isNm c = false) {t : Int32} (hc : zW ι M_Law_workedOut X 66 [some (zP 4 0), some (zI t), some (zI (nI k)), some (zI (nI c)), s4, s5] [] (skM mem w)) : zW ι M_Law_workedOut X 20 [some (zP 4 0), some (zI t), some (zI (nI k)), some (zI (nI c)), s4, s5] [] (skM mem w) := by
  refine z_iload_n hX (D_Law_workedOut (i := 14) rfl) rfl ?_
  refine z_if_le (tgt := 31) hX (D_Law_workedOut (i := 15) rfl) (by decide) (fun hcc => absurd hcc ((fun q => absurd ((nI_leI (a := c) (b := 0) (by omega) (by decide)).mp q) (by omega)))) (fun _ => ?_)
  refine z_iload_n hX (D_Law_workedOut (i := 16) rfl) rfl ?_
  rw [← pkV_nI (k := c) (by omega)]
  refine z_cS1 hX (D_Law_workedOut (i := 17) rfl) ms_Law_isName l_Law_70 (by first | decide | omega) (Nat.le_of_ble_eq_true rfl) (c_Law_isName (Or.inl h2) ?_)
  rw [hn, pkV_nI (k := c) (by omega)]
  refine z_if_eq (tgt := 66) hX (D_Law_workedOut (i := 18) rfl) (by decide) (fun _ => ?_) (fun hcc => absurd (rfl) hcc)
  exact hc
theorem w_step (hX : zG ι M_Law_workedOut X 1 pL) (hH : zHas ι pL) (hN : mem.1 4 0 4 = nI N) (hN2 : N ≤ 121) (hk : k < N) {s : Nat × Nat} (hs : sgOK s) (hx : mem.1 6 0 k = cdS s) (hl : st.length < 121) (hw : stW w st) {st2 : List Int32} (hr : rnS (fvM mem) s st = some st2) (hc : ∀ w s3 s4 s5, stW w st2 → zW ι M_Law_workedOut X 4 [some (zP 4 0), some (zI (nI st2.length)), some (zI (nI (k + 1))), s3, s4, s5] [] (skM mem w)) : zW ι M_Law_workedOut X 4 [some (zP 4 0), some (zI (nI st.length)), some (zI (nI k)), s3, s4, s5] [] (skM mem w) := by
  refine w_head hX hN hN2 hk hx ?_
  obtain ⟨s1, c⟩ := s
  rcases hs with ⟨rfl, h⟩ | ⟨rfl, h⟩ | ⟨rfl, h⟩ | ⟨rfl, h⟩
  · have h : c < 10000 := h
    rw [show rnS (fvM mem) (0, c) st = some (nI c :: st) from rfl] at hr
    obtain rfl := Option.some.inj hr
    rw [show -(cdS (0, c)) = -(nI c) from rfl]
    have e : (-(nI c)).toInt = -(c : Int) := by
      rw [Int32.toInt_neg, nI_toInt (by omega)]
      exact Int.bmod_eq_of_le (by omega) (by omega)
    refine z_iload_n hX (D_Law_workedOut (i := 14) rfl) rfl ?_
    refine z_if_le (tgt := 31) hX (D_Law_workedOut (i := 15) rfl) (by decide) (fun _ => ?_) (fun hcc => absurd ((Int32.le_iff_toInt_le.mpr (by rw [e, i32_0]; omega))) hcc)
    refine z_iload_n hX (D_Law_workedOut (i := 19) rfl) rfl ?_
    refine z_aload_n hX (D_Law_workedOut (i := 20) rfl) rfl ?_
    refine z_getc hX (D_Law_workedOut (i := 21) rfl) f_Law_18 rfl (by decide) (by first | exact Nat.one_pos | assumption | omega) rfl ?_
    refine z_alen (t0 := 0) (v := 121) hX (D_Law_workedOut (i := 22) rfl) rfl (by decide) (by first | exact Nat.one_pos | assumption | omega) rfl (by decide) ?_
    refine z_icmp_ge (tgt := 190) hX (D_Law_workedOut (i := 23) rfl) (by decide) (fun hcc => absurd hcc (nI_ge (b := 121) hl (by decide))) (fun _ => ?_)
    refine z_aload_n hX (D_Law_workedOut (i := 24) rfl) rfl ?_
    refine z_getc hX (D_Law_workedOut (i := 25) rfl) f_Law_18 rfl (by decide) (by first | exact Nat.one_pos | assumption | omega) rfl ?_
    refine z_iload_n hX (D_Law_workedOut (i := 26) rfl) rfl ?_
    refine z_iload_n hX (D_Law_workedOut (i := 27) rfl) rfl ?_
    refine z_if_gt (tgt := 54) hX (D_Law_workedOut (i := 28) rfl) (by decide) (fun hcc => absurd hcc ((fun q => by have := Int32.lt_iff_toInt_lt.mp q; rw [e, i32_0] at this; omega))) (fun _ => ?_)
    refine z_iload_n hX (D_Law_workedOut (i := 29) rfl) rfl ?_
    refine z_ineg hX (D_Law_workedOut (i := 30) rfl) ?_
    refine z_goto (tgt := 59) hX (D_Law_workedOut (i := 31) rfl) (by decide) ?_
    rw [Int32.neg_neg]
    refine z_iast (j := st.length) hX (D_Law_workedOut (i := 35) rfl) rfl (by decide) (by first | exact Nat.one_pos | assumption | omega) (by decide) rfl hl ?_
    rw [skM_up]
    first | refine z_inc1 hX (D_Law_workedOut (i := 36) rfl) rfl (by decide) rfl ?_ | refine z_iinc hX (D_Law_workedOut (i := 36) rfl) rfl rfl (by decide) rfl ?_
    refine z_goto (tgt := 190) hX (D_Law_workedOut (i := 37) rfl) (by decide) ?_
    refine w_tail hX (hc _ _ _ _ (stW_push hw))
  · have h : isNm c = true := h
    have hb := of_decide_eq_true h
    rw [show rnS (fvM mem) (1, c) st = some (fvM mem c :: st) from rfl] at hr
    obtain rfl := Option.some.inj hr
    rw [show -(cdS (1, c)) = nI c from Int32.neg_neg]
    refine z_iload_n hX (D_Law_workedOut (i := 14) rfl) rfl ?_
    refine z_if_le (tgt := 31) hX (D_Law_workedOut (i := 15) rfl) (by decide) (fun hcc => absurd hcc ((fun q => absurd ((nI_leI (a := c) (b := 0) (by omega) (by decide)).mp q) (by omega)))) (fun _ => ?_)
    refine z_iload_n hX (D_Law_workedOut (i := 16) rfl) rfl ?_
    rw [← pkV_nI (k := c) (by omega)]
    refine z_cS1 hX (D_Law_workedOut (i := 17) rfl) ms_Law_isName l_Law_70 (by first | decide | omega) (Nat.le_of_ble_eq_true rfl) (c_Law_isName (by omega) ?_)
    rw [h]
    refine z_if_eq (tgt := 66) hX (D_Law_workedOut (i := 18) rfl) (by decide) (fun hcc => absurd hcc (by decide)) (fun _ => ?_)
    refine z_iload_n hX (D_Law_workedOut (i := 19) rfl) rfl ?_
    refine z_aload_n hX (D_Law_workedOut (i := 20) rfl) rfl ?_
    refine z_getc hX (D_Law_workedOut (i := 21) rfl) f_Law_18 rfl (by decide) (by first | exact Nat.one_pos | assumption | omega) rfl ?_
    refine z_alen (t0 := 0) (v := 121) hX (D_Law_workedOut (i := 22) rfl) rfl (by decide) (by first | exact Nat.one_pos | assumption | omega) rfl (by decide) ?_
    refine z_icmp_ge (tgt := 190) hX (D_Law_workedOut (i := 23) rfl) (by decide) (fun hcc => absurd hcc (nI_ge (b := 121) hl (by decide))) (fun _ => ?_)
    refine z_aload_n hX (D_Law_workedOut (i := 24) rfl) rfl ?_
    refine z_getc hX (D_Law_workedOut (i := 25) rfl) f_Law_18 rfl (by decide) (by first | exact Nat.one_pos | assumption | omega) rfl ?_
    refine z_iload_n hX (D_Law_workedOut (i := 26) rfl) rfl ?_
    refine z_iload_n hX (D_Law_workedOut (i := 27) rfl) rfl ?_
    rw [pkV_nI (k := c) (by omega)]
    refine z_if_gt (tgt := 54) hX (D_Law_workedOut (i := 28) rfl) (by decide) (fun _ => ?_) (fun hcc => absurd (nI_lt (a := 0) (b := c) (by omega) (by omega)) hcc)
    refine z_aload_n hX (D_Law_workedOut (i := 32) rfl) rfl ?_
    refine z_iload_n hX (D_Law_workedOut (i := 33) rfl) rfl ?_
    refine z_cV1 hX (D_Law_workedOut (i := 34) rfl) mi_Law_named l_Law_103 rfl rfl (by decide) (by first | exact Nat.one_pos | assumption | omega) (by first | decide | omega) (Nat.le_of_ble_eq_true rfl) (c_Law_named hH h ?_)
    refine z_iast (j := st.length) hX (D_Law_workedOut (i := 35) rfl) rfl (by decide) (by first | exact Nat.one_pos | assumption | omega) (by decide) rfl hl ?_
    rw [skM_up, show fvM (skM mem w) c = fvM mem c from rfl]
    first | refine z_inc1 hX (D_Law_workedOut (i := 36) rfl) rfl (by decide) rfl ?_ | refine z_iinc hX (D_Law_workedOut (i := 36) rfl) rfl rfl (by decide) rfl ?_
    refine z_goto (tgt := 190) hX (D_Law_workedOut (i := 37) rfl) (by decide) ?_
    refine w_tail hX (hc _ _ _ _ (stW_push hw))
  · have h : c = 33 ∨ c = 45 := h
    cases st with
    | nil => cases hr
    | cons v r =>
      rw [show rnS (fvM mem) (2, c) (v :: r) = some (unV c v :: r) from rfl] at hr
      obtain rfl := Option.some.inj hr
      have hl' : r.length + 1 < 121 := hl
      have at78 : zW ι M_Law_workedOut X 78 [some (zP 4 0), some (zI (nI (v :: r).length)), some (zI (nI k)), some (zI (-(cdS (2, c)))), s4, s5] [] (skM mem w) := by
        refine z_iload_n hX (D_Law_workedOut (i := 44) rfl) rfl ?_
        refine z_iconst (v := 1) hX (D_Law_workedOut (i := 45) rfl) (by decide) ?_
        refine z_icmp_lt (tgt := 190) hX (D_Law_workedOut (i := 46) rfl) (by decide) (fun hcc => absurd hcc ((fun q => absurd ((nI_ltI (a := r.length + 1) (b := 1) (by omega) (by decide)).mp q) (by omega)))) (fun _ => ?_)
        refine z_aload_n hX (D_Law_workedOut (i := 47) rfl) rfl ?_
        refine z_getc hX (D_Law_workedOut (i := 48) rfl) f_Law_18 rfl (by decide) (by first | exact Nat.one_pos | assumption | omega) rfl ?_
        refine z_iload_n hX (D_Law_workedOut (i := 49) rfl) rfl ?_
        refine z_iconst (v := 1) hX (D_Law_workedOut (i := 50) rfl) (by decide) ?_
        refine z_isub hX (D_Law_workedOut (i := 51) rfl) ?_
        refine z_iload_n hX (D_Law_workedOut (i := 52) rfl) rfl ?_
        refine z_aload_n hX (D_Law_workedOut (i := 53) rfl) rfl ?_
        refine z_getc hX (D_Law_workedOut (i := 54) rfl) f_Law_18 rfl (by decide) (by first | exact Nat.one_pos | assumption | omega) rfl ?_
        refine z_iload_n hX (D_Law_workedOut (i := 55) rfl) rfl ?_
        refine z_iconst (v := 1) hX (D_Law_workedOut (i := 56) rfl) (by decide) ?_
        refine z_isub hX (D_Law_workedOut (i := 57) rfl) ?_
        rw [show nI (v :: r).length - 1 = nI r.length from pk_sub (a := r.length + 1) (b := 1) (by omega)]
        refine z_iald (j := r.length) hX (D_Law_workedOut (i := 58) rfl) rfl (by decide) (by first | exact Nat.one_pos | assumption | omega) (by decide) rfl (by omega) ?_
        rw [skM_7, hw.1]
        refine z_cS2 hX (D_Law_workedOut (i := 59) rfl) ms_Law_turned l_Law_107 (by first | decide | omega) (Nat.le_of_ble_eq_true rfl) (c_Law_turned h ?_)
        refine z_iast (j := r.length) hX (D_Law_workedOut (i := 60) rfl) rfl (by decide) (by first | exact Nat.one_pos | assumption | omega) (by decide) rfl (by omega) ?_
        rw [skM_up]
        refine z_goto (tgt := 190) hX (D_Law_workedOut (i := 61) rfl) (by decide) ?_
        refine w_tail hX (hc _ _ _ _ ⟨if_pos rfl, stW_up (Nat.le_refl _) hw.2⟩)
      rcases h with rfl | rfl
      · rw [show -(cdS (2, 33)) = nI 33 from rfl] at at78 ⊢
        refine w_sgn hX (by decide) (by decide) (by decide) ?_
        refine z_iload_n hX (D_Law_workedOut (i := 38) rfl) rfl ?_
        refine z_bipush (v := 33) hX (D_Law_workedOut (i := 39) rfl) (by decide) ?_
        refine z_icmp_eq (tgt := 78) hX (D_Law_workedOut (i := 40) rfl) (by decide) (fun _ => ?_) (fun hcc => absurd (rfl) hcc)
        exact at78
      · rw [show -(cdS (2, 45)) = nI 126 from rfl] at at78 ⊢
        refine w_sgn hX (by decide) (by decide) (by decide) ?_
        refine z_iload_n hX (D_Law_workedOut (i := 38) rfl) rfl ?_
        refine z_bipush (v := 33) hX (D_Law_workedOut (i := 39) rfl) (by decide) ?_
        refine z_icmp_eq (tgt := 78) hX (D_Law_workedOut (i := 40) rfl) (by decide) (fun hcc => absurd hcc (by decide)) (fun _ => ?_)
        refine z_iload_n hX (D_Law_workedOut (i := 41) rfl) rfl ?_
        refine z_bipush (v := 126) hX (D_Law_workedOut (i := 42) rfl) (by decide) ?_
        refine z_icmp_ne (tgt := 106) hX (D_Law_workedOut (i := 43) rfl) (by decide) (fun hcc => absurd (rfl) hcc) (fun _ => ?_)
        exact at78
  · have h : isJo c := h
    cases st with
    | nil => cases hr
    | cons v r =>
      cases r with
      | nil => cases hr
      | cons u r =>
        rw [show rnS (fvM mem) (3, c) (v :: u :: r) = some (biV c u v :: r) from rfl] at hr
        obtain rfl := Option.some.inj hr
        have hl' : r.length + 2 < 121 := hl
        have hcb : c < 256 ∧ 0 < c ∧ c ≠ 33 ∧ c ≠ 126 ∧ c ≠ 59 ∧ c ≠ 63 ∧ isNm c = false := by
          rcases h with rfl | rfl | rfl | rfl | rfl | rfl | rfl | rfl | rfl | rfl <;> decide
        obtain ⟨b1, b2, b3, b4, b5, b6, b7⟩ := hcb
        have E : ∀ d : Nat, d < 256 → c ≠ d → ¬ nI c = nI d := fun d hd q w => q ((nI_eq (by omega) (by omega)).mp w)
        rw [show -(cdS (3, c)) = nI c from Int32.neg_neg]
        refine w_sgn hX b2 b1 b7 ?_
        refine z_iload_n hX (D_Law_workedOut (i := 38) rfl) rfl ?_
        refine z_bipush (v := 33) hX (D_Law_workedOut (i := 39) rfl) (by decide) ?_
        refine z_icmp_eq (tgt := 78) hX (D_Law_workedOut (i := 40) rfl) (by decide) (fun hcc => absurd hcc (E 33 (by decide) b3)) (fun _ => ?_)
        refine z_iload_n hX (D_Law_workedOut (i := 41) rfl) rfl ?_
        refine z_bipush (v := 126) hX (D_Law_workedOut (i := 42) rfl) (by decide) ?_
        refine z_icmp_ne (tgt := 106) hX (D_Law_workedOut (i := 43) rfl) (by decide) (fun _ => ?_) (fun hcc => absurd hcc (E 126 (by decide) b4))
        refine z_iload_n hX (D_Law_workedOut (i := 62) rfl) rfl ?_
        refine z_bipush (v := 59) hX (D_Law_workedOut (i := 63) rfl) (by decide) ?_
        refine z_icmp_ne (tgt := 130) hX (D_Law_workedOut (i := 64) rfl) (by decide) (fun _ => ?_) (fun hcc => absurd hcc (E 59 (by decide) b5))
        refine z_iload_n hX (D_Law_workedOut (i := 77) rfl) rfl ?_
        refine z_iconst (v := 2) hX (D_Law_workedOut (i := 78) rfl) (by decide) ?_
        refine z_icmp_lt (tgt := 190) hX (D_Law_workedOut (i := 79) rfl) (by decide) (fun hcc => absurd hcc ((fun q => absurd ((nI_ltI (a := r.length + 2) (b := 2) (by omega) (by decide)).mp q) (by omega)))) (fun _ => ?_)
        refine z_iinc (v := nI r.length) hX (D_Law_workedOut (i := 80) rfl) rfl ((by have := pk_sub (a := r.length + 2) (b := 2) (by omega); rw [Int32.sub_eq_add_neg] at this; exact this)) (by decide) rfl ?_
        refine z_aload_n hX (D_Law_workedOut (i := 81) rfl) rfl ?_
        refine z_getc hX (D_Law_workedOut (i := 82) rfl) f_Law_18 rfl (by decide) (by first | exact Nat.one_pos | assumption | omega) rfl ?_
        refine z_iload_n hX (D_Law_workedOut (i := 83) rfl) rfl ?_
        refine z_iald (j := r.length) hX (D_Law_workedOut (i := 84) rfl) rfl (by decide) (by first | exact Nat.one_pos | assumption | omega) (by decide) rfl (by omega) ?_
        rw [skM_7, hw.2.1]
        refine z_istore hX (D_Law_workedOut (i := 85) rfl) (by decide) rfl ?_
        refine z_aload_n hX (D_Law_workedOut (i := 86) rfl) rfl ?_
        refine z_getc hX (D_Law_workedOut (i := 87) rfl) f_Law_18 rfl (by decide) (by first | exact Nat.one_pos | assumption | omega) rfl ?_
        refine z_iload_n hX (D_Law_workedOut (i := 88) rfl) rfl ?_
        refine z_iconst (v := 1) hX (D_Law_workedOut (i := 89) rfl) (by decide) ?_
        refine z_iadd hX (D_Law_workedOut (i := 90) rfl) ?_
        rw [show nI r.length + 1 = nI (r.length + 1) from nI_add r.length 1]
        refine z_iald (j := r.length + 1) hX (D_Law_workedOut (i := 91) rfl) rfl (by decide) (by first | exact Nat.one_pos | assumption | omega) (by decide) rfl (by omega) ?_
        rw [skM_7, show w (r.length + 1) = v from hw.1]
        refine z_istore hX (D_Law_workedOut (i := 92) rfl) (by decide) rfl ?_
        refine z_iload_n hX (D_Law_workedOut (i := 93) rfl) rfl ?_
        refine z_bipush (v := 63) hX (D_Law_workedOut (i := 94) rfl) (by decide) ?_
        refine z_icmp_eq (tgt := 182) hX (D_Law_workedOut (i := 95) rfl) (by decide) (fun hcc => absurd hcc (E 63 (by decide) b6)) (fun _ => ?_)
        refine z_aload_n hX (D_Law_workedOut (i := 96) rfl) rfl ?_
        refine z_getc hX (D_Law_workedOut (i := 97) rfl) f_Law_18 rfl (by decide) (by first | exact Nat.one_pos | assumption | omega) rfl ?_
        refine z_iload_n hX (D_Law_workedOut (i := 98) rfl) rfl ?_
        refine z_iload_n hX (D_Law_workedOut (i := 99) rfl) rfl ?_
        refine z_iload hX (D_Law_workedOut (i := 100) rfl) rfl ?_
        refine z_iload hX (D_Law_workedOut (i := 101) rfl) rfl ?_
        refine z_cS3 hX (D_Law_workedOut (i := 102) rfl) ms_Law_joined l_Law_111 (by first | decide | omega) (Nat.le_of_ble_eq_true rfl) (c_Law_joined h ?_)
        refine z_iast (j := r.length) hX (D_Law_workedOut (i := 103) rfl) rfl (by decide) (by first | exact Nat.one_pos | assumption | omega) (by decide) rfl (by omega) ?_
        rw [skM_up]
        first | refine z_inc1 hX (D_Law_workedOut (i := 104) rfl) rfl (by decide) rfl ?_ | refine z_iinc hX (D_Law_workedOut (i := 104) rfl) rfl rfl (by decide) rfl ?_
        refine z_goto (tgt := 190) hX (D_Law_workedOut (i := 105) rfl) (by decide) ?_
        refine w_tail hX (hc _ _ _ _ ⟨if_pos rfl, stW_up (Nat.le_refl _) hw.2.2⟩)
end C5
