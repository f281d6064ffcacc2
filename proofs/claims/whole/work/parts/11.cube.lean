/-! the cubes -/
def stN (t w : Nat) : Nat := (zstf 91 (6 * t + w)).toNatClampNeg
theorem st_ok : ∀ t, t < 24 → ∀ w, w < 6 → zstf 91 (6 * t + w) = nI (stN t w) ∧ stN t w < 6 := by decide +kernel
def opN (f : Nat) : Nat := (zstf 90 f).toNatClampNeg
theorem op_ok : ∀ f, f < 6 → zstf 90 f = nI (opN f) ∧ opN f < 6 := by decide +kernel
theorem c_Cube_seen {l : Launch} {ι : zE} {mem : zM} {Post : Option zV → zM → Prop} (hH : zHas ι pX) {k t w : Nat} (hk : k < 8) (ht : t < 24) (hw : w < 6) (h : Post (some (zI (mem.1 3 k (stN t w)))) mem) : zC l ι M_Cube_seen 0 [zP 2 k, zI (nI t), zI (nI w)] mem Post := by
  refine z_enter hH (by decide) (by simp [z_ent, M_Cube_seen]) (fun X hXl hX hR => ?_)
  refine z_aload_n hX (D_Cube_seen (i := 0) rfl) rfl ?_
  refine z_getc hX (D_Cube_seen (i := 1) rfl) f_Cube_9 rfl (by decide) (by first | exact Nat.one_pos | assumption | omega) rfl ?_
  refine z_getsN (p := 91) hX (D_Cube_seen (i := 2) rfl) (by decide) (by decide) s_Cube_19 ?_
  refine z_bipush (v := 6) hX (D_Cube_seen (i := 3) rfl) (by decide) ?_
  refine z_iload_n hX (D_Cube_seen (i := 4) rfl) rfl ?_
  refine z_imul hX (D_Cube_seen (i := 5) rfl) ?_
  refine z_iload_n hX (D_Cube_seen (i := 6) rfl) rfl ?_
  refine z_iadd hX (D_Cube_seen (i := 7) rfl) ?_
  refine z_tald (p := 91) (j := 6 * t + w) hX (D_Cube_seen (i := 8) rfl) (by decide) (by decide) (by decide +kernel) (by first | (simp only [nlit, nI_add, pk_mul]; done) | rfl) (show 6 * t + w < 144 by omega) ?_
  refine z_iald (j := stN t w) hX (D_Cube_seen (i := 9) rfl) rfl (by decide) (by first | exact Nat.one_pos | assumption | omega) (by decide) (st_ok t ht w hw).1 (st_ok t ht w hw).2 ?_
  exact z_iret hX hR (D_Cube_seen (i := 10) rfl) rfl h
theorem c_Cube_endOf {l : Launch} {ι : zE} {mem : zM} {Post : Option zV → zM → Prop} {i : Nat} (hi : i < 3) (h : Post (some (zI (nI (if i = 2 then 4 else i)))) mem) : zC l ι M_Cube_endOf 0 [zI (nI i)] mem Post := by
  have hH : zHas ι [] := zHas.nil
  refine z_enter hH (by decide) (by simp [z_ent, M_Cube_endOf]) (fun X hXl hX hR => ?_)
  refine z_iload_n hX (D_Cube_endOf (i := 0) rfl) rfl ?_
  refine z_iconst (v := 2) hX (D_Cube_endOf (i := 1) rfl) (by decide) ?_
  refine z_icmp_ne (tgt := 9) hX (D_Cube_endOf (i := 2) rfl) (by decide) (fun hc => ?_) (fun hc => ?_)
  · refine z_iload_n hX (D_Cube_endOf (i := 5) rfl) rfl ?_
    rw [if_neg (fun e => hc (by rw [e]; rfl))] at h
    exact z_iret hX hR (D_Cube_endOf (i := 6) rfl) rfl (by assumption)
  · refine z_iconst (v := 4) hX (D_Cube_endOf (i := 3) rfl) (by decide) ?_
    refine z_goto (tgt := 10) hX (D_Cube_endOf (i := 4) rfl) (by decide) ?_
    rw [if_pos ((nI_eq (b := 2) (by omega) (by decide)).mp hc)] at h
    exact z_iret hX hR (D_Cube_endOf (i := 6) rfl) rfl (by assumption)
