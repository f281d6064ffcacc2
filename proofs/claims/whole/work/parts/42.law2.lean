/-! the class reads the law's text: operands, levels, lines -/
def inR (K : Nat → Nat) (f : Nat → lRs) (p : Nat) : lRs := match f p with
  | (q, none) => (q, none)
  | (q, some e) => if K q = 41 then (q + 1, some e) else (q, none)
def unR (c : Nat) (f : Nat → lRs) (p : Nat) : lRs := match f p with
  | (q, none) => (q, none)
  | (q, some e) => (q, some (e ++ [(2, c)]))
section L2
variable {K : Nat → Nat} {p r : Nat}
theorem opR_dg (h : isDg (K p) = true) : opR K r p = ((nuR K 4 p 0).1, some [(0, (nuR K 4 p 0).2)]) := by cases r <;> simp [opR, h]
theorem opR_nm (h : isDg (K p) = false) (h2 : isNm (K p) = true) : opR K r p = (p + 1, some [(1, K p)]) := by cases r <;> simp [opR, h, h2]
theorem opR_z (h : isDg (K p) = false) (h2 : isNm (K p) = false) : opR K 0 p = (p, none) := by simp [opR, h, h2]
theorem opR_no (h : isDg (K p) = false) (h2 : isNm (K p) = false) (h3 : ¬ K p = 40) (h4 : ¬ K p = 33) (h5 : ¬ K p = 45) : opR K r p = (p, none) := by cases r <;> simp [opR, h, h2, h3, h4, h5]
theorem opR_in (h : K p = 40) : opR K (r + 1) p = inR K (lvR K (opR K r) 5) (p + 1) := by
  have h1 : isDg 40 = false := by decide
  have h2 : isNm 40 = false := by decide
  simp only [opR, h, h1, h2, inR]
  simp
  rfl
theorem opR_un (h : K p = 33 ∨ K p = 45) : opR K (r + 1) p = unR (K p) (opR K r) (p + 1) := by
  rcases h with h | h
  · have h1 : isDg 33 = false := by decide
    have h2 : isNm 33 = false := by decide
    simp only [opR, h, h1, h2, unR]
    simp
    rfl
  · have h1 : isDg 45 = false := by decide
    have h2 : isNm 45 = false := by decide
    simp only [opR, h, h1, h2, unR]
    simp
    rfl
end L2
def CR (ι : zE) (mem : zM) (n : Nat) (M : zMR) (lev : Nat) (args : List zV) (f : Nat → lRs) : Prop :=
  ∀ (l : Launch) (p : Nat) (out : List Int32) (Post : Option zV → zM → Prop), p ≤ n → out.length ≤ p → (∀ q e, f p = (q, some e) → Post (some (zI 1)) (pmC mem q (out ++ cdC e))) → (∀ q out', f p = (q, none) → Post (some (zI 0)) (pmC mem q out')) → zC l ι M lev args (pmC mem p out) Post
theorem pkV_nI {k : Nat} (h : ¬ k = 999) : pkV k = nI k := if_neg h
theorem cdC_1 (s : Nat × Nat) : cdC [s] = [cdS s] := rfl
theorem cdC_app (a b : lE) : cdC (a ++ b) = cdC a ++ cdC b := List.map_append
theorem cdC_len (a : lE) : (cdC a).length = a.length := List.length_map _
section C2
variable {l : Launch} {ι : zE} {mem : zM} {Post : Option zV → zM → Prop} {x y z : Int32} {n p : Nat} {K : Nat → Nat} {out : List Int32}
theorem c_Law_readNumber (hH : zHas ι pL) (hT : LT mem n K) (hp : p ≤ n) (ho : out.length < 121) (h : Post none (pmC mem (nuR K 4 p 0).1 (out ++ [nI (nuR K 4 p 0).2]))) : zC l ι M_Law_readNumber 1 [zP 4 0] (pmC mem p out) Post := by
  refine z_enter hH (by decide) (by simp [z_ent, M_Law_readNumber]) (fun X hXl hX hR => ?_)
  refine z_iconst (v := 0) hX (D_Law_readNumber (i := 0) rfl) (by decide) ?_
  refine z_istore_n hX (D_Law_readNumber (i := 1) rfl) (by decide) rfl ?_
  refine z_iconst (v := 0) hX (D_Law_readNumber (i := 2) rfl) (by decide) ?_
  refine z_istore_n hX (D_Law_readNumber (i := 3) rfl) (by decide) rfl ?_
  suffices H : ∀ (m p v : Nat), m ≤ 4 → p ≤ n → Post none (pmC mem (nuR K m p v).1 (out ++ [nI (nuR K m p v).2])) → zW ι M_Law_readNumber X 4 [some (zP 4 0), some (zI (nI v)), some (zI (nI (4 - m)))] [] (pmC mem p out) from H 4 p 0 (Nat.le_refl _) hp h
  intro m
  have tail : ∀ (p v : Nat) (k : Int32), Post none (pmC mem p (out ++ [nI v])) → zW ι M_Law_readNumber X 48 [some (zP 4 0), some (zI (nI v)), some (zI k)] [] (pmC mem p out) := by
    intro p v k h
    refine z_aload_n hX (D_Law_readNumber (i := 28) rfl) rfl ?_
    refine z_iload_n hX (D_Law_readNumber (i := 29) rfl) rfl ?_
    refine z_cV1 hX (D_Law_readNumber (i := 30) rfl) mi_Law_emit l_Law_53 rfl rfl (by decide) (by first | exact Nat.one_pos | assumption | omega) (by first | decide | omega) (Nat.le_of_ble_eq_true rfl) (c_Law_emit hH ho ?_)
    exact z_ret hX hR (D_Law_readNumber (i := 31) rfl) rfl (by assumption)
  induction m with
  | zero =>
    intro p v _ hp h
    refine z_iload_n hX (D_Law_readNumber (i := 4) rfl) rfl ?_
    refine z_iconst (v := 4) hX (D_Law_readNumber (i := 5) rfl) (by decide) ?_
    refine z_icmp_ge (tgt := 48) hX (D_Law_readNumber (i := 6) rfl) (by decide) (fun _ => ?_) (fun hcc => absurd (Int32.le_refl _) hcc)
    exact tail _ _ _ h
  | succ m ih =>
    intro p v hm hp h
    have hk := hT.K9 p
    refine z_iload_n hX (D_Law_readNumber (i := 4) rfl) rfl ?_
    refine z_iconst (v := 4) hX (D_Law_readNumber (i := 5) rfl) (by decide) ?_
    refine z_icmp_ge (tgt := 48) hX (D_Law_readNumber (i := 6) rfl) (by decide) (fun hcc => absurd hcc (nI_ge (b := 4) (by omega) (by decide))) (fun _ => ?_)
    refine z_aload_n hX (D_Law_readNumber (i := 7) rfl) rfl ?_
    refine z_cV0 hX (D_Law_readNumber (i := 8) rfl) mi_Law_peek l_Law_45 rfl rfl (by decide) (by first | exact Nat.one_pos | assumption | omega) (by first | decide | omega) (Nat.le_of_ble_eq_true rfl) (c_Law_peek hH hT hp ?_)
    refine z_cS1 hX (D_Law_readNumber (i := 9) rfl) ms_Law_isDigit l_Law_64 (by first | decide | omega) (Nat.le_of_ble_eq_true rfl) (c_Law_isDigit hk ?_)
    unfold nuR at h
    refine z_if_eq (tgt := 48) hX (D_Law_readNumber (i := 10) rfl) (by decide) (fun h1 => ?_) (fun h1 => ?_)
    · skip
      rw [if_neg (by rw [bI_0.mp h1]; decide)] at h
      exact tail _ _ _ h
    · refine z_bipush (v := 10) hX (D_Law_readNumber (i := 11) rfl) (by decide) ?_
      refine z_iload_n hX (D_Law_readNumber (i := 12) rfl) rfl ?_
      refine z_imul hX (D_Law_readNumber (i := 13) rfl) ?_
      refine z_aload_n hX (D_Law_readNumber (i := 14) rfl) rfl ?_
      have hd := bI_n.mp h1
      rw [if_pos hd] at h
      have hd2 := of_decide_eq_true hd
      have hpn := isDg_lt hT.2.2.1 hd
      refine z_cV0 hX (D_Law_readNumber (i := 15) rfl) mi_Law_peek l_Law_45 rfl rfl (by decide) (by first | exact Nat.one_pos | assumption | omega) (by first | decide | omega) (Nat.le_of_ble_eq_true rfl) (c_Law_peek hH hT hp ?_)
      refine z_iadd hX (D_Law_readNumber (i := 16) rfl) ?_
      refine z_bipush (v := 48) hX (D_Law_readNumber (i := 17) rfl) (by decide) ?_
      refine z_isub hX (D_Law_readNumber (i := 18) rfl) ?_
      rw [show (10 : Int32) * nI v + pkV (K p) - 48 = nI (10 * v + K p - 48) by rw [pkV_nI (by omega)]; exact (congrArg (· - nI 48) (by rw [show (10 : Int32) = nI 10 from rfl, pk_mul, nI_add])).trans (pk_sub (by omega))]
      refine z_istore_n hX (D_Law_readNumber (i := 19) rfl) (by decide) rfl ?_
      refine z_aload_n hX (D_Law_readNumber (i := 20) rfl) rfl ?_
      refine z_dupP hX (D_Law_readNumber (i := 21) rfl) ?_
      refine z_geti hX (D_Law_readNumber (i := 22) rfl) f_Law_32 rfl (by decide) (by first | exact Nat.one_pos | assumption | omega) rfl ?_
      refine z_iconst (v := 1) hX (D_Law_readNumber (i := 23) rfl) (by decide) ?_
      refine z_iadd hX (D_Law_readNumber (i := 24) rfl) ?_
      rw [pmC_2]
      rw [show nI p + 1 = nI (p + 1) from nI_add p 1]
      refine z_puti hX (D_Law_readNumber (i := 25) rfl) g_Law_32 rfl (by decide) (by first | exact Nat.one_pos | assumption | omega) rfl ?_
      rw [pmC_pl]
      first | refine z_inc1 hX (D_Law_readNumber (i := 26) rfl) rfl (by decide) rfl ?_ | refine z_iinc hX (D_Law_readNumber (i := 26) rfl) rfl rfl (by decide) rfl ?_
      rw [show 4 - (m + 1) + 1 = 4 - m by omega]
      refine z_goto (tgt := 4) hX (D_Law_readNumber (i := 27) rfl) (by decide) ?_
      exact ih (p + 1) _ (by omega) (by omega) h
theorem c_Law_readInside (hH : zHas ι pL) (hT : LT mem n K) {f : Nat → lRs} (hf : lokF n f) {L o : Nat} (hC : CR ι mem n M_Law_readLevel L [zP 4 0, zI (nI 0), zI (nI o)] f) : CR ι mem n M_Law_readInside (L + 1) [zP 4 0, zI (nI o)] (inR K f) := by
  intro l p out Post hp ho hs hn
  have hok := hf p hp
  unfold inR at hs hn
  refine z_enter hH (by decide) (by simp [z_ent, M_Law_readInside]) (fun X hXl hX hR => ?_)
  have bad : ∀ q out', (∀ q2 out', (q, (none : Option lE)) = (q2, none) → Post (some (zI 0)) (pmC mem q2 out')) → zW ι M_Law_readInside X 18 [some (zP 4 0), some (zI (nI o))] [] (pmC mem q out') := by
    intro q out' h
    refine z_iconst (v := 0) hX (D_Law_readInside (i := 9) rfl) (by decide) ?_
    exact z_zret hX hR (D_Law_readInside (i := 10) rfl) rfl (by first | exact Or.inl rfl | exact Or.inr rfl | assumption) (h q out' rfl)
  refine z_aload_n hX (D_Law_readInside (i := 0) rfl) rfl ?_
  refine z_iconst (v := 0) hX (D_Law_readInside (i := 1) rfl) (by decide) ?_
  refine z_iload_n hX (D_Law_readInside (i := 2) rfl) rfl ?_
  refine z_cV2 hX (D_Law_readInside (i := 3) rfl) mi_Law_readLevel l_Law_49 rfl rfl (by decide) (by first | exact Nat.one_pos | assumption | omega) (by first | decide | omega) (Nat.le_of_ble_eq_true rfl) (hC _ p out _ hp ho ?_ ?_)
  · intro q e he
    rw [he] at hs hn hok
    refine z_if_eq (tgt := 18) hX (D_Law_readInside (i := 4) rfl) (by decide) (fun hcc => absurd hcc (by decide)) (fun _ => ?_)
    refine z_aload_n hX (D_Law_readInside (i := 5) rfl) rfl ?_
    refine z_cV0 hX (D_Law_readInside (i := 6) rfl) mi_Law_peek l_Law_45 rfl rfl (by decide) (by first | exact Nat.one_pos | assumption | omega) (by first | decide | omega) (Nat.le_of_ble_eq_true rfl) (c_Law_peek hH hT hok.2.1 ?_)
    refine z_bipush (v := 41) hX (D_Law_readInside (i := 7) rfl) (by decide) ?_
    have P := pkV_is (c := 41) (hT.K9 q) (by decide)
    refine z_icmp_eq (tgt := 20) hX (D_Law_readInside (i := 8) rfl) (by decide) (fun h1 => ?_) (fun h1 => ?_)
    · refine z_aload_n hX (D_Law_readInside (i := 11) rfl) rfl ?_
      refine z_dupP hX (D_Law_readInside (i := 12) rfl) ?_
      refine z_geti hX (D_Law_readInside (i := 13) rfl) f_Law_32 rfl (by decide) (by first | exact Nat.one_pos | assumption | omega) rfl ?_
      refine z_iconst (v := 1) hX (D_Law_readInside (i := 14) rfl) (by decide) ?_
      refine z_iadd hX (D_Law_readInside (i := 15) rfl) ?_
      rw [pmC_2, show nI q + 1 = nI (q + 1) from nI_add q 1]
      refine z_puti hX (D_Law_readInside (i := 16) rfl) g_Law_32 rfl (by decide) (by first | exact Nat.one_pos | assumption | omega) rfl ?_
      rw [pmC_pl]
      refine z_iconst (v := 1) hX (D_Law_readInside (i := 17) rfl) (by decide) ?_
      exact z_zret hX hR (D_Law_readInside (i := 18) rfl) rfl (by first | exact Or.inl rfl | exact Or.inr rfl | assumption) (hs (q + 1) e (if_pos (P.mp h1)))
    · skip
      exact bad q _ (fun q2 out' w => hn q2 out' (by show (if K q = 41 then (q + 1, some e) else (q, none)) = _; rw [if_neg (fun w => h1 (P.mpr w))]; exact w))
  · intro q out' he
    rw [he] at hs hn
    refine z_if_eq (tgt := 18) hX (D_Law_readInside (i := 4) rfl) (by decide) (fun _ => ?_) (fun hcc => absurd (rfl) hcc)
    exact bad q _ hn
theorem c_Law_readTurned (hH : zHas ι pL) (hT : LT mem n K) {f : Nat → lRs} (hf : lokF n f) {L o c : Nat} (hc : c = 33 ∨ c = 45) (hC : CR ι mem n M_Law_readOperand L [zP 4 0, zI (nI o)] f) : CR ι mem n M_Law_readTurned (L + 1) [zP 4 0, zI (nI c), zI (nI o)] (unR c f) := by
  intro l p out Post hp ho hs hn
  have hok := hf p hp
  have h120 := hT.2.1
  unfold unR at hs hn
  refine z_enter hH (by decide) (by simp [z_ent, M_Law_readTurned]) (fun X hXl hX hR => ?_)
  refine z_aload_n hX (D_Law_readTurned (i := 0) rfl) rfl ?_
  refine z_iload_n hX (D_Law_readTurned (i := 1) rfl) rfl ?_
  refine z_cV1 hX (D_Law_readTurned (i := 2) rfl) mi_Law_readOperand l_Law_57 rfl rfl (by decide) (by first | exact Nat.one_pos | assumption | omega) (by first | decide | omega) (Nat.le_of_ble_eq_true rfl) (hC _ p out _ hp ho ?_ ?_)
  · intro q e he
    rw [he] at hs hn hok
    obtain ⟨o1, o2, o3⟩ := hok
    have hl : (out ++ cdC e).length < 121 := by rw [List.length_append, cdC_len]; omega
    refine z_if_ne (tgt := 10) hX (D_Law_readTurned (i := 3) rfl) (by decide) (fun _ => ?_) (fun hcc => absurd hcc (by decide))
    refine z_aload_n hX (D_Law_readTurned (i := 6) rfl) rfl ?_
    refine z_iload_n hX (D_Law_readTurned (i := 7) rfl) rfl ?_
    refine z_bipush (v := 45) hX (D_Law_readTurned (i := 8) rfl) (by decide) ?_
    have fin : Post (some (zI 1)) (pmC mem q (out ++ cdC e ++ [cdS (2, c)])) := by
      have := hs q _ rfl
      rw [cdC_app, cdC_1, ← List.append_assoc] at this
      exact this
    have go : ∀ v : Int32, v = cdS (2, c) → zW ι M_Law_readTurned X 24 [some (zP 4 0), some (zI (nI c)), some (zI (nI o))] [zI v, zP 4 0] (pmC mem q (out ++ cdC e)) := by
      intro v hv
      subst hv
      refine z_cV1 hX (D_Law_readTurned (i := 14) rfl) mi_Law_emit l_Law_53 rfl rfl (by decide) (by first | exact Nat.one_pos | assumption | omega) (by first | decide | omega) (Nat.le_of_ble_eq_true rfl) (c_Law_emit hH hl ?_)
      refine z_iconst (v := 1) hX (D_Law_readTurned (i := 15) rfl) (by decide) ?_
      exact z_zret hX hR (D_Law_readTurned (i := 16) rfl) rfl (by first | exact Or.inl rfl | exact Or.inr rfl | assumption) fin
    have E := nI_eq (a := c) (b := 45) (by omega) (by decide)
    refine z_icmp_ne (tgt := 22) hX (D_Law_readTurned (i := 9) rfl) (by decide) (fun h1 => ?_) (fun h1 => ?_)
    · refine z_iload_n hX (D_Law_readTurned (i := 12) rfl) rfl ?_
      refine z_ineg hX (D_Law_readTurned (i := 13) rfl) ?_
      refine go _ ?_
      have h2 : ¬ c = 45 := fun w => h1 (E.mpr w)
      exact (show cdS (2, c) = -(nI c) by unfold cdS; rw [if_neg (fun w => absurd w (by show ¬ 2 = 0; decide)), if_neg (fun w => h2 w.2)]).symm
    · refine z_bipush (v := -126) hX (D_Law_readTurned (i := 10) rfl) (by decide) ?_
      refine z_goto (tgt := 24) hX (D_Law_readTurned (i := 11) rfl) (by decide) ?_
      refine go _ ?_
      have h2 : c = 45 := E.mp h1
      subst h2
      rfl
  · intro q out' he
    rw [he] at hs hn
    refine z_if_ne (tgt := 10) hX (D_Law_readTurned (i := 3) rfl) (by decide) (fun hcc => absurd (rfl) hcc) (fun _ => ?_)
    refine z_iconst (v := 0) hX (D_Law_readTurned (i := 4) rfl) (by decide) ?_
    exact z_zret hX hR (D_Law_readTurned (i := 5) rfl) rfl (by first | exact Or.inl rfl | exact Or.inr rfl | assumption) (hn q out' rfl)
theorem c_Law_readLevel (hH : zHas ι pL) (hT : LT mem n K) {f : Nat → lRs} (hf : lokF n f) {L o : Nat} (hC : CR ι mem n M_Law_readOperand L [zP 4 0, zI (nI o)] f) : ∀ d, d ≤ 5 → CR ι mem n M_Law_readLevel (L + 1 + d) [zP 4 0, zI (nI (5 - d)), zI (nI o)] (lvR K f d) := by
  have h120 := hT.2.1
  intro d
  induction d with
  | zero =>
    intro _ l p out Post hp ho hs hn
    refine z_enter hH (by decide) (by simp [z_ent, M_Law_readLevel]) (fun X hXl hX hR => ?_)
    refine z_iload_n hX (D_Law_readLevel (i := 0) rfl) rfl ?_
    refine z_iconst (v := 5) hX (D_Law_readLevel (i := 1) rfl) (by decide) ?_
    refine z_icmp_lt (tgt := 11) hX (D_Law_readLevel (i := 2) rfl) (by decide) (fun hcc => absurd hcc (by decide)) (fun _ => ?_)
    refine z_aload_n hX (D_Law_readLevel (i := 3) rfl) rfl ?_
    refine z_iload_n hX (D_Law_readLevel (i := 4) rfl) rfl ?_
    refine z_cV1 hX (D_Law_readLevel (i := 5) rfl) mi_Law_readOperand l_Law_57 rfl rfl (by decide) (by first | exact Nat.one_pos | assumption | omega) (by first | decide | omega) (Nat.le_of_ble_eq_true rfl) (hC _ p out _ hp ho ?_ ?_)
    · intro q e he
      exact z_zret hX hR (D_Law_readLevel (i := 6) rfl) rfl (by first | exact Or.inl rfl | exact Or.inr rfl | assumption) (hs q e he)
    · intro q out' he
      exact z_zret hX hR (D_Law_readLevel (i := 6) rfl) rfl (by first | exact Or.inl rfl | exact Or.inr rfl | assumption) (hn q out' he)
  | succ d ih =>
    intro hd l p out Post hp ho hs hn
    have IH := ih (by omega)
    have hsub := lvR_ok hT.2.2.1 hf d
    have hok := hsub p hp
    unfold lvR at hs hn
    rw [show 5 - (d + 1) = 4 - d by omega]
    refine z_enter hH (by decide) (by simp [z_ent, M_Law_readLevel]) (fun X hXl hX hR => ?_)
    refine z_iload_n hX (D_Law_readLevel (i := 0) rfl) rfl ?_
    refine z_iconst (v := 5) hX (D_Law_readLevel (i := 1) rfl) (by decide) ?_
    refine z_icmp_lt (tgt := 11) hX (D_Law_readLevel (i := 2) rfl) (by decide) (fun _ => ?_) (fun hcc => absurd (nI_lt (b := 5) (by omega) (by decide)) hcc)
    refine z_aload_n hX (D_Law_readLevel (i := 7) rfl) rfl ?_
    refine z_iload_n hX (D_Law_readLevel (i := 8) rfl) rfl ?_
    refine z_iconst (v := 1) hX (D_Law_readLevel (i := 9) rfl) (by decide) ?_
    refine z_iadd hX (D_Law_readLevel (i := 10) rfl) ?_
    rw [show nI (4 - d) + 1 = nI (5 - d) by rw [show nI (4 - d) + 1 = nI (4 - d + 1) from nI_add _ 1, show 4 - d + 1 = 5 - d by omega]]
    refine z_iload_n hX (D_Law_readLevel (i := 11) rfl) rfl ?_
    refine z_cV2 hX (D_Law_readLevel (i := 12) rfl) mi_Law_readLevel l_Law_49 rfl rfl (by decide) (by first | exact Nat.one_pos | assumption | omega) (by first | decide | omega) (Nat.le_of_ble_eq_true rfl) (IH _ p out _ hp ho ?_ ?_)
    · intro q e he
      rw [he] at hs hn hok
      refine z_if_ne (tgt := 24) hX (D_Law_readLevel (i := 13) rfl) (by decide) (fun _ => ?_) (fun hcc => absurd hcc (by decide))
      refine z_iload_n hX (D_Law_readLevel (i := 16) rfl) rfl ?_
      refine z_iconst (v := 2) hX (D_Law_readLevel (i := 17) rfl) (by decide) ?_
      have loop : ∀ (most m k q : Nat) (e : lE) (s5 : Option zV), k + m = most → most ≤ 120 → q ≤ n → out.length + e.length ≤ q → (∀ u e', lpR K (lvR K f d) (4 - d) m q e = (u, some e') → Post (some (zI 1)) (pmC mem u (out ++ cdC e'))) → (∀ u out', lpR K (lvR K f d) (4 - d) m q e = (u, none) → Post (some (zI 0)) (pmC mem u out')) → zW ι M_Law_readLevel X 39 [some (zP 4 0), some (zI (nI (4 - d))), some (zI (nI o)), some (zI (nI most)), some (zI (nI k)), s5] [] (pmC mem q (out ++ cdC e)) := by
        intro most m
        induction m with
        | zero =>
          intro k q e s5 hk hm hq hl hs hn
          obtain rfl : k = most := by omega
          refine z_iload hX (D_Law_readLevel (i := 25) rfl) rfl ?_
          refine z_iload_n hX (D_Law_readLevel (i := 26) rfl) rfl ?_
          refine z_icmp_ge (tgt := 98) hX (D_Law_readLevel (i := 27) rfl) (by decide) (fun _ => ?_) (fun hcc => absurd (Int32.le_refl _) hcc)
          refine z_iconst (v := 1) hX (D_Law_readLevel (i := 57) rfl) (by decide) ?_
          exact z_zret hX hR (D_Law_readLevel (i := 58) rfl) rfl (by first | exact Or.inl rfl | exact Or.inr rfl | assumption) (hs q e rfl)
        | succ m ihm =>
          intro k q e s5 hk hm hq hl hs hn
          have hk9 := hT.K9 q
          refine z_iload hX (D_Law_readLevel (i := 25) rfl) rfl ?_
          refine z_iload_n hX (D_Law_readLevel (i := 26) rfl) rfl ?_
          refine z_icmp_ge (tgt := 98) hX (D_Law_readLevel (i := 27) rfl) (by decide) (fun hcc => absurd hcc (nI_ge (by omega) (by omega))) (fun _ => ?_)
          refine z_aload_n hX (D_Law_readLevel (i := 28) rfl) rfl ?_
          refine z_cV0 hX (D_Law_readLevel (i := 29) rfl) mi_Law_peek l_Law_45 rfl rfl (by decide) (by first | exact Nat.one_pos | assumption | omega) (by first | decide | omega) (Nat.le_of_ble_eq_true rfl) (c_Law_peek hH hT hq ?_)
          refine z_iload_n hX (D_Law_readLevel (i := 30) rfl) rfl ?_
          refine z_cS2 hX (D_Law_readLevel (i := 31) rfl) ms_Law_isJoin l_Law_61 (by first | decide | omega) (Nat.le_of_ble_eq_true rfl) (c_Law_isJoin (lv := 4 - d) hk9 (by omega) ?_)
          unfold lpR at hs hn
          refine z_if_eq (tgt := 98) hX (D_Law_readLevel (i := 32) rfl) (by decide) (fun h1 => ?_) (fun h1 => ?_)
          · refine z_iconst (v := 1) hX (D_Law_readLevel (i := 57) rfl) (by decide) ?_
            exact z_zret hX hR (D_Law_readLevel (i := 58) rfl) rfl (by first | exact Or.inl rfl | exact Or.inr rfl | assumption) (hs q e (by rw [if_neg (by rw [bI_0.mp h1]; decide)]))
          · refine z_aload_n hX (D_Law_readLevel (i := 33) rfl) rfl ?_
            have hj := bI_n.mp h1
            have hqn := isJn_lt hT.2.2.1 hj
            have hK9 : ¬ K q = 999 := fun w => by rw [w] at hj; have := of_decide_eq_true hj; omega
            rw [if_pos hj] at hs hn
            refine z_cV0 hX (D_Law_readLevel (i := 34) rfl) mi_Law_peek l_Law_45 rfl rfl (by decide) (by first | exact Nat.one_pos | assumption | omega) (by first | decide | omega) (Nat.le_of_ble_eq_true rfl) (c_Law_peek hH hT hq ?_)
            refine z_istore hX (D_Law_readLevel (i := 35) rfl) (by decide) rfl ?_
            refine z_aload_n hX (D_Law_readLevel (i := 36) rfl) rfl ?_
            refine z_dupP hX (D_Law_readLevel (i := 37) rfl) ?_
            refine z_geti hX (D_Law_readLevel (i := 38) rfl) f_Law_32 rfl (by decide) (by first | exact Nat.one_pos | assumption | omega) rfl ?_
            refine z_iconst (v := 1) hX (D_Law_readLevel (i := 39) rfl) (by decide) ?_
            refine z_iadd hX (D_Law_readLevel (i := 40) rfl) ?_
            rw [pmC_2, show nI q + 1 = nI (q + 1) from nI_add q 1]
            refine z_puti hX (D_Law_readLevel (i := 41) rfl) g_Law_32 rfl (by decide) (by first | exact Nat.one_pos | assumption | omega) rfl ?_
            rw [pmC_pl]
            refine z_aload_n hX (D_Law_readLevel (i := 42) rfl) rfl ?_
            refine z_iload_n hX (D_Law_readLevel (i := 43) rfl) rfl ?_
            refine z_iconst (v := 1) hX (D_Law_readLevel (i := 44) rfl) (by decide) ?_
            refine z_iadd hX (D_Law_readLevel (i := 45) rfl) ?_
            rw [show nI (4 - d) + 1 = nI (5 - d) by rw [show nI (4 - d) + 1 = nI (4 - d + 1) from nI_add _ 1, show 4 - d + 1 = 5 - d by omega]]
            refine z_iload_n hX (D_Law_readLevel (i := 46) rfl) rfl ?_
            have hok2 := hsub (q + 1) hqn
            refine z_cV2 hX (D_Law_readLevel (i := 47) rfl) mi_Law_readLevel l_Law_49 rfl rfl (by decide) (by first | exact Nat.one_pos | assumption | omega) (by first | decide | omega) (Nat.le_of_ble_eq_true rfl) (IH _ (q + 1) (out ++ cdC e) _ hqn (by rw [List.length_append, cdC_len]; omega) ?_ ?_)
            · intro u e' he'
              rw [he'] at hs hn hok2
              obtain ⟨o1, o2, o3⟩ := hok2
              refine z_if_ne (tgt := 85) hX (D_Law_readLevel (i := 48) rfl) (by decide) (fun _ => ?_) (fun hcc => absurd hcc (by decide))
              refine z_aload_n hX (D_Law_readLevel (i := 51) rfl) rfl ?_
              refine z_iload hX (D_Law_readLevel (i := 52) rfl) rfl ?_
              refine z_ineg hX (D_Law_readLevel (i := 53) rfl) ?_
              refine z_cV1 hX (D_Law_readLevel (i := 54) rfl) mi_Law_emit l_Law_53 rfl rfl (by decide) (by first | exact Nat.one_pos | assumption | omega) (by first | decide | omega) (Nat.le_of_ble_eq_true rfl) (c_Law_emit hH (by simp only [List.length_append, cdC_len]; omega) ?_)
              rw [show -(pkV (K q)) = cdS (3, K q) by rw [pkV_nI hK9]; rfl, ← cdC_1, List.append_assoc, ← cdC_app, List.append_assoc, ← cdC_app, ← List.append_assoc]
              first | refine z_inc1 hX (D_Law_readLevel (i := 55) rfl) rfl (by decide) rfl ?_ | refine z_iinc hX (D_Law_readLevel (i := 55) rfl) rfl rfl (by decide) rfl ?_
              refine z_goto (tgt := 39) hX (D_Law_readLevel (i := 56) rfl) (by decide) ?_
              exact ihm (k + 1) u (e ++ e' ++ [(3, K q)]) _ (by omega) hm o2 (by simp only [List.length_append, List.length_cons, List.length_nil]; omega) hs hn
            · intro u out' he'
              rw [he'] at hs hn
              refine z_if_ne (tgt := 85) hX (D_Law_readLevel (i := 48) rfl) (by decide) (fun hcc => absurd (rfl) hcc) (fun _ => ?_)
              refine z_iconst (v := 0) hX (D_Law_readLevel (i := 49) rfl) (by decide) ?_
              exact z_zret hX hR (D_Law_readLevel (i := 50) rfl) rfl (by first | exact Or.inl rfl | exact Or.inr rfl | assumption) (hn u out' rfl)
      by_cases h2 : d = 2
      · subst h2
        refine z_icmp_ne (tgt := 33) hX (D_Law_readLevel (i := 18) rfl) (by decide) (fun hcc => absurd (rfl) hcc) (fun _ => ?_)
        refine z_iconst (v := 1) hX (D_Law_readLevel (i := 19) rfl) (by decide) ?_
        refine z_goto (tgt := 35) hX (D_Law_readLevel (i := 20) rfl) (by decide) ?_
        refine z_istore_n hX (D_Law_readLevel (i := 22) rfl) (by decide) rfl ?_
        refine z_iconst (v := 0) hX (D_Law_readLevel (i := 23) rfl) (by decide) ?_
        refine z_istore hX (D_Law_readLevel (i := 24) rfl) (by decide) rfl ?_
        exact loop 1 1 0 q e none (by omega) (by omega) hok.2.1 (by have := hok.2.2; have := hok.1; omega) hs hn
      · skip
        refine z_icmp_ne (tgt := 33) hX (D_Law_readLevel (i := 18) rfl) (by decide) (fun _ => ?_) (fun hcc => absurd hcc ((fun w => h2 (by have := (nI_eq (a := 4 - d) (b := 2) (by omega) (by decide)).mp w; omega))))
        refine z_bipush (v := 120) hX (D_Law_readLevel (i := 21) rfl) (by decide) ?_
        refine z_istore_n hX (D_Law_readLevel (i := 22) rfl) (by decide) rfl ?_
        refine z_iconst (v := 0) hX (D_Law_readLevel (i := 23) rfl) (by decide) ?_
        refine z_istore hX (D_Law_readLevel (i := 24) rfl) (by decide) rfl ?_
        rw [if_neg h2] at hs hn
        exact loop 120 120 0 q e none (by omega) (by omega) hok.2.1 (by have := hok.2.2; have := hok.1; omega) hs hn
    · intro q out' he
      rw [he] at hs hn
      refine z_if_ne (tgt := 24) hX (D_Law_readLevel (i := 13) rfl) (by decide) (fun hcc => absurd (rfl) hcc) (fun _ => ?_)
      refine z_iconst (v := 0) hX (D_Law_readLevel (i := 14) rfl) (by decide) ?_
      exact z_zret hX hR (D_Law_readLevel (i := 15) rfl) rfl (by first | exact Or.inl rfl | exact Or.inr rfl | assumption) (hn q out' rfl)
theorem c_Law_readOperand (hH : zHas ι pL) (hT : LT mem n K) : ∀ r o, o + r = 6 → CR ι mem n M_Law_readOperand (8 * r + 2) [zP 4 0, zI (nI o)] (opR K r) := by
  have h120 := hT.2.1
  intro r
  induction r with
  | zero =>
    intro o hor l p out Post hp ho hs hn
    obtain rfl : o = 6 := by omega
    have hk9 := hT.K9 p
    refine z_enter hH (by decide) (by simp [z_ent, M_Law_readOperand]) (fun X hXl hX hR => ?_)
    refine z_aload_n hX (D_Law_readOperand (i := 0) rfl) rfl ?_
    refine z_cV0 hX (D_Law_readOperand (i := 1) rfl) mi_Law_peek l_Law_45 rfl rfl (by decide) (by first | exact Nat.one_pos | assumption | omega) (by first | decide | omega) (Nat.le_of_ble_eq_true rfl) (c_Law_peek hH hT hp ?_)
    refine z_istore_n hX (D_Law_readOperand (i := 2) rfl) (by decide) rfl ?_
    refine z_iload_n hX (D_Law_readOperand (i := 3) rfl) rfl ?_
    refine z_cS1 hX (D_Law_readOperand (i := 4) rfl) ms_Law_isDigit l_Law_64 (by first | decide | omega) (Nat.le_of_ble_eq_true rfl) (c_Law_isDigit hk9 ?_)
    refine z_if_eq (tgt := 18) hX (D_Law_readOperand (i := 5) rfl) (by decide) (fun h1 => ?_) (fun h1 => ?_)
    · refine z_iload_n hX (D_Law_readOperand (i := 10) rfl) rfl ?_
      refine z_cS1 hX (D_Law_readOperand (i := 11) rfl) ms_Law_isName l_Law_70 (by first | decide | omega) (Nat.le_of_ble_eq_true rfl) (c_Law_isName hk9 ?_)
      refine z_if_eq (tgt := 43) hX (D_Law_readOperand (i := 12) rfl) (by decide) (fun h2 => ?_) (fun h2 => ?_)
      · skip
        have no : zW ι M_Law_readOperand X 67 [some (zP 4 0), some (zI (nI 6)), some (zI (pkV (K p)))] [] (pmC mem p out) := by
          refine z_iconst (v := 0) hX (D_Law_readOperand (i := 37) rfl) (by decide) ?_
          exact z_zret hX hR (D_Law_readOperand (i := 38) rfl) rfl (by first | exact Or.inl rfl | exact Or.inr rfl | assumption) (hn p out (opR_z (bI_0.mp h1) (bI_0.mp h2)))
        have mid : zW ι M_Law_readOperand X 61 [some (zP 4 0), some (zI (nI 6)), some (zI (pkV (K p)))] [] (pmC mem p out) := by
          refine z_iload_n hX (D_Law_readOperand (i := 34) rfl) rfl ?_
          refine z_bipush (v := 6) hX (D_Law_readOperand (i := 35) rfl) (by decide) ?_
          refine z_icmp_lt (tgt := 69) hX (D_Law_readOperand (i := 36) rfl) (by decide) (fun hcc => absurd hcc (by decide)) (fun _ => ?_)
          exact no
        refine z_iload_n hX (D_Law_readOperand (i := 25) rfl) rfl ?_
        refine z_bipush (v := 40) hX (D_Law_readOperand (i := 26) rfl) (by decide) ?_
        refine z_icmp_eq (tgt := 61) hX (D_Law_readOperand (i := 27) rfl) (by decide) (fun h3 => ?_) (fun h3 => ?_)
        · skip
          exact mid
        · refine z_iload_n hX (D_Law_readOperand (i := 28) rfl) rfl ?_
          refine z_bipush (v := 33) hX (D_Law_readOperand (i := 29) rfl) (by decide) ?_
          refine z_icmp_eq (tgt := 61) hX (D_Law_readOperand (i := 30) rfl) (by decide) (fun h4 => ?_) (fun h4 => ?_)
          · skip
            exact mid
          · refine z_iload_n hX (D_Law_readOperand (i := 31) rfl) rfl ?_
            refine z_bipush (v := 45) hX (D_Law_readOperand (i := 32) rfl) (by decide) ?_
            refine z_icmp_ne (tgt := 67) hX (D_Law_readOperand (i := 33) rfl) (by decide) (fun h5 => ?_) (fun h5 => ?_)
            · skip
              exact no
            · skip
              exact mid
      · refine z_aload_n hX (D_Law_readOperand (i := 13) rfl) rfl ?_
        refine z_dupP hX (D_Law_readOperand (i := 14) rfl) ?_
        refine z_geti hX (D_Law_readOperand (i := 15) rfl) f_Law_32 rfl (by decide) (by first | exact Nat.one_pos | assumption | omega) rfl ?_
        refine z_iconst (v := 1) hX (D_Law_readOperand (i := 16) rfl) (by decide) ?_
        refine z_iadd hX (D_Law_readOperand (i := 17) rfl) ?_
        have hd := bI_n.mp h2
        rw [pmC_2, show nI p + 1 = nI (p + 1) from nI_add p 1]
        refine z_puti hX (D_Law_readOperand (i := 18) rfl) g_Law_32 rfl (by decide) (by first | exact Nat.one_pos | assumption | omega) rfl ?_
        rw [pmC_pl]
        refine z_aload_n hX (D_Law_readOperand (i := 19) rfl) rfl ?_
        refine z_iload_n hX (D_Law_readOperand (i := 20) rfl) rfl ?_
        refine z_ineg hX (D_Law_readOperand (i := 21) rfl) ?_
        refine z_cV1 hX (D_Law_readOperand (i := 22) rfl) mi_Law_emit l_Law_53 rfl rfl (by decide) (by first | exact Nat.one_pos | assumption | omega) (by first | decide | omega) (Nat.le_of_ble_eq_true rfl) (c_Law_emit hH (by omega) ?_)
        have hK9 : ¬ K p = 999 := fun w => by rw [w] at hd; exact absurd hd (by decide)
        rw [show -(pkV (K p)) = cdS (1, K p) by rw [pkV_nI hK9]; rfl]
        refine z_iconst (v := 1) hX (D_Law_readOperand (i := 23) rfl) (by decide) ?_
        exact z_zret hX hR (D_Law_readOperand (i := 24) rfl) rfl (by first | exact Or.inl rfl | exact Or.inr rfl | assumption) (hs (p + 1) _ (opR_nm (bI_0.mp h1) hd))
    · refine z_aload_n hX (D_Law_readOperand (i := 6) rfl) rfl ?_
      refine z_cV0 hX (D_Law_readOperand (i := 7) rfl) mi_Law_readNumber l_Law_67 rfl rfl (by decide) (by first | exact Nat.one_pos | assumption | omega) (by first | decide | omega) (Nat.le_of_ble_eq_true rfl) (c_Law_readNumber hH hT hp (by omega) ?_)
      refine z_iconst (v := 1) hX (D_Law_readOperand (i := 8) rfl) (by decide) ?_
      exact z_zret hX hR (D_Law_readOperand (i := 9) rfl) rfl (by first | exact Or.inl rfl | exact Or.inr rfl | assumption) (hs _ _ (opR_dg (bI_n.mp h1)))
  | succ r ih =>
    intro o hor l p out Post hp ho hs hn
    have hk9 := hT.K9 p
    have P : ∀ c, c < 256 → (pkV (K p) = nI c ↔ K p = c) := fun c hc => pkV_is hk9 hc
    have IH := ih (o + 1) (by omega)
    have hop := opR_ok hT.2.2.1 r
    refine z_enter hH (by decide) (by simp [z_ent, M_Law_readOperand]) (fun X hXl hX hR => ?_)
    refine z_aload_n hX (D_Law_readOperand (i := 0) rfl) rfl ?_
    refine z_cV0 hX (D_Law_readOperand (i := 1) rfl) mi_Law_peek l_Law_45 rfl rfl (by decide) (by first | exact Nat.one_pos | assumption | omega) (by first | decide | omega) (Nat.le_of_ble_eq_true rfl) (c_Law_peek hH hT hp ?_)
    refine z_istore_n hX (D_Law_readOperand (i := 2) rfl) (by decide) rfl ?_
    refine z_iload_n hX (D_Law_readOperand (i := 3) rfl) rfl ?_
    refine z_cS1 hX (D_Law_readOperand (i := 4) rfl) ms_Law_isDigit l_Law_64 (by first | decide | omega) (Nat.le_of_ble_eq_true rfl) (c_Law_isDigit hk9 ?_)
    refine z_if_eq (tgt := 18) hX (D_Law_readOperand (i := 5) rfl) (by decide) (fun h1 => ?_) (fun h1 => ?_)
    · refine z_iload_n hX (D_Law_readOperand (i := 10) rfl) rfl ?_
      refine z_cS1 hX (D_Law_readOperand (i := 11) rfl) ms_Law_isName l_Law_70 (by first | decide | omega) (Nat.le_of_ble_eq_true rfl) (c_Law_isName hk9 ?_)
      refine z_if_eq (tgt := 43) hX (D_Law_readOperand (i := 12) rfl) (by decide) (fun h2 => ?_) (fun h2 => ?_)
      · skip
        have mid : (K p = 40 ∨ K p = 33 ∨ K p = 45) → zW ι M_Law_readOperand X 61 [some (zP 4 0), some (zI (nI o)), some (zI (pkV (K p)))] [] (pmC mem p out) := by
          intro hc
          have hpn := K_lt hT.2.2.1 (p := p) (by omega)
          refine z_iload_n hX (D_Law_readOperand (i := 34) rfl) rfl ?_
          refine z_bipush (v := 6) hX (D_Law_readOperand (i := 35) rfl) (by decide) ?_
          refine z_icmp_lt (tgt := 69) hX (D_Law_readOperand (i := 36) rfl) (by decide) (fun _ => ?_) (fun hcc => absurd (nI_lt (b := 6) (by omega) (by decide)) hcc)
          refine z_aload_n hX (D_Law_readOperand (i := 39) rfl) rfl ?_
          refine z_dupP hX (D_Law_readOperand (i := 40) rfl) ?_
          refine z_geti hX (D_Law_readOperand (i := 41) rfl) f_Law_32 rfl (by decide) (by first | exact Nat.one_pos | assumption | omega) rfl ?_
          refine z_iconst (v := 1) hX (D_Law_readOperand (i := 42) rfl) (by decide) ?_
          refine z_iadd hX (D_Law_readOperand (i := 43) rfl) ?_
          rw [pmC_2, show nI p + 1 = nI (p + 1) from nI_add p 1]
          refine z_puti hX (D_Law_readOperand (i := 44) rfl) g_Law_32 rfl (by decide) (by first | exact Nat.one_pos | assumption | omega) rfl ?_
          rw [pmC_pl]
          refine z_iload_n hX (D_Law_readOperand (i := 45) rfl) rfl ?_
          refine z_bipush (v := 40) hX (D_Law_readOperand (i := 46) rfl) (by decide) ?_
          refine z_icmp_ne (tgt := 95) hX (D_Law_readOperand (i := 47) rfl) (by decide) (fun h3 => ?_) (fun h3 => ?_)
          · refine z_aload_n hX (D_Law_readOperand (i := 54) rfl) rfl ?_
            refine z_iload_n hX (D_Law_readOperand (i := 55) rfl) rfl ?_
            refine z_iload_n hX (D_Law_readOperand (i := 56) rfl) rfl ?_
            refine z_iconst (v := 1) hX (D_Law_readOperand (i := 57) rfl) (by decide) ?_
            refine z_iadd hX (D_Law_readOperand (i := 58) rfl) ?_
            have h3' : ¬ K p = 40 := fun w => h3 ((P 40 (by decide)).mpr w)
            have hc2 : K p = 33 ∨ K p = 45 := by omega
            rw [show nI o + 1 = nI (o + 1) from nI_add o 1, pkV_nI (by omega)]
            rw [opR_un hc2] at hs hn
            refine z_cV2 hX (D_Law_readOperand (i := 59) rfl) mi_Law_readTurned l_Law_76 rfl rfl (by decide) (by first | exact Nat.one_pos | assumption | omega) (by first | decide | omega) (Nat.le_of_ble_eq_true rfl) (c_Law_readTurned hH hT hop hc2 IH _ (p + 1) out _ hpn (by omega) ?_ ?_)
            · intro q e he
              exact z_zret hX hR (D_Law_readOperand (i := 60) rfl) rfl (by first | exact Or.inl rfl | exact Or.inr rfl | assumption) (hs q e he)
            · intro q out' he
              exact z_zret hX hR (D_Law_readOperand (i := 60) rfl) rfl (by first | exact Or.inl rfl | exact Or.inr rfl | assumption) (hn q out' he)
          · refine z_aload_n hX (D_Law_readOperand (i := 48) rfl) rfl ?_
            refine z_iload_n hX (D_Law_readOperand (i := 49) rfl) rfl ?_
            refine z_iconst (v := 1) hX (D_Law_readOperand (i := 50) rfl) (by decide) ?_
            refine z_iadd hX (D_Law_readOperand (i := 51) rfl) ?_
            have h3' := (P 40 (by decide)).mp h3
            rw [show nI o + 1 = nI (o + 1) from nI_add o 1]
            rw [opR_in h3'] at hs hn
            refine z_cV1 hX (D_Law_readOperand (i := 52) rfl) mi_Law_readInside l_Law_73 rfl rfl (by decide) (by first | exact Nat.one_pos | assumption | omega) (by first | decide | omega) (Nat.le_of_ble_eq_true rfl) (c_Law_readInside hH hT (lvR_ok hT.2.2.1 hop 5) (c_Law_readLevel hH hT hop IH 5 (Nat.le_refl _)) _ (p + 1) out _ hpn (by omega) ?_ ?_)
            · intro q e he
              refine z_goto (tgt := 103) hX (D_Law_readOperand (i := 53) rfl) (by decide) ?_
              exact z_zret hX hR (D_Law_readOperand (i := 60) rfl) rfl (by first | exact Or.inl rfl | exact Or.inr rfl | assumption) (hs q e he)
            · intro q out' he
              refine z_goto (tgt := 103) hX (D_Law_readOperand (i := 53) rfl) (by decide) ?_
              exact z_zret hX hR (D_Law_readOperand (i := 60) rfl) rfl (by first | exact Or.inl rfl | exact Or.inr rfl | assumption) (hn q out' he)
        refine z_iload_n hX (D_Law_readOperand (i := 25) rfl) rfl ?_
        refine z_bipush (v := 40) hX (D_Law_readOperand (i := 26) rfl) (by decide) ?_
        refine z_icmp_eq (tgt := 61) hX (D_Law_readOperand (i := 27) rfl) (by decide) (fun h3 => ?_) (fun h3 => ?_)
        · skip
          exact mid (Or.inl ((P 40 (by decide)).mp h3))
        · refine z_iload_n hX (D_Law_readOperand (i := 28) rfl) rfl ?_
          refine z_bipush (v := 33) hX (D_Law_readOperand (i := 29) rfl) (by decide) ?_
          refine z_icmp_eq (tgt := 61) hX (D_Law_readOperand (i := 30) rfl) (by decide) (fun h4 => ?_) (fun h4 => ?_)
          · skip
            exact mid (Or.inr (Or.inl ((P 33 (by decide)).mp h4)))
          · refine z_iload_n hX (D_Law_readOperand (i := 31) rfl) rfl ?_
            refine z_bipush (v := 45) hX (D_Law_readOperand (i := 32) rfl) (by decide) ?_
            refine z_icmp_ne (tgt := 67) hX (D_Law_readOperand (i := 33) rfl) (by decide) (fun h5 => ?_) (fun h5 => ?_)
            · refine z_iconst (v := 0) hX (D_Law_readOperand (i := 37) rfl) (by decide) ?_
              exact z_zret hX hR (D_Law_readOperand (i := 38) rfl) rfl (by first | exact Or.inl rfl | exact Or.inr rfl | assumption) (hn p out (opR_no (bI_0.mp h1) (bI_0.mp h2) (fun w => h3 ((P 40 (by decide)).mpr w)) (fun w => h4 ((P 33 (by decide)).mpr w)) (fun w => h5 ((P 45 (by decide)).mpr w))))
            · skip
              exact mid (Or.inr (Or.inr ((P 45 (by decide)).mp h5)))
      · refine z_aload_n hX (D_Law_readOperand (i := 13) rfl) rfl ?_
        refine z_dupP hX (D_Law_readOperand (i := 14) rfl) ?_
        refine z_geti hX (D_Law_readOperand (i := 15) rfl) f_Law_32 rfl (by decide) (by first | exact Nat.one_pos | assumption | omega) rfl ?_
        refine z_iconst (v := 1) hX (D_Law_readOperand (i := 16) rfl) (by decide) ?_
        refine z_iadd hX (D_Law_readOperand (i := 17) rfl) ?_
        have hd := bI_n.mp h2
        rw [pmC_2, show nI p + 1 = nI (p + 1) from nI_add p 1]
        refine z_puti hX (D_Law_readOperand (i := 18) rfl) g_Law_32 rfl (by decide) (by first | exact Nat.one_pos | assumption | omega) rfl ?_
        rw [pmC_pl]
        refine z_aload_n hX (D_Law_readOperand (i := 19) rfl) rfl ?_
        refine z_iload_n hX (D_Law_readOperand (i := 20) rfl) rfl ?_
        refine z_ineg hX (D_Law_readOperand (i := 21) rfl) ?_
        refine z_cV1 hX (D_Law_readOperand (i := 22) rfl) mi_Law_emit l_Law_53 rfl rfl (by decide) (by first | exact Nat.one_pos | assumption | omega) (by first | decide | omega) (Nat.le_of_ble_eq_true rfl) (c_Law_emit hH (by omega) ?_)
        have hK9 : ¬ K p = 999 := fun w => by rw [w] at hd; exact absurd hd (by decide)
        rw [show -(pkV (K p)) = cdS (1, K p) by rw [pkV_nI hK9]; rfl]
        refine z_iconst (v := 1) hX (D_Law_readOperand (i := 23) rfl) (by decide) ?_
        exact z_zret hX hR (D_Law_readOperand (i := 24) rfl) rfl (by first | exact Or.inl rfl | exact Or.inr rfl | assumption) (hs (p + 1) _ (opR_nm (bI_0.mp h1) hd))
    · refine z_aload_n hX (D_Law_readOperand (i := 6) rfl) rfl ?_
      refine z_cV0 hX (D_Law_readOperand (i := 7) rfl) mi_Law_readNumber l_Law_67 rfl rfl (by decide) (by first | exact Nat.one_pos | assumption | omega) (by first | decide | omega) (Nat.le_of_ble_eq_true rfl) (c_Law_readNumber hH hT hp (by omega) ?_)
      refine z_iconst (v := 1) hX (D_Law_readOperand (i := 8) rfl) (by decide) ?_
      exact z_zret hX hR (D_Law_readOperand (i := 9) rfl) rfl (by first | exact Or.inl rfl | exact Or.inr rfl | assumption) (hs _ _ (opR_dg (bI_n.mp h1)))
end C2
