/-! the nearest, as the class finds it -/
def mi (a b : Nat) : Nat := if b < a then b else a
theorem mi_big {L s : Nat} (h : L ≤ 1000) : mi L (s + 1000) = L := if_neg (by omega)
theorem mi_prune {L s x y : Nat} (h : L ≤ s + x) (h2 : x ≤ y) : mi L (s + y) = L := if_neg (by omega)
theorem mi_step (L s a c b : Nat) : mi (mi L (s + a)) (s + c + b) = mi L (s + mi a (c + b)) := by
  unfold mi
  repeat' split
  all_goals omega
theorem mi_le (a b : Nat) : mi a b ≤ a := by unfold mi; split <;> omega
def mnF (ok : Nat → Bool) (g : Nat → Nat) : Nat → Nat
  | 0 => 1000
  | n + 1 => if ok n = true then mi (mnF ok g n) (g n) else mnF ok g n
theorem mnF_ge {ok : Nat → Bool} {g : Nat → Nat} {a : Nat} (h1 : a ≤ 1000) : ∀ {n : Nat}, (∀ t, t < n → ok t = true → a ≤ g t) → a ≤ mnF ok g n
  | 0, _ => h1
  | n + 1, h => by
    have := mnF_ge (n := n) h1 (fun t ht => h t (by omega))
    rw [mnF]
    split
    · next hk =>
      have := h n (Nat.lt_succ_self n) hk
      unfold mi; split <;> omega
    · exact this
theorem mnF_cong {ok : Nat → Bool} {g h : Nat → Nat} : ∀ {n : Nat}, (∀ t, t < n → ok t = true → g t = h t) → mnF ok g n = mnF ok h n
  | 0, _ => rfl
  | n + 1, e => by
    rw [mnF, mnF, mnF_cong (n := n) (fun t ht => e t (by omega))]
    split
    · next hk => rw [e n (Nat.lt_succ_self n) hk]
    · rfl
section N0
variable (tr : Nat → Nat → Bool) (wr : Nat → Nat → Nat → Nat → Nat)
def csW (j : Nat) (f : Nat → Nat) (t : Nat) : Nat := sumI (fun i => wr i j (f i) t) j
def mnS : Nat → Nat → (Nat → Nat) → Nat
  | 0, _, _ => 0
  | d + 1, j, f => mnF (tr j) (fun t => csW wr j f t + mnS d (j + 1) (fN f j t)) 24
end N0
theorem sumI_le {g : Nat → Nat} {b : Nat} : ∀ {n : Nat}, (∀ k, k < n → g k ≤ b) → sumI g n ≤ b * n
  | 0, _ => Nat.zero_le _
  | n + 1, h => by
    have h1 := sumI_le (n := n) (fun k hk => h k (by omega))
    have h2 := h n (Nat.lt_succ_self n)
    rw [sumI, Nat.mul_succ]; omega
def wrW (Λ : Option (List lLn)) (C : Nat → Nat → Nat) (T : List Nat) (i j t u : Nat) : Nat := cnI (fun s => !mayW Λ s i j (C (T.getD i 0) (stN t s)) (C (T.getD j 0) (stN u s))) 4
theorem wrW_le {Λ : Option (List lLn)} {C : Nat → Nat → Nat} {T : List Nat} (i j t u : Nat) : wrW Λ C T i j t u ≤ 4 := cnI_le _ 4
def frW (pr : Nat) (S S' : Nat → Nat → Int32) : Prop := ∀ p c, p ≠ 16 → p ≠ 17 → ¬ (p = 18 ∧ pr * 576 ≤ c ∧ c < pr * 576 + 576) → S' p c = S p c
theorem frW.tw {mem : zM} {S S' : Nat → Nat → Int32} {T : List Nat} {pr : Nat} (hf : frW pr S S') (hT : TW mem S T) : TW mem S' T := ⟨(hf 9 5 (by decide) (by decide) (by omega)).trans hT.1, (hf 10 0 (by decide) (by decide) (by omega)).trans hT.2.1, hT.2.2.1, fun i hi => ⟨(hT.2.2.2 i hi).1, (hf 15 i (by decide) (by decide) (by omega)).trans (hT.2.2.2 i hi).2.1, (hT.2.2.2 i hi).2.2⟩⟩
abbrev wcB (Λ : Option (List lLn)) (C : Nat → Nat → Nat) (T : List Nat) (pr k s : Nat) : Bool := !mayW Λ s (loN pr) (hiN pr) (C (T.getD (loN pr) 0) (stN (k / 24) s)) (C (T.getD (hiN pr) 0) (stN (k % 24) s))
theorem bI_neg (b : Bool) : (1 : Int32) - bI b = nI (!b).toNat := by cases b <;> decide
section T7
variable {l : Launch} {ι : zE} {mem : zM} {Post : Option zV → zM → Prop} {S : Nat → Nat → Int32} {n : Nat} {Λ : Option (List lLn)} {C : Nat → Nat → Nat} {T : List Nat} {τ : Nat → Nat} {tr : Nat → Nat → Bool} {wr : Nat → Nat → Nat → Nat → Nat}
theorem c_Tower_weigh (hH : zHas ι pX) (hT : TW mem S T) (hC : CO mem C) (hM : MY mem Λ) {pr : Nat} (hp : pr < 6) (hpn : hiN pr < T.length) (hz : ∀ k, k < 576 → S 18 (pr * 576 + k) = 0) (h : ∀ S' m, frW pr S S' → (∀ t u, t < 24 → u < 24 → S' 18 (pr * 576 + t * 24 + u) = nI (wrW Λ C T (loN pr) (hiN pr) t u)) → m ≤ 4 → (∀ t u, t < 24 → u < 24 → m ≤ wrW Λ C T (loN pr) (hiN pr) t u) → Post (some (zI (nI m))) (tw mem S')) : zC l ι M_Tower_weigh 2 [zP 9 0, zI (nI pr)] (tw mem S) Post := by
  obtain ⟨p1, p2, p3, p4, p5⟩ := lo_ok pr hp
  obtain ⟨a1, a2, a3⟩ := hT.2.2.2 (loN pr) (by omega)
  refine z_enter hH (by decide) (by simp [z_ent, M_Tower_weigh]) (fun X hXl hX hR => ?_)
  refine z_aload_n hX (D_Tower_weigh (i := 0) rfl) rfl ?_
  refine z_getc hX (D_Tower_weigh (i := 1) rfl) f_Tower_11 rfl (by decide) (by first | exact Nat.one_pos | assumption | omega) rfl ?_
  refine z_getsN (p := 92) hX (D_Tower_weigh (i := 2) rfl) (by decide) (by decide) s_Tower_77 ?_
  refine z_iload_n hX (D_Tower_weigh (i := 3) rfl) rfl ?_
  refine z_tald (p := 92) (j := pr) hX (D_Tower_weigh (i := 4) rfl) (by decide) (by decide) (by decide +kernel) rfl (show pr < 6 by omega) ?_
  rw [p1]
  refine z_aldCubev (j := loN pr) hX (D_Tower_weigh (i := 5) rfl) rfl (by decide) (by first | exact Nat.one_pos | assumption | omega) (by decide) rfl (by omega) ?_
  rw [show (tw mem S).2.2 14 0 (loN pr) = T.getD (loN pr) 0 from a1]
  refine z_astore_n hX (D_Tower_weigh (i := 6) rfl) (by decide) rfl ?_
  refine z_iload_n hX (D_Tower_weigh (i := 7) rfl) rfl ?_
  refine z_bipush (v := 24) hX (D_Tower_weigh (i := 8) rfl) (by decide) ?_
  refine z_imul hX (D_Tower_weigh (i := 9) rfl) ?_
  refine z_bipush (v := 24) hX (D_Tower_weigh (i := 10) rfl) (by decide) ?_
  refine z_imul hX (D_Tower_weigh (i := 11) rfl) ?_
  rw [show nI pr * 24 * 24 = nI (pr * 576) by rw [nlit, pk_mul, pk_mul, Nat.mul_assoc]]
  refine z_istore_n hX (D_Tower_weigh (i := 12) rfl) (by decide) rfl ?_
  refine z_iconst (v := 0) hX (D_Tower_weigh (i := 13) rfl) (by decide) ?_
  refine z_istore hX (D_Tower_weigh (i := 14) rfl) (by decide) rfl ?_
  -- how many sides are wrong, of those below s
  suffices LS : ∀ (d s : Nat) (S1 : Nat → Nat → Int32) (v5 v6 : Option zV), z_isJ (some v5) = false → s + d = 4 → frW pr S S1 → (∀ k, k < 576 → S1 18 (pr * 576 + k) = nI (cnI (wcB Λ C T pr k) s)) → zW ι M_Tower_weigh X 22 [some (zP 9 0), some (zI (nI pr)), some (zP 2 (T.getD (loN pr) 0)), some (zI (nI (pr * 576))), some (zI (nI s)), v5, v6] [] (tw mem S1) from LS 4 0 S none none rfl rfl (fun _ _ _ _ _ => rfl) hz
  intro d
  induction d with
  | zero =>
    intro s S1 v5 v6 hJ hs hf hv
    obtain rfl : s = 4 := hs
    have hw : ∀ k, k < 576 → S1 18 (pr * 576 + k) = nI (wrW Λ C T (loN pr) (hiN pr) (k / 24) (k % 24)) := hv
    refine z_iload hX (D_Tower_weigh (i := 15) rfl) rfl ?_
    refine z_iconst (v := 4) hX (D_Tower_weigh (i := 16) rfl) (by decide) ?_
    refine z_icmp_ge (tgt := 101) hX (D_Tower_weigh (i := 17) rfl) (by decide) (fun _ => ?_) (fun hcc => absurd (Int32.le_refl _) hcc)
    refine z_iconst (v := 4) hX (D_Tower_weigh (i := 60) rfl) (by decide) ?_
    refine z_istore hX (D_Tower_weigh (i := 61) rfl) (by decide) rfl ?_
    refine z_iconst (v := 0) hX (D_Tower_weigh (i := 62) rfl) (by decide) ?_
    refine z_istore hX (D_Tower_weigh (i := 63) rfl) (by decide) rfl ?_
    suffices LM : ∀ (e k m : Nat), k + e = 576 → m ≤ 4 → (∀ k', k' < k → m ≤ wrW Λ C T (loN pr) (hiN pr) (k' / 24) (k' % 24)) → zW ι M_Tower_weigh X 107 [some (zP 9 0), some (zI (nI pr)), some (zP 2 (T.getD (loN pr) 0)), some (zI (nI (pr * 576))), some (zI (nI m)), some (zI (nI k)), v6] [] (tw mem S1) from LM 576 0 4 rfl (Nat.le_refl _) (fun k' hk' => absurd hk' (Nat.not_lt_zero _))
    intro e
    induction e with
    | zero =>
      intro k m hk hm hlow
      obtain rfl : k = 576 := hk
      refine z_iload hX (D_Tower_weigh (i := 64) rfl) rfl ?_
      refine z_sipush (v := 576) hX (D_Tower_weigh (i := 65) rfl) (by decide) ?_
      refine z_icmp_ge (tgt := 137) hX (D_Tower_weigh (i := 66) rfl) (by decide) (fun _ => ?_) (fun hcc => absurd (Int32.le_refl _) hcc)
      refine z_iload hX (D_Tower_weigh (i := 78) rfl) rfl ?_
      refine z_iret hX hR (D_Tower_weigh (i := 79) rfl) rfl (h S1 m hf (fun t u ht hu => ?_) hm (fun t u ht hu => ?_))
      · have := hw (t * 24 + u) (by omega)
        rw [show (t * 24 + u) / 24 = t by omega, show (t * 24 + u) % 24 = u by omega, ← Nat.add_assoc] at this
        exact this
      · have := hlow (t * 24 + u) (by omega)
        rw [show (t * 24 + u) / 24 = t by omega, show (t * 24 + u) % 24 = u by omega] at this
        exact this
    | succ e ihe =>
      intro k m hk hm hlow
      have hk5 : k < 576 := by omega
      have hwl : wrW Λ C T (loN pr) (hiN pr) (k / 24) (k % 24) ≤ 4 := wrW_le _ _ _ _
      refine z_iload hX (D_Tower_weigh (i := 64) rfl) rfl ?_
      refine z_sipush (v := 576) hX (D_Tower_weigh (i := 65) rfl) (by decide) ?_
      refine z_icmp_ge (tgt := 137) hX (D_Tower_weigh (i := 66) rfl) (by decide) (fun hcc => absurd hcc (nI_ge (b := 576) hk5 (by decide))) (fun _ => ?_)
      refine z_iload hX (D_Tower_weigh (i := 67) rfl) rfl ?_
      refine z_aload_n hX (D_Tower_weigh (i := 68) rfl) rfl ?_
      refine z_getc hX (D_Tower_weigh (i := 69) rfl) f_Tower_27 rfl (by decide) (by first | exact Nat.one_pos | assumption | omega) rfl ?_
      refine z_iload_n hX (D_Tower_weigh (i := 70) rfl) rfl ?_
      refine z_iload hX (D_Tower_weigh (i := 71) rfl) rfl ?_
      refine z_iadd hX (D_Tower_weigh (i := 72) rfl) ?_
      refine z_bald (j := pr * 576 + k) hX (D_Tower_weigh (i := 73) rfl) rfl (by decide) (by first | exact Nat.one_pos | assumption | omega) (by decide) (nI_add _ _) (by omega) ?_
      rw [show (tw mem S1).1 18 0 (pr * 576 + k) = _ from hw k hk5]
      refine z_min hX (D_Tower_weigh (i := 74) rfl) l_Tower_152 (by first | decide | omega) (Nat.le_of_ble_eq_true rfl) ?_
      rw [nI_iflt (by omega) (by omega)]
      refine z_istore hX (D_Tower_weigh (i := 75) rfl) (by decide) rfl ?_
      first | refine z_inc1 hX (D_Tower_weigh (i := 76) rfl) rfl (by decide) rfl ?_ | refine z_iinc hX (D_Tower_weigh (i := 76) rfl) rfl rfl (by decide) rfl ?_
      refine z_goto (tgt := 107) hX (D_Tower_weigh (i := 77) rfl) (by decide) ?_
      refine ihe (k + 1) _ (by omega) (by split <;> omega) (fun k' hk' => ?_)
      by_cases e1 : k' = k
      · subst e1
        split <;> omega
      · have := hlow k' (by omega)
        split <;> omega
  | succ d ih =>
    intro s S1 v5 v6 hJ hs hf hv
    have hs4 : s < 4 := by omega
    refine z_iload hX (D_Tower_weigh (i := 15) rfl) rfl ?_
    refine z_iconst (v := 4) hX (D_Tower_weigh (i := 16) rfl) (by decide) ?_
    refine z_icmp_ge (tgt := 101) hX (D_Tower_weigh (i := 17) rfl) (by decide) (fun hcc => absurd hcc (nI_ge (b := 4) hs4 (by decide))) (fun _ => ?_)
    refine z_aload_n hX (D_Tower_weigh (i := 18) rfl) rfl ?_
    refine z_iload_n hX (D_Tower_weigh (i := 19) rfl) rfl ?_
    refine z_iload hX (D_Tower_weigh (i := 20) rfl) rfl ?_
    refine z_cV2 hX (D_Tower_weigh (i := 21) rfl) mi_Tower_findAllowed l_Tower_83 rfl rfl (by decide) (by first | exact Nat.one_pos | assumption | omega) (by first | decide | omega) (Nat.le_of_ble_eq_true rfl) (c_Tower_findAllowed hH (hf.tw hT) hC hM hp hpn hs4 ?_)
    intro S2 hf2 h16
    have f2 : frW pr S S2 := fun p c q1 q2 q3 => (hf2 p c q1 q2).trans (hf p c q1 q2 q3)
    refine z_iconst (v := 0) hX (D_Tower_weigh (i := 22) rfl) (by decide) ?_
    refine z_istore hX (D_Tower_weigh (i := 23) rfl) (by decide) rfl ?_
    suffices LK : ∀ (e k : Nat) (S3 : Nat → Nat → Int32) (v6 : Option zV), k + e = 576 → (∀ p c, p ≠ 18 → S3 p c = S2 p c) → frW pr S S3 → (∀ k', k' < 576 → S3 18 (pr * 576 + k') = nI (cnI (wcB Λ C T pr k') (if k' < k then s + 1 else s))) → zW ι M_Tower_weigh X 38 [some (zP 9 0), some (zI (nI pr)), some (zP 2 (T.getD (loN pr) 0)), some (zI (nI (pr * 576))), some (zI (nI s)), some (zI (nI k)), v6] [] (tw mem S3) from LK 576 0 S2 _ rfl (fun _ _ _ => rfl) f2 (fun k' hk' => by rw [hf2 18 _ (by decide) (by decide), hv k' hk', if_neg (Nat.not_lt_zero _)])
    intro e
    induction e with
    | zero =>
      intro k S3 v6 hk hkeep hf3 hv3
      obtain rfl : k = 576 := hk
      refine z_iload hX (D_Tower_weigh (i := 24) rfl) rfl ?_
      refine z_sipush (v := 576) hX (D_Tower_weigh (i := 25) rfl) (by decide) ?_
      refine z_icmp_ge (tgt := 95) hX (D_Tower_weigh (i := 26) rfl) (by decide) (fun _ => ?_) (fun hcc => absurd (Int32.le_refl _) hcc)
      first | refine z_inc1 hX (D_Tower_weigh (i := 58) rfl) rfl (by decide) rfl ?_ | refine z_iinc hX (D_Tower_weigh (i := 58) rfl) rfl rfl (by decide) rfl ?_
      refine z_goto (tgt := 22) hX (D_Tower_weigh (i := 59) rfl) (by decide) ?_
      refine ih (s + 1) S3 _ _ rfl (by omega) hf3 (fun k' hk' => ?_)
      rw [hv3 k' hk', if_pos hk']
    | succ e ihe =>
      intro k S3 v6 hk hkeep hf3 hv3
      have hk5 : k < 576 := by omega
      have ht24 : k / 24 < 24 := by omega
      have hu24 : k % 24 < 24 := by omega
      obtain ⟨s1, s2⟩ := st_ok (k / 24) ht24 s (by omega)
      obtain ⟨c1, c2⟩ := hC (T.getD (loN pr) 0) a3 _ s2
      have ed : nI k / 24 = nI (k / 24) := pk_div (d := 24) (by omega) (by decide) (by decide)
      have er : nI k - nI k / 24 * 24 = nI (k % 24) := pk_rem (d := 24) (by omega) (by decide) (by decide)
      have hcl := cnI_le (wcB Λ C T pr k) s
      refine z_iload hX (D_Tower_weigh (i := 24) rfl) rfl ?_
      refine z_sipush (v := 576) hX (D_Tower_weigh (i := 25) rfl) (by decide) ?_
      refine z_icmp_ge (tgt := 95) hX (D_Tower_weigh (i := 26) rfl) (by decide) (fun hcc => absurd hcc (nI_ge (b := 576) hk5 (by decide))) (fun _ => ?_)
      refine z_aload_n hX (D_Tower_weigh (i := 27) rfl) rfl ?_
      refine z_getc hX (D_Tower_weigh (i := 28) rfl) f_Tower_21 rfl (by decide) (by first | exact Nat.one_pos | assumption | omega) rfl ?_
      refine z_aload_n hX (D_Tower_weigh (i := 29) rfl) rfl ?_
      refine z_iload hX (D_Tower_weigh (i := 30) rfl) rfl ?_
      refine z_bipush (v := 24) hX (D_Tower_weigh (i := 31) rfl) (by decide) ?_
      refine z_idiv hX (D_Tower_weigh (i := 32) rfl) (by decide) ?_
      rw [ed]
      refine z_iload hX (D_Tower_weigh (i := 33) rfl) rfl ?_
      refine z_cV2 hX (D_Tower_weigh (i := 34) rfl) mi_Cube_seen l_Tower_55 rfl rfl (by decide) (by first | exact Nat.one_pos | assumption | omega) (by first | decide | omega) (Nat.le_of_ble_eq_true rfl) (c_Cube_seen hH a3 ht24 (by omega) ?_)
      rw [show (tw mem S3).1 3 (T.getD (loN pr) 0) (stN (k / 24) s) = nI (C (T.getD (loN pr) 0) (stN (k / 24) s)) from c1]
      refine z_iald (j := C (T.getD (loN pr) 0) (stN (k / 24) s)) hX (D_Tower_weigh (i := 35) rfl) rfl (by decide) (by first | exact Nat.one_pos | assumption | omega) (by decide) rfl (by omega) ?_
      rw [show (tw mem S3).1 16 0 (C (T.getD (loN pr) 0) (stN (k / 24) s)) = _ from (hkeep 16 _ (by decide)).trans (h16 _ s2)]
      refine z_istore hX (D_Tower_weigh (i := 36) rfl) (by decide) rfl ?_
      refine z_aload_n hX (D_Tower_weigh (i := 37) rfl) rfl ?_
      refine z_getc hX (D_Tower_weigh (i := 38) rfl) f_Tower_27 rfl (by decide) (by first | exact Nat.one_pos | assumption | omega) rfl ?_
      refine z_iload_n hX (D_Tower_weigh (i := 39) rfl) rfl ?_
      refine z_iload hX (D_Tower_weigh (i := 40) rfl) rfl ?_
      refine z_iadd hX (D_Tower_weigh (i := 41) rfl) ?_
      refine z_dup2 hX (D_Tower_weigh (i := 42) rfl) ?_
      refine z_bald (j := pr * 576 + k) hX (D_Tower_weigh (i := 43) rfl) rfl (by decide) (by first | exact Nat.one_pos | assumption | omega) (by decide) (nI_add _ _) (by omega) ?_
      rw [show (tw mem S3).1 18 0 (pr * 576 + k) = _ from hv3 k hk5, if_neg (Nat.lt_irrefl _)]
      refine z_iconst (v := 1) hX (D_Tower_weigh (i := 44) rfl) (by decide) ?_
      refine z_iload hX (D_Tower_weigh (i := 45) rfl) rfl ?_
      refine z_iload hX (D_Tower_weigh (i := 46) rfl) rfl ?_
      refine z_bipush (v := 24) hX (D_Tower_weigh (i := 47) rfl) (by decide) ?_
      refine z_irem hX (D_Tower_weigh (i := 48) rfl) (by decide) ?_
      rw [er]
      refine z_ishr hX (D_Tower_weigh (i := 49) rfl) ?_
      refine z_iconst (v := 1) hX (D_Tower_weigh (i := 50) rfl) (by decide) ?_
      refine z_iand hX (D_Tower_weigh (i := 51) rfl) ?_
      rw [bit_mk hu24]
      refine z_isub hX (D_Tower_weigh (i := 52) rfl) ?_
      refine z_iadd hX (D_Tower_weigh (i := 53) rfl) ?_
      rw [bI_neg, nI_add]
      refine z_i2b hX (D_Tower_weigh (i := 54) rfl) ?_
      refine z_bast (j := pr * 576 + k) hX (D_Tower_weigh (i := 55) rfl) rfl (by decide) (by first | exact Nat.one_pos | assumption | omega) (by decide) (nI_add _ _) (by omega) ?_
      rw [show (nI (cnI (wcB Λ C T pr k) s + (wcB Λ C T pr k s).toNat)).toInt8.toInt32.toInt8.toInt32 = nI (cnI (wcB Λ C T pr k) (s + 1)) from by8_nI _ (Nat.lt_of_le_of_lt (cnI_le (wcB Λ C T pr k) (s + 1)) (by omega)), tw_up rfl]
      first | refine z_inc1 hX (D_Tower_weigh (i := 56) rfl) rfl (by decide) rfl ?_ | refine z_iinc hX (D_Tower_weigh (i := 56) rfl) rfl rfl (by decide) rfl ?_
      refine z_goto (tgt := 38) hX (D_Tower_weigh (i := 57) rfl) (by decide) ?_
      refine ihe (k + 1) _ _ (by omega) (fun p c h1 => by rw [sU_ne (Or.inl h1)]; exact hkeep p c h1) (fun p c h1 h2 h3 => by rw [sU_ne (by omega)]; exact hf3 p c h1 h2 h3) (fun k' hk' => ?_)
      by_cases et : k' = k
      · subst et
        rw [sU_at, if_pos (Nat.lt_succ_self _)]
      · rw [sU_ne (by omega), hv3 k' hk']
        by_cases e2 : k' < k
        · rw [if_pos e2, if_pos (by omega)]
        · rw [if_neg e2, if_neg (by omega)]
def SC (S : Nat → Nat → Int32) (n : Nat) (wr : Nat → Nat → Nat → Nat → Nat) : Prop := ∀ i j t u, i < j → j < n → t < 24 → u < 24 → S 18 (prN i j * 576 + t * 24 + u) = nI (wr i j t u)
theorem c_Tower_costOf (hH : zHas ι pX) {j t : Nat} {f : Nat → Nat} (hj : j < n) (hn : n ≤ 4) (ht : t < 24) (hS : SC S n wr) (hf : ∀ i, i < j → S 13 i = nI (f i) ∧ f i < 24) (h : Post (some (zI (nI (csW wr j f t)))) (tw mem S)) : zC l ι M_Tower_costOf 1 [zP 9 0, zI (nI j), zI (nI t)] (tw mem S) Post := by
  refine z_enter hH (by decide) (by simp [z_ent, M_Tower_costOf]) (fun X hXl hX hR => ?_)
  refine z_iconst (v := 0) hX (D_Tower_costOf (i := 0) rfl) (by decide) ?_
  refine z_istore_n hX (D_Tower_costOf (i := 1) rfl) (by decide) rfl ?_
  refine z_iconst (v := 0) hX (D_Tower_costOf (i := 2) rfl) (by decide) ?_
  refine z_istore hX (D_Tower_costOf (i := 3) rfl) (by decide) rfl ?_
  suffices LP : ∀ (d i : Nat), i + d = j → zW ι M_Tower_costOf X 5 [some (zP 9 0), some (zI (nI j)), some (zI (nI t)), some (zI (nI (sumI (fun i => wr i j (f i) t) i))), some (zI (nI i))] [] (tw mem S) from LP j 0 (Nat.zero_add _)
  intro d
  induction d with
  | zero =>
    intro i hi
    obtain rfl : i = j := hi
    refine z_iload hX (D_Tower_costOf (i := 4) rfl) rfl ?_
    refine z_iload_n hX (D_Tower_costOf (i := 5) rfl) rfl ?_
    refine z_icmp_ge (tgt := 50) hX (D_Tower_costOf (i := 6) rfl) (by decide) (fun _ => ?_) (fun hcc => absurd (Int32.le_refl _) hcc)
    refine z_iload_n hX (D_Tower_costOf (i := 30) rfl) rfl ?_
    exact z_iret hX hR (D_Tower_costOf (i := 31) rfl) rfl h
  | succ d ih =>
    intro i hi
    have hij : i < j := by omega
    have hp := pr_ok j (by omega) i hij
    have hfi := (hf i hij).2
    refine z_iload hX (D_Tower_costOf (i := 4) rfl) rfl ?_
    refine z_iload_n hX (D_Tower_costOf (i := 5) rfl) rfl ?_
    refine z_icmp_ge (tgt := 50) hX (D_Tower_costOf (i := 6) rfl) (by decide) (fun hcc => absurd hcc (nI_ge hij (by omega))) (fun _ => ?_)
    refine z_iload_n hX (D_Tower_costOf (i := 7) rfl) rfl ?_
    refine z_aload_n hX (D_Tower_costOf (i := 8) rfl) rfl ?_
    refine z_getc hX (D_Tower_costOf (i := 9) rfl) f_Tower_27 rfl (by decide) (by first | exact Nat.one_pos | assumption | omega) rfl ?_
    refine z_iload hX (D_Tower_costOf (i := 10) rfl) rfl ?_
    refine z_iload_n hX (D_Tower_costOf (i := 11) rfl) rfl ?_
    refine z_cS2 hX (D_Tower_costOf (i := 12) rfl) ms_Search_pairOf l_Tower_59 (by first | decide | omega) (Nat.le_of_ble_eq_true rfl) (c_Search_pairOf hij (by omega) ?_)
    refine z_bipush (v := 24) hX (D_Tower_costOf (i := 13) rfl) (by decide) ?_
    refine z_imul hX (D_Tower_costOf (i := 14) rfl) ?_
    refine z_aload_n hX (D_Tower_costOf (i := 15) rfl) rfl ?_
    refine z_getc hX (D_Tower_costOf (i := 16) rfl) f_Tower_41 rfl (by decide) (by first | exact Nat.one_pos | assumption | omega) rfl ?_
    refine z_getc hX (D_Tower_costOf (i := 17) rfl) f_Tower_125 rfl (by decide) (by first | exact Nat.one_pos | assumption | omega) rfl ?_
    refine z_iload hX (D_Tower_costOf (i := 18) rfl) rfl ?_
    refine z_iald (j := i) hX (D_Tower_costOf (i := 19) rfl) rfl (by decide) (by first | exact Nat.one_pos | assumption | omega) (by decide) rfl (by omega) ?_
    rw [show (tw mem S).1 13 0 i = nI (f i) from (hf i hij).1]
    refine z_iadd hX (D_Tower_costOf (i := 20) rfl) ?_
    refine z_bipush (v := 24) hX (D_Tower_costOf (i := 21) rfl) (by decide) ?_
    refine z_imul hX (D_Tower_costOf (i := 22) rfl) ?_
    refine z_iload_n hX (D_Tower_costOf (i := 23) rfl) rfl ?_
    refine z_iadd hX (D_Tower_costOf (i := 24) rfl) ?_
    refine z_bald (j := prN i j * 576 + f i * 24 + t) hX (D_Tower_costOf (i := 25) rfl) rfl (by decide) (by first | exact Nat.one_pos | assumption | omega) (by decide) (by simp only [nlit, pk_mul, nI_add]; congr 1; omega) (by omega) ?_
    rw [show (tw mem S).1 18 0 (prN i j * 576 + f i * 24 + t) = nI (wr i j (f i) t) from hS i j (f i) t hij hj hfi ht]
    refine z_iadd hX (D_Tower_costOf (i := 26) rfl) ?_
    rw [nI_add]
    refine z_istore_n hX (D_Tower_costOf (i := 27) rfl) (by decide) rfl ?_
    first | refine z_inc1 hX (D_Tower_costOf (i := 28) rfl) rfl (by decide) rfl ?_ | refine z_iinc hX (D_Tower_costOf (i := 28) rfl) rfl rfl (by decide) rfl ?_
    refine z_goto (tgt := 5) hX (D_Tower_costOf (i := 29) rfl) (by decide) ?_
    exact ih (i + 1) (by omega)
def frN (S S' : Nat → Nat → Int32) : Prop := ∀ p c, p ≠ 13 → ¬ (p = 9 ∧ c = 10) → S' p c = S p c
theorem frN.trans {A B D : Nat → Nat → Int32} (h : frN A B) (h2 : frN B D) : frN A D := fun p c q1 q2 => (h2 p c q1 q2).trans (h p c q1 q2)
theorem c_Tower_descend (hH : zHas ι pX) (hn : n ≤ 4) (hwr : ∀ i j t u, wr i j t u ≤ 4) {A : Nat → Nat} (hA : ∀ d j f, j + d = n → (∀ i, i < j → f i < 24) → A j ≤ mnS tr wr d j f) (hA2 : ∀ j, j ≤ n → A j ≤ 100) : ∀ (d j : Nat) (f : Nat → Nat) (S : Nat → Nat → Int32) (sum L : Nat) (Post : Option zV → zM → Prop), j + d = n → S 9 5 = nI n → (∀ i, i < n → S 11 i = mkI (tr i) 24) → SC S n wr → (∀ i, i ≤ n → S 19 i = nI (A i)) → sum ≤ 100 * j → L ≤ 25 → S 9 10 = nI L → (∀ i, i < j → S 13 i = nI (f i) ∧ f i < 24) → (∀ S', frN S S' → (∀ i, i < j → S' 13 i = S 13 i) → S' 9 10 = nI (mi L (sum + mnS tr wr d j f)) → Post none (tw mem S')) → zC l ι M_Tower_descend (2 + d) [zP 9 0, zI (nI j), zI (nI sum)] (tw mem S) Post := by
  intro d
  induction d with
  | zero =>
    intro j f S sum L Post hj h5 h11 hS h19 hsum hL h10 hf h
    obtain rfl : j = n := hj
    have hAj := hA2 j (Nat.le_refl _)
    have hA0 : A j = 0 := Nat.le_zero.mp (hA 0 j f rfl (fun i hi => (hf i hi).2))
    refine z_enter hH (by decide) (by simp [z_ent, M_Tower_descend]) (fun X hXl hX hR => ?_)
    refine z_iload_n hX (D_Tower_descend (i := 0) rfl) rfl ?_
    refine z_aload_n hX (D_Tower_descend (i := 1) rfl) rfl ?_
    refine z_getc hX (D_Tower_descend (i := 2) rfl) f_Tower_31 rfl (by decide) (by first | exact Nat.one_pos | assumption | omega) rfl ?_
    refine z_iload_n hX (D_Tower_descend (i := 3) rfl) rfl ?_
    refine z_iald (j := j) hX (D_Tower_descend (i := 4) rfl) rfl (by decide) (by first | exact Nat.one_pos | assumption | omega) (by decide) rfl (by omega) ?_
    rw [show (tw mem S).1 19 0 j = nI (A j) from h19 j (Nat.le_refl _), hA0]
    refine z_iadd hX (D_Tower_descend (i := 5) rfl) ?_
    refine z_aload_n hX (D_Tower_descend (i := 6) rfl) rfl ?_
    refine z_geti hX (D_Tower_descend (i := 7) rfl) f_Tower_146 rfl (by decide) (by first | exact Nat.one_pos | assumption | omega) rfl ?_
    rw [show (tw mem S).1 9 0 10 = nI L from h10, nI_add]
    refine z_icmp_lt (tgt := 16) hX (D_Tower_descend (i := 8) rfl) (by decide) (fun h1 => ?_) (fun h1 => ?_)
    · refine z_iload_n hX (D_Tower_descend (i := 10) rfl) rfl ?_
      refine z_aload_n hX (D_Tower_descend (i := 11) rfl) rfl ?_
      refine z_geti hX (D_Tower_descend (i := 12) rfl) f_Tower_45 rfl (by decide) (by first | exact Nat.one_pos | assumption | omega) rfl ?_
      rw [show (tw mem S).1 9 0 5 = nI j from h5]
      refine z_icmp_lt (tgt := 30) hX (D_Tower_descend (i := 13) rfl) (by decide) (fun hcc => absurd hcc ((fun w => absurd w (nI_nlt (Nat.le_refl _) (by omega))))) (fun _ => ?_)
      refine z_aload_n hX (D_Tower_descend (i := 14) rfl) rfl ?_
      refine z_iload_n hX (D_Tower_descend (i := 15) rfl) rfl ?_
      refine z_puti hX (D_Tower_descend (i := 16) rfl) g_Tower_146 rfl (by decide) (by first | exact Nat.one_pos | assumption | omega) rfl ?_
      rw [tw_up rfl]
      have hlt : sum + 0 < L := (nI_ltI (by omega) (by omega)).mp h1
      refine z_ret hX hR (D_Tower_descend (i := 17) rfl) rfl (h _ (fun p c q1 q2 => sU_ne (by omega)) (fun i hi => sU_ne (by omega)) ?_)
      rw [sU_at]
      show _ = nI (mi L (sum + 0))
      rw [mi, if_pos hlt]; rfl
    · skip
      have hge : L ≤ sum + 0 := Nat.le_of_not_lt (fun w => h1 (nI_lt w (by omega)))
      refine z_ret hX hR (D_Tower_descend (i := 9) rfl) rfl (h S (fun _ _ _ _ => rfl) (fun _ _ => rfl) ?_)
      show _ = nI (mi L (sum + 0))
      rw [mi, if_neg (by omega)]; exact h10
  | succ d ih =>
    intro j f S sum L Post hj h5 h11 hS h19 hsum hL h10 hf h
    have hjn : j < n := by omega
    have hAj := hA2 j (by omega)
    refine z_enter hH (by decide) (by simp [z_ent, M_Tower_descend]) (fun X hXl hX hR => ?_)
    subst hXl
    refine z_iload_n hX (D_Tower_descend (i := 0) rfl) rfl ?_
    refine z_aload_n hX (D_Tower_descend (i := 1) rfl) rfl ?_
    refine z_getc hX (D_Tower_descend (i := 2) rfl) f_Tower_31 rfl (by decide) (by first | exact Nat.one_pos | assumption | omega) rfl ?_
    refine z_iload_n hX (D_Tower_descend (i := 3) rfl) rfl ?_
    refine z_iald (j := j) hX (D_Tower_descend (i := 4) rfl) rfl (by decide) (by first | exact Nat.one_pos | assumption | omega) (by decide) rfl (by omega) ?_
    rw [show (tw mem S).1 19 0 j = nI (A j) from h19 j (by omega)]
    refine z_iadd hX (D_Tower_descend (i := 5) rfl) ?_
    refine z_aload_n hX (D_Tower_descend (i := 6) rfl) rfl ?_
    refine z_geti hX (D_Tower_descend (i := 7) rfl) f_Tower_146 rfl (by decide) (by first | exact Nat.one_pos | assumption | omega) rfl ?_
    rw [show (tw mem S).1 9 0 10 = nI L from h10, nI_add]
    refine z_icmp_lt (tgt := 16) hX (D_Tower_descend (i := 8) rfl) (by decide) (fun h1 => ?_) (fun h1 => ?_)
    · refine z_iload_n hX (D_Tower_descend (i := 10) rfl) rfl ?_
      refine z_aload_n hX (D_Tower_descend (i := 11) rfl) rfl ?_
      refine z_geti hX (D_Tower_descend (i := 12) rfl) f_Tower_45 rfl (by decide) (by first | exact Nat.one_pos | assumption | omega) rfl ?_
      rw [show (tw mem S).1 9 0 5 = nI n from h5]
      refine z_icmp_lt (tgt := 30) hX (D_Tower_descend (i := 13) rfl) (by decide) (fun _ => ?_) (fun hcc => absurd (nI_lt hjn (by omega)) hcc)
      refine z_iconst (v := 0) hX (D_Tower_descend (i := 18) rfl) (by decide) ?_
      refine z_istore_n hX (D_Tower_descend (i := 19) rfl) (by decide) rfl ?_
      suffices LP : ∀ (m t : Nat) (S1 : Nat → Nat → Int32), t + m = 24 → frN S S1 → (∀ i, i < j → S1 13 i = S 13 i) → S1 9 10 = nI (mi L (sum + mnF (tr j) (fun t => csW wr j f t + mnS tr wr d (j + 1) (fN f j t)) t)) → zW ι M_Tower_descend X 32 [some (zP 9 0), some (zI (nI j)), some (zI (nI sum)), some (zI (nI t))] [] (tw mem S1) from LP 24 0 S rfl (fun _ _ _ _ => rfl) (fun _ _ => rfl) (by rw [mnF, mi_big (by omega)]; exact h10)
      intro m
      induction m with
      | zero =>
        intro t S1 ht hfr hsm hl
        obtain rfl : t = 24 := ht
        refine z_iload_n hX (D_Tower_descend (i := 20) rfl) rfl ?_
        refine z_bipush (v := 24) hX (D_Tower_descend (i := 21) rfl) (by decide) ?_
        refine z_icmp_ge (tgt := 85) hX (D_Tower_descend (i := 22) rfl) (by decide) (fun _ => ?_) (fun hcc => absurd (Int32.le_refl _) hcc)
        exact z_ret hX hR (D_Tower_descend (i := 52) rfl) rfl (h S1 hfr hsm hl)
      | succ m ihm =>
        intro t S1 ht hfr hsm hl
        have ht24 : t < 24 := by omega
        refine z_iload_n hX (D_Tower_descend (i := 20) rfl) rfl ?_
        refine z_bipush (v := 24) hX (D_Tower_descend (i := 21) rfl) (by decide) ?_
        refine z_icmp_ge (tgt := 85) hX (D_Tower_descend (i := 22) rfl) (by decide) (fun hcc => absurd hcc (nI_ge (b := 24) ht24 (by decide))) (fun _ => ?_)
        refine z_aload_n hX (D_Tower_descend (i := 23) rfl) rfl ?_
        refine z_getc hX (D_Tower_descend (i := 24) rfl) f_Tower_41 rfl (by decide) (by first | exact Nat.one_pos | assumption | omega) rfl ?_
        refine z_getc hX (D_Tower_descend (i := 25) rfl) f_Tower_68 rfl (by decide) (by first | exact Nat.one_pos | assumption | omega) rfl ?_
        refine z_iload_n hX (D_Tower_descend (i := 26) rfl) rfl ?_
        refine z_iald (j := j) hX (D_Tower_descend (i := 27) rfl) rfl (by decide) (by first | exact Nat.one_pos | assumption | omega) (by decide) rfl (by omega) ?_
        rw [show (tw mem S1).1 11 0 j = mkI (tr j) 24 from (hfr 11 j (by decide) (by omega)).trans (h11 j hjn)]
        refine z_iload_n hX (D_Tower_descend (i := 28) rfl) rfl ?_
        refine z_ishr hX (D_Tower_descend (i := 29) rfl) ?_
        refine z_iconst (v := 1) hX (D_Tower_descend (i := 30) rfl) (by decide) ?_
        refine z_iand hX (D_Tower_descend (i := 31) rfl) ?_
        rw [bit_mk ht24]
        cases hb : tr j t with
        | false =>
          refine z_if_eq (tgt := 79) hX (D_Tower_descend (i := 32) rfl) (by decide) (fun _ => ?_) (fun hcc => absurd (rfl) hcc)
          first | refine z_inc1 hX (D_Tower_descend (i := 50) rfl) rfl (by decide) rfl ?_ | refine z_iinc hX (D_Tower_descend (i := 50) rfl) rfl rfl (by decide) rfl ?_
          refine z_goto (tgt := 32) hX (D_Tower_descend (i := 51) rfl) (by decide) ?_
          refine ihm (t + 1) S1 (by omega) hfr hsm ?_
          rw [mnF, hb]; exact hl
        | true =>
          refine z_if_eq (tgt := 79) hX (D_Tower_descend (i := 32) rfl) (by decide) (fun hcc => absurd hcc (by decide)) (fun _ => ?_)
          refine z_aload_n hX (D_Tower_descend (i := 33) rfl) rfl ?_
          refine z_getc hX (D_Tower_descend (i := 34) rfl) f_Tower_41 rfl (by decide) (by first | exact Nat.one_pos | assumption | omega) rfl ?_
          refine z_getc hX (D_Tower_descend (i := 35) rfl) f_Tower_125 rfl (by decide) (by first | exact Nat.one_pos | assumption | omega) rfl ?_
          refine z_iload_n hX (D_Tower_descend (i := 36) rfl) rfl ?_
          refine z_iload_n hX (D_Tower_descend (i := 37) rfl) rfl ?_
          refine z_iast (j := j) hX (D_Tower_descend (i := 38) rfl) rfl (by decide) (by first | exact Nat.one_pos | assumption | omega) (by decide) rfl (by omega) ?_
          rw [tw_up rfl]
          refine z_aload_n hX (D_Tower_descend (i := 39) rfl) rfl ?_
          refine z_iload_n hX (D_Tower_descend (i := 40) rfl) rfl ?_
          refine z_iconst (v := 1) hX (D_Tower_descend (i := 41) rfl) (by decide) ?_
          refine z_iadd hX (D_Tower_descend (i := 42) rfl) ?_
          refine z_iload_n hX (D_Tower_descend (i := 43) rfl) rfl ?_
          refine z_aload_n hX (D_Tower_descend (i := 44) rfl) rfl ?_
          refine z_iload_n hX (D_Tower_descend (i := 45) rfl) rfl ?_
          refine z_iload_n hX (D_Tower_descend (i := 46) rfl) rfl ?_
          have f1 : frN S (sU S1 13 j (nI t)) := fun p c q1 q2 => by rw [sU_ne (Or.inl q1)]; exact hfr p c q1 q2
          have SC1 : SC (sU S1 13 j (nI t)) n wr := fun i' j' t' u' q1 q2 q3 q4 => (f1 18 _ (by decide) (by omega)).trans (hS i' j' t' u' q1 q2 q3 q4)
          have hcs : csW wr j f t ≤ 4 * j := sumI_le (fun k _ => hwr _ _ _ _)
          refine z_cV2 hX (D_Tower_descend (i := 47) rfl) mi_Tower_costOf l_Tower_157 rfl rfl (by decide) (by first | exact Nat.one_pos | assumption | omega) (by first | decide | omega) (Nat.le_of_ble_eq_true rfl) (c_Tower_costOf (f := f) hH hjn hn ht24 SC1 (fun i hi => by rw [sU_ne (by omega), hsm i hi]; exact hf i hi) ?_)
          refine z_iadd hX (D_Tower_descend (i := 48) rfl) ?_
          rw [show nI j + 1 = nI (j + 1) from nI_add j 1, nI_add]
          refine z_cV2 hX (D_Tower_descend (i := 49) rfl) mi_Tower_descend l_Tower_149 rfl rfl (by decide) (by first | exact Nat.one_pos | assumption | omega) (by first | decide | omega) (Nat.le_of_ble_eq_true rfl) (ih (j + 1) (fN f j t) _ (sum + csW wr j f t) _ _ (by omega) ((f1 9 5 (by decide) (by decide)).trans h5) (fun i hi => (f1 11 i (by decide) (by omega)).trans (h11 i hi)) SC1 (fun i hi => (f1 19 i (by decide) (by omega)).trans (h19 i hi)) (by omega) (Nat.le_trans (mi_le _ _) hL) (by rw [sU_ne (by omega)]; exact hl) ?_ ?_)
          · intro i hi
            by_cases e : i = j
            · subst e
              rw [sU_at, fN_at]; exact ⟨rfl, ht24⟩
            · rw [sU_ne (Or.inr e), fN_ne e, hsm i (by omega)]; exact hf i (by omega)
          · intro S2 hf2 hs2 hl2
            first | refine z_inc1 hX (D_Tower_descend (i := 50) rfl) rfl (by decide) rfl ?_ | refine z_iinc hX (D_Tower_descend (i := 50) rfl) rfl rfl (by decide) rfl ?_
            refine z_goto (tgt := 32) hX (D_Tower_descend (i := 51) rfl) (by decide) ?_
            refine ihm (t + 1) S2 (by omega) (frN.trans f1 hf2) (fun i hi => by rw [hs2 i (by omega), sU_ne (Or.inr (by omega)), hsm i hi]) ?_
            rw [hl2, mi_step, mnF, if_pos hb]
    · skip
      have hge : L ≤ sum + A j := Nat.le_of_not_lt (fun w => h1 (nI_lt w (by omega)))
      refine z_ret hX hR (D_Tower_descend (i := 9) rfl) rfl (h S (fun _ _ _ _ => rfl) (fun _ _ => rfl) ?_)
      rw [mi_prune hge (hA (d + 1) j f hj (fun i hi => (hf i hi).2))]; exact h10
end T7
