/-! a search for turnings, place after place; as the class does it -/
def sumI (f : Nat → Nat) : Nat → Nat
  | 0 => 0
  | n + 1 => sumI f n + f n
theorem sumI_cong {f g : Nat → Nat} : ∀ {n : Nat}, (∀ k, k < n → f k = g k) → sumI f n = sumI g n
  | 0, _ => rfl
  | n + 1, h => by rw [sumI, sumI, h n (by omega), sumI_cong (fun k hk => h k (by omega))]
theorem sumI_cn (f : Nat → Bool) : ∀ n, sumI (fun t => if f t = true then 1 else 0) n = cnI f n
  | 0 => rfl
  | n + 1 => by rw [sumI, cnI, sumI_cn f n]; cases f n <;> rfl
def fN (f : Nat → Nat) (j t : Nat) : Nat → Nat := fun i => if i = j then t else f i
theorem fN_at {f : Nat → Nat} {j t : Nat} : fN f j t j = t := if_pos rfl
theorem fN_ne {f : Nat → Nat} {j t i : Nat} (h : i ≠ j) : fN f j t i = f i := if_neg h
def frI {α : Type} (g : Nat → Option α) : Nat → Nat → Option α
  | _, 0 => none
  | t, m + 1 => match g t with
    | some a => some a
    | none => frI g (t + 1) m
theorem frI_cong {α : Type} {g h : Nat → Option α} : ∀ {m t : Nat}, (∀ k, t ≤ k → k < t + m → g k = h k) → frI g t m = frI h t m
  | 0, _, _ => rfl
  | m + 1, t, e => by rw [frI, frI, e t (Nat.le_refl _) (by omega), frI_cong (fun k h1 h2 => e k (by omega) (by omega))]
section S0
variable (tr : Nat → Nat → Bool) (fp : Nat → Nat → Nat → Nat → Bool)
def okS (j : Nat) (f : Nat → Nat) (u : Nat) : Bool := tr j u && alI (fun i => fp i j (f i) u) j
def cntS : Nat → Nat → (Nat → Nat) → Nat
  | 0, _, _ => 1
  | d + 1, j, f => sumI (fun t => if okS tr fp j f t = true then cntS d (j + 1) (fN f j t) else 0) 24
def fstS : Nat → Nat → (Nat → Nat) → Option (Nat → Nat)
  | 0, _, f => some f
  | d + 1, j, f => frI (fun t => if okS tr fp j f t = true then fstS d (j + 1) (fN f j t) else none) 0 24
end S0
def stB (a : Nat) : Bool := decide (9 ≤ a ∧ a ≤ 22)
def tw (mem : zM) (S : Nat → Nat → Int32) : zM := (fun a b c => if stB a = true ∧ b = 0 then S a c else mem.1 a b c, mem.2)
theorem tw_self (mem : zM) : tw mem (fun a c => mem.1 a 0 c) = mem := by
  refine Prod.ext ?_ rfl
  funext a b c
  simp only [tw]
  split
  · next h => rw [h.2]
  · rfl
theorem tw_up {mem : zM} {S : Nat → Nat → Int32} {p j : Nat} {v : Int32} (h : stB p = true) : upI (tw mem S) p 0 j v = tw mem (sU S p j v) := by
  refine Prod.ext ?_ rfl
  funext a b c
  rw [upI_get]
  simp only [tw, sU]
  by_cases e : a = p ∧ b = 0 ∧ c = j
  · obtain ⟨rfl, rfl, rfl⟩ := e
    rw [if_pos ⟨rfl, rfl, rfl⟩, if_pos ⟨h, rfl⟩, if_pos ⟨rfl, rfl⟩]
  · rw [if_neg e]
    by_cases g : stB a = true ∧ b = 0
    · rw [if_pos g, if_pos g, if_neg (fun w => e ⟨w.1, g.2, w.2⟩)]
    · rw [if_neg g, if_neg g]
theorem tw_out {mem : zM} {S : Nat → Nat → Int32} {p k j : Nat} {v : Int32} (h : stB p = false) : upI (tw mem S) p k j v = tw (upI mem p k j v) S := by
  refine Prod.ext ?_ rfl
  funext a b c
  rw [upI_get]
  simp only [tw]
  rw [upI_get]
  by_cases e : a = p ∧ b = k ∧ c = j
  · obtain ⟨rfl, rfl, rfl⟩ := e
    rw [if_pos ⟨rfl, rfl, rfl⟩, if_neg (fun w => by rw [w.1] at h; cases h), if_pos ⟨rfl, rfl, rfl⟩]
  · rw [if_neg e, if_neg e]
theorem tw_tw {mem : zM} {S S2 : Nat → Nat → Int32} : tw (tw mem S) S2 = tw mem S2 := by
  refine Prod.ext ?_ rfl
  funext a b c
  simp only [tw]
  split
  · rfl
  · rfl
theorem tw_fl {mem : zM} {S : Nat → Nat → Int32} {p N : Nat} {v : Int32} (h : stB p = true) : flI (tw mem S) p 0 N v = tw mem (fun a c => if a = p ∧ c < N then v else S a c) := by
  refine Prod.ext ?_ rfl
  funext a b c
  simp only [tw, flI]
  by_cases e : a = p ∧ b = 0 ∧ c < N
  · obtain ⟨rfl, rfl, h3⟩ := e
    rw [if_pos ⟨rfl, rfl, h3⟩, if_pos ⟨h, rfl⟩, if_pos ⟨rfl, h3⟩]
  · rw [if_neg e]
    by_cases g : stB a = true ∧ b = 0
    · rw [if_pos g, if_pos g, if_neg (fun w => e ⟨w.1, g.2, w.2⟩)]
    · rw [if_neg g, if_neg g]
def fr13 (S S' : Nat → Nat → Int32) : Prop := ∀ p c, p ≠ 13 → S' p c = S p c
theorem fr13.tr {A B C : Nat → Nat → Int32} (h : fr13 A B) (h2 : fr13 B C) : fr13 A C := fun p c q => (h2 p c q).trans (h p c q)
theorem fr13_up {S : Nat → Nat → Int32} {j : Nat} {v : Int32} : fr13 S (sU S 13 j v) := fun p c h => sU_ne (Or.inl h)
def prN (i j : Nat) : Nat := j * (j - 1) / 2 + i
theorem pr_ok : ∀ j, j < 4 → ∀ i, i < j → nI j * (nI j - 1) / 2 + nI i = nI (prN i j) ∧ prN i j < 6 ∧ loN (prN i j) = i ∧ hiN (prN i j) = j := by decide +kernel
/-- the search's rows -/
def SR (S : Nat → Nat → Int32) (n : Nat) (tr : Nat → Nat → Bool) (fp : Nat → Nat → Nat → Nat → Bool) : Prop := S 10 0 = nI n ∧ n ≤ 4 ∧ (∀ i, i < n → S 11 i = mkI (tr i) 24) ∧ ∀ i j t, i < j → j < n → t < 24 → S 12 (prN i j * 24 + t) = mkI (fp i j t) 24
theorem SR.fr {S S' : Nat → Nat → Int32} {n : Nat} {tr : Nat → Nat → Bool} {fp : Nat → Nat → Nat → Nat → Bool} (h : SR S n tr fp) (hf : fr13 S S') : SR S' n tr fp := ⟨by rw [hf 10 0 (by decide)]; exact h.1, h.2.1, fun i hi => by rw [hf 11 i (by decide)]; exact h.2.2.1 i hi, fun i j t h1 h2 h3 => by rw [hf 12 _ (by decide)]; exact h.2.2.2 i j t h1 h2 h3⟩
section T1
variable {l : Launch} {ι : zE} {mem : zM} {Post : Option zV → zM → Prop} {S : Nat → Nat → Int32} {n : Nat} {tr : Nat → Nat → Bool} {fp : Nat → Nat → Nat → Nat → Bool}
theorem c_Search_pairOf {i j : Nat} (hi : i < j) (hj : j < 4) (h : Post (some (zI (nI (prN i j)))) mem) : zC l ι M_Search_pairOf 0 [zI (nI i), zI (nI j)] mem Post := by
  have hH : zHas ι [] := zHas.nil
  have e := (pr_ok j hj i hi).1
  refine z_enter hH (by decide) (by simp [z_ent, M_Search_pairOf]) (fun X hXl hX hR => ?_)
  refine z_iload_n hX (D_Search_pairOf (i := 0) rfl) rfl ?_
  refine z_iload_n hX (D_Search_pairOf (i := 1) rfl) rfl ?_
  refine z_iconst (v := 1) hX (D_Search_pairOf (i := 2) rfl) (by decide) ?_
  refine z_isub hX (D_Search_pairOf (i := 3) rfl) ?_
  refine z_imul hX (D_Search_pairOf (i := 4) rfl) ?_
  refine z_iconst (v := 2) hX (D_Search_pairOf (i := 5) rfl) (by decide) ?_
  refine z_idiv hX (D_Search_pairOf (i := 6) rfl) (by decide) ?_
  refine z_iload_n hX (D_Search_pairOf (i := 7) rfl) rfl ?_
  refine z_iadd hX (D_Search_pairOf (i := 8) rfl) ?_
  exact z_iret hX hR (D_Search_pairOf (i := 9) rfl) rfl (by rw [e]; exact h)
def fiM (S : Nat → Nat → Int32) (b k : Nat) (v : Int32) : Nat → Nat → Int32 := fun a c => if a = 12 ∧ b ≤ c ∧ c < b + k then v else S a c
theorem c_Search_fitAny (hH : zHas ι pX) {pr : Nat} (hp : pr < 6) (h : Post none (tw mem (fiM S (pr * 24) 24 16777215))) : zC l ι M_Search_fitAny 0 [zP 10 0, zI (nI pr)] (tw mem S) Post := by
  refine z_enter hH (by decide) (by simp [z_ent, M_Search_fitAny]) (fun X hXl hX hR => ?_)
  refine z_iconst (v := 0) hX (D_Search_fitAny (i := 0) rfl) (by decide) ?_
  refine z_istore_n hX (D_Search_fitAny (i := 1) rfl) (by decide) rfl ?_
  suffices H : ∀ (d t : Nat), t + d = 24 → zW ι M_Search_fitAny X 2 [some (zP 10 0), some (zI (nI pr)), some (zI (nI t))] [] (tw mem (fiM S (pr * 24) t 16777215)) by
    have e : fiM S (pr * 24) 0 16777215 = S := by
      funext a c
      simp only [fiM]
      rw [if_neg (by omega)]
    have := H 24 0 rfl
    rw [e] at this
    exact this
  intro d
  induction d with
  | zero =>
    intro t ht
    obtain rfl : t = 24 := ht
    refine z_iload_n hX (D_Search_fitAny (i := 2) rfl) rfl ?_
    refine z_bipush (v := 24) hX (D_Search_fitAny (i := 3) rfl) (by decide) ?_
    refine z_icmp_ge (tgt := 27) hX (D_Search_fitAny (i := 4) rfl) (by decide) (fun _ => ?_) (fun hcc => absurd (Int32.le_refl _) hcc)
    exact z_ret hX hR (D_Search_fitAny (i := 16) rfl) rfl (by assumption)
  | succ d ih =>
    intro t ht
    have ht24 : t < 24 := by omega
    refine z_iload_n hX (D_Search_fitAny (i := 2) rfl) rfl ?_
    refine z_bipush (v := 24) hX (D_Search_fitAny (i := 3) rfl) (by decide) ?_
    refine z_icmp_ge (tgt := 27) hX (D_Search_fitAny (i := 4) rfl) (by decide) (fun hcc => absurd hcc (nI_ge (b := 24) ht24 (by decide))) (fun _ => ?_)
    refine z_aload_n hX (D_Search_fitAny (i := 5) rfl) rfl ?_
    refine z_getc hX (D_Search_fitAny (i := 6) rfl) f_Search_15 rfl (by decide) (by first | exact Nat.one_pos | assumption | omega) rfl ?_
    refine z_iload_n hX (D_Search_fitAny (i := 7) rfl) rfl ?_
    refine z_bipush (v := 24) hX (D_Search_fitAny (i := 8) rfl) (by decide) ?_
    refine z_imul hX (D_Search_fitAny (i := 9) rfl) ?_
    refine z_iload_n hX (D_Search_fitAny (i := 10) rfl) rfl ?_
    refine z_iadd hX (D_Search_fitAny (i := 11) rfl) ?_
    refine z_ldc (v := 16777215) hX (D_Search_fitAny (i := 12) rfl) k_Search_21 ?_
    refine z_iast (j := pr * 24 + t) hX (D_Search_fitAny (i := 13) rfl) rfl (by decide) (by first | exact Nat.one_pos | assumption | omega) (by decide) (by simp only [nlit, pk_mul, nI_add]) (by omega) ?_
    rw [tw_up rfl]
    have e : sU (fiM S (pr * 24) t 16777215) 12 (pr * 24 + t) 16777215 = fiM S (pr * 24) (t + 1) 16777215 := by
      funext a c
      simp only [sU, fiM]
      by_cases h1 : a = 12 ∧ c = pr * 24 + t
      · rw [if_pos h1, if_pos (by omega)]
      · rw [if_neg h1]
        by_cases h2 : a = 12 ∧ pr * 24 ≤ c ∧ c < pr * 24 + t
        · rw [if_pos h2, if_pos (by omega)]
        · rw [if_neg h2, if_neg (by omega)]
    rw [e]
    first | refine z_inc1 hX (D_Search_fitAny (i := 14) rfl) rfl (by decide) rfl ?_ | refine z_iinc hX (D_Search_fitAny (i := 14) rfl) rfl rfl (by decide) rfl ?_
    refine z_goto (tgt := 2) hX (D_Search_fitAny (i := 15) rfl) (by decide) ?_
    exact ih (t + 1) (by omega)
theorem c_Search_fitting (hH : zHas ι pX) {j : Nat} {f : Nat → Nat} {g : Nat → Bool} (hS : ∀ i t, i < j → t < 24 → S 12 (prN i j * 24 + t) = mkI (fp i j t) 24) (hj : j < 4) (hf : ∀ i, i < j → S 13 i = nI (f i) ∧ f i < 24) (h : Post (some (zI (mkI (fun u => g u && alI (fun i => fp i j (f i) u) j) 24))) (tw mem S)) : zC l ι M_Search_fitting 1 [zP 10 0, zI (nI j), zI (mkI g 24)] (tw mem S) Post := by
  refine z_enter hH (by decide) (by simp [z_ent, M_Search_fitting]) (fun X hXl hX hR => ?_)
  refine z_iload_n hX (D_Search_fitting (i := 0) rfl) rfl ?_
  refine z_istore_n hX (D_Search_fitting (i := 1) rfl) (by decide) rfl ?_
  refine z_iconst (v := 0) hX (D_Search_fitting (i := 2) rfl) (by decide) ?_
  refine z_istore hX (D_Search_fitting (i := 3) rfl) (by decide) rfl ?_
  suffices H : ∀ (d i : Nat), i + d = j → zW ι M_Search_fitting X 5 [some (zP 10 0), some (zI (nI j)), some (zI (mkI g 24)), some (zI (mkI (fun u => g u && alI (fun i => fp i j (f i) u) i) 24)), some (zI (nI i))] [] (tw mem S) by
    have e : mkI (fun u => g u && alI (fun i => fp i j (f i) u) 0) 24 = mkI g 24 := mkI_cong (fun k _ => by show (g k && true) = _; rw [Bool.and_true])
    have := H j 0 (Nat.zero_add _)
    rw [e] at this
    exact this
  intro d
  induction d with
  | zero =>
    intro i hi
    obtain rfl : i = j := hi
    refine z_iload hX (D_Search_fitting (i := 4) rfl) rfl ?_
    refine z_iload_n hX (D_Search_fitting (i := 5) rfl) rfl ?_
    refine z_icmp_ge (tgt := 42) hX (D_Search_fitting (i := 6) rfl) (by decide) (fun _ => ?_) (fun hcc => absurd (Int32.le_refl _) hcc)
    refine z_iload_n hX (D_Search_fitting (i := 25) rfl) rfl ?_
    exact z_iret hX hR (D_Search_fitting (i := 26) rfl) rfl (by assumption)
  | succ d ih =>
    intro i hi
    have hij : i < j := by omega
    have hp := pr_ok j hj i hij
    refine z_iload hX (D_Search_fitting (i := 4) rfl) rfl ?_
    refine z_iload_n hX (D_Search_fitting (i := 5) rfl) rfl ?_
    refine z_icmp_ge (tgt := 42) hX (D_Search_fitting (i := 6) rfl) (by decide) (fun hcc => absurd hcc (nI_ge hij (by omega))) (fun _ => ?_)
    refine z_iload_n hX (D_Search_fitting (i := 7) rfl) rfl ?_
    refine z_aload_n hX (D_Search_fitting (i := 8) rfl) rfl ?_
    refine z_getc hX (D_Search_fitting (i := 9) rfl) f_Search_15 rfl (by decide) (by first | exact Nat.one_pos | assumption | omega) rfl ?_
    refine z_iload hX (D_Search_fitting (i := 10) rfl) rfl ?_
    refine z_iload_n hX (D_Search_fitting (i := 11) rfl) rfl ?_
    refine z_cS2 hX (D_Search_fitting (i := 12) rfl) ms_Search_pairOf l_Search_22 (by first | decide | omega) (Nat.le_of_ble_eq_true rfl) (c_Search_pairOf hij hj ?_)
    refine z_bipush (v := 24) hX (D_Search_fitting (i := 13) rfl) (by decide) ?_
    refine z_imul hX (D_Search_fitting (i := 14) rfl) ?_
    refine z_aload_n hX (D_Search_fitting (i := 15) rfl) rfl ?_
    refine z_getc hX (D_Search_fitting (i := 16) rfl) f_Search_18 rfl (by decide) (by first | exact Nat.one_pos | assumption | omega) rfl ?_
    refine z_iload hX (D_Search_fitting (i := 17) rfl) rfl ?_
    refine z_iald (j := i) hX (D_Search_fitting (i := 18) rfl) rfl (by decide) (by first | exact Nat.one_pos | assumption | omega) (by decide) rfl (by omega) ?_
    rw [show (tw mem S).1 13 0 i = nI (f i) from (hf i hij).1]
    have hfi := (hf i hij).2
    refine z_iadd hX (D_Search_fitting (i := 19) rfl) ?_
    refine z_iald (j := prN i j * 24 + f i) hX (D_Search_fitting (i := 20) rfl) rfl (by decide) (by first | exact Nat.one_pos | assumption | omega) (by decide) (by simp only [nlit, pk_mul, nI_add]) (by omega) ?_
    rw [show (tw mem S).1 12 0 (prN i j * 24 + f i) = mkI (fp i j (f i)) 24 from hS i (f i) hij hfi]
    refine z_iand hX (D_Search_fitting (i := 21) rfl) ?_
    rw [mkI_and]
    have e : mkI (fun k => (g k && alI (fun i => fp i j (f i) k) i) && fp i j (f i) k) 24 = mkI (fun u => g u && alI (fun i => fp i j (f i) u) (i + 1)) 24 := mkI_cong (fun k _ => by show _ = (g k && (alI _ i && _)); rw [Bool.and_assoc])
    rw [e]
    refine z_istore_n hX (D_Search_fitting (i := 22) rfl) (by decide) rfl ?_
    first | refine z_inc1 hX (D_Search_fitting (i := 23) rfl) rfl (by decide) rfl ?_ | refine z_iinc hX (D_Search_fitting (i := 23) rfl) rfl rfl (by decide) rfl ?_
    refine z_goto (tgt := 5) hX (D_Search_fitting (i := 24) rfl) (by decide) ?_
    exact ih (i + 1) (by omega)
theorem c_Search_find (hH : zHas ι pX) : ∀ (d j : Nat) (f : Nat → Nat) (S : Nat → Nat → Int32) (Post : Option zV → zM → Prop), j + d = n → SR S n tr fp → (∀ i, i < j → S 13 i = nI (f i) ∧ f i < 24) → (∀ S', fr13 S S' → (∀ i, i < j → S' 13 i = S 13 i) → fstS tr fp d j f = none → Post (some (zI 0)) (tw mem S')) → (∀ S' g, fr13 S S' → fstS tr fp d j f = some g → (∀ i, i < n → S' 13 i = nI (g i) ∧ g i < 24) → Post (some (zI 1)) (tw mem S')) → zC l ι M_Search_find (2 + d) [zP 10 0, zI (nI j)] (tw mem S) Post := by
  intro d
  induction d with
  | zero =>
    intro j f S Post hj hS hf hn hs
    obtain rfl : j = n := hj
    have h4 := hS.2.1
    refine z_enter hH (by decide) (by simp [z_ent, M_Search_find]) (fun X hXl hX hR => ?_)
    refine z_iload_n hX (D_Search_find (i := 0) rfl) rfl ?_
    refine z_aload_n hX (D_Search_find (i := 1) rfl) rfl ?_
    refine z_geti hX (D_Search_find (i := 2) rfl) f_Search_34 rfl (by decide) (by first | exact Nat.one_pos | assumption | omega) rfl ?_
    rw [show (tw mem S).1 10 0 0 = nI j from hS.1]
    refine z_icmp_lt (tgt := 10) hX (D_Search_find (i := 3) rfl) (by decide) (fun hcc => absurd hcc ((fun w => absurd w (nI_nlt (Nat.le_refl _) (by omega))))) (fun _ => ?_)
    refine z_iconst (v := 1) hX (D_Search_find (i := 4) rfl) (by decide) ?_
    exact z_zret hX hR (D_Search_find (i := 5) rfl) rfl (by first | exact Or.inl rfl | exact Or.inr rfl | assumption) (hs S f (fun _ _ _ => rfl) rfl hf)
  | succ d ih =>
    intro j f S Post hj hS hf hn hs
    have h4 := hS.2.1
    have hjn : j < n := by omega
    refine z_enter hH (by decide) (by simp [z_ent, M_Search_find]) (fun X hXl hX hR => ?_)
    subst hXl
    refine z_iload_n hX (D_Search_find (i := 0) rfl) rfl ?_
    refine z_aload_n hX (D_Search_find (i := 1) rfl) rfl ?_
    refine z_geti hX (D_Search_find (i := 2) rfl) f_Search_34 rfl (by decide) (by first | exact Nat.one_pos | assumption | omega) rfl ?_
    rw [show (tw mem S).1 10 0 0 = nI n from hS.1]
    refine z_icmp_lt (tgt := 10) hX (D_Search_find (i := 3) rfl) (by decide) (fun _ => ?_) (fun hcc => absurd (nI_lt hjn (by omega)) hcc)
    refine z_aload_n hX (D_Search_find (i := 6) rfl) rfl ?_
    refine z_iload_n hX (D_Search_find (i := 7) rfl) rfl ?_
    refine z_aload_n hX (D_Search_find (i := 8) rfl) rfl ?_
    refine z_getc hX (D_Search_find (i := 9) rfl) f_Search_9 rfl (by decide) (by first | exact Nat.one_pos | assumption | omega) rfl ?_
    refine z_iload_n hX (D_Search_find (i := 10) rfl) rfl ?_
    refine z_iald (j := j) hX (D_Search_find (i := 11) rfl) rfl (by decide) (by first | exact Nat.one_pos | assumption | omega) (by decide) rfl (by omega) ?_
    rw [show (tw mem S).1 11 0 j = mkI (tr j) 24 from hS.2.2.1 j hjn]
    refine z_cV2 hX (D_Search_find (i := 12) rfl) mi_Search_fitting l_Search_38 rfl rfl (by decide) (by first | exact Nat.one_pos | assumption | omega) (by first | decide | omega) (Nat.le_of_ble_eq_true rfl) (c_Search_fitting hH (fun i t h1 h2 => hS.2.2.2 i j t h1 hjn h2) (by omega) hf ?_)
    rw [show (fun u => tr j u && alI (fun i => fp i j (f i) u) j) = okS tr fp j f from rfl]
    refine z_istore_n hX (D_Search_find (i := 13) rfl) (by decide) rfl ?_
    refine z_iconst (v := 0) hX (D_Search_find (i := 14) rfl) (by decide) ?_
    refine z_istore_n hX (D_Search_find (i := 15) rfl) (by decide) rfl ?_
    suffices LP : ∀ (m t : Nat) (S1 : Nat → Nat → Int32), t + m = 24 → fr13 S S1 → (∀ i, i < j → S1 13 i = S 13 i) → fstS tr fp (d + 1) j f = frI (fun t => if okS tr fp j f t = true then fstS tr fp d (j + 1) (fN f j t) else none) t m → zW ι M_Search_find X 24 [some (zP 10 0), some (zI (nI j)), some (zI (mkI (okS tr fp j f) 24)), some (zI (nI t))] [] (tw mem S1) from LP 24 0 S rfl (fun _ _ _ => rfl) (fun _ _ => rfl) rfl
    intro m
    induction m with
    | zero =>
      intro t S1 ht hfr hsm he
      obtain rfl : t = 24 := ht
      refine z_iload_n hX (D_Search_find (i := 16) rfl) rfl ?_
      refine z_bipush (v := 24) hX (D_Search_find (i := 17) rfl) (by decide) ?_
      refine z_icmp_ge (tgt := 63) hX (D_Search_find (i := 18) rfl) (by decide) (fun _ => ?_) (fun hcc => absurd (Int32.le_refl _) hcc)
      refine z_iconst (v := 0) hX (D_Search_find (i := 40) rfl) (by decide) ?_
      exact z_zret hX hR (D_Search_find (i := 41) rfl) rfl (by first | exact Or.inl rfl | exact Or.inr rfl | assumption) (hn S1 hfr hsm he)
    | succ m ihm =>
      intro t S1 ht hfr hsm he
      have ht24 : t < 24 := by omega
      refine z_iload_n hX (D_Search_find (i := 16) rfl) rfl ?_
      refine z_bipush (v := 24) hX (D_Search_find (i := 17) rfl) (by decide) ?_
      refine z_icmp_ge (tgt := 63) hX (D_Search_find (i := 18) rfl) (by decide) (fun hcc => absurd hcc (nI_ge (b := 24) ht24 (by decide))) (fun _ => ?_)
      refine z_iload_n hX (D_Search_find (i := 19) rfl) rfl ?_
      refine z_iload_n hX (D_Search_find (i := 20) rfl) rfl ?_
      refine z_ishr hX (D_Search_find (i := 21) rfl) ?_
      refine z_iconst (v := 1) hX (D_Search_find (i := 22) rfl) (by decide) ?_
      refine z_iand hX (D_Search_find (i := 23) rfl) ?_
      rw [bit_mk ht24]
      cases hb : okS tr fp j f t with
      | false =>
        refine z_if_eq (tgt := 57) hX (D_Search_find (i := 24) rfl) (by decide) (fun _ => ?_) (fun hcc => absurd (rfl) hcc)
        first | refine z_inc1 hX (D_Search_find (i := 38) rfl) rfl (by decide) rfl ?_ | refine z_iinc hX (D_Search_find (i := 38) rfl) rfl rfl (by decide) rfl ?_
        refine z_goto (tgt := 24) hX (D_Search_find (i := 39) rfl) (by decide) ?_
        refine ihm (t + 1) S1 (by omega) hfr hsm ?_
        rw [he, frI, hb]; rfl
      | true =>
        refine z_if_eq (tgt := 57) hX (D_Search_find (i := 24) rfl) (by decide) (fun hcc => absurd hcc (by decide)) (fun _ => ?_)
        refine z_aload_n hX (D_Search_find (i := 25) rfl) rfl ?_
        refine z_getc hX (D_Search_find (i := 26) rfl) f_Search_18 rfl (by decide) (by first | exact Nat.one_pos | assumption | omega) rfl ?_
        refine z_iload_n hX (D_Search_find (i := 27) rfl) rfl ?_
        refine z_iload_n hX (D_Search_find (i := 28) rfl) rfl ?_
        refine z_iast (j := j) hX (D_Search_find (i := 29) rfl) rfl (by decide) (by first | exact Nat.one_pos | assumption | omega) (by decide) rfl (by omega) ?_
        rw [tw_up rfl]
        refine z_aload_n hX (D_Search_find (i := 30) rfl) rfl ?_
        refine z_iload_n hX (D_Search_find (i := 31) rfl) rfl ?_
        refine z_iconst (v := 1) hX (D_Search_find (i := 32) rfl) (by decide) ?_
        refine z_iadd hX (D_Search_find (i := 33) rfl) ?_
        rw [show nI j + 1 = nI (j + 1) from nI_add j 1]
        refine z_cV1 hX (D_Search_find (i := 34) rfl) mi_Search_find l_Search_30 rfl rfl (by decide) (by first | exact Nat.one_pos | assumption | omega) (by first | decide | omega) (Nat.le_of_ble_eq_true rfl) (ih (j + 1) (fN f j t) _ _ (by omega) (hS.fr (hfr.tr fr13_up)) ?_ ?_ ?_)
        · intro i hi
          by_cases e : i = j
          · subst e
            rw [sU_at, fN_at]; exact ⟨rfl, ht24⟩
          · rw [sU_ne (Or.inr e), fN_ne e, hsm i (by omega)]; exact hf i (by omega)
        · intro S2 hf2 hs2 hno
          refine z_if_eq (tgt := 57) hX (D_Search_find (i := 35) rfl) (by decide) (fun _ => ?_) (fun hcc => absurd (rfl) hcc)
          first | refine z_inc1 hX (D_Search_find (i := 38) rfl) rfl (by decide) rfl ?_ | refine z_iinc hX (D_Search_find (i := 38) rfl) rfl rfl (by decide) rfl ?_
          refine z_goto (tgt := 24) hX (D_Search_find (i := 39) rfl) (by decide) ?_
          refine ihm (t + 1) S2 (by omega) (hfr.tr (fr13_up.tr hf2)) (fun i hi => ?_) ?_
          · rw [hs2 i (by omega), sU_ne (Or.inr (by omega)), hsm i hi]
          · rw [he, frI, hb]
            simp only [if_true]
            rw [hno]
        · intro S2 g hf2 hyes hg
          refine z_if_eq (tgt := 57) hX (D_Search_find (i := 35) rfl) (by decide) (fun hcc => absurd hcc (by decide)) (fun _ => ?_)
          refine z_iconst (v := 1) hX (D_Search_find (i := 36) rfl) (by decide) ?_
          refine z_zret hX hR (D_Search_find (i := 37) rfl) rfl (Or.inr rfl) (hs S2 g (hfr.tr (fr13_up.tr hf2)) ?_ hg)
          rw [he, frI, hb]
          simp only [if_true]
          rw [hyes]
theorem c_Search_total (hH : zHas ι pX) : ∀ (d j : Nat) (f : Nat → Nat) (S : Nat → Nat → Int32) (Post : Option zV → zM → Prop), j + d = n → SR S n tr fp → (∀ i, i < j → S 13 i = nI (f i) ∧ f i < 24) → (∀ S', fr13 S S' → (∀ i, i < j → S' 13 i = S 13 i) → Post (some (zI (nI (cntS tr fp d j f)))) (tw mem S')) → zC l ι M_Search_total (2 + d) [zP 10 0, zI (nI j)] (tw mem S) Post := by
  intro d
  induction d with
  | zero =>
    intro j f S Post hj hS hf hn
    obtain rfl : j = n := hj
    have h4 := hS.2.1
    refine z_enter hH (by decide) (by simp [z_ent, M_Search_total]) (fun X hXl hX hR => ?_)
    refine z_iload_n hX (D_Search_total (i := 0) rfl) rfl ?_
    refine z_aload_n hX (D_Search_total (i := 1) rfl) rfl ?_
    refine z_geti hX (D_Search_total (i := 2) rfl) f_Search_34 rfl (by decide) (by first | exact Nat.one_pos | assumption | omega) rfl ?_
    rw [show (tw mem S).1 10 0 0 = nI j from hS.1]
    refine z_icmp_lt (tgt := 10) hX (D_Search_total (i := 3) rfl) (by decide) (fun hcc => absurd hcc ((fun w => absurd w (nI_nlt (Nat.le_refl _) (by omega))))) (fun _ => ?_)
    refine z_iconst (v := 1) hX (D_Search_total (i := 4) rfl) (by decide) ?_
    exact z_iret hX hR (D_Search_total (i := 5) rfl) rfl (hn S (fun _ _ _ => rfl) (fun _ _ => rfl))
  | succ d ih =>
    intro j f S Post hj hS hf hn
    have h4 := hS.2.1
    have hjn : j < n := by omega
    refine z_enter hH (by decide) (by simp [z_ent, M_Search_total]) (fun X hXl hX hR => ?_)
    subst hXl
    refine z_iload_n hX (D_Search_total (i := 0) rfl) rfl ?_
    refine z_aload_n hX (D_Search_total (i := 1) rfl) rfl ?_
    refine z_geti hX (D_Search_total (i := 2) rfl) f_Search_34 rfl (by decide) (by first | exact Nat.one_pos | assumption | omega) rfl ?_
    rw [show (tw mem S).1 10 0 0 = nI n from hS.1]
    refine z_icmp_lt (tgt := 10) hX (D_Search_total (i := 3) rfl) (by decide) (fun _ => ?_) (fun hcc => absurd (nI_lt hjn (by omega)) hcc)
    refine z_aload_n hX (D_Search_total (i := 6) rfl) rfl ?_
    refine z_iload_n hX (D_Search_total (i := 7) rfl) rfl ?_
    refine z_aload_n hX (D_Search_total (i := 8) rfl) rfl ?_
    refine z_getc hX (D_Search_total (i := 9) rfl) f_Search_9 rfl (by decide) (by first | exact Nat.one_pos | assumption | omega) rfl ?_
    refine z_iload_n hX (D_Search_total (i := 10) rfl) rfl ?_
    refine z_iald (j := j) hX (D_Search_total (i := 11) rfl) rfl (by decide) (by first | exact Nat.one_pos | assumption | omega) (by decide) rfl (by omega) ?_
    rw [show (tw mem S).1 11 0 j = mkI (tr j) 24 from hS.2.2.1 j hjn]
    refine z_cV2 hX (D_Search_total (i := 12) rfl) mi_Search_fitting l_Search_38 rfl rfl (by decide) (by first | exact Nat.one_pos | assumption | omega) (by first | decide | omega) (Nat.le_of_ble_eq_true rfl) (c_Search_fitting hH (fun i t h1 h2 => hS.2.2.2 i j t h1 hjn h2) (by omega) hf ?_)
    rw [show (fun u => tr j u && alI (fun i => fp i j (f i) u) j) = okS tr fp j f from rfl]
    refine z_istore_n hX (D_Search_total (i := 13) rfl) (by decide) rfl ?_
    refine z_iload_n hX (D_Search_total (i := 14) rfl) rfl ?_
    refine z_aload_n hX (D_Search_total (i := 15) rfl) rfl ?_
    refine z_geti hX (D_Search_total (i := 16) rfl) f_Search_34 rfl (by decide) (by first | exact Nat.one_pos | assumption | omega) rfl ?_
    refine z_iconst (v := 1) hX (D_Search_total (i := 17) rfl) (by decide) ?_
    refine z_isub hX (D_Search_total (i := 18) rfl) ?_
    rw [show (tw mem S).1 10 0 0 = nI n from hS.1, show nI n - 1 = nI (n - 1) from pk_sub (b := 1) (by omega)]
    refine z_icmp_ne (tgt := 37) hX (D_Search_total (i := 19) rfl) (by decide) (fun hl => ?_) (fun hl => ?_)
    · refine z_iconst (v := 0) hX (D_Search_total (i := 23) rfl) (by decide) ?_
      refine z_istore_n hX (D_Search_total (i := 24) rfl) (by decide) rfl ?_
      refine z_iconst (v := 0) hX (D_Search_total (i := 25) rfl) (by decide) ?_
      refine z_istore hX (D_Search_total (i := 26) rfl) (by decide) rfl ?_
      suffices LP : ∀ (m t : Nat) (S1 : Nat → Nat → Int32), t + m = 24 → fr13 S S1 → (∀ i, i < j → S1 13 i = S 13 i) → zW ι M_Search_total X 42 [some (zP 10 0), some (zI (nI j)), some (zI (mkI (okS tr fp j f) 24)), some (zI (nI (sumI (fun t => if okS tr fp j f t = true then cntS tr fp d (j + 1) (fN f j t) else 0) t))), some (zI (nI t))] [] (tw mem S1) from LP 24 0 S rfl (fun _ _ _ => rfl) (fun _ _ => rfl)
      intro m
      induction m with
      | zero =>
        intro t S1 ht hfr hsm
        obtain rfl : t = 24 := ht
        refine z_iload hX (D_Search_total (i := 27) rfl) rfl ?_
        refine z_bipush (v := 24) hX (D_Search_total (i := 28) rfl) (by decide) ?_
        refine z_icmp_ge (tgt := 82) hX (D_Search_total (i := 29) rfl) (by decide) (fun _ => ?_) (fun hcc => absurd (Int32.le_refl _) hcc)
        refine z_iload_n hX (D_Search_total (i := 51) rfl) rfl ?_
        exact z_iret hX hR (D_Search_total (i := 52) rfl) rfl (hn S1 hfr hsm)
      | succ m ihm =>
        intro t S1 ht hfr hsm
        have ht24 : t < 24 := by omega
        refine z_iload hX (D_Search_total (i := 27) rfl) rfl ?_
        refine z_bipush (v := 24) hX (D_Search_total (i := 28) rfl) (by decide) ?_
        refine z_icmp_ge (tgt := 82) hX (D_Search_total (i := 29) rfl) (by decide) (fun hcc => absurd hcc (nI_ge (b := 24) ht24 (by decide))) (fun _ => ?_)
        refine z_iload_n hX (D_Search_total (i := 30) rfl) rfl ?_
        refine z_iload hX (D_Search_total (i := 31) rfl) rfl ?_
        refine z_ishr hX (D_Search_total (i := 32) rfl) ?_
        refine z_iconst (v := 1) hX (D_Search_total (i := 33) rfl) (by decide) ?_
        refine z_iand hX (D_Search_total (i := 34) rfl) ?_
        rw [bit_mk ht24]
        cases hb : okS tr fp j f t with
        | false =>
          refine z_if_eq (tgt := 76) hX (D_Search_total (i := 35) rfl) (by decide) (fun _ => ?_) (fun hcc => absurd (rfl) hcc)
          first | refine z_inc1 hX (D_Search_total (i := 49) rfl) rfl (by decide) rfl ?_ | refine z_iinc hX (D_Search_total (i := 49) rfl) rfl rfl (by decide) rfl ?_
          refine z_goto (tgt := 42) hX (D_Search_total (i := 50) rfl) (by decide) ?_
          have := ihm (t + 1) S1 (by omega) hfr hsm
          rw [sumI, hb] at this
          exact this
        | true =>
          refine z_if_eq (tgt := 76) hX (D_Search_total (i := 35) rfl) (by decide) (fun hcc => absurd hcc (by decide)) (fun _ => ?_)
          refine z_aload_n hX (D_Search_total (i := 36) rfl) rfl ?_
          refine z_getc hX (D_Search_total (i := 37) rfl) f_Search_18 rfl (by decide) (by first | exact Nat.one_pos | assumption | omega) rfl ?_
          refine z_iload_n hX (D_Search_total (i := 38) rfl) rfl ?_
          refine z_iload hX (D_Search_total (i := 39) rfl) rfl ?_
          refine z_iast (j := j) hX (D_Search_total (i := 40) rfl) rfl (by decide) (by first | exact Nat.one_pos | assumption | omega) (by decide) rfl (by omega) ?_
          rw [tw_up rfl]
          refine z_iload_n hX (D_Search_total (i := 41) rfl) rfl ?_
          refine z_aload_n hX (D_Search_total (i := 42) rfl) rfl ?_
          refine z_iload_n hX (D_Search_total (i := 43) rfl) rfl ?_
          refine z_iconst (v := 1) hX (D_Search_total (i := 44) rfl) (by decide) ?_
          refine z_iadd hX (D_Search_total (i := 45) rfl) ?_
          rw [show nI j + 1 = nI (j + 1) from nI_add j 1]
          refine z_cV1 hX (D_Search_total (i := 46) rfl) mi_Search_total l_Search_26 rfl rfl (by decide) (by first | exact Nat.one_pos | assumption | omega) (by first | decide | omega) (Nat.le_of_ble_eq_true rfl) (ih (j + 1) (fN f j t) _ _ (by omega) (hS.fr (hfr.tr fr13_up)) ?_ ?_)
          · intro i hi
            by_cases e : i = j
            · subst e
              rw [sU_at, fN_at]; exact ⟨rfl, ht24⟩
            · rw [sU_ne (Or.inr e), fN_ne e, hsm i (by omega)]; exact hf i (by omega)
          · intro S2 hf2 hs2
            refine z_iadd hX (D_Search_total (i := 47) rfl) ?_
            rw [nI_add]
            refine z_istore_n hX (D_Search_total (i := 48) rfl) (by decide) rfl ?_
            first | refine z_inc1 hX (D_Search_total (i := 49) rfl) rfl (by decide) rfl ?_ | refine z_iinc hX (D_Search_total (i := 49) rfl) rfl rfl (by decide) rfl ?_
            refine z_goto (tgt := 42) hX (D_Search_total (i := 50) rfl) (by decide) ?_
            have := ihm (t + 1) S2 (by omega) (hfr.tr (fr13_up.tr hf2)) (fun i hi => by rw [hs2 i (by omega), sU_ne (Or.inr (by omega)), hsm i hi])
            rw [sumI, hb] at this
            exact this
    · refine z_iload_n hX (D_Search_total (i := 20) rfl) rfl ?_
      have e0 : d = 0 := by have := (nI_eq (by omega) (by omega)).mp hl; omega
      subst e0
      refine z_cS1 hX (D_Search_total (i := 21) rfl) ms_Integer_bitCount_0f7a4 l_Search_41 (by first | decide | omega) (Nat.le_of_ble_eq_true rfl) (c_bitCount ?_)
      rw [bcE_mk]
      have := hn S (fun _ _ _ => rfl) (fun _ _ => rfl)
      rw [show cntS tr fp (0 + 1) j f = sumI (fun t => if okS tr fp j f t = true then 1 else 0) 24 from rfl, sumI_cn] at this
      exact z_iret hX hR (D_Search_total (i := 22) rfl) rfl this
def jun (f : Nat → Nat) : Nat → Nat := f
theorem c_Search_hasAny (hH : zHas ι pX) (hS : SR S n tr fp) (h : ∀ S', fr13 S S' → Post (some (zI (bI (fstS tr fp n 0 (fun _ => 0)).isSome))) (tw mem S')) : zC l ι M_Search_hasAny 8 [zP 10 0] (tw mem S) Post := by
  have h4 := hS.2.1
  refine z_enter hH (by decide) (by simp [z_ent, M_Search_hasAny]) (fun X hXl hX hR => ?_)
  refine z_aload_n hX (D_Search_hasAny (i := 0) rfl) rfl ?_
  refine z_iconst (v := 0) hX (D_Search_hasAny (i := 1) rfl) (by decide) ?_
  refine z_cV1 hX (D_Search_hasAny (i := 2) rfl) mi_Search_find l_Search_30 rfl rfl (by decide) (by first | exact Nat.one_pos | assumption | omega) (by first | decide | omega) (Nat.le_of_ble_eq_true rfl) (c_Search_find hH n 0 (fun _ => 0) S _ (Nat.zero_add _) hS (fun i hi => absurd hi (Nat.not_lt_zero _)) ?_ ?_)
  · intro S' hf _ hno
    have := h S' hf
    rw [hno] at this
    exact z_zret hX hR (D_Search_hasAny (i := 3) rfl) rfl (by first | exact Or.inl rfl | exact Or.inr rfl | assumption) this
  · intro S' g hf hyes _
    have := h S' hf
    rw [hyes] at this
    exact z_zret hX hR (D_Search_hasAny (i := 3) rfl) rfl (by first | exact Or.inl rfl | exact Or.inr rfl | assumption) this
theorem c_Search_answer_n (hH : zHas ι pX) {x : Int32} (hx : x < 0) (hS : SR S n tr fp) (h : ∀ S', fr13 S S' → Post (some (zI (nI (cntS tr fp n 0 (fun _ => 0))))) (tw mem S')) : zC l ι M_Search_answer 8 [zP 10 0, zI x] (tw mem S) Post := by
  have h4 := hS.2.1
  refine z_enter hH (by decide) (by simp [z_ent, M_Search_answer]) (fun X hXl hX hR => ?_)
  refine z_iload_n hX (D_Search_answer (i := 0) rfl) rfl ?_
  refine z_if_ge (tgt := 10) hX (D_Search_answer (i := 1) rfl) (by decide) (fun hcc => absurd hcc (Int32.not_le.mpr hx)) (fun _ => ?_)
  refine z_aload_n hX (D_Search_answer (i := 2) rfl) rfl ?_
  refine z_iconst (v := 0) hX (D_Search_answer (i := 3) rfl) (by decide) ?_
  refine z_cV1 hX (D_Search_answer (i := 4) rfl) mi_Search_total l_Search_26 rfl rfl (by decide) (by first | exact Nat.one_pos | assumption | omega) (by first | decide | omega) (Nat.le_of_ble_eq_true rfl) (c_Search_total hH n 0 (fun _ => 0) S _ (Nat.zero_add _) hS (fun i hi => absurd hi (Nat.not_lt_zero _)) ?_)
  intro S' hf _
  exact z_iret hX hR (D_Search_answer (i := 5) rfl) rfl (h S' hf)
theorem c_Search_answer_k (hH : zHas ι pX) {k : Nat} (hk : k < n) (hS : SR S n tr fp) (h : ∀ S', fr13 S S' → Post (some (zI (match fstS tr fp n 0 (fun _ => 0) with | none => -2 | some g => nI (g k)))) (tw mem S')) : zC l ι M_Search_answer 8 [zP 10 0, zI (nI k)] (tw mem S) Post := by
  have h4 := hS.2.1
  refine z_enter hH (by decide) (by simp [z_ent, M_Search_answer]) (fun X hXl hX hR => ?_)
  refine z_iload_n hX (D_Search_answer (i := 0) rfl) rfl ?_
  refine z_if_ge (tgt := 10) hX (D_Search_answer (i := 1) rfl) (by decide) (fun _ => ?_) (fun hcc => absurd (nI_pos' (by omega)) hcc)
  refine z_aload_n hX (D_Search_answer (i := 6) rfl) rfl ?_
  refine z_iconst (v := 0) hX (D_Search_answer (i := 7) rfl) (by decide) ?_
  refine z_cV1 hX (D_Search_answer (i := 8) rfl) mi_Search_find l_Search_30 rfl rfl (by decide) (by first | exact Nat.one_pos | assumption | omega) (by first | decide | omega) (Nat.le_of_ble_eq_true rfl) (c_Search_find hH n 0 (fun _ => 0) S _ (Nat.zero_add _) hS (fun i hi => absurd hi (Nat.not_lt_zero _)) ?_ ?_)
  · intro S' hf _ hno
    have := h S' hf
    rw [hno] at this
    refine z_if_eq (tgt := 27) hX (D_Search_answer (i := 9) rfl) (by decide) (fun _ => ?_) (fun hcc => absurd (rfl) hcc)
    refine z_bipush (v := -2) hX (D_Search_answer (i := 15) rfl) (by decide) ?_
    exact z_iret hX hR (D_Search_answer (i := 16) rfl) rfl this
  · intro S' g hf hyes hg
    have := h S' hf
    rw [hyes] at this
    refine z_if_eq (tgt := 27) hX (D_Search_answer (i := 9) rfl) (by decide) (fun hcc => absurd hcc (by decide)) (fun _ => ?_)
    refine z_aload_n hX (D_Search_answer (i := 10) rfl) rfl ?_
    refine z_getc hX (D_Search_answer (i := 11) rfl) f_Search_18 rfl (by decide) (by first | exact Nat.one_pos | assumption | omega) rfl ?_
    refine z_iload_n hX (D_Search_answer (i := 12) rfl) rfl ?_
    refine z_iald (j := k) hX (D_Search_answer (i := 13) rfl) rfl (by decide) (by first | exact Nat.one_pos | assumption | omega) (by decide) rfl (by omega) ?_
    rw [show (tw mem S').1 13 0 k = nI (g k) from (hg k hk).1]
    refine z_goto (tgt := 29) hX (D_Search_answer (i := 14) rfl) (by decide) ?_
    exact z_iret hX hR (D_Search_answer (i := 16) rfl) rfl this
end T1
