/-! sets of turnings as bits -/
theorem nI_or (a b : Nat) : nI a ||| nI b = nI (a ||| b) := by
  apply Int32.toBitVec_inj.mp
  rw [Int32.toBitVec_or]
  exact (BitVec.ofNat_or).symm
theorem nI_and (a b : Nat) : nI a &&& nI b = nI (a &&& b) := by
  apply Int32.toBitVec_inj.mp
  rw [Int32.toBitVec_and]
  exact (BitVec.ofNat_and).symm
def mkN (f : Nat → Bool) : Nat → Nat
  | 0 => 0
  | n + 1 => 2 ^ n * (f n).toNat + mkN f n
theorem mkN_lt (f : Nat → Bool) : ∀ n, mkN f n < 2 ^ n
  | 0 => by show 0 < 1; omega
  | n + 1 => by
    have h := mkN_lt f n
    rw [mkN, Nat.pow_succ]
    cases f n
    · show 2 ^ n * 0 + _ < _; omega
    · show 2 ^ n * 1 + _ < _; omega
theorem mkN_bit (f : Nat → Bool) : ∀ n k, (mkN f n).testBit k = (decide (k < n) && f k)
  | 0, k => by rw [mkN, Nat.zero_testBit]; rfl
  | n + 1, k => by
    rw [mkN, Nat.testBit_two_pow_mul_add _ (mkN_lt f n), mkN_bit f n k]
    by_cases h : k < n
    · rw [if_pos h, decide_eq_true h, decide_eq_true (by omega : k < n + 1)]
    · rw [if_neg h]
      by_cases e : k = n
      · subst e
        rw [Nat.sub_self, decide_eq_true (Nat.lt_succ_self k)]
        cases f k <;> rfl
      · rw [decide_eq_false (by omega : ¬ k < n + 1)]
        obtain ⟨m, hm⟩ : ∃ m, k - n = m + 1 := ⟨k - n - 1, by omega⟩
        rw [hm]
        cases f n
        · exact Nat.zero_testBit _
        · show (1 : Nat).testBit (m + 1) = _
          rw [Nat.testBit_succ]; exact Nat.zero_testBit _
theorem mkN_add (f : Nat → Bool) (m : Nat) : ∀ n, mkN f (m + n) = mkN f m + 2 ^ m * mkN (fun k => f (m + k)) n
  | 0 => by show _ = _ + 2 ^ m * 0; rw [Nat.mul_zero]; rfl
  | n + 1 => by
    show 2 ^ (m + n) * (f (m + n)).toNat + mkN f (m + n) = mkN f m + 2 ^ m * (2 ^ n * (f (m + n)).toNat + mkN (fun k => f (m + k)) n)
    rw [mkN_add f m n, Nat.mul_add, Nat.pow_add, Nat.mul_assoc]; omega
theorem mkI_N (f : Nat → Bool) : ∀ n, n ≤ 24 → mkI f n = nI (mkN f n)
  | 0, _ => rfl
  | n + 1, h => by
    have hl := mkN_lt f n
    rw [mkI, mkI_N f n (by omega), mkN]
    cases f n
    · show nI _ = nI (2 ^ n * 0 + _); rw [Nat.mul_zero, Nat.zero_add]
    · show nI _ ||| _ = nI (2 ^ n * 1 + _)
      rw [sh24 n (by omega), nI_or, Nat.two_pow_add_eq_or_of_lt hl, Nat.mul_one, Nat.or_comm]
theorem mkN_ext {f : Nat → Bool} {n a : Nat} (ha : ∀ k, a.testBit k = (decide (k < n) && f k)) : a = mkN f n := Nat.eq_of_testBit_eq (fun k => by rw [ha, mkN_bit])
theorem mkI_and (f g : Nat → Bool) : mkI f 24 &&& mkI g 24 = mkI (fun k => f k && g k) 24 := by
  rw [mkI_N f 24 (Nat.le_refl _), mkI_N g 24 (Nat.le_refl _), mkI_N _ 24 (Nat.le_refl _), nI_and]
  refine congrArg nI (mkN_ext (fun k => ?_))
  rw [Nat.testBit_and, mkN_bit, mkN_bit]
  cases decide (k < 24) <;> simp
theorem mkI_or (f g : Nat → Bool) : mkI f 24 ||| mkI g 24 = mkI (fun k => f k || g k) 24 := by
  rw [mkI_N f 24 (Nat.le_refl _), mkI_N g 24 (Nat.le_refl _), mkI_N _ 24 (Nat.le_refl _), nI_or]
  refine congrArg nI (mkN_ext (fun k => ?_))
  rw [Nat.testBit_or, mkN_bit, mkN_bit]
  cases decide (k < 24) <;> simp
theorem mkI_all : mkI (fun _ => true) 24 = 16777215 := by decide +kernel
theorem mkI_low : mkI (fun t => decide (t % 4 = 0)) 24 = 1118481 := by decide +kernel
theorem mkI_zero : mkI (fun _ => false) 24 = 0 := by decide +kernel
theorem mkI_one {t : Nat} (ht : t < 24) : mkI (fun u => decide (u = t)) 24 = (1 : Int32) <<< (nI t &&& 31) := by
  have : ∀ t, t < 24 → mkI (fun u => decide (u = t)) 24 = (1 : Int32) <<< (nI t &&& 31) := by decide +kernel
  exact this t ht
theorem mkI_or1 (f : Nat → Bool) {t : Nat} (ht : t < 24) : mkI f 24 ||| ((1 : Int32) <<< (nI t &&& 31)) = mkI (fun u => f u || decide (u = t)) 24 := by
  rw [← mkI_one ht, mkI_or]
theorem sm31 : ∀ s, s < 31 → ((nI s &&& 31).toBitVec.smod 32).toNat = s := by decide +kernel
theorem bit_nI {b k : Nat} (hb : b < 2 ^ 31) (hk : k < 31) : (nI b >>> (nI k &&& 31)) &&& 1 = bI (b.testBit k) := by
  rw [pk_shrN hb _ k (sm31 k hk), pk_andN (Nat.lt_of_le_of_lt (Nat.div_le_self _ _) (by omega)) 1 (by decide), Nat.testBit_eq_decide_div_mod_eq]
  have h : b / 2 ^ k % 2 = 0 ∨ b / 2 ^ k % 2 = 1 := by omega
  rcases h with h | h
  · rw [show (2 : Nat) ^ 1 = 2 from rfl, h]; rfl
  · rw [show (2 : Nat) ^ 1 = 2 from rfl, h]; rfl
theorem bit_mk {f : Nat → Bool} {t : Nat} (ht : t < 24) : (mkI f 24 >>> (nI t &&& 31)) &&& 1 = bI (f t) := by
  rw [mkI_N f 24 (Nat.le_refl _), bit_nI (Nat.lt_trans (mkN_lt f 24) (by decide)) (by omega), mkN_bit, decide_eq_true ht, Bool.true_and]
theorem mkI_ne {f : Nat → Bool} {t : Nat} (ht : t < 24) (h : f t = true) : ¬ mkI f 24 = 0 := by
  intro w
  have := bit_mk (f := f) ht
  rw [w, h] at this
  have z : ∀ t, t < 24 → ((0 : Int32) >>> (nI t &&& 31)) &&& 1 = 0 := by decide +kernel
  rw [z t ht] at this
  exact absurd this (by decide)
theorem mkI_eq0 {f : Nat → Bool} (h : ∀ t, t < 24 → f t = false) : mkI f 24 = 0 := by
  rw [mkI_cong (g := fun _ => false) h, mkI_zero]
/-- how many -/
def cnI (f : Nat → Bool) : Nat → Nat
  | 0 => 0
  | n + 1 => cnI f n + (f n).toNat
theorem and_split {x y m n : Nat} (hx : x < 256) (hm : m < 256) : (x + 256 * y) &&& (m + 256 * n) = (x &&& m) + 256 * (y &&& n) := by
  have e : ∀ u w i : Nat, u < 256 → (u + 256 * w).testBit i = if i < 8 then u.testBit i else w.testBit (i - 8) := by
    intro u w i hu
    rw [Nat.add_comm, show 256 = 2 ^ 8 from rfl]
    exact Nat.testBit_two_pow_mul_add w hu i
  refine Nat.eq_of_testBit_eq (fun i => ?_)
  rw [Nat.testBit_and, e _ _ _ hx, e _ _ _ hm, e _ _ _ (Nat.and_lt_two_pow (n := 8) _ hm)]
  split
  · rw [Nat.testBit_and]
  · rw [Nat.testBit_and]
def bp1 (x : Nat) : Nat := x - (x / 2 &&& 85)
def bp2 (x : Nat) : Nat := (x &&& 51) + (x / 4 &&& 51)
theorem bp_a : ∀ x, x < 256 → ∀ q, q < 2 → (x / 2 + 128 * q) &&& 85 = x / 2 &&& 85 := by decide +kernel
theorem bp_b : ∀ x, x < 256 → ∀ q, q < 4 → (x / 4 + 64 * q) &&& 51 = x / 4 &&& 51 := by decide +kernel
theorem bp_c : ∀ x, x < 103 → ∀ q, q < 5 → (x + x / 16 + 16 * q) &&& 15 = (x + x / 16) &&& 15 := by decide +kernel
theorem bp_d : ∀ x, x < 256 → bp1 x < 256 ∧ bp2 (bp1 x) < 103 ∧ bp2 (bp1 x) % 16 < 5 ∧ (bp2 (bp1 x) + bp2 (bp1 x) / 16) &&& 15 = pcN x 8 ∧ pcN x 8 ≤ 8 ∧ x / 2 &&& 21845 = x / 2 &&& 85 := by decide +kernel
theorem bp_e : ∀ x, x < 256 → x &&& 13107 = x &&& 51 ∧ x / 4 &&& 13107 = x / 4 &&& 51 := by decide +kernel
theorem bp_f : ∀ x, x < 110 → x &&& 3855 = x &&& 15 := by decide +kernel
theorem bs1 {x y M : Nat} (hx : x < 256) : (x + 256 * y) - ((x + 256 * y) / 2 &&& (85 + 256 * M)) = bp1 x + 256 * (y - (y / 2 &&& M)) := by
  rw [show (x + 256 * y) / 2 = (x / 2 + 128 * (y % 2)) + 256 * (y / 2) by omega, and_split (by omega) (by decide), bp_a x hx _ (by omega)]
  have h1 : x / 2 &&& 85 ≤ x / 2 := Nat.and_le_left
  have h2 : y / 2 &&& M ≤ y / 2 := Nat.and_le_left
  unfold bp1
  omega
theorem bs2 {x y M : Nat} (hx : x < 256) : ((x + 256 * y) &&& (51 + 256 * M)) + ((x + 256 * y) / 4 &&& (51 + 256 * M)) = bp2 x + 256 * ((y &&& M) + (y / 4 &&& M)) := by
  rw [show (x + 256 * y) / 4 = (x / 4 + 64 * (y % 4)) + 256 * (y / 4) by omega, and_split (by omega) (by decide), and_split (by omega) (by decide), bp_b x hx _ (by omega)]
  unfold bp2
  omega
theorem bs3 {x y M : Nat} (hx : x < 103) (hy : y % 16 < 5) : ((x + 256 * y) + (x + 256 * y) / 16) &&& (15 + 256 * M) = ((x + x / 16) &&& 15) + 256 * ((y + y / 16) &&& M) := by
  rw [show (x + 256 * y) + (x + 256 * y) / 16 = (x + x / 16 + 16 * (y % 16)) + 256 * (y + y / 16) by omega, and_split (by omega) (by decide), bp_c x hx _ hy]
def bcN (v : Nat) : Nat :=
  let a := v - (v / 2 &&& 1431655765)
  let b := (a &&& 858993459) + (a / 4 &&& 858993459)
  let c := (b + b / 16) &&& 252645135
  let d := c + c / 256
  let e := d + d / 65536
  e &&& 63
theorem bc_fin {A B C : Nat} (hA : A ≤ 8) (hB : B ≤ 8) (hC : C ≤ 8) : ((A + 256 * (B + 256 * C)) + (A + 256 * (B + 256 * C)) / 256 + ((A + 256 * (B + 256 * C)) + (A + 256 * (B + 256 * C)) / 256) / 65536) % 2 ^ 6 = A + B + C := by
  have h1 : (A + 256 * (B + 256 * C)) / 256 = B + 256 * C := by omega
  rw [h1]
  have h2 : (A + 256 * (B + 256 * C) + (B + 256 * C)) / 65536 = C := by omega
  rw [h2]
  omega
theorem bcN_eq {a b c : Nat} (ha : a < 256) (hb : b < 256) (hc : c < 256) : bcN (a + 256 * (b + 256 * c)) = pcN a 8 + pcN b 8 + pcN c 8 := by
  obtain ⟨a1, a2, a3, a4, a5, a6⟩ := bp_d a ha
  obtain ⟨b1, b2, b3, b4, b5, b6⟩ := bp_d b hb
  obtain ⟨c1, c2, c3, c4, c5, c6⟩ := bp_d c hc
  have e1 : (a + 256 * (b + 256 * c)) - ((a + 256 * (b + 256 * c)) / 2 &&& 1431655765) = bp1 a + 256 * (bp1 b + 256 * bp1 c) := by
    rw [show 1431655765 = 85 + 256 * (85 + 256 * 21845) from rfl, bs1 ha, bs1 hb, c6]; rfl
  have e2 : ((bp1 a + 256 * (bp1 b + 256 * bp1 c)) &&& 858993459) + ((bp1 a + 256 * (bp1 b + 256 * bp1 c)) / 4 &&& 858993459) = bp2 (bp1 a) + 256 * (bp2 (bp1 b) + 256 * bp2 (bp1 c)) := by
    rw [show 858993459 = 51 + 256 * (51 + 256 * 13107) from rfl, bs2 a1, bs2 b1, (bp_e _ c1).1, (bp_e _ c1).2]; rfl
  have e3 : ((bp2 (bp1 a) + 256 * (bp2 (bp1 b) + 256 * bp2 (bp1 c))) + (bp2 (bp1 a) + 256 * (bp2 (bp1 b) + 256 * bp2 (bp1 c))) / 16) &&& 252645135 = pcN a 8 + 256 * (pcN b 8 + 256 * pcN c 8) := by
    rw [show 252645135 = 15 + 256 * (15 + 256 * 3855) from rfl, bs3 a2 (by omega), bs3 b2 (by omega), bp_f _ (by omega), a4, b4, c4]
  unfold bcN
  simp only []
  rw [e1, e2, e3]
  rw [show (63 : Nat) = 2 ^ 6 - 1 from rfl, Nat.and_two_pow_sub_one_eq_mod]
  exact bc_fin a5 b5 c5
theorem us_nI {v : Nat} (hv : v < 2 ^ 32) : us (nI v) 1 = nI (v / 2) ∧ us (nI v) 2 = nI (v / 4) ∧ us (nI v) 4 = nI (v / 16) ∧ us (nI v) 8 = nI (v / 256) ∧ us (nI v) 16 = nI (v / 65536) :=
  ⟨pk_ushrN hv 1 1 (by decide), pk_ushrN hv 2 2 (by decide), pk_ushrN hv 4 4 (by decide), pk_ushrN hv 8 8 (by decide), pk_ushrN hv 16 16 (by decide)⟩
theorem bcE_N {v : Nat} (hv : v < 2 ^ 24) : bcE (nI v) = nI (bcN v) := by
  unfold bcE bcN
  simp only []
  have h1 : v / 2 &&& 1431655765 ≤ v / 2 := Nat.and_le_left
  rw [(us_nI (v := v) (by omega)).1, show (1431655765 : Int32) = nI 1431655765 from rfl, nI_and, pk_sub (by omega)]
  generalize ha : v - (v / 2 &&& 1431655765) = a
  have ha2 : a < 2 ^ 24 := by omega
  rw [(us_nI (v := a) (by omega)).2.1, show (858993459 : Int32) = nI 858993459 from rfl, nI_and, nI_and, nI_add]
  have h2 : a &&& 858993459 ≤ a := Nat.and_le_left
  have h3 : a / 4 &&& 858993459 ≤ a / 4 := Nat.and_le_left
  generalize hb : (a &&& 858993459) + (a / 4 &&& 858993459) = b
  have hb2 : b < 2 ^ 25 := by omega
  rw [(us_nI (v := b) (by omega)).2.2.1, show (252645135 : Int32) = nI 252645135 from rfl, nI_add, nI_and]
  have h4 : (b + b / 16) &&& 252645135 ≤ b + b / 16 := Nat.and_le_left
  generalize hc : (b + b / 16) &&& 252645135 = c
  have hc2 : c < 2 ^ 26 := by omega
  rw [(us_nI (v := c) (by omega)).2.2.2.1, nI_add, (us_nI (v := c + c / 256) (by omega)).2.2.2.2, nI_add, show (63 : Int32) = nI 63 from rfl, nI_and]
theorem pcN_mk (f : Nat → Bool) (n : Nat) : ∀ m, m ≤ n → pcN (mkN f n) m = cnI f m
  | 0, _ => rfl
  | m + 1, h => by
    rw [pcN, cnI, pcN_mk f n m (by omega), mkN_bit, decide_eq_true (by omega : m < n), Bool.true_and]
    cases f m <;> rfl
theorem cnI_add (f : Nat → Bool) (m : Nat) : ∀ n, cnI f (m + n) = cnI f m + cnI (fun k => f (m + k)) n
  | 0 => rfl
  | n + 1 => by show cnI f (m + n) + (f (m + n)).toNat = cnI f m + (cnI (fun k => f (m + k)) n + (f (m + n)).toNat); rw [cnI_add f m n, Nat.add_assoc]
theorem bcE_mk (f : Nat → Bool) : bcE (mkI f 24) = nI (cnI f 24) := by
  have e : mkN f 24 = mkN f 8 + 256 * (mkN (fun k => f (8 + k)) 8 + 256 * mkN (fun k => f (8 + (8 + k))) 8) := by
    rw [show 24 = 8 + (8 + 8) from rfl, mkN_add f 8, mkN_add (fun k => f (8 + k)) 8]
  rw [mkI_N f 24 (Nat.le_refl _), bcE_N (mkN_lt f 24), e, bcN_eq (mkN_lt f 8) (mkN_lt _ 8) (mkN_lt _ 8), pcN_mk _ _ _ (Nat.le_refl _), pcN_mk _ _ _ (Nat.le_refl _), pcN_mk _ _ _ (Nat.le_refl _)]
  rw [show cnI f 24 = cnI f (8 + (8 + 8)) from rfl, cnI_add f 8, cnI_add (fun k => f (8 + k)) 8, Nat.add_assoc]
/-- the least bit -/
def nzE (y : Int32) : Int32 :=
  if y ≤ 0 then y &&& 32 else
  let p := if y ≤ 65536 then (y, (1 : Int32)) else (us y 16, 17)
  let q := if p.1 ≤ 256 then p else (us p.1 8, p.2 + 8)
  let r := if q.1 ≤ 16 then q else (us q.1 4, q.2 + 4)
  let t := if r.1 ≤ 4 then r else (us r.1 2, r.2 + 2)
  t.2 + us t.1 1
theorem nzE_ok : ∀ t, t < 24 → nzE (nI (2 ^ t - 1)) = nI t := by decide +kernel
theorem lowbit {v t : Nat} (hv : v < 2 ^ 24) (ht : t < 24) (h1 : v.testBit t = true) (h2 : ∀ k, k < t → v.testBit k = false) : (nI v ^^^ -1) &&& (nI v - 1) = nI (2 ^ t - 1) := by
  have hpos : 1 ≤ v := by
    rcases Nat.eq_zero_or_pos v with h | h
    · rw [h, Nat.zero_testBit] at h1; cases h1
    · exact h
  have e1 : nI v ^^^ -1 = nI (2 ^ 32 - (v + 1)) := by
    apply Int32.toBitVec_inj.mp
    rw [Int32.toBitVec_xor]
    apply BitVec.eq_of_toNat_eq
    rw [BitVec.toNat_xor]
    have q1 : (nI v).toBitVec.toNat = v := pk_tn (by omega)
    have q2 : (nI (2 ^ 32 - (v + 1))).toBitVec.toNat = 2 ^ 32 - (v + 1) := pk_tn (by omega)
    have q3 : (-1 : Int32).toBitVec.toNat = 2 ^ 32 - 1 := by decide
    rw [q1, q2, q3]
    refine Nat.eq_of_testBit_eq (fun k => ?_)
    rw [Nat.testBit_xor, Nat.testBit_two_pow_sub_one, Nat.testBit_two_pow_sub_succ (by omega)]
    by_cases hk : k < 32
    · rw [decide_eq_true hk]; cases v.testBit k <;> rfl
    · rw [decide_eq_false hk, Nat.testBit_lt_two_pow (Nat.lt_of_lt_of_le hv (Nat.pow_le_pow_right (by decide) (by omega)))]; rfl
  rw [e1, show nI v - 1 = nI (v - 1) from pk_sub (b := 1) hpos, nI_and]
  refine congrArg nI ?_
  have hm : v = 2 ^ (t + 1) * (v / 2 ^ (t + 1)) + 2 ^ t := by
    have := Nat.div_add_mod v (2 ^ (t + 1))
    have e2 : v % 2 ^ (t + 1) = 2 ^ t := by
      refine Nat.eq_of_testBit_eq (fun k => ?_)
      rw [Nat.testBit_mod_two_pow, Nat.testBit_two_pow]
      by_cases hk : k < t
      · rw [h2 k hk, decide_eq_false (by omega : ¬ t = k)]; simp
      · by_cases e : k = t
        · subst e; rw [h1]; simp
        · rw [decide_eq_false (by omega : ¬ k < t + 1), decide_eq_false (by omega : ¬ t = k)]; rfl
    rw [e2] at this; exact this.symm
  have hp : 1 ≤ 2 ^ t := Nat.one_le_two_pow
  have hlt : 2 ^ t < 2 ^ (t + 1) := by rw [Nat.pow_succ]; omega
  have hm1 : v - 1 = 2 ^ (t + 1) * (v / 2 ^ (t + 1)) + (2 ^ t - 1) := by omega
  refine Nat.eq_of_testBit_eq (fun k => ?_)
  rw [Nat.testBit_and, Nat.testBit_two_pow_sub_succ (by omega), hm1, Nat.testBit_two_pow_mul_add _ (by omega), Nat.testBit_two_pow_sub_one]
  by_cases hk : k < t
  · rw [if_pos (by omega), h2 k hk, decide_eq_true hk, decide_eq_true (by omega : k < 32)]; rfl
  · by_cases e : k = t
    · subst e
      rw [h1, decide_eq_false hk]; simp
    · rw [if_neg (by omega), decide_eq_false hk]
      have e3 : v.testBit k = (v / 2 ^ (t + 1)).testBit (k - (t + 1)) := by
        rw [Nat.testBit_div_two_pow]; congr 1; omega
      rw [e3]
      cases (v / 2 ^ (t + 1)).testBit (k - (t + 1)) <;> simp
section T0
variable {l : Launch} {ι : zE} {mem : zM} {Post : Option zV → zM → Prop} {x : Int32}
theorem c_ntz (h : Post (some (zI (nzE ((x ^^^ -1) &&& (x - 1))))) mem) : zC l ι M_Integer_numberOfTrailingZeros_0f7a4 0 [zI x] mem Post := by
  have hH : zHas ι [] := zHas.nil
  refine z_enter hH (by decide) (by simp [z_ent, M_Integer_numberOfTrailingZeros_0f7a4]) (fun X hXl hX hR => ?_)
  refine z_iload_n hX (D_Integer_numberOfTrailingZeros_0f7a4 (i := 0) rfl) rfl ?_
  refine z_iconst (v := -1) hX (D_Integer_numberOfTrailingZeros_0f7a4 (i := 1) rfl) (by decide) ?_
  refine z_ixor hX (D_Integer_numberOfTrailingZeros_0f7a4 (i := 2) rfl) ?_
  refine z_iload_n hX (D_Integer_numberOfTrailingZeros_0f7a4 (i := 3) rfl) rfl ?_
  refine z_iconst (v := 1) hX (D_Integer_numberOfTrailingZeros_0f7a4 (i := 4) rfl) (by decide) ?_
  refine z_isub hX (D_Integer_numberOfTrailingZeros_0f7a4 (i := 5) rfl) ?_
  refine z_iand hX (D_Integer_numberOfTrailingZeros_0f7a4 (i := 6) rfl) ?_
  generalize (x ^^^ -1) &&& (x - 1) = y at *
  unfold nzE at h
  refine z_istore_n hX (D_Integer_numberOfTrailingZeros_0f7a4 (i := 7) rfl) (by decide) rfl ?_
  refine z_iload_n hX (D_Integer_numberOfTrailingZeros_0f7a4 (i := 8) rfl) rfl ?_
  have k4 : ∀ r : Int32 × Int32, Post (some (zI ((if r.1 ≤ 4 then r else (us r.1 2, r.2 + 2)).2 + us (if r.1 ≤ 4 then r else (us r.1 2, r.2 + 2)).1 1))) mem → zW ι M_Integer_numberOfTrailingZeros_0f7a4 X 62 [some (zI r.1), some (zI r.2)] [] mem := by
    intro r h
    refine z_iload_n hX (D_Integer_numberOfTrailingZeros_0f7a4 (i := 40) rfl) rfl ?_
    refine z_iconst (v := 4) hX (D_Integer_numberOfTrailingZeros_0f7a4 (i := 41) rfl) (by decide) ?_
    refine z_icmp_le (tgt := 74) hX (D_Integer_numberOfTrailingZeros_0f7a4 (i := 42) rfl) (by decide) (fun h1 => ?_) (fun h1 => ?_)
    · refine z_iload_n hX (D_Integer_numberOfTrailingZeros_0f7a4 (i := 48) rfl) rfl ?_
      refine z_iload_n hX (D_Integer_numberOfTrailingZeros_0f7a4 (i := 49) rfl) rfl ?_
      refine z_iconst (v := 1) hX (D_Integer_numberOfTrailingZeros_0f7a4 (i := 50) rfl) (by decide) ?_
      refine z_iushr hX (D_Integer_numberOfTrailingZeros_0f7a4 (i := 51) rfl) ?_
      refine z_iadd hX (D_Integer_numberOfTrailingZeros_0f7a4 (i := 52) rfl) ?_
      rw [if_pos h1] at h
      exact z_iret hX hR (D_Integer_numberOfTrailingZeros_0f7a4 (i := 53) rfl) rfl h
    · refine z_iinc hX (D_Integer_numberOfTrailingZeros_0f7a4 (i := 43) rfl) rfl rfl (by decide) rfl ?_
      refine z_iload_n hX (D_Integer_numberOfTrailingZeros_0f7a4 (i := 44) rfl) rfl ?_
      refine z_iconst (v := 2) hX (D_Integer_numberOfTrailingZeros_0f7a4 (i := 45) rfl) (by decide) ?_
      refine z_iushr hX (D_Integer_numberOfTrailingZeros_0f7a4 (i := 46) rfl) ?_
      refine z_istore_n hX (D_Integer_numberOfTrailingZeros_0f7a4 (i := 47) rfl) (by decide) rfl ?_
      refine z_iload_n hX (D_Integer_numberOfTrailingZeros_0f7a4 (i := 48) rfl) rfl ?_
      refine z_iload_n hX (D_Integer_numberOfTrailingZeros_0f7a4 (i := 49) rfl) rfl ?_
      refine z_iconst (v := 1) hX (D_Integer_numberOfTrailingZeros_0f7a4 (i := 50) rfl) (by decide) ?_
      refine z_iushr hX (D_Integer_numberOfTrailingZeros_0f7a4 (i := 51) rfl) ?_
      refine z_iadd hX (D_Integer_numberOfTrailingZeros_0f7a4 (i := 52) rfl) ?_
      rw [if_neg h1] at h
      exact z_iret hX hR (D_Integer_numberOfTrailingZeros_0f7a4 (i := 53) rfl) rfl h
  have k3 : ∀ q : Int32 × Int32, (∀ r : Int32 × Int32, r = (if q.1 ≤ 16 then q else (us q.1 4, q.2 + 4)) → Post (some (zI ((if r.1 ≤ 4 then r else (us r.1 2, r.2 + 2)).2 + us (if r.1 ≤ 4 then r else (us r.1 2, r.2 + 2)).1 1))) mem) → zW ι M_Integer_numberOfTrailingZeros_0f7a4 X 49 [some (zI q.1), some (zI q.2)] [] mem := by
    intro q h
    refine z_iload_n hX (D_Integer_numberOfTrailingZeros_0f7a4 (i := 32) rfl) rfl ?_
    refine z_bipush (v := 16) hX (D_Integer_numberOfTrailingZeros_0f7a4 (i := 33) rfl) (by decide) ?_
    refine z_icmp_le (tgt := 62) hX (D_Integer_numberOfTrailingZeros_0f7a4 (i := 34) rfl) (by decide) (fun h1 => ?_) (fun h1 => ?_)
    · skip
      exact k4 q (h _ (if_pos h1).symm)
    · refine z_iinc hX (D_Integer_numberOfTrailingZeros_0f7a4 (i := 35) rfl) rfl rfl (by decide) rfl ?_
      refine z_iload_n hX (D_Integer_numberOfTrailingZeros_0f7a4 (i := 36) rfl) rfl ?_
      refine z_iconst (v := 4) hX (D_Integer_numberOfTrailingZeros_0f7a4 (i := 37) rfl) (by decide) ?_
      refine z_iushr hX (D_Integer_numberOfTrailingZeros_0f7a4 (i := 38) rfl) ?_
      refine z_istore_n hX (D_Integer_numberOfTrailingZeros_0f7a4 (i := 39) rfl) (by decide) rfl ?_
      exact k4 (us q.1 4, q.2 + 4) (h _ (if_neg h1).symm)
  have k2 : ∀ p : Int32 × Int32, (∀ q : Int32 × Int32, q = (if p.1 ≤ 256 then p else (us p.1 8, p.2 + 8)) → ∀ r : Int32 × Int32, r = (if q.1 ≤ 16 then q else (us q.1 4, q.2 + 4)) → Post (some (zI ((if r.1 ≤ 4 then r else (us r.1 2, r.2 + 2)).2 + us (if r.1 ≤ 4 then r else (us r.1 2, r.2 + 2)).1 1))) mem) → zW ι M_Integer_numberOfTrailingZeros_0f7a4 X 34 [some (zI p.1), some (zI p.2)] [] mem := by
    intro p h
    refine z_iload_n hX (D_Integer_numberOfTrailingZeros_0f7a4 (i := 24) rfl) rfl ?_
    refine z_sipush (v := 256) hX (D_Integer_numberOfTrailingZeros_0f7a4 (i := 25) rfl) (by decide) ?_
    refine z_icmp_le (tgt := 49) hX (D_Integer_numberOfTrailingZeros_0f7a4 (i := 26) rfl) (by decide) (fun h1 => ?_) (fun h1 => ?_)
    · skip
      exact k3 p (h _ (if_pos h1).symm)
    · refine z_iinc hX (D_Integer_numberOfTrailingZeros_0f7a4 (i := 27) rfl) rfl rfl (by decide) rfl ?_
      refine z_iload_n hX (D_Integer_numberOfTrailingZeros_0f7a4 (i := 28) rfl) rfl ?_
      refine z_bipush (v := 8) hX (D_Integer_numberOfTrailingZeros_0f7a4 (i := 29) rfl) (by decide) ?_
      refine z_iushr hX (D_Integer_numberOfTrailingZeros_0f7a4 (i := 30) rfl) ?_
      refine z_istore_n hX (D_Integer_numberOfTrailingZeros_0f7a4 (i := 31) rfl) (by decide) rfl ?_
      exact k3 (us p.1 8, p.2 + 8) (h _ (if_neg h1).symm)
  refine z_if_gt (tgt := 17) hX (D_Integer_numberOfTrailingZeros_0f7a4 (i := 9) rfl) (by decide) (fun h0 => ?_) (fun h0 => ?_)
  · refine z_iconst (v := 1) hX (D_Integer_numberOfTrailingZeros_0f7a4 (i := 14) rfl) (by decide) ?_
    refine z_istore_n hX (D_Integer_numberOfTrailingZeros_0f7a4 (i := 15) rfl) (by decide) rfl ?_
    refine z_iload_n hX (D_Integer_numberOfTrailingZeros_0f7a4 (i := 16) rfl) rfl ?_
    refine z_ldcw (v := 65536) hX (D_Integer_numberOfTrailingZeros_0f7a4 (i := 17) rfl) k_Integer_264 ?_
    rw [if_neg (Int32.not_le.mpr h0)] at h
    simp only [] at h
    refine z_icmp_le (tgt := 34) hX (D_Integer_numberOfTrailingZeros_0f7a4 (i := 18) rfl) (by decide) (fun h1 => ?_) (fun h1 => ?_)
    · skip
      rw [if_pos h1] at h
      exact k2 (y, 1) (fun q hq r hr => by rw [hr, hq]; exact h)
    · refine z_iinc hX (D_Integer_numberOfTrailingZeros_0f7a4 (i := 19) rfl) rfl rfl (by decide) rfl ?_
      refine z_iload_n hX (D_Integer_numberOfTrailingZeros_0f7a4 (i := 20) rfl) rfl ?_
      refine z_bipush (v := 16) hX (D_Integer_numberOfTrailingZeros_0f7a4 (i := 21) rfl) (by decide) ?_
      refine z_iushr hX (D_Integer_numberOfTrailingZeros_0f7a4 (i := 22) rfl) ?_
      refine z_istore_n hX (D_Integer_numberOfTrailingZeros_0f7a4 (i := 23) rfl) (by decide) rfl ?_
      rw [if_neg h1] at h
      exact k2 (us y 16, 17) (fun q hq r hr => by rw [hr, hq]; exact h)
  · refine z_iload_n hX (D_Integer_numberOfTrailingZeros_0f7a4 (i := 10) rfl) rfl ?_
    refine z_bipush (v := 32) hX (D_Integer_numberOfTrailingZeros_0f7a4 (i := 11) rfl) (by decide) ?_
    refine z_iand hX (D_Integer_numberOfTrailingZeros_0f7a4 (i := 12) rfl) ?_
    rw [if_pos (Int32.not_lt.mp h0)] at h
    exact z_iret hX hR (D_Integer_numberOfTrailingZeros_0f7a4 (i := 13) rfl) rfl h
theorem c_ntz_mk {f : Nat → Bool} {t : Nat} (ht : t < 24) (h1 : f t = true) (h2 : ∀ k, k < t → f k = false) (h : Post (some (zI (nI t))) mem) : zC l ι M_Integer_numberOfTrailingZeros_0f7a4 0 [zI (mkI f 24)] mem Post := by
  refine c_ntz ?_
  rw [mkI_N f 24 (Nat.le_refl _), lowbit (mkN_lt f 24) ht (by rw [mkN_bit, h1, decide_eq_true ht]; rfl) (fun k hk => by rw [mkN_bit, h2 k hk, Bool.and_false]), nzE_ok t ht]
  exact h
end T0
