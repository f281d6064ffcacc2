/-! the law's text, read and worked out, apart from any program -/
/-- signs in the order in which they work: 0 a number, 1 a name, 2 one that turns, 3 one that joins -/
abbrev lE := List (Nat × Nat)
abbrev lRs := Nat × Option lE
def isDg (k : Nat) : Bool := decide (48 ≤ k ∧ k ≤ 57)
def isNm (k : Nat) : Bool := decide (k = 97 ∨ k = 98 ∨ k = 115 ∨ k = 105 ∨ k = 106)
def isJn (lv k : Nat) : Bool := decide ((lv = 0 ∧ k = 124) ∨ (lv = 1 ∧ k = 38) ∨ (lv = 2 ∧ (k = 60 ∨ k = 61 ∨ k = 62)) ∨ (lv = 3 ∧ (k = 43 ∨ k = 45)) ∨ (lv = 4 ∧ (k = 42 ∨ k = 47 ∨ k = 37)))
section L0
variable (K : Nat → Nat)
def nuR : Nat → Nat → Nat → Nat × Nat
  | 0, p, v => (p, v)
  | m + 1, p, v => if isDg (K p) = true then nuR m (p + 1) (10 * v + K p - 48) else (p, v)
def lpR (sub : Nat → lRs) (lv : Nat) : Nat → Nat → lE → lRs
  | 0, p, e => (p, some e)
  | m + 1, p, e => if isJn lv (K p) = true then (match sub (p + 1) with
    | (q, none) => (q, none)
    | (q, some e') => lpR sub lv m q (e ++ e' ++ [(3, K p)])) else (p, some e)
def lvR (op : Nat → lRs) : Nat → Nat → lRs
  | 0, p => op p
  | d + 1, p => match lvR op d p with
    | (q, none) => (q, none)
    | (q, some e) => lpR K (lvR op d) (4 - d) (if d = 2 then 1 else 120) q e
def opR : Nat → Nat → lRs
  | 0 => fun p => if isDg (K p) = true then ((nuR K 4 p 0).1, some [(0, (nuR K 4 p 0).2)]) else if isNm (K p) = true then (p + 1, some [(1, K p)]) else (p, none)
  | r + 1 => fun p => if isDg (K p) = true then ((nuR K 4 p 0).1, some [(0, (nuR K 4 p 0).2)]) else if isNm (K p) = true then (p + 1, some [(1, K p)]) else
    if K p = 40 then (match lvR K (opR r) 5 (p + 1) with
      | (q, none) => (q, none)
      | (q, some e) => if K q = 41 then (q + 1, some e) else (q, none))
    else if K p = 33 ∨ K p = 45 then (match opR r (p + 1) with
      | (q, none) => (q, none)
      | (q, some e) => (q, some (e ++ [(2, K p)])))
    else (p, none)
abbrev lLn := Option lE × lE
def lnR (p : Nat) : Nat × Option lLn := match lvR K (opR K 6) 5 p with
  | (q, none) => (q, none)
  | (q, some t) => if K q = 63 then (match lvR K (opR K 6) 5 (q + 1) with
    | (u, none) => (u, none)
    | (u, some v) => (u, some (some t, v))) else (q, some (none, t))
def txR (n : Nat) : Nat → Nat → List lLn → Nat × Option (List lLn)
  | 0, p, _ => (p, none)
  | m + 1, p, acc => match lnR K p with
    | (q, none) => (q, none)
    | (q, some L) => if n ≤ q then (q, some (acc ++ [L])) else if K q = 59 then txR n m (q + 1) (acc ++ [L]) else (q, none)
end L0
/-- where a reading may end -/
def lok (n p : Nat) : lRs → Prop
  | (q, none) => p ≤ q ∧ q ≤ n
  | (q, some e) => p < q ∧ q ≤ n ∧ e.length ≤ q - p
def lokF (n : Nat) (f : Nat → lRs) : Prop := ∀ p, p ≤ n → lok n p (f p)
section L1
variable {K : Nat → Nat} {n : Nat}
theorem K_lt (hK : ∀ p, n ≤ p → K p = 999) {p : Nat} (h : K p ≠ 999) : p < n := Nat.lt_of_not_le (fun w => h (hK p w))
theorem isDg_lt (hK : ∀ p, n ≤ p → K p = 999) {p : Nat} (h : isDg (K p) = true) : p < n := K_lt hK (fun w => by rw [w] at h; exact absurd h (by decide))
theorem isNm_lt (hK : ∀ p, n ≤ p → K p = 999) {p : Nat} (h : isNm (K p) = true) : p < n := K_lt hK (fun w => by rw [w] at h; exact absurd h (by decide))
theorem isJn_lt (hK : ∀ p, n ≤ p → K p = 999) {lv p : Nat} (h : isJn lv (K p) = true) : p < n := K_lt hK (fun w => by rw [w] at h; have := of_decide_eq_true h; omega)
theorem nuR_le (hK : ∀ p, n ≤ p → K p = 999) : ∀ (m p v : Nat), p ≤ n → p ≤ (nuR K m p v).1 ∧ (nuR K m p v).1 ≤ n
  | 0, p, v, h => ⟨Nat.le_refl _, h⟩
  | m + 1, p, v, h => by
    unfold nuR
    split
    · next hd =>
      have := isDg_lt hK hd
      have := nuR_le hK m (p + 1) (10 * v + K p - 48) (by omega)
      omega
    · exact ⟨Nat.le_refl _, h⟩
theorem nuR_lt (hK : ∀ p, n ≤ p → K p = 999) {m p v : Nat} (hd : isDg (K p) = true) : p < (nuR K (m + 1) p v).1 ∧ (nuR K (m + 1) p v).1 ≤ n := by
  unfold nuR
  rw [if_pos hd]
  have := isDg_lt hK hd
  have := nuR_le hK m (p + 1) (10 * v + K p - 48) (by omega)
  omega
theorem lpR_ok (hK : ∀ p, n ≤ p → K p = 999) {sub : Nat → lRs} (hs : lokF n sub) {lv : Nat} : ∀ (m p p0 : Nat) (e : lE), p0 < p → p ≤ n → e.length ≤ p - p0 → lok n p0 (lpR K sub lv m p e)
  | 0, p, p0, e, h1, h2, h3 => ⟨h1, h2, h3⟩
  | m + 1, p, p0, e, h1, h2, h3 => by
    unfold lpR
    split
    · next hj =>
      have hp := isJn_lt hK hj
      have hq := hs (p + 1) hp
      revert hq
      cases sub (p + 1) with
      | mk q r =>
        cases r with
        | none => intro hq; exact ⟨by have := hq.1; omega, hq.2⟩
        | some e' =>
          intro hq
          obtain ⟨a, b, c⟩ := hq
          refine lpR_ok hK hs m q p0 (e ++ e' ++ [(3, K p)]) (by omega) b ?_
          simp only [List.length_append, List.length_cons, List.length_nil]
          omega
    · exact ⟨h1, h2, h3⟩
theorem lvR_ok (hK : ∀ p, n ≤ p → K p = 999) {op : Nat → lRs} (ho : lokF n op) : ∀ d, lokF n (lvR K op d)
  | 0 => ho
  | d + 1 => fun p hp => by
    unfold lvR
    have hq := lvR_ok hK ho d p hp
    revert hq
    cases lvR K op d p with
    | mk q r =>
      cases r with
      | none => exact fun hq => hq
      | some e => exact fun hq => lpR_ok hK (lvR_ok hK ho d) _ q p e hq.1 hq.2.1 hq.2.2
theorem opR_ok (hK : ∀ p, n ≤ p → K p = 999) : ∀ r, lokF n (opR K r)
  | 0 => fun p hp => by
    unfold opR
    split
    · next hd =>
      have : p < (nuR K 4 p 0).1 ∧ (nuR K 4 p 0).1 ≤ n := nuR_lt hK hd
      exact ⟨this.1, this.2, by show 1 ≤ _; omega⟩
    · split
      · next hd =>
        have := isNm_lt hK hd
        exact ⟨by omega, this, by show 1 ≤ _; omega⟩
      · exact ⟨Nat.le_refl _, hp⟩
  | r + 1 => fun p hp => by
    unfold opR
    split
    · next hd =>
      have : p < (nuR K 4 p 0).1 ∧ (nuR K 4 p 0).1 ≤ n := nuR_lt hK hd
      exact ⟨this.1, this.2, by show 1 ≤ _; omega⟩
    · split
      · next hd =>
        have := isNm_lt hK hd
        exact ⟨by omega, this, by show 1 ≤ _; omega⟩
      · split
        · next h =>
          have hp' := K_lt hK (p := p) (by omega)
          have hq := lvR_ok hK (opR_ok hK r) 5 (p + 1) hp'
          revert hq
          cases lvR K (opR K r) 5 (p + 1) with
          | mk q r =>
            cases r with
            | none => exact fun hq => ⟨by have := hq.1; omega, hq.2⟩
            | some e =>
              intro hq
              obtain ⟨a, b, c⟩ := hq
              show lok n p (if K q = 41 then (q + 1, some e) else (q, none))
              split
              · next h2 =>
                have := K_lt hK (p := q) (by omega)
                exact ⟨by omega, this, by omega⟩
              · exact ⟨by omega, b⟩
        · split
          · next h =>
            have hp' := K_lt hK (p := p) (by omega)
            have hq := opR_ok hK r (p + 1) hp'
            revert hq
            cases opR K r (p + 1) with
            | mk q r =>
              cases r with
              | none => exact fun hq => ⟨by have := hq.1; omega, hq.2⟩
              | some e =>
                intro hq
                obtain ⟨a, b, c⟩ := hq
                exact ⟨by omega, b, by simp only [List.length_append, List.length_cons, List.length_nil]; omega⟩
          · exact ⟨Nat.le_refl _, hp⟩
end L1
