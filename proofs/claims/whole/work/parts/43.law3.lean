/-! what the law's text is worth; lines and the whole text, read by the class -/
def unV (c : Nat) (v : Int32) : Int32 := if c = 45 then -v else if v = 0 then 1 else 0
def biV (c : Nat) (x y : Int32) : Int32 :=
  if c = 124 then (if x ≠ 0 ∨ y ≠ 0 then 1 else 0) else if c = 38 then (if x ≠ 0 ∧ y ≠ 0 then 1 else 0) else if c = 60 then (if x < y then 1 else 0) else if c = 61 then (if x = y then 1 else 0) else if c = 62 then (if y < x then 1 else 0) else if c = 43 then x + y else if c = 45 then x - y else if c = 42 then x * y else if c = 47 then (if y = 0 then 0 else x / y) else (if y = 0 then 0 else x - x / y * y)
def rnS (φ : Nat → Int32) (s : Nat × Nat) (st : List Int32) : Option (List Int32) :=
  if s.1 = 0 then some (nI s.2 :: st) else if s.1 = 1 then some (φ s.2 :: st) else match st with
  | [] => none
  | v :: r => if s.1 = 2 then some (unV s.2 v :: r) else match r with
    | [] => none
    | u :: r2 => some (biV s.2 u v :: r2)
def rnE (φ : Nat → Int32) : lE → List Int32 → Option (List Int32)
  | [], st => some st
  | s :: e, st => match rnS φ s st with
    | none => none
    | some st2 => rnE φ e st2
theorem rnE_app (φ : Nat → Int32) : ∀ (a b : lE) (st st2 : List Int32), rnE φ a st = some st2 → rnE φ (a ++ b) st = rnE φ b st2
  | [], b, st, st2, h => by rw [Option.some.inj h]; rfl
  | s :: a, b, st, st2, h => by
    unfold rnE at h
    show (match rnS φ s st with
      | none => none
      | some st2 => rnE φ (a ++ b) st2) = _
    cases hs : rnS φ s st with
    | none => rw [hs] at h; cases h
    | some st3 => rw [hs] at h; exact rnE_app φ a b st3 st2 h
def isJo (c : Nat) : Prop := c = 124 ∨ c = 38 ∨ c = 60 ∨ c = 61 ∨ c = 62 ∨ c = 43 ∨ c = 45 ∨ c = 42 ∨ c = 47 ∨ c = 37
def sgOK (s : Nat × Nat) : Prop := (s.1 = 0 ∧ s.2 < 10000) ∨ (s.1 = 1 ∧ isNm s.2 = true) ∨ (s.1 = 2 ∧ (s.2 = 33 ∨ s.2 = 45)) ∨ (s.1 = 3 ∧ isJo s.2)
/-- an expression: its signs are signs, and it leaves one value -/
def lgd (e : lE) : Prop := (∀ s ∈ e, sgOK s) ∧ ∀ φ, ∃ v, ∀ st, rnE φ e st = some (v :: st)
def lgR : lRs → Prop
  | (_, none) => True
  | (_, some e) => lgd e
theorem lgd_num {v : Nat} (h : v < 10000) : lgd [(0, v)] := ⟨fun s hs => by rw [List.mem_singleton] at hs; rw [hs]; exact Or.inl ⟨rfl, h⟩, fun φ => ⟨nI v, fun st => rfl⟩⟩
theorem lgd_nam {c : Nat} (h : isNm c = true) : lgd [(1, c)] := ⟨fun s hs => by rw [List.mem_singleton] at hs; rw [hs]; exact Or.inr (Or.inl ⟨rfl, h⟩), fun φ => ⟨φ c, fun st => rfl⟩⟩
theorem lgd_una {c : Nat} {e : lE} (h : lgd e) (hc : c = 33 ∨ c = 45) : lgd (e ++ [(2, c)]) := by
  refine ⟨fun s hs => ?_, fun φ => ?_⟩
  · rcases List.mem_append.mp hs with hs | hs
    · exact h.1 s hs
    · rw [List.mem_singleton] at hs; rw [hs]; exact Or.inr (Or.inr (Or.inl ⟨rfl, hc⟩))
  · obtain ⟨v, hv⟩ := h.2 φ
    exact ⟨unV c v, fun st => by rw [rnE_app φ e _ st _ (hv st)]; rfl⟩
theorem lgd_bin {c : Nat} {e f : lE} (h : lgd e) (h2 : lgd f) (hc : isJo c) : lgd (e ++ f ++ [(3, c)]) := by
  refine ⟨fun s hs => ?_, fun φ => ?_⟩
  · rcases List.mem_append.mp hs with hs | hs
    · rcases List.mem_append.mp hs with hs | hs
      · exact h.1 s hs
      · exact h2.1 s hs
    · rw [List.mem_singleton] at hs; rw [hs]; exact Or.inr (Or.inr (Or.inr ⟨rfl, hc⟩))
  · obtain ⟨v, hv⟩ := h.2 φ
    obtain ⟨u, hu⟩ := h2.2 φ
    exact ⟨biV c v u, fun st => by rw [List.append_assoc, rnE_app φ e _ st _ (hv st), rnE_app φ f _ _ _ (hu _)]; rfl⟩
section L3
variable {K : Nat → Nat}
theorem isJn_jo {lv k : Nat} (h : isJn lv k = true) : isJo k := by
  have := of_decide_eq_true h
  unfold isJo
  omega
theorem nuR_b : ∀ (m p v : Nat), (nuR K m p v).2 < (v + 1) * 10 ^ m
  | 0, p, v => by show v < (v + 1) * 1; omega
  | m + 1, p, v => by
    unfold nuR
    split
    · next h =>
      have h1 := of_decide_eq_true h
      have h2 := nuR_b m (p + 1) (10 * v + K p - 48)
      have h3 : (10 * v + K p - 48 + 1) * 10 ^ m ≤ ((v + 1) * 10) * 10 ^ m := Nat.mul_le_mul_right _ (by omega)
      rw [Nat.pow_succ, Nat.mul_comm (10 ^ m) 10, ← Nat.mul_assoc]
      omega
    · show v < (v + 1) * 10 ^ (m + 1)
      have : 0 < 10 ^ (m + 1) := Nat.pow_pos (by decide)
      have := Nat.le_mul_of_pos_right (v + 1) this
      omega
theorem lpR_gd {sub : Nat → lRs} (hs : ∀ p, lgR (sub p)) {lv : Nat} : ∀ (m p : Nat) (e : lE), lgd e → lgR (lpR K sub lv m p e)
  | 0, p, e, h => h
  | m + 1, p, e, h => by
    unfold lpR
    split
    · next hj =>
      have hq := hs (p + 1)
      revert hq
      cases sub (p + 1) with
      | mk q r =>
        cases r with
        | none => exact fun _ => trivial
        | some e2 => exact fun hq => lpR_gd hs m q _ (lgd_bin h hq (isJn_jo hj))
    · exact h
theorem lvR_gd {op : Nat → lRs} (ho : ∀ p, lgR (op p)) : ∀ d p, lgR (lvR K op d p)
  | 0, p => ho p
  | d + 1, p => by
    unfold lvR
    have hq := lvR_gd ho d p
    revert hq
    cases lvR K op d p with
    | mk q r =>
      cases r with
      | none => exact fun _ => trivial
      | some e => exact fun hq => lpR_gd (fun p => lvR_gd ho d p) _ q e hq
theorem opR_gd : ∀ r p, lgR (opR K r p) := by
  intro r
  induction r with
  | zero =>
    intro p
    unfold opR
    split
    · have := nuR_b (K := K) 4 p 0
      exact lgd_num (by omega)
    · split
      · next h => exact lgd_nam h
      · trivial
  | succ r ih =>
    intro p
    by_cases h1 : isDg (K p) = true
    · rw [opR_dg h1]
      have := nuR_b (K := K) 4 p 0
      exact lgd_num (by omega)
    · have h1 := Bool.eq_false_iff.mpr h1
      by_cases h2 : isNm (K p) = true
      · rw [opR_nm h1 h2]; exact lgd_nam h2
      · have h2 := Bool.eq_false_iff.mpr h2
        by_cases h3 : K p = 40
        · rw [opR_in h3]
          unfold inR
          have hq := lvR_gd (K := K) ih 5 (p + 1)
          revert hq
          cases lvR K (opR K r) 5 (p + 1) with
          | mk q r =>
            cases r with
            | none => exact fun _ => trivial
            | some e =>
              intro hq
              show lgR (if K q = 41 then (q + 1, some e) else (q, none))
              split
              · exact hq
              · trivial
        · by_cases h4 : K p = 33 ∨ K p = 45
          · rw [opR_un h4]
            unfold unR
            have hq := ih (p + 1)
            revert hq
            cases opR K r (p + 1) with
            | mk q r =>
              cases r with
              | none => exact fun _ => trivial
              | some e => exact fun hq => lgd_una hq h4
          · rw [opR_no h1 h2 h3 (fun w => h4 (Or.inl w)) (fun w => h4 (Or.inr w))]; trivial
def exR (K : Nat → Nat) (p : Nat) : lRs := lvR K (opR K 6) 5 p
theorem exR_gd (p : Nat) : lgR (exR K p) := lvR_gd (fun p => opR_gd 6 p) 5 p
theorem exR_ok {n : Nat} (hK : ∀ p, n ≤ p → K p = 999) : lokF n (exR K) := lvR_ok hK (opR_ok hK 6) 5
end L3
def lnC (L : lLn) : List Int32 := match L.1 with
  | none => cdC L.2 ++ [-59]
  | some t => cdC t ++ cdC L.2 ++ [-63]
def lnG (L : lLn) : Prop := (∀ t, L.1 = some t → lgd t) ∧ lgd L.2
def lnO (n p : Nat) : Nat × Option lLn → Prop
  | (q, none) => p ≤ q ∧ q ≤ n
  | (q, some L) => p < q ∧ q ≤ n ∧ (lnC L).length ≤ q - p + 1 ∧ lnG L
theorem lnR_ok {K : Nat → Nat} {n p : Nat} (hK : ∀ p, n ≤ p → K p = 999) (hp : p ≤ n) : lnO n p (lnR K p) := by
  unfold lnR
  have h1 := exR_ok hK p hp
  have h2 := exR_gd (K := K) p
  unfold exR at h1 h2
  revert h1 h2
  cases lvR K (opR K 6) 5 p with
  | mk q r =>
    cases r with
    | none => exact fun h _ => h
    | some t =>
      intro h1 h2
      show lnO n p (if K q = 63 then _ else _)
      split
      · next hq =>
        have hqn := K_lt hK (p := q) (by omega)
        have h3 := exR_ok hK (q + 1) hqn
        have h4 := exR_gd (K := K) (q + 1)
        unfold exR at h3 h4
        revert h3 h4
        cases lvR K (opR K 6) 5 (q + 1) with
        | mk u r =>
          cases r with
          | none => exact fun h _ => ⟨by have := h1.1; have := h.1; omega, h.2⟩
          | some v =>
            intro h3 h4
            obtain ⟨a1, a2, a3⟩ := h1
            obtain ⟨b1, b2, b3⟩ := h3
            refine ⟨by omega, b2, ?_, fun t2 e => by rw [← Option.some.inj e]; exact h2, h4⟩
            show (cdC t ++ cdC v ++ [-63]).length ≤ _
            simp only [List.length_append, cdC_len, List.length_cons, List.length_nil]
            omega
      · obtain ⟨a1, a2, a3⟩ := h1
        refine ⟨a1, a2, ?_, fun t2 e => (by cases e), h2⟩
        show (cdC t ++ [-59]).length ≤ _
        simp only [List.length_append, cdC_len, List.length_cons, List.length_nil]
        omega
def txC (Λ : List lLn) : List Int32 := Λ.flatMap lnC
theorem txC_app (a : List lLn) (L : lLn) : txC (a ++ [L]) = txC a ++ lnC L := by unfold txC; rw [List.flatMap_append]; simp
def txO (n : Nat) (acc : List lLn) : Nat × Option (List lLn) → Prop
  | (q, none) => q ≤ n
  | (q, some Λ) => q ≤ n ∧ (txC Λ).length ≤ 121 ∧ (∀ L ∈ Λ, lnG L) ∧ Λ ≠ []
theorem txR_ok {K : Nat → Nat} {n : Nat} (hK : ∀ p, n ≤ p → K p = 999) (hn : n ≤ 120) : ∀ (m p : Nat) (acc : List lLn), p ≤ n → (txC acc).length ≤ p → (∀ L ∈ acc, lnG L) → txO n acc (txR K n m p acc)
  | 0, p, acc, hp, _, _ => hp
  | m + 1, p, acc, hp, hl, hg => by
    unfold txR
    have h1 := lnR_ok hK hp
    revert h1
    cases lnR K p with
    | mk q r =>
      cases r with
      | none => exact fun h => h.2
      | some L =>
        intro h1
        obtain ⟨a1, a2, a3, a4⟩ := h1
        have hg2 : ∀ L2 ∈ acc ++ [L], lnG L2 := fun L2 h => by
          rcases List.mem_append.mp h with h | h
          · exact hg L2 h
          · rw [List.mem_singleton] at h; rw [h]; exact a4
        have hl2 : (txC (acc ++ [L])).length ≤ q + 1 := by rw [txC_app, List.length_append]; omega
        show txO n acc (if n ≤ q then _ else _)
        split
        · exact ⟨a2, by omega, hg2, by simp⟩
        · split
          · have := txR_ok hK hn m (q + 1) (acc ++ [L]) (by omega) hl2 hg2
            exact this
          · exact a2
section C3
variable {l : Launch} {ι : zE} {mem : zM} {Post : Option zV → zM → Prop} {x y z : Int32} {n p : Nat} {K : Nat → Nat} {out : List Int32}
theorem c_Law_ex (hH : zHas ι pL) (hT : LT mem n K) : CR ι mem n M_Law_readLevel 56 [zP 4 0, zI (nI 0), zI (nI 0)] (exR K) := c_Law_readLevel hH hT (opR_ok hT.2.2.1 6) (c_Law_readOperand hH hT 6 0 rfl) 5 (Nat.le_refl _)
theorem c_Law_readLine (hH : zHas ι pL) (hT : LT mem n K) (hp : p ≤ n) (ho : out.length ≤ p) (hs : ∀ q L, lnR K p = (q, some L) → Post (some (zI 1)) (pmC mem q (out ++ lnC L))) (hn : ∀ q out', lnR K p = (q, none) → Post (some (zI 0)) (pmC mem q out')) : zC l ι M_Law_readLine 57 [zP 4 0] (pmC mem p out) Post := by
  have h120 := hT.2.1
  have ex := c_Law_ex hH hT
  have hok := exR_ok hT.2.2.1 p hp
  unfold lnR at hs hn
  refine z_enter hH (by decide) (by simp [z_ent, M_Law_readLine]) (fun X hXl hX hR => ?_)
  refine z_aload_n hX (D_Law_readLine (i := 0) rfl) rfl ?_
  refine z_iconst (v := 0) hX (D_Law_readLine (i := 1) rfl) (by decide) ?_
  refine z_iconst (v := 0) hX (D_Law_readLine (i := 2) rfl) (by decide) ?_
  refine z_cV2 hX (D_Law_readLine (i := 3) rfl) mi_Law_readLevel l_Law_49 rfl rfl (by decide) (by first | exact Nat.one_pos | assumption | omega) (by first | decide | omega) (Nat.le_of_ble_eq_true rfl) (ex _ p out _ hp ho ?_ ?_)
  · intro q e he
    rw [he] at hok
    unfold exR at he
    rw [he] at hs hn
    obtain ⟨a1, a2, a3⟩ := hok
    have P := pkV_is (c := 63) (hT.K9 q) (by decide)
    refine z_if_ne (tgt := 11) hX (D_Law_readLine (i := 4) rfl) (by decide) (fun _ => ?_) (fun hcc => absurd hcc (by decide))
    refine z_aload_n hX (D_Law_readLine (i := 7) rfl) rfl ?_
    refine z_cV0 hX (D_Law_readLine (i := 8) rfl) mi_Law_peek l_Law_45 rfl rfl (by decide) (by first | exact Nat.one_pos | assumption | omega) (by first | decide | omega) (Nat.le_of_ble_eq_true rfl) (c_Law_peek hH hT a2 ?_)
    refine z_bipush (v := 63) hX (D_Law_readLine (i := 9) rfl) (by decide) ?_
    refine z_icmp_eq (tgt := 28) hX (D_Law_readLine (i := 10) rfl) (by decide) (fun h1 => ?_) (fun h1 => ?_)
    · refine z_aload_n hX (D_Law_readLine (i := 16) rfl) rfl ?_
      refine z_dupP hX (D_Law_readLine (i := 17) rfl) ?_
      refine z_geti hX (D_Law_readLine (i := 18) rfl) f_Law_32 rfl (by decide) (by first | exact Nat.one_pos | assumption | omega) rfl ?_
      refine z_iconst (v := 1) hX (D_Law_readLine (i := 19) rfl) (by decide) ?_
      refine z_iadd hX (D_Law_readLine (i := 20) rfl) ?_
      have hq := P.mp h1
      have hqn := K_lt hT.2.2.1 (p := q) (by omega)
      have hok2 := exR_ok hT.2.2.1 (q + 1) hqn
      rw [pmC_2, show nI q + 1 = nI (q + 1) from nI_add q 1]
      refine z_puti hX (D_Law_readLine (i := 21) rfl) g_Law_32 rfl (by decide) (by first | exact Nat.one_pos | assumption | omega) rfl ?_
      rw [pmC_pl]
      refine z_aload_n hX (D_Law_readLine (i := 22) rfl) rfl ?_
      refine z_iconst (v := 0) hX (D_Law_readLine (i := 23) rfl) (by decide) ?_
      refine z_iconst (v := 0) hX (D_Law_readLine (i := 24) rfl) (by decide) ?_
      simp only [if_pos hq] at hs hn
      refine z_cV2 hX (D_Law_readLine (i := 25) rfl) mi_Law_readLevel l_Law_49 rfl rfl (by decide) (by first | exact Nat.one_pos | assumption | omega) (by first | decide | omega) (Nat.le_of_ble_eq_true rfl) (ex _ (q + 1) (out ++ cdC e) _ hqn (by rw [List.length_append, cdC_len]; omega) ?_ ?_)
      · intro u v hv
        rw [hv] at hok2
        unfold exR at hv
        rw [hv] at hs
        obtain ⟨b1, b2, b3⟩ := hok2
        refine z_if_ne (tgt := 49) hX (D_Law_readLine (i := 26) rfl) (by decide) (fun _ => ?_) (fun hcc => absurd hcc (by decide))
        refine z_aload_n hX (D_Law_readLine (i := 29) rfl) rfl ?_
        refine z_bipush (v := -63) hX (D_Law_readLine (i := 30) rfl) (by decide) ?_
        refine z_cV1 hX (D_Law_readLine (i := 31) rfl) mi_Law_emit l_Law_53 rfl rfl (by decide) (by first | exact Nat.one_pos | assumption | omega) (by first | decide | omega) (Nat.le_of_ble_eq_true rfl) (c_Law_emit hH (by simp only [List.length_append, cdC_len]; omega) ?_)
        refine z_iconst (v := 1) hX (D_Law_readLine (i := 32) rfl) (by decide) ?_
        have := hs u _ rfl
        rw [show lnC (some e, v) = cdC e ++ (cdC v ++ [-63]) from List.append_assoc _ _ _, ← List.append_assoc, ← List.append_assoc] at this
        exact z_zret hX hR (D_Law_readLine (i := 33) rfl) rfl (by first | exact Or.inl rfl | exact Or.inr rfl | assumption) this
      · intro u out' hv
        unfold exR at hv
        rw [hv] at hn
        refine z_if_ne (tgt := 49) hX (D_Law_readLine (i := 26) rfl) (by decide) (fun hcc => absurd (rfl) hcc) (fun _ => ?_)
        refine z_iconst (v := 0) hX (D_Law_readLine (i := 27) rfl) (by decide) ?_
        exact z_zret hX hR (D_Law_readLine (i := 28) rfl) rfl (by first | exact Or.inl rfl | exact Or.inr rfl | assumption) (hn u out' rfl)
    · refine z_aload_n hX (D_Law_readLine (i := 11) rfl) rfl ?_
      refine z_bipush (v := -59) hX (D_Law_readLine (i := 12) rfl) (by decide) ?_
      refine z_cV1 hX (D_Law_readLine (i := 13) rfl) mi_Law_emit l_Law_53 rfl rfl (by decide) (by first | exact Nat.one_pos | assumption | omega) (by first | decide | omega) (Nat.le_of_ble_eq_true rfl) (c_Law_emit hH (by simp only [List.length_append, cdC_len]; omega) ?_)
      refine z_iconst (v := 1) hX (D_Law_readLine (i := 14) rfl) (by decide) ?_
      have := hs q (none, e) (if_neg (fun w => h1 (P.mpr w)))
      rw [show lnC (none, e) = cdC e ++ [-59] from rfl, ← List.append_assoc] at this
      exact z_zret hX hR (D_Law_readLine (i := 15) rfl) rfl (by first | exact Or.inl rfl | exact Or.inr rfl | assumption) this
  · intro q out' he
    unfold exR at he
    rw [he] at hs hn
    refine z_if_ne (tgt := 11) hX (D_Law_readLine (i := 4) rfl) (by decide) (fun hcc => absurd (rfl) hcc) (fun _ => ?_)
    refine z_iconst (v := 0) hX (D_Law_readLine (i := 5) rfl) (by decide) ?_
    exact z_zret hX hR (D_Law_readLine (i := 6) rfl) rfl (by first | exact Or.inl rfl | exact Or.inr rfl | assumption) (hn q out' rfl)
theorem c_Law_readText (hH : zHas ι pL) (hT : LT mem n K) (hs : ∀ q Λ, txR K n 121 0 [] = (q, some Λ) → Post (some (zI 1)) (pmC mem q (txC Λ))) (hn : ∀ q out', txR K n 121 0 [] = (q, none) → Post (some (zI 0)) (pmC mem q out')) : zC l ι M_Law_readText 58 [zP 4 0] (pmC mem 0 []) Post := by
  have h120 := hT.2.1
  refine z_enter hH (by decide) (by simp [z_ent, M_Law_readText]) (fun X hXl hX hR => ?_)
  refine z_iconst (v := 0) hX (D_Law_readText (i := 0) rfl) (by decide) ?_
  refine z_istore_n hX (D_Law_readText (i := 1) rfl) (by decide) rfl ?_
  suffices H : ∀ (m p : Nat) (acc : List lLn), m ≤ 121 → p ≤ n → (txC acc).length ≤ p → (∀ q Λ, txR K n m p acc = (q, some Λ) → Post (some (zI 1)) (pmC mem q (txC Λ))) → (∀ q out', txR K n m p acc = (q, none) → Post (some (zI 0)) (pmC mem q out')) → zW ι M_Law_readText X 2 [some (zP 4 0), some (zI (nI (121 - m)))] [] (pmC mem p (txC acc)) from H 121 0 [] (Nat.le_refl _) (Nat.zero_le _) (Nat.le_refl _) hs hn
  intro m
  induction m with
  | zero =>
    intro p acc hm hp hl hs hn
    refine z_iload_n hX (D_Law_readText (i := 2) rfl) rfl ?_
    refine z_bipush (v := 120) hX (D_Law_readText (i := 3) rfl) (by decide) ?_
    refine z_icmp_gt (tgt := 57) hX (D_Law_readText (i := 4) rfl) (by decide) (fun _ => ?_) (fun hcc => absurd (by decide) hcc)
    refine z_iconst (v := 0) hX (D_Law_readText (i := 31) rfl) (by decide) ?_
    exact z_zret hX hR (D_Law_readText (i := 32) rfl) rfl (by first | exact Or.inl rfl | exact Or.inr rfl | assumption) (hn p _ rfl)
  | succ m ih =>
    intro p acc hm hp hl hs hn
    unfold txR at hs hn
    have hok := lnR_ok hT.2.2.1 hp
    refine z_iload_n hX (D_Law_readText (i := 2) rfl) rfl ?_
    refine z_bipush (v := 120) hX (D_Law_readText (i := 3) rfl) (by decide) ?_
    refine z_icmp_gt (tgt := 57) hX (D_Law_readText (i := 4) rfl) (by decide) (fun hcc => absurd hcc ((fun w => absurd ((nI_ltI (a := 120) (b := 121 - (m + 1)) (by decide) (by omega)).mp w) (by omega)))) (fun _ => ?_)
    refine z_aload_n hX (D_Law_readText (i := 5) rfl) rfl ?_
    refine z_cV0 hX (D_Law_readText (i := 6) rfl) mi_Law_readLine l_Law_42 rfl rfl (by decide) (by first | exact Nat.one_pos | assumption | omega) (by first | decide | omega) (Nat.le_of_ble_eq_true rfl) (c_Law_readLine hH hT hp hl ?_ ?_)
    · intro q L he
      rw [he] at hs hn hok
      obtain ⟨a1, a2, a3, a4⟩ := hok
      refine z_if_ne (tgt := 17) hX (D_Law_readText (i := 7) rfl) (by decide) (fun _ => ?_) (fun hcc => absurd hcc (by decide))
      refine z_aload_n hX (D_Law_readText (i := 10) rfl) rfl ?_
      refine z_geti hX (D_Law_readText (i := 11) rfl) f_Law_32 rfl (by decide) (by first | exact Nat.one_pos | assumption | omega) rfl ?_
      refine z_aload_n hX (D_Law_readText (i := 12) rfl) rfl ?_
      refine z_geti hX (D_Law_readText (i := 13) rfl) f_Law_28 rfl (by decide) (by first | exact Nat.one_pos | assumption | omega) rfl ?_
      rw [pmC_2, pmC_1, hT.1]
      have P := pkV_is (c := 59) (hT.K9 q) (by decide)
      have hl2 : (txC (acc ++ [L])).length ≤ q + 1 := by rw [txC_app, List.length_append]; omega
      refine z_icmp_lt (tgt := 30) hX (D_Law_readText (i := 14) rfl) (by decide) (fun h1 => ?_) (fun h1 => ?_)
      · refine z_aload_n hX (D_Law_readText (i := 17) rfl) rfl ?_
        have hq : ¬ n ≤ q := by have := (nI_ltI (by omega) (by omega)).mp h1; omega
        refine z_cV0 hX (D_Law_readText (i := 18) rfl) mi_Law_peek l_Law_45 rfl rfl (by decide) (by first | exact Nat.one_pos | assumption | omega) (by first | decide | omega) (Nat.le_of_ble_eq_true rfl) (c_Law_peek hH hT a2 ?_)
        refine z_bipush (v := 59) hX (D_Law_readText (i := 19) rfl) (by decide) ?_
        refine z_icmp_eq (tgt := 41) hX (D_Law_readText (i := 20) rfl) (by decide) (fun h2 => ?_) (fun h2 => ?_)
        · refine z_aload_n hX (D_Law_readText (i := 23) rfl) rfl ?_
          refine z_dupP hX (D_Law_readText (i := 24) rfl) ?_
          refine z_geti hX (D_Law_readText (i := 25) rfl) f_Law_32 rfl (by decide) (by first | exact Nat.one_pos | assumption | omega) rfl ?_
          refine z_iconst (v := 1) hX (D_Law_readText (i := 26) rfl) (by decide) ?_
          refine z_iadd hX (D_Law_readText (i := 27) rfl) ?_
          rw [pmC_2, show nI q + 1 = nI (q + 1) from nI_add q 1]
          refine z_puti hX (D_Law_readText (i := 28) rfl) g_Law_32 rfl (by decide) (by first | exact Nat.one_pos | assumption | omega) rfl ?_
          rw [pmC_pl]
          first | refine z_inc1 hX (D_Law_readText (i := 29) rfl) rfl (by decide) rfl ?_ | refine z_iinc hX (D_Law_readText (i := 29) rfl) rfl rfl (by decide) rfl ?_
          rw [show 121 - (m + 1) + 1 = 121 - m by omega, ← txC_app]
          refine z_goto (tgt := 2) hX (D_Law_readText (i := 30) rfl) (by decide) ?_
          exact ih (q + 1) (acc ++ [L]) (by omega) (by omega) hl2 (fun u Λ w => hs u Λ ((if_neg hq).trans ((if_pos (P.mp h2)).trans w))) (fun u o w => hn u o ((if_neg hq).trans ((if_pos (P.mp h2)).trans w)))
        · refine z_iconst (v := 0) hX (D_Law_readText (i := 21) rfl) (by decide) ?_
          exact z_zret hX hR (D_Law_readText (i := 22) rfl) rfl (by first | exact Or.inl rfl | exact Or.inr rfl | assumption) (hn q _ ((if_neg hq).trans (if_neg (fun w => h2 (P.mpr w)))))
      · refine z_iconst (v := 1) hX (D_Law_readText (i := 15) rfl) (by decide) ?_
        have hq : n ≤ q := Nat.le_of_not_lt (fun w => h1 (nI_lt w (by omega)))
        have := hs q _ (if_pos hq)
        rw [txC_app] at this
        exact z_zret hX hR (D_Law_readText (i := 16) rfl) rfl (by first | exact Or.inl rfl | exact Or.inr rfl | assumption) this
    · intro q out' he
      rw [he] at hs hn
      refine z_if_ne (tgt := 17) hX (D_Law_readText (i := 7) rfl) (by decide) (fun hcc => absurd (rfl) hcc) (fun _ => ?_)
      refine z_iconst (v := 0) hX (D_Law_readText (i := 8) rfl) (by decide) ?_
      exact z_zret hX hR (D_Law_readText (i := 9) rfl) rfl (by first | exact Or.inl rfl | exact Or.inr rfl | assumption) (hn q out' rfl)
end C3
