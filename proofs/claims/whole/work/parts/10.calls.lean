/-! calls by the number of arguments; lists of pools; small facts -/
def z_ps : Option zV → List zV → List zV
  | none, st => st
  | some v, st => v :: st
theorem z_ps_eq (r : Option zV) (st : List zV) : r.toList ++ st = z_ps r st := by cases r <;> rfl
section ZN
variable {ι : zE} {M M' : zMR} {X : zX} {n n' : Nat} {ps : List Nat} {pc npc : Nat} {lv : List (Option zV)} {st : List zV} {mem : zM} {p k cnt idx ci N : Nat} {T : u_T} {sks : List zK} {a1 a2 a3 a4 a5 : zV}
theorem z_cV0 (hX : zG ι M X n ps) (hd : zD M.2.1 pc (.invokevirtual idx) 3 npc) (hM : zMI M' 0) (hl : Cond.methodLink M.1.cls idx M'.1 ∈ zTS) (hsh : zsh p = (cnt, .inl (ci, sks))) (hcl : zCl[ci]? = some (M'.1.cls, T, N)) (hp : p ∈ ps) (hk : k < cnt) (hn : n' < n) (hsz : ((st.map (z_tv (zeR ι))).map fun v => v.category).sum ≤ 8) (hC : zC X.2.1 ι M' n' [zP p k] mem (fun r mem' => zW ι M X npc lv (z_ps r st) mem')) : zW ι M X pc lv (zP p k :: st) mem := by
  refine z_callV (as := []) hX hd hM hl hsh hcl hp hk hn rfl rfl hsz ?_
  simp only [z_ps_eq]
  exact hC
theorem z_cV1 (hX : zG ι M X n ps) (hd : zD M.2.1 pc (.invokevirtual idx) 3 npc) (hM : zMI M' 1) (hl : Cond.methodLink M.1.cls idx M'.1 ∈ zTS) (hsh : zsh p = (cnt, .inl (ci, sks))) (hcl : zCl[ci]? = some (M'.1.cls, T, N)) (hp : p ∈ ps) (hk : k < cnt) (hn : n' < n) (hsz : ((st.map (z_tv (zeR ι))).map fun v => v.category).sum ≤ 8) (hC : zC X.2.1 ι M' n' [zP p k, a1] mem (fun r mem' => zW ι M X npc lv (z_ps r st) mem')) : zW ι M X pc lv (a1 :: zP p k :: st) mem := by
  refine z_callV (as := [a1]) hX hd hM hl hsh hcl hp hk hn rfl rfl hsz ?_
  simp only [z_ps_eq]
  exact hC
theorem z_cS1 (hX : zG ι M X n ps) (hd : zD M.2.1 pc (.invokestatic idx) 3 npc) (hM : zMS M' 1) (hl : Cond.methodLink M.1.cls idx M'.1 ∈ zTS) (hn : n' < n) (hsz : ((st.map (z_tv (zeR ι))).map fun v => v.category).sum ≤ 8) (hC : zC X.2.1 ι M' n' [a1] mem (fun r mem' => zW ι M X npc lv (z_ps r st) mem')) : zW ι M X pc lv (a1 :: st) mem := by
  refine z_callS (as := [a1]) hX hd hM hl hn rfl rfl hsz ?_
  simp only [z_ps_eq]
  exact hC
theorem z_cV2 (hX : zG ι M X n ps) (hd : zD M.2.1 pc (.invokevirtual idx) 3 npc) (hM : zMI M' 2) (hl : Cond.methodLink M.1.cls idx M'.1 ∈ zTS) (hsh : zsh p = (cnt, .inl (ci, sks))) (hcl : zCl[ci]? = some (M'.1.cls, T, N)) (hp : p ∈ ps) (hk : k < cnt) (hn : n' < n) (hsz : ((st.map (z_tv (zeR ι))).map fun v => v.category).sum ≤ 8) (hC : zC X.2.1 ι M' n' [zP p k, a1, a2] mem (fun r mem' => zW ι M X npc lv (z_ps r st) mem')) : zW ι M X pc lv (a2 :: a1 :: zP p k :: st) mem := by
  refine z_callV (as := [a1, a2]) hX hd hM hl hsh hcl hp hk hn rfl rfl hsz ?_
  simp only [z_ps_eq]
  exact hC
theorem z_cS2 (hX : zG ι M X n ps) (hd : zD M.2.1 pc (.invokestatic idx) 3 npc) (hM : zMS M' 2) (hl : Cond.methodLink M.1.cls idx M'.1 ∈ zTS) (hn : n' < n) (hsz : ((st.map (z_tv (zeR ι))).map fun v => v.category).sum ≤ 8) (hC : zC X.2.1 ι M' n' [a1, a2] mem (fun r mem' => zW ι M X npc lv (z_ps r st) mem')) : zW ι M X pc lv (a2 :: a1 :: st) mem := by
  refine z_callS (as := [a1, a2]) hX hd hM hl hn rfl rfl hsz ?_
  simp only [z_ps_eq]
  exact hC
theorem z_cV3 (hX : zG ι M X n ps) (hd : zD M.2.1 pc (.invokevirtual idx) 3 npc) (hM : zMI M' 3) (hl : Cond.methodLink M.1.cls idx M'.1 ∈ zTS) (hsh : zsh p = (cnt, .inl (ci, sks))) (hcl : zCl[ci]? = some (M'.1.cls, T, N)) (hp : p ∈ ps) (hk : k < cnt) (hn : n' < n) (hsz : ((st.map (z_tv (zeR ι))).map fun v => v.category).sum ≤ 8) (hC : zC X.2.1 ι M' n' [zP p k, a1, a2, a3] mem (fun r mem' => zW ι M X npc lv (z_ps r st) mem')) : zW ι M X pc lv (a3 :: a2 :: a1 :: zP p k :: st) mem := by
  refine z_callV (as := [a1, a2, a3]) hX hd hM hl hsh hcl hp hk hn rfl rfl hsz ?_
  simp only [z_ps_eq]
  exact hC
theorem z_cS3 (hX : zG ι M X n ps) (hd : zD M.2.1 pc (.invokestatic idx) 3 npc) (hM : zMS M' 3) (hl : Cond.methodLink M.1.cls idx M'.1 ∈ zTS) (hn : n' < n) (hsz : ((st.map (z_tv (zeR ι))).map fun v => v.category).sum ≤ 8) (hC : zC X.2.1 ι M' n' [a1, a2, a3] mem (fun r mem' => zW ι M X npc lv (z_ps r st) mem')) : zW ι M X pc lv (a3 :: a2 :: a1 :: st) mem := by
  refine z_callS (as := [a1, a2, a3]) hX hd hM hl hn rfl rfl hsz ?_
  simp only [z_ps_eq]
  exact hC
theorem z_cV4 (hX : zG ι M X n ps) (hd : zD M.2.1 pc (.invokevirtual idx) 3 npc) (hM : zMI M' 4) (hl : Cond.methodLink M.1.cls idx M'.1 ∈ zTS) (hsh : zsh p = (cnt, .inl (ci, sks))) (hcl : zCl[ci]? = some (M'.1.cls, T, N)) (hp : p ∈ ps) (hk : k < cnt) (hn : n' < n) (hsz : ((st.map (z_tv (zeR ι))).map fun v => v.category).sum ≤ 8) (hC : zC X.2.1 ι M' n' [zP p k, a1, a2, a3, a4] mem (fun r mem' => zW ι M X npc lv (z_ps r st) mem')) : zW ι M X pc lv (a4 :: a3 :: a2 :: a1 :: zP p k :: st) mem := by
  refine z_callV (as := [a1, a2, a3, a4]) hX hd hM hl hsh hcl hp hk hn rfl rfl hsz ?_
  simp only [z_ps_eq]
  exact hC
theorem z_cS4 (hX : zG ι M X n ps) (hd : zD M.2.1 pc (.invokestatic idx) 3 npc) (hM : zMS M' 4) (hl : Cond.methodLink M.1.cls idx M'.1 ∈ zTS) (hn : n' < n) (hsz : ((st.map (z_tv (zeR ι))).map fun v => v.category).sum ≤ 8) (hC : zC X.2.1 ι M' n' [a1, a2, a3, a4] mem (fun r mem' => zW ι M X npc lv (z_ps r st) mem')) : zW ι M X pc lv (a4 :: a3 :: a2 :: a1 :: st) mem := by
  refine z_callS (as := [a1, a2, a3, a4]) hX hd hM hl hn rfl rfl hsz ?_
  simp only [z_ps_eq]
  exact hC
theorem z_cV5 (hX : zG ι M X n ps) (hd : zD M.2.1 pc (.invokevirtual idx) 3 npc) (hM : zMI M' 5) (hl : Cond.methodLink M.1.cls idx M'.1 ∈ zTS) (hsh : zsh p = (cnt, .inl (ci, sks))) (hcl : zCl[ci]? = some (M'.1.cls, T, N)) (hp : p ∈ ps) (hk : k < cnt) (hn : n' < n) (hsz : ((st.map (z_tv (zeR ι))).map fun v => v.category).sum ≤ 8) (hC : zC X.2.1 ι M' n' [zP p k, a1, a2, a3, a4, a5] mem (fun r mem' => zW ι M X npc lv (z_ps r st) mem')) : zW ι M X pc lv (a5 :: a4 :: a3 :: a2 :: a1 :: zP p k :: st) mem := by
  refine z_callV (as := [a1, a2, a3, a4, a5]) hX hd hM hl hsh hcl hp hk hn rfl rfl hsz ?_
  simp only [z_ps_eq]
  exact hC
theorem z_cS5 (hX : zG ι M X n ps) (hd : zD M.2.1 pc (.invokestatic idx) 3 npc) (hM : zMS M' 5) (hl : Cond.methodLink M.1.cls idx M'.1 ∈ zTS) (hn : n' < n) (hsz : ((st.map (z_tv (zeR ι))).map fun v => v.category).sum ≤ 8) (hC : zC X.2.1 ι M' n' [a1, a2, a3, a4, a5] mem (fun r mem' => zW ι M X npc lv (z_ps r st) mem')) : zW ι M X pc lv (a5 :: a4 :: a3 :: a2 :: a1 :: st) mem := by
  refine z_callS (as := [a1, a2, a3, a4, a5]) hX hd hM hl hn rfl rfl hsz ?_
  simp only [z_ps_eq]
  exact hC
end ZN
def pL : List Nat := [4, 5, 6, 7, 8]
def pX : List Nat := [0, 1, 2, 3, 4, 5, 6, 7, 8, 9, 10, 11, 12, 13, 14, 15, 16, 17, 18, 19, 20, 21, 22, 23, 24, 25, 26, 27, 28, 29, 30, 31, 32]
def pM : List Nat := [40, 41, 42, 43, 44, 45, 46, 47, 48, 49, 50, 51, 52, 53, 54, 55, 56, 57, 58, 59, 60, 61, 62, 63, 64, 65, 66, 67]
theorem zHas.sub {ι : zE} {ps qs : List Nat} (h : zHas ι ps) (hs : ∀ p ∈ qs, p ∈ ps) : zHas ι qs := fun p k hp hk => h p k (hs p hp) hk
theorem zHas.L {ι : zE} (h : zHas ι pX) : zHas ι pL := h.sub (by decide)
theorem zHas.nil {ι : zE} : zHas ι [] := fun p k hp _ => absurd hp List.not_mem_nil
theorem nlit (n : Nat) : (OfNat.ofNat n : Int32) = nI (OfNat.ofNat n) := rfl
theorem nneg1 : (-1 : Int32).toInt = -1 := by decide
theorem upI_get (mem : zM) (p k j : Nat) (v : Int32) (a b c : Nat) : (upI mem p k j v).1 a b c = if a = p ∧ b = k ∧ c = j then v else mem.1 a b c := rfl
theorem upI_2 (mem : zM) (p k j : Nat) (v : Int32) : (upI mem p k j v).2 = mem.2 := rfl
theorem upJ_get (mem : zM) (p k j : Nat) (v : Int64) (a b c : Nat) : (upJ mem p k j v).2.1 a b c = if a = p ∧ b = k ∧ c = j then v else mem.2.1 a b c := rfl
theorem upJ_1 (mem : zM) (p k j : Nat) (v : Int64) : (upJ mem p k j v).1 = mem.1 := rfl
theorem upJ_3 (mem : zM) (p k j : Nat) (v : Int64) : (upJ mem p k j v).2.2 = mem.2.2 := rfl
theorem upR_get (mem : zM) (p k j : Nat) (v : Nat) (a b c : Nat) : (upR mem p k j v).2.2 a b c = if a = p ∧ b = k ∧ c = j then v else mem.2.2 a b c := rfl
theorem upR_1 (mem : zM) (p k j : Nat) (v : Nat) : (upR mem p k j v).1 = mem.1 := rfl
theorem upR_2 (mem : zM) (p k j : Nat) (v : Nat) : (upR mem p k j v).2.1 = mem.2.1 := rfl
theorem inc1 (i : Nat) : nI i + Int32.ofInt 1 = nI (i + 1) := (nI_succ i).symm
theorem z_inc1 {ι : zE} {M : zMR} {X : zX} {n : Nat} {ps : List Nat} {pc npc : Nat} {lv : List (Option zV)} {st : List zV} {mem : zM} {i j : Nat} (hX : zG ι M X n ps) (hd : zD M.2.1 pc (.iinc j 1) 3 npc) (hx : lv[j]? = some (some (zI (nI i)))) (hn : j < M.2.2.1) (hj : z_isJ (lv[j - 1]?) = false) (k : zW ι M X npc (lv.set j (some (zI (nI (i + 1))))) st mem) : zW ι M X pc lv st mem := z_iinc hX hd hx (inc1 i) hn hj k
def bI (b : Bool) : Int32 := if b then 1 else 0
theorem bI_0 {b : Bool} : bI b = 0 ↔ b = false := by cases b <;> decide
theorem bI_n {b : Bool} : ¬ bI b = 0 ↔ b = true := by cases b <;> decide
theorem bI_or (b : Bool) : bI b = 0 ∨ bI b = 1 := by cases b <;> decide
theorem bI_T : bI true = 1 := rfl
theorem bI_F : bI false = 0 := rfl
theorem bI_not (b : Bool) : bI b = if b = true then 1 else 0 := by cases b <;> rfl
/-- bits gathered by a loop -/
def mkI (f : Nat → Bool) : Nat → Int32
  | 0 => 0
  | n + 1 => if f n then mkI f n ||| ((1 : Int32) <<< (nI n &&& 31)) else mkI f n
theorem mkI_cong {f g : Nat → Bool} : ∀ {n : Nat}, (∀ k, k < n → f k = g k) → mkI f n = mkI g n
  | 0, _ => rfl
  | n + 1, h => by rw [mkI, mkI, h n (by omega), mkI_cong (fun k hk => h k (by omega))]
/-- is there one below n -/
def exI (f : Nat → Bool) : Nat → Bool
  | 0 => false
  | n + 1 => exI f n || f n
theorem exI_true {f : Nat → Bool} : ∀ {n : Nat}, exI f n = true ↔ ∃ k, k < n ∧ f k = true
  | 0 => by simp [exI]
  | n + 1 => by
    rw [exI, Bool.or_eq_true, exI_true]
    constructor
    · rintro (⟨k, h1, h2⟩ | h)
      · exact ⟨k, by omega, h2⟩
      · exact ⟨n, by omega, h⟩
    · rintro ⟨k, h1, h2⟩
      by_cases e : k = n
      · subst e; exact Or.inr h2
      · exact Or.inl ⟨k, by omega, h2⟩
theorem exI_false {f : Nat → Bool} {n : Nat} : exI f n = false ↔ ∀ k, k < n → f k = false := by
  rw [← Bool.not_eq_true, exI_true]
  constructor
  · intro h k hk
    cases hf : f k with
    | false => rfl
    | true => exact absurd ⟨k, hk, hf⟩ h
  · rintro h ⟨k, h1, h2⟩
    rw [h k h1] at h2; cases h2
theorem exI_cong {f g : Nat → Bool} : ∀ {n : Nat}, (∀ k, k < n → f k = g k) → exI f n = exI g n
  | 0, _ => rfl
  | n + 1, h => by rw [exI, exI, h n (by omega), exI_cong (fun k hk => h k (by omega))]
/-- do all below n -/
def alI (f : Nat → Bool) : Nat → Bool
  | 0 => true
  | n + 1 => alI f n && f n
theorem alI_true {f : Nat → Bool} : ∀ {n : Nat}, alI f n = true ↔ ∀ k, k < n → f k = true
  | 0 => by simp [alI]
  | n + 1 => by
    rw [alI, Bool.and_eq_true, alI_true]
    constructor
    · rintro ⟨h1, h2⟩ k hk
      by_cases e : k = n
      · subst e; exact h2
      · exact h1 k (by omega)
    · intro h
      exact ⟨fun k hk => h k (by omega), h n (by omega)⟩
theorem alI_false {f : Nat → Bool} {n k : Nat} (hk : k < n) (h : f k = false) : alI f n = false := by
  cases ha : alI f n with
  | false => rfl
  | true => rw [alI_true.mp ha k hk] at h; cases h
theorem alI_cong {f g : Nat → Bool} : ∀ {n : Nat}, (∀ k, k < n → f k = g k) → alI f n = alI g n
  | 0, _ => rfl
  | n + 1, h => by rw [alI, alI, h n (by omega), alI_cong (fun k hk => h k (by omega))]
