/-! the reference reads a line -/
def lnM (L : lLn) : List (Int32 × Int32) := match L.1 with
  | none => mdC L.2
  | some t => mdC t ++ mdC L.2
def lnT (b : Nat) (L : lLn) : Nat × Nat := match L.1 with
  | none => (b, b + L.2.length)
  | some t => (b + t.length, b + t.length + L.2.length)
def bsM (mem : zM) (ls : List (Nat × Nat)) : zM := (fun a b c => if a = 51 ∧ b = 0 ∧ c = 1 then nI ls.length else if a = 52 ∧ b = 0 ∧ 61 ≤ c ∧ c < 61 + ls.length then nI (ls.getD (c - 61) (0, 0)).1 else if a = 53 ∧ b = 0 ∧ 61 ≤ c ∧ c < 61 + ls.length then nI (ls.getD (c - 61) (0, 0)).2 else mem.1 a b c, mem.2)
theorem bsM_add {mem : zM} {ls : List (Nat × Nat)} {t v : Nat} : upI (upI (upI (bsM mem ls) 52 0 (61 + ls.length) (nI t)) 53 0 (61 + ls.length) (nI v)) 51 0 1 (nI (ls.length + 1)) = bsM mem (ls ++ [(t, v)]) := by
  refine Prod.ext ?_ rfl
  funext a b c
  simp only [upI_get, bsM, List.length_append, List.length_cons, List.length_nil]
  by_cases h1 : a = 51
  · subst h1
    simp only [show ¬ (51 = 52) by decide, show ¬ (51 = 53) by decide, false_and, if_false, true_and]
    by_cases h2 : b = 0 ∧ c = 1
    · rw [if_pos h2, if_pos h2]
    · rw [if_neg h2, if_neg h2, if_neg h2]
  · simp only [h1, false_and, if_false]
    by_cases h2 : a = 52
    · subst h2
      simp only [show ¬ (52 = 53) by decide, false_and, if_false, true_and]
      by_cases h3 : b = 0 ∧ c = 61 + ls.length
      · rw [if_pos h3, if_pos (by omega), show c - 61 = ls.length by omega]
        simp
      · rw [if_neg h3]
        by_cases h4 : b = 0 ∧ 61 ≤ c ∧ c < 61 + ls.length
        · rw [if_pos h4, if_pos (by omega), List.getD_eq_getElem?_getD, List.getD_eq_getElem?_getD, List.getElem?_append_left (by omega)]
        · rw [if_neg h4, if_neg (by omega)]
    · simp only [h2, false_and, if_false]
      by_cases h3 : a = 53
      · subst h3
        simp only [true_and]
        by_cases h3 : b = 0 ∧ c = 61 + ls.length
        · rw [if_pos h3, if_pos (by omega), show c - 61 = ls.length by omega]
          simp
        · rw [if_neg h3]
          by_cases h4 : b = 0 ∧ 61 ≤ c ∧ c < 61 + ls.length
          · rw [if_pos h4, if_pos (by omega), List.getD_eq_getElem?_getD, List.getD_eq_getElem?_getD, List.getElem?_append_left (by omega)]
          · rw [if_neg h4, if_neg (by omega)]
      · simp only [h3, false_and, if_false]
theorem upI_same {mem : zM} {a b c : Nat} {v u : Int32} : upI (upI mem a b c v) a b c u = upI mem a b c u := by
  refine Prod.ext ?_ rfl
  funext x y z
  simp only [upI_get]
  split <;> rfl
theorem pmM_up {mem : zM} {p : Nat} {f o : Int32} {st : List (Int32 × Int32)} {a b c : Nat} {v : Int32} (h4 : a ≠ 40) (h9 : a ≠ 49) (h5 : a ≠ 50) : upI (pmM mem p f o st) a b c v = pmM (upI mem a b c v) p f o st := by
  refine Prod.ext ?_ rfl
  funext x y z
  simp only [upI_get, pmM]
  by_cases h : x = a ∧ y = b ∧ z = c
  · obtain ⟨rfl, rfl, rfl⟩ := h
    simp only [h4, h9, h5, false_and, if_false]
  · rw [if_neg h, if_neg h]
def ndO (mem mem' : zM) : Prop := mem'.2 = mem.2 ∧ ∀ a b c, ¬ (a = 40 ∧ 14 ≤ c ∧ c ≤ 17) → ¬ ((a = 49 ∨ a = 50) ∧ 130 ≤ c) → ¬ (a = 51 ∧ c = 1) → ¬ ((a = 52 ∨ a = 53) ∧ 61 ≤ c) → mem'.1 a b c = mem.1 a b c
theorem ndO.trans {m1 m2 m3 : zM} (h : ndO m1 m2) (h2 : ndO m2 m3) : ndO m1 m3 := ⟨h2.1.trans h.1, fun a b c q1 q2 q3 q4 => (h2.2 a b c q1 q2 q3 q4).trans (h.2 a b c q1 q2 q3 q4)⟩
theorem ndO_bs {mem : zM} {ls : List (Nat × Nat)} : ndO mem (bsM mem ls) := ⟨rfl, fun a b c q1 q2 q3 q4 => by
  simp only [bsM]
  rw [if_neg (by omega), if_neg (by omega), if_neg (by omega)]⟩
theorem ndO_pm {mem : zM} {p : Nat} {f o : Int32} {st : List (Int32 × Int32)} : ndO mem (pmM mem p f o st) := ⟨rfl, fun a b c q1 q2 q3 q4 => by
  simp only [pmM]
  rw [if_neg (by omega), if_neg (by omega), if_neg (by omega), if_neg (by omega), if_neg (by omega), if_neg (by omega)]⟩
theorem ndO_up {mem : zM} {a b c : Nat} {v : Int32} (h : (a = 40 ∧ 14 ≤ c ∧ c ≤ 17) ∨ (a = 51 ∧ c = 1) ∨ ((a = 52 ∨ a = 53) ∧ 61 ≤ c)) : ndO mem (upI mem a b c v) := ⟨rfl, fun x y z q1 q2 q3 q4 => by
  rw [upI_get, if_neg (by omega)]⟩
theorem MT.up {mem : zM} {n : Nat} {K : Nat → Nat} (h : MT mem n K) {a b c : Nat} {v : Int32} (h4 : a ≠ 40) (h8 : a ≠ 48) : MT (upI mem a b c v) n K := by
  refine ⟨?_, h.2.1, h.2.2.1, fun p hp => ⟨?_, (h.2.2.2 p hp).2⟩⟩
  · rw [upI_get, if_neg (fun w => h4 w.1.symm)]; exact h.1
  · rw [upI_get, if_neg (fun w => h8 w.1.symm)]; exact (h.2.2.2 p hp).1
theorem MT.bs {mem : zM} {n : Nat} {K : Nat → Nat} (h : MT mem n K) {ls : List (Nat × Nat)} : MT (bsM mem ls) n K := h
theorem s16 : ∀ k, k < 200 → (nI k).toInt16.toInt32 = nI k := by decide +kernel
def lnfl (K : Nat → Nat) (r : Nat × Option lLn) (q : Nat) : Prop := r = (q, none) ∨ (∃ L, r = (q, some L)) ∧ isDg (K q) = true
section D4
variable {l : Launch} {ι : zE} {mem : zM} {Post : Option zV → zM → Prop} {n p : Nat} {K : Nat → Nat} {st : List (Int32 × Int32)} {ls : List (Nat × Nat)}
theorem d_line (hH : zHas ι pM) (hT : MT mem n K) (hp : p ≤ n) (hst : st.length ≤ p) (hls : ls.length ≤ 60) (hs : ∀ q L, lnR K p = (q, some L) → Post none (pmM (bsM mem (ls ++ [lnT st.length L])) q (-1) (nI 0) (st ++ lnM L))) (hn : ∀ q mem', lnfl K (lnR K p) q → ndO mem mem' → mem'.1 40 0 15 = nI q → mem'.1 40 0 14 = nI q → Post none mem') : zC l ι M_Model_line 44 [zP 40 0] (pmM (bsM mem ls) p (-1) (nI 0) st) Post := by
  have h120 := hT.2.1
  have hok := exR_ok hT.2.2.1 p hp
  have sb : ∀ k, k < 200 → (nI k).toInt16.toInt32.toInt16.toInt32 = nI k := fun k hk => by rw [s16 k hk, s16 k hk]
  unfold lnR at hs hn
  refine z_enter hH (by decide) (by simp [z_ent, M_Model_line]) (fun X hXl hX hR => ?_)
  -- the end of a line that is wrong
  have bad : ∀ (m : zM) (q : Nat) (hq : lnfl K (lnR K p) q), ndO mem m → m.1 40 0 15 = nI q → m.1 40 0 14 = nI q → m.1 51 0 1 = nI ls.length → zW ι M_Model_line X 66 [some (zP 40 0), some (zI (nI (61 + ls.length)))] [] m := by
    intro m q hq h1 h2 h3 h4
    refine z_aload_n hX (D_Model_line (i := 38) rfl) rfl ?_
    refine z_getc hX (D_Model_line (i := 39) rfl) f_Model_48 rfl (by decide) (by first | exact Nat.one_pos | assumption | omega) rfl ?_
    refine z_iload_n hX (D_Model_line (i := 40) rfl) rfl ?_
    refine z_aload_n hX (D_Model_line (i := 41) rfl) rfl ?_
    refine z_geti hX (D_Model_line (i := 42) rfl) f_Model_159 rfl (by decide) (by first | exact Nat.one_pos | assumption | omega) rfl ?_
    refine z_i2s hX (D_Model_line (i := 43) rfl) ?_
    refine z_sast (j := 61 + ls.length) hX (D_Model_line (i := 44) rfl) rfl (by decide) (by first | exact Nat.one_pos | assumption | omega) (by decide) rfl (by omega) ?_
    refine z_aload_n hX (D_Model_line (i := 45) rfl) rfl ?_
    refine z_getc hX (D_Model_line (i := 46) rfl) f_Model_41 rfl (by decide) (by first | exact Nat.one_pos | assumption | omega) rfl ?_
    refine z_iconst (v := 1) hX (D_Model_line (i := 47) rfl) (by decide) ?_
    refine z_dup2 hX (D_Model_line (i := 48) rfl) ?_
    refine z_iald (j := 1) hX (D_Model_line (i := 49) rfl) rfl (by decide) (by first | exact Nat.one_pos | assumption | omega) (by decide) rfl (by omega) ?_
    refine z_iconst (v := 1) hX (D_Model_line (i := 50) rfl) (by decide) ?_
    refine z_iadd hX (D_Model_line (i := 51) rfl) ?_
    refine z_iast (j := 1) hX (D_Model_line (i := 52) rfl) rfl (by decide) (by first | exact Nat.one_pos | assumption | omega) (by decide) rfl (by omega) ?_
    exact z_ret hX hR (D_Model_line (i := 53) rfl) rfl (hn q _ hq (h1.trans ((ndO_up (by omega)).trans (ndO_up (by omega)))) (by rw [upI_get, if_neg (by omega), upI_get, if_neg (by omega)]; exact h2) (by rw [upI_get, if_neg (by omega), upI_get, if_neg (by omega)]; exact h3))
  have good : ∀ (t v q : Nat) (st' : List (Int32 × Int32)), st'.length = v → v < 130 → Post none (pmM (bsM mem (ls ++ [(t, v)])) q (-1) (nI 0) st') → zW ι M_Model_line X 66 [some (zP 40 0), some (zI (nI (61 + ls.length)))] [] (pmM (upI (bsM mem ls) 52 0 (61 + ls.length) (nI t)) q (-1) (nI 0) st') := by
    intro t v q st' hv hv2 h
    refine z_aload_n hX (D_Model_line (i := 38) rfl) rfl ?_
    refine z_getc hX (D_Model_line (i := 39) rfl) f_Model_48 rfl (by decide) (by first | exact Nat.one_pos | assumption | omega) rfl ?_
    refine z_iload_n hX (D_Model_line (i := 40) rfl) rfl ?_
    refine z_aload_n hX (D_Model_line (i := 41) rfl) rfl ?_
    refine z_geti hX (D_Model_line (i := 42) rfl) f_Model_159 rfl (by decide) (by first | exact Nat.one_pos | assumption | omega) rfl ?_
    refine z_i2s hX (D_Model_line (i := 43) rfl) ?_
    rw [pmM_17, hv]
    refine z_sast (j := 61 + ls.length) hX (D_Model_line (i := 44) rfl) rfl (by decide) (by first | exact Nat.one_pos | assumption | omega) (by decide) rfl (by omega) ?_
    rw [sb v (by omega), pmM_up (by decide) (by decide) (by decide)]
    refine z_aload_n hX (D_Model_line (i := 45) rfl) rfl ?_
    refine z_getc hX (D_Model_line (i := 46) rfl) f_Model_41 rfl (by decide) (by first | exact Nat.one_pos | assumption | omega) rfl ?_
    refine z_iconst (v := 1) hX (D_Model_line (i := 47) rfl) (by decide) ?_
    refine z_dup2 hX (D_Model_line (i := 48) rfl) ?_
    refine z_iald (j := 1) hX (D_Model_line (i := 49) rfl) rfl (by decide) (by first | exact Nat.one_pos | assumption | omega) (by decide) rfl (by omega) ?_
    rw [show (pmM (upI (upI (bsM mem ls) 52 0 (61 + ls.length) (nI t)) 53 0 (61 + ls.length) (nI v)) q (-1) (nI 0) st').1 51 0 1 = nI ls.length from rfl]
    refine z_iconst (v := 1) hX (D_Model_line (i := 50) rfl) (by decide) ?_
    refine z_iadd hX (D_Model_line (i := 51) rfl) ?_
    rw [show nI ls.length + 1 = nI (ls.length + 1) from nI_add ls.length 1]
    refine z_iast (j := 1) hX (D_Model_line (i := 52) rfl) rfl (by decide) (by first | exact Nat.one_pos | assumption | omega) (by decide) rfl (by omega) ?_
    rw [pmM_up (by decide) (by decide) (by decide), bsM_add]
    exact z_ret hX hR (D_Model_line (i := 53) rfl) rfl h
  refine z_bipush (v := 61) hX (D_Model_line (i := 0) rfl) (by decide) ?_
  refine z_aload_n hX (D_Model_line (i := 1) rfl) rfl ?_
  refine z_getc hX (D_Model_line (i := 2) rfl) f_Model_41 rfl (by decide) (by first | exact Nat.one_pos | assumption | omega) rfl ?_
  refine z_iconst (v := 1) hX (D_Model_line (i := 3) rfl) (by decide) ?_
  refine z_iald (j := 1) hX (D_Model_line (i := 4) rfl) rfl (by decide) (by first | exact Nat.one_pos | assumption | omega) (by decide) rfl (by omega) ?_
  rw [show (pmM (bsM mem ls) p (-1) (nI 0) st).1 51 0 1 = nI ls.length from rfl]
  refine z_iadd hX (D_Model_line (i := 5) rfl) ?_
  rw [show (61 : Int32) + nI ls.length = nI (61 + ls.length) from nI_add 61 _]
  refine z_istore_n hX (D_Model_line (i := 6) rfl) (by decide) rfl ?_
  refine z_aload_n hX (D_Model_line (i := 7) rfl) rfl ?_
  refine z_getc hX (D_Model_line (i := 8) rfl) f_Model_44 rfl (by decide) (by first | exact Nat.one_pos | assumption | omega) rfl ?_
  refine z_iload_n hX (D_Model_line (i := 9) rfl) rfl ?_
  refine z_aload_n hX (D_Model_line (i := 10) rfl) rfl ?_
  refine z_geti hX (D_Model_line (i := 11) rfl) f_Model_159 rfl (by decide) (by first | exact Nat.one_pos | assumption | omega) rfl ?_
  refine z_i2s hX (D_Model_line (i := 12) rfl) ?_
  rw [pmM_17]
  refine z_sast (j := 61 + ls.length) hX (D_Model_line (i := 13) rfl) rfl (by decide) (by first | exact Nat.one_pos | assumption | omega) (by decide) rfl (by omega) ?_
  rw [sb st.length (by omega), pmM_up (by decide) (by decide) (by decide)]
  have hT1 : MT (upI (bsM mem ls) 52 0 (61 + ls.length) (nI st.length)) n K := hT.bs.up (by decide) (by decide)
  have nd1 : ∀ {q : Nat} {f o : Int32} {st' : List (Int32 × Int32)} {t : Nat}, ndO mem (pmM (upI (bsM mem ls) 52 0 (61 + ls.length) (nI t)) q f o st') := ndO_bs.trans ((ndO_up (by omega)).trans ndO_pm)
  refine z_aload_n hX (D_Model_line (i := 14) rfl) rfl ?_
  refine z_cV0 hX (D_Model_line (i := 15) rfl) mi_Model_either l_Model_186 rfl rfl (by decide) (by first | exact Nat.one_pos | assumption | omega) (by first | decide | omega) (Nat.le_of_ble_eq_true rfl) (d_either_top hH hT1 _ p st _ hp hst ?_ ?_)
  · intro q e he
    rw [he] at hok
    unfold exR at he
    have he2 := he
    unfold lnR at bad
    rw [he] at hs hn bad
    simp only [] at hs hn bad
    obtain ⟨a1, a2, a3⟩ := hok
    have Q := mkV_is (c := 63) (hT.K9 q) (by decide)
    have hlen : (st ++ mdC e).length = st.length + e.length := by rw [List.length_append, mdC_len]
    refine z_aload_n hX (D_Model_line (i := 16) rfl) rfl ?_
    refine z_geti hX (D_Model_line (i := 17) rfl) f_Model_156 rfl (by decide) (by first | exact Nat.one_pos | assumption | omega) rfl ?_
    rw [pmM_15]
    refine z_if_ge (tgt := 66) hX (D_Model_line (i := 18) rfl) (by decide) (fun hcc => absurd hcc (by decide)) (fun _ => ?_)
    refine z_aload_n hX (D_Model_line (i := 19) rfl) rfl ?_
    refine z_cV0 hX (D_Model_line (i := 20) rfl) mi_Model_look l_Model_168 rfl rfl (by decide) (by first | exact Nat.one_pos | assumption | omega) (by first | decide | omega) (Nat.le_of_ble_eq_true rfl) (d_look hH hT1 a2 ?_)
    refine z_bipush (v := 63) hX (D_Model_line (i := 21) rfl) (by decide) ?_
    refine z_icmp_ne (tgt := 66) hX (D_Model_line (i := 22) rfl) (by decide) (fun h1 => ?_) (fun h1 => ?_)
    · skip
      have h1 : ¬ K q = 63 := fun w => h1 (Q.mpr w)
      rw [if_neg h1] at hs
      exact good _ _ q _ hlen (by omega) (hs q _ rfl)
    · refine z_aload_n hX (D_Model_line (i := 23) rfl) rfl ?_
      refine z_dupP hX (D_Model_line (i := 24) rfl) ?_
      refine z_geti hX (D_Model_line (i := 25) rfl) f_Model_153 rfl (by decide) (by first | exact Nat.one_pos | assumption | omega) rfl ?_
      refine z_iconst (v := 1) hX (D_Model_line (i := 26) rfl) (by decide) ?_
      refine z_iadd hX (D_Model_line (i := 27) rfl) ?_
      have h1 := Q.mp h1
      have hqn := K_lt hT.2.2.1 (p := q) (by omega)
      have hok2 := exR_ok hT.2.2.1 (q + 1) hqn
      rw [if_pos h1] at hs hn bad
      rw [pmM_14, show nI q + 1 = nI (q + 1) from nI_add q 1]
      refine z_puti hX (D_Model_line (i := 28) rfl) g_Model_153 rfl (by decide) (by first | exact Nat.one_pos | assumption | omega) rfl ?_
      rw [pmM_p]
      refine z_aload_n hX (D_Model_line (i := 29) rfl) rfl ?_
      refine z_getc hX (D_Model_line (i := 30) rfl) f_Model_44 rfl (by decide) (by first | exact Nat.one_pos | assumption | omega) rfl ?_
      refine z_iload_n hX (D_Model_line (i := 31) rfl) rfl ?_
      refine z_aload_n hX (D_Model_line (i := 32) rfl) rfl ?_
      refine z_geti hX (D_Model_line (i := 33) rfl) f_Model_159 rfl (by decide) (by first | exact Nat.one_pos | assumption | omega) rfl ?_
      refine z_i2s hX (D_Model_line (i := 34) rfl) ?_
      rw [pmM_17, hlen]
      refine z_sast (j := 61 + ls.length) hX (D_Model_line (i := 35) rfl) rfl (by decide) (by first | exact Nat.one_pos | assumption | omega) (by decide) rfl (by omega) ?_
      rw [sb _ (by omega), pmM_up (by decide) (by decide) (by decide), upI_same]
      have hT2 : MT (upI (bsM mem ls) 52 0 (61 + ls.length) (nI (st.length + e.length))) n K := hT.bs.up (by decide) (by decide)
      refine z_aload_n hX (D_Model_line (i := 36) rfl) rfl ?_
      refine z_cV0 hX (D_Model_line (i := 37) rfl) mi_Model_either l_Model_186 rfl rfl (by decide) (by first | exact Nat.one_pos | assumption | omega) (by first | decide | omega) (Nat.le_of_ble_eq_true rfl) (d_either_top hH hT2 _ (q + 1) (st ++ mdC e) _ hqn (by omega) ?_ ?_)
      · intro u v hv
        rw [hv] at hok2
        unfold exR at hv
        rw [hv] at hs
        simp only [] at hs
        obtain ⟨b1, b2, b3⟩ := hok2
        have hlen2 : (st ++ mdC e ++ mdC v).length = st.length + e.length + v.length := by rw [List.length_append, hlen, mdC_len]
        refine good _ _ u _ hlen2 (by omega) ?_
        have := hs u _ rfl
        rw [show lnM (some e, v) = mdC e ++ mdC v from rfl, ← List.append_assoc] at this
        exact this
      · intro u o' st' hfl hlen3
        refine bad _ u ?_ nd1 rfl rfl rfl
        unfold exR at hfl
        rcases hfl with hfl | ⟨⟨v, hfl⟩, hd⟩
        · rw [hfl]; exact Or.inl rfl
        · rw [hfl]; exact Or.inr ⟨⟨_, rfl⟩, hd⟩
  · intro q o' st' hfl hlen
    have hle := lfl_le hok hfl
    unfold exR at hfl
    refine z_aload_n hX (D_Model_line (i := 16) rfl) rfl ?_
    refine z_geti hX (D_Model_line (i := 17) rfl) f_Model_156 rfl (by decide) (by first | exact Nat.one_pos | assumption | omega) rfl ?_
    rw [pmM_15]
    refine z_if_ge (tgt := 66) hX (D_Model_line (i := 18) rfl) (by decide) (fun _ => ?_) (fun hcc => absurd (nI_le (a := 0) (Nat.zero_le _) (by omega)) hcc)
    refine bad _ q ?_ nd1 rfl rfl rfl
    unfold lnR
    rcases hfl with hfl | ⟨⟨e, hfl⟩, hd⟩
    · rw [hfl]; exact Or.inl rfl
    · rw [hfl]
      refine Or.inr ⟨⟨(none, e), if_neg (fun w => ?_)⟩, hd⟩
      rw [w] at hd
      exact absurd hd (by decide)
end D4
