/-! the reference reads a whole text; law -/
def rdN (mem mem' : zM) : Prop := mem'.2 = mem.2 ∧ mem'.1 40 0 13 = 0 ∧ ∀ a b c, ¬ (a = 40 ∧ 13 ≤ c ∧ c ≤ 17) → ¬ ((a = 49 ∨ a = 50) ∧ 130 ≤ c) → ¬ (a = 51 ∧ c = 1) → ¬ ((a = 52 ∨ a = 53) ∧ 61 ≤ c) → mem'.1 a b c = mem.1 a b c
theorem ndO.rd {mem m : zM} (h : ndO mem m) : rdN mem (upI m 40 0 13 0) := ⟨h.1, rfl, fun a b c q1 q2 q3 q4 => by
  rw [upI_get, if_neg (by omega)]
  exact h.2 a b c (by omega) q2 q3 q4⟩
theorem lnM_len (L : lLn) : (lnM L).length + 1 = (lnC L).length := by
  obtain ⟨t, v⟩ := L
  cases t with
  | none => show (mdC v).length + 1 = (cdC v ++ [-59]).length; rw [List.length_append, mdC_len, cdC_len]; rfl
  | some t => show (mdC t ++ mdC v).length + 1 = (cdC t ++ cdC v ++ [-63]).length; rw [List.length_append, List.length_append, List.length_append, mdC_len, cdC_len, mdC_len, cdC_len]; rfl
section D6
variable {l : Launch} {ι : zE} {mem : zM} {Post : Option zV → zM → Prop} {n p : Nat} {K : Nat → Nat} {X : zX}
theorem d_text_bad (hH : zHas ι pM) (hX : zG ι M_Model_readText X 45 pM) (hR : zRt ι X Post) {m : zM} {q : Nat} (hq : q < 2 ^ 31) (hf : m.1 40 0 15 = nI q) (h : Post (some (zI (nI q))) (upI m 40 0 13 0)) : zW ι M_Model_readText X 86 [some (zP 40 0), some (zI (nI 0)), none] [] m := by
  have e : (upI m 40 0 13 0).1 40 0 15 = nI q := by rw [upI_get, if_neg (by omega)]; exact hf
  refine z_aload_n hX (D_Model_readText (i := 45) rfl) rfl ?_
  refine z_iconst (v := 0) hX (D_Model_readText (i := 46) rfl) (by decide) ?_
  refine z_puti hX (D_Model_readText (i := 47) rfl) g_Model_150 rfl (by decide) (by first | exact Nat.one_pos | assumption | omega) rfl ?_
  refine z_aload_n hX (D_Model_readText (i := 48) rfl) rfl ?_
  refine z_geti hX (D_Model_readText (i := 49) rfl) f_Model_156 rfl (by decide) (by first | exact Nat.one_pos | assumption | omega) rfl ?_
  rw [e]
  refine z_if_lt (tgt := 103) hX (D_Model_readText (i := 50) rfl) (by decide) (fun hcc => absurd hcc ((fun w => absurd w (nI_pos hq)))) (fun _ => ?_)
  refine z_aload_n hX (D_Model_readText (i := 51) rfl) rfl ?_
  refine z_geti hX (D_Model_readText (i := 52) rfl) f_Model_156 rfl (by decide) (by first | exact Nat.one_pos | assumption | omega) rfl ?_
  rw [e]
  exact z_iret hX hR (D_Model_readText (i := 53) rfl) rfl (by assumption)
theorem d_text_line (hH : zHas ι pM) (hX : zG ι M_Model_readText X 45 pM) (hR : zRt ι X Post) (hT : MT mem n K) : ∀ (m p : Nat) (acc : List lLn), acc.length + m = 121 → 2 * acc.length ≤ p → p ≤ n → (txM acc).length ≤ p → (∀ L ∈ acc, lnG L) → (∀ q Λ mem', txR K n m p acc = (q, some Λ) → rdO mem mem' → MLaw mem' Λ → Post (some (zI (-1))) mem') → (∀ q mem', txR K n m p acc = (q, none) → rdN mem mem' → Post (some (zI (nI q))) mem') → ∀ (PP : Option zV → zM → Prop), (∀ mem', zW ι M_Model_readText X 31 [some (zP 40 0), some (zI (nI 0)), none] [] mem' → PP none mem') → zC X.2.1 ι M_Model_line 44 [zP 40 0] (pmM (bsM mem (tbT 0 acc)) p (-1) (nI 0) (txM acc)) PP := by
  have h120 := hT.2.1
  intro m
  induction m with
  | zero => intro p acc h1 h2 h3; omega
  | succ m ih =>
    intro p acc hm h2p hp htx hg hs hn PP hPP
    unfold txR at hs hn
    have hok := lnR_ok hT.2.2.1 hp
    refine d_line hH hT hp htx (by rw [tbT_len]; omega) ?_ ?_
    · intro q L he
      rw [he] at hs hn hok
      obtain ⟨a1, a2, a3, a4⟩ := hok
      simp only [] at hs hn
      have hlm := lnM_len L
      have et : tbT 0 acc ++ [lnT (txM acc).length L] = tbT 0 (acc ++ [L]) := by rw [tbT_app, Nat.zero_add]
      have hl2 : (txM (acc ++ [L])).length ≤ q := by rw [txM_app, List.length_append]; omega
      have hla : (acc ++ [L]).length = acc.length + 1 := by rw [List.length_append]; rfl
      have hg2 : ∀ L2 ∈ acc ++ [L], lnG L2 := fun L2 h => by
        rcases List.mem_append.mp h with h | h
        · exact hg L2 h
        · rw [List.mem_singleton] at h; rw [h]; exact a4
      rw [et, ← txM_app]
      have hT1 : MT (bsM mem (tbT 0 (acc ++ [L]))) n K := hT.bs
      have Q := mkV_is (c := 59) (hT.K9 q) (by decide)
      refine hPP _ ?_
      refine z_aload_n hX (D_Model_readText (i := 19) rfl) rfl ?_
      refine z_geti hX (D_Model_readText (i := 20) rfl) f_Model_156 rfl (by decide) (by first | exact Nat.one_pos | assumption | omega) rfl ?_
      rw [pmM_15]
      refine z_if_ge (tgt := 64) hX (D_Model_readText (i := 21) rfl) (by decide) (fun hcc => absurd hcc (by decide)) (fun _ => ?_)
      refine z_aload_n hX (D_Model_readText (i := 22) rfl) rfl ?_
      refine z_cV0 hX (D_Model_readText (i := 23) rfl) mi_Model_look l_Model_168 rfl rfl (by decide) (by first | exact Nat.one_pos | assumption | omega) (by first | decide | omega) (Nat.le_of_ble_eq_true rfl) (d_look hH hT1 a2 ?_)
      refine z_bipush (v := 59) hX (D_Model_readText (i := 24) rfl) (by decide) ?_
      refine z_icmp_ne (tgt := 64) hX (D_Model_readText (i := 25) rfl) (by decide) (fun h1 => ?_) (fun h1 => ?_)
      · refine z_aload_n hX (D_Model_readText (i := 35) rfl) rfl ?_
        refine z_geti hX (D_Model_readText (i := 36) rfl) f_Model_156 rfl (by decide) (by first | exact Nat.one_pos | assumption | omega) rfl ?_
        rw [pmM_15]
        refine z_if_ge (tgt := 86) hX (D_Model_readText (i := 37) rfl) (by decide) (fun hcc => absurd hcc (by decide)) (fun _ => ?_)
        refine z_aload_n hX (D_Model_readText (i := 38) rfl) rfl ?_
        refine z_geti hX (D_Model_readText (i := 39) rfl) f_Model_153 rfl (by decide) (by first | exact Nat.one_pos | assumption | omega) rfl ?_
        refine z_aload_n hX (D_Model_readText (i := 40) rfl) rfl ?_
        refine z_geti hX (D_Model_readText (i := 41) rfl) f_Model_150 rfl (by decide) (by first | exact Nat.one_pos | assumption | omega) rfl ?_
        rw [pmM_14, pmM_13, show (bsM mem (tbT 0 (acc ++ [L]))).1 40 0 13 = nI n from hT.1]
        have h1 : ¬ K q = 59 := fun w => h1 (Q.mpr w)
        refine z_icmp_ge (tgt := 86) hX (D_Model_readText (i := 42) rfl) (by decide) (fun h2 => ?_) (fun h2 => ?_)
        · skip
          have hq : n ≤ q := (nI_leI (by omega) (by omega)).mp h2
          refine d_text_ok hH hX hR (by omega) (by omega) hg2 (fun mem' r1 r2 => hs q _ mem' (if_pos hq) r1 r2)
        · refine z_aload_n hX (D_Model_readText (i := 43) rfl) rfl ?_
          have hq : ¬ n ≤ q := fun w => h2 (nI_le w (by omega))
          refine z_cV0 hX (D_Model_readText (i := 44) rfl) mi_Model_faulty l_Model_165 rfl rfl (by decide) (by first | exact Nat.one_pos | assumption | omega) (by first | decide | omega) (Nat.le_of_ble_eq_true rfl) (d_faulty hH ?_)
          refine d_text_bad hH hX hR (q := q) (by omega) rfl ?_
          exact hn q _ ((if_neg hq).trans (if_neg h1)) (ndO_bs.trans ndO_pm).rd
      · refine z_aload_n hX (D_Model_readText (i := 26) rfl) rfl ?_
        refine z_dupP hX (D_Model_readText (i := 27) rfl) ?_
        refine z_geti hX (D_Model_readText (i := 28) rfl) f_Model_153 rfl (by decide) (by first | exact Nat.one_pos | assumption | omega) rfl ?_
        refine z_iconst (v := 1) hX (D_Model_readText (i := 29) rfl) (by decide) ?_
        refine z_iadd hX (D_Model_readText (i := 30) rfl) ?_
        have h1 := Q.mp h1
        have hqn := K_lt hT.2.2.1 (p := q) (by omega)
        have hq : ¬ n ≤ q := by omega
        rw [pmM_14, show nI q + 1 = nI (q + 1) from nI_add q 1]
        refine z_puti hX (D_Model_readText (i := 31) rfl) g_Model_153 rfl (by decide) (by first | exact Nat.one_pos | assumption | omega) rfl ?_
        rw [pmM_p]
        refine z_aload_n hX (D_Model_readText (i := 32) rfl) rfl ?_
        refine z_cV0 hX (D_Model_readText (i := 33) rfl) mi_Model_line l_Model_204 rfl rfl (by decide) (by first | exact Nat.one_pos | assumption | omega) (by first | decide | omega) (Nat.le_of_ble_eq_true rfl) (ih (q + 1) (acc ++ [L]) (by omega) (by omega) (by omega) (by omega) hg2 (fun u Λ m' w => hs u Λ m' ((if_neg hq).trans ((if_pos h1).trans w))) (fun u m' w => hn u m' ((if_neg hq).trans ((if_pos h1).trans w))) _ (fun m' hw => ?_))
        refine z_goto (tgt := 31) hX (D_Model_readText (i := 34) rfl) (by decide) ?_
        exact hw
    · intro q mem' hfl hnd h15 h14
      have hq : q ≤ n ∧ Post (some (zI (nI q))) (upI mem' 40 0 13 0) := by
        rcases hfl with hfl | ⟨⟨L, hfl⟩, hd⟩
        · rw [hfl] at hok hn
          exact ⟨hok.2, hn q _ rfl hnd.rd⟩
        · rw [hfl] at hok hn
          have hqn := isDg_lt hT.2.2.1 hd
          refine ⟨hok.2.1, hn q _ ((if_neg (by omega)).trans (if_neg (fun w => ?_))) hnd.rd⟩
          rw [w] at hd
          exact absurd hd (by decide)
      refine hPP _ ?_
      refine z_aload_n hX (D_Model_readText (i := 19) rfl) rfl ?_
      refine z_geti hX (D_Model_readText (i := 20) rfl) f_Model_156 rfl (by decide) (by first | exact Nat.one_pos | assumption | omega) rfl ?_
      rw [h15]
      refine z_if_ge (tgt := 64) hX (D_Model_readText (i := 21) rfl) (by decide) (fun _ => ?_) (fun hcc => absurd (nI_pos' (by omega)) hcc)
      refine z_aload_n hX (D_Model_readText (i := 35) rfl) rfl ?_
      refine z_geti hX (D_Model_readText (i := 36) rfl) f_Model_156 rfl (by decide) (by first | exact Nat.one_pos | assumption | omega) rfl ?_
      rw [h15]
      refine z_if_ge (tgt := 86) hX (D_Model_readText (i := 37) rfl) (by decide) (fun _ => ?_) (fun hcc => absurd (nI_pos' (by omega)) hcc)
      exact d_text_bad hH hX hR (by omega) h15 hq.2
theorem d_readText (hH : zHas ι pM) (hT : MT mem n K) (hs : ∀ q Λ mem', txR K n 121 0 [] = (q, some Λ) → rdO mem mem' → MLaw mem' Λ → Post (some (zI (-1))) mem') (hn : ∀ q mem', txR K n 121 0 [] = (q, none) → rdN mem mem' → Post (some (zI (nI q))) mem') : zC l ι M_Model_readText 45 [zP 40 0, zI (nI 0)] mem Post := by
  refine z_enter hH (by decide) (by simp [z_ent, M_Model_readText]) (fun X hXl hX hR => ?_)
  refine z_aload_n hX (D_Model_readText (i := 0) rfl) rfl ?_
  refine z_iconst (v := 0) hX (D_Model_readText (i := 1) rfl) (by decide) ?_
  refine z_puti hX (D_Model_readText (i := 2) rfl) g_Model_153 rfl (by decide) (by first | exact Nat.one_pos | assumption | omega) rfl ?_
  refine z_aload_n hX (D_Model_readText (i := 3) rfl) rfl ?_
  refine z_iconst (v := -1) hX (D_Model_readText (i := 4) rfl) (by decide) ?_
  refine z_puti hX (D_Model_readText (i := 5) rfl) g_Model_156 rfl (by decide) (by first | exact Nat.one_pos | assumption | omega) rfl ?_
  refine z_aload_n hX (D_Model_readText (i := 6) rfl) rfl ?_
  refine z_iconst (v := 0) hX (D_Model_readText (i := 7) rfl) (by decide) ?_
  refine z_puti hX (D_Model_readText (i := 8) rfl) g_Model_162 rfl (by decide) (by first | exact Nat.one_pos | assumption | omega) rfl ?_
  refine z_aload_n hX (D_Model_readText (i := 9) rfl) rfl ?_
  refine z_iconst (v := 0) hX (D_Model_readText (i := 10) rfl) (by decide) ?_
  refine z_puti hX (D_Model_readText (i := 11) rfl) g_Model_159 rfl (by decide) (by first | exact Nat.one_pos | assumption | omega) rfl ?_
  refine z_aload_n hX (D_Model_readText (i := 12) rfl) rfl ?_
  refine z_getc hX (D_Model_readText (i := 13) rfl) f_Model_41 rfl (by decide) (by first | exact Nat.one_pos | assumption | omega) rfl ?_
  refine z_iconst (v := 1) hX (D_Model_readText (i := 14) rfl) (by decide) ?_
  refine z_iconst (v := 0) hX (D_Model_readText (i := 15) rfl) (by decide) ?_
  refine z_iast (j := 1) hX (D_Model_readText (i := 16) rfl) rfl (by decide) (by first | exact Nat.one_pos | assumption | omega) (by decide) rfl (by omega) ?_
  rw [pmM_start]
  refine z_aload_n hX (D_Model_readText (i := 17) rfl) rfl ?_
  refine z_cV0 hX (D_Model_readText (i := 18) rfl) mi_Model_line l_Model_204 rfl rfl (by decide) (by first | exact Nat.one_pos | assumption | omega) (by first | decide | omega) (Nat.le_of_ble_eq_true rfl) (d_text_line hH hX hR hT 121 0 [] rfl (Nat.zero_le _) (Nat.zero_le _) (Nat.zero_le _) (fun L h => absurd h List.not_mem_nil) hs hn _ (fun m' hw => ?_))
  exact hw
theorem d_law (hH : zHas ι pM) (hT : MT mem n K) (hs : ∀ q Λ mem', txR K n 121 0 [] = (q, some Λ) → rdO mem mem' → MLaw mem' Λ → Post (some (zI 1)) (upI mem' 40 0 25 1)) (hn : ∀ q mem', txR K n 121 0 [] = (q, none) → rdN mem mem' → Post (some (zI (-100 - nI q))) mem') : zC l ι M_Model_law 46 [zP 40 0] mem Post := by
  have hok := txR_ok hT.2.2.1 hT.2.1 121 0 [] (Nat.zero_le _) (Nat.zero_le _) (fun L h => absurd h List.not_mem_nil)
  have h120 := hT.2.1
  refine z_enter hH (by decide) (by simp [z_ent, M_Model_law]) (fun X hXl hX hR => ?_)
  refine z_aload_n hX (D_Model_law (i := 0) rfl) rfl ?_
  refine z_iconst (v := 0) hX (D_Model_law (i := 1) rfl) (by decide) ?_
  refine z_cV1 hX (D_Model_law (i := 2) rfl) mi_Model_readText l_Model_213 rfl rfl (by decide) (by first | exact Nat.one_pos | assumption | omega) (by first | decide | omega) (Nat.le_of_ble_eq_true rfl) (d_readText hH hT ?_ ?_)
  · intro q Λ mem' he r1 r2
    refine z_istore_n hX (D_Model_law (i := 3) rfl) (by decide) rfl ?_
    refine z_iload_n hX (D_Model_law (i := 4) rfl) rfl ?_
    refine z_if_lt (tgt := 15) hX (D_Model_law (i := 5) rfl) (by decide) (fun _ => ?_) (fun hcc => absurd (by decide) hcc)
    refine z_aload_n hX (D_Model_law (i := 10) rfl) rfl ?_
    refine z_iconst (v := 1) hX (D_Model_law (i := 11) rfl) (by decide) ?_
    refine z_putz hX (D_Model_law (i := 12) rfl) g_Model_216 rfl (by decide) (by first | exact Nat.one_pos | assumption | omega) rfl (by first | exact Or.inl rfl | exact Or.inr rfl | assumption) ?_
    refine z_iconst (v := 1) hX (D_Model_law (i := 13) rfl) (by decide) ?_
    exact z_iret hX hR (D_Model_law (i := 14) rfl) rfl (hs q Λ mem' he r1 r2)
  · intro q mem' he r1
    rw [he] at hok
    have hq : q ≤ n := hok
    refine z_istore_n hX (D_Model_law (i := 3) rfl) (by decide) rfl ?_
    refine z_iload_n hX (D_Model_law (i := 4) rfl) rfl ?_
    refine z_if_lt (tgt := 15) hX (D_Model_law (i := 5) rfl) (by decide) (fun hcc => absurd hcc ((fun w => absurd w (nI_pos (by omega))))) (fun _ => ?_)
    refine z_bipush (v := -100) hX (D_Model_law (i := 6) rfl) (by decide) ?_
    refine z_iload_n hX (D_Model_law (i := 7) rfl) rfl ?_
    refine z_isub hX (D_Model_law (i := 8) rfl) ?_
    exact z_iret hX hR (D_Model_law (i := 9) rfl) rfl (hn q mem' he r1)
end D6
