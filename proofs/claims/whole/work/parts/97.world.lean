/-! the memory at the start, and the world by pools -/
def yAr : Nat → Int32 := upd (upd (upd (upd (upd (upd (upd (upd (upd (upd (upd (upd (upd (upd (upd (upd (upd (upd (upd (upd (upd (upd (upd (upd (fun _ => 0) 0 5) 1 1) 2 4) 3 3) 4 0) 5 5) 6 2) 7 4) 8 4) 9 1) 10 5) 11 3) 12 0) 13 4) 14 2) 15 5) 16 0) 17 1) 18 2) 19 3) 20 2) 21 1) 22 0) 23 3
def yHo : Nat → Int32 := upd (upd (upd (upd (upd (upd (fun _ => 0) 0 (-1)) 1 (-1)) 2 (-1)) 3 (-1)) 4 (-1)) 5 (-1)
def ym (μ : zM) : zM := (fun p k j => match p with
  | 2 => (match j with
    | 1 => 16
    | _ => 0)
  | 4 => μ.1 4 k j
  | 5 => μ.1 5 k j
  | 6 => μ.1 6 k j
  | 7 => μ.1 7 k j
  | 8 => μ.1 8 k j
  | 43 => yAr j
  | 64 => yHo j
  | _ => 0, fun _ _ _ => 0, fun p k j => match p with
  | 14 => j
  | _ => 0)
def yR (q0 q1 q2 q3 q4 q5 q6 q7 q8 q9 q10 q11 q12 q13 q14 q15 q16 q17 q18 q19 q20 q21 q22 q24 q25 q26 q27 q23 q28 q29 q30 q31 q32 q33 q34 q35 q36 q37 q38 q39 q40 q41 q42 q43 q44 q45 q46 q47 q48 q49 q50 q51 q52 q53 q54 q55 q56 n0 n1 n2 n3 n4 n5 n6 n7 n8 n9 n10 n11 n12 n13 n14 n15 n16 n17 n18 n19 n20 n21 n22 n23 n24 n25 n26 n27 b : Nat) (t : Nat → Nat) : Nat → Nat → Nat := fun p k => match p with
  | 0 => q0
  | 1 => q1
  | 2 => [q2, q4, q6, q8, q10, q12, q14, q16].getD k 0
  | 3 => [q3, q5, q7, q9, q11, q13, q15, q17].getD k 0
  | 4 => q18
  | 5 => q19
  | 6 => q20
  | 7 => q21
  | 8 => q22
  | 9 => q23
  | 10 => q24
  | 11 => q25
  | 12 => q26
  | 13 => q27
  | 14 => q28
  | 15 => q29
  | 16 => q30
  | 17 => q31
  | 18 => q32
  | 19 => q33
  | 20 => q34
  | 21 => q35
  | 22 => q36
  | 23 => q37
  | 24 => q38
  | 25 => q39
  | 26 => q40
  | 27 => q41
  | 28 => q42
  | 29 => q43
  | 30 => q44
  | 31 => [q45, q47, q49, q51, q53, q55].getD k 0
  | 32 => [q46, q48, q50, q52, q54, q56].getD k 0
  | 40 => n0
  | 41 => n1
  | 42 => n2
  | 43 => n3
  | 44 => n4
  | 45 => n5
  | 46 => n6
  | 47 => n7
  | 48 => n8
  | 49 => n9
  | 50 => n10
  | 51 => n11
  | 52 => n12
  | 53 => n13
  | 54 => n14
  | 55 => n15
  | 56 => n16
  | 57 => n17
  | 58 => n18
  | 59 => n19
  | 60 => n20
  | 61 => n21
  | 62 => n22
  | 63 => n23
  | 64 => n24
  | 65 => n25
  | 66 => n26
  | 67 => n27
  | 99 => b
  | _ => t p
def yKF : List zR := [(0, 0), (1, 0), (2, 0), (3, 0), (2, 1), (3, 1), (2, 2), (3, 2), (2, 3), (3, 3), (2, 4), (3, 4), (2, 5), (3, 5), (2, 6), (3, 6), (2, 7), (3, 7), (4, 0), (5, 0), (6, 0), (7, 0), (8, 0), (10, 0), (11, 0), (12, 0), (13, 0), (9, 0), (14, 0), (15, 0), (16, 0), (17, 0), (18, 0), (19, 0), (20, 0), (21, 0), (22, 0), (23, 0), (24, 0), (25, 0), (26, 0), (27, 0), (28, 0), (29, 0), (30, 0), (31, 0), (32, 0), (31, 1), (32, 1), (31, 2), (32, 2), (31, 3), (32, 3), (31, 4), (32, 4), (31, 5), (32, 5)]
def yKM : List zR := [(40, 0), (41, 0), (42, 0), (43, 0), (44, 0), (45, 0), (46, 0), (47, 0), (48, 0), (49, 0), (50, 0), (51, 0), (52, 0), (53, 0), (54, 0), (55, 0), (56, 0), (57, 0), (58, 0), (59, 0), (60, 0), (61, 0), (62, 0), (63, 0), (64, 0), (65, 0), (66, 0), (67, 0)]
def yK : List zR := yKF ++ yKM
theorem yK_nd : yK.Nodup := by decide +kernel
theorem yK_X : ∀ p ∈ pX, ∀ k, k < (zsh p).1 → (p, k) ∈ yK := by decide +kernel
theorem yK_M : ∀ p ∈ pM, ∀ k, k < (zsh p).1 → (p, k) ∈ yK := by decide +kernel
theorem yAr_ok : ∀ j, j < 24 → yAr j = nI (aroN j) := by decide +kernel
theorem yHo_ok : ∀ j, j < 6 → yHo j = -1 := by decide +kernel
set_option maxRecDepth 100000 in
set_option maxHeartbeats 4000000 in
theorem y_wF {ι : zE} {μ : zM} {q0 q1 q2 q3 q4 q5 q6 q7 q8 q9 q10 q11 q12 q13 q14 q15 q16 q17 q18 q19 q20 q21 q22 q24 q25 q26 q27 q23 q28 q29 q30 q31 q32 q33 q34 q35 q36 q37 q38 q39 q40 q41 q42 q43 q44 q45 q46 q47 q48 q49 q50 q51 q52 q53 q54 q55 q56 n0 n1 n2 n3 n4 n5 n6 n7 n8 n9 n10 n11 n12 n13 n14 n15 n16 n17 n18 n19 n20 n21 n22 n23 n24 n25 n26 n27 b : Nat} {t : Nat → Nat} : yKF.map (z_cell (ι.1, ι.2.1, ι.2.2.1, yR q0 q1 q2 q3 q4 q5 q6 q7 q8 q9 q10 q11 q12 q13 q14 q15 q16 q17 q18 q19 q20 q21 q22 q24 q25 q26 q27 q23 q28 q29 q30 q31 q32 q33 q34 q35 q36 q37 q38 q39 q40 q41 q42 q43 q44 q45 q46 q47 q48 q49 q50 q51 q52 q53 q54 q55 q56 n0 n1 n2 n3 n4 n5 n6 n7 n8 n9 n10 n11 n12 n13 n14 n15 n16 n17 n18 n19 n20 n21 n22 n23 n24 n25 n26 n27 b t, yK) (ym μ)) = [(q0, .inr (8, [.ref q1, .int 0, .int 0, .ref q18, .ref q23, .ref q34, .ref q37, .ref q41, .ref q44])), (q1, .inl (zeT ι (.object "FourCubes$Cube"), 8, .inr (.inr (.inr (.inr (fun j => some ([q2, q4, q6, q8, q10, q12, q14, q16].getD j 0))))))), (q2, .inr (1, [.ref q3, .int 16])), (q3, .inl (zeT ι .int, 6, .inl (fun _ => 0))), (q4, .inr (1, [.ref q5, .int 16])), (q5, .inl (zeT ι .int, 6, .inl (fun _ => 0))), (q6, .inr (1, [.ref q7, .int 16])), (q7, .inl (zeT ι .int, 6, .inl (fun _ => 0))), (q8, .inr (1, [.ref q9, .int 16])), (q9, .inl (zeT ι .int, 6, .inl (fun _ => 0))), (q10, .inr (1, [.ref q11, .int 16])), (q11, .inl (zeT ι .int, 6, .inl (fun _ => 0))), (q12, .inr (1, [.ref q13, .int 16])), (q13, .inl (zeT ι .int, 6, .inl (fun _ => 0))), (q14, .inr (1, [.ref q15, .int 16])), (q15, .inl (zeT ι .int, 6, .inl (fun _ => 0))), (q16, .inr (1, [.ref q17, .int 16])), (q17, .inl (zeT ι .int, 6, .inl (fun _ => 0))), z_cell (yιL ι q18 q19 q20 q21 q22) μ (4, 0), z_cell (yιL ι q18 q19 q20 q21 q22) μ (5, 0), z_cell (yιL ι q18 q19 q20 q21 q22) μ (6, 0), z_cell (yιL ι q18 q19 q20 q21 q22) μ (7, 0), z_cell (yιL ι q18 q19 q20 q21 q22) μ (8, 0), (q24, .inr (5, [.int 0, .ref q25, .ref q26, .ref q27])), (q25, .inl (zeT ι .int, 4, .inl (fun _ => 0))), (q26, .inl (zeT ι .int, 144, .inl (fun _ => 0))), (q27, .inl (zeT ι .int, 4, .inl (fun _ => 0))), (q23, .inr (7, [.ref q1, .ref q18, .ref q24, .ref q28, .ref q29, .int 0, .ref q30, .ref q31, .ref q32, .ref q33, .int 0, .int 0, .int 0])), (q28, .inl (zeT ι (.object "FourCubes$Cube"), 4, .inr (.inr (.inr (.inr (fun j => some ([q2, q4, q6, q8, q10, q12, q14, q16].getD j 0))))))), (q29, .inl (zeT ι .int, 4, .inl (fun _ => 0))), (q30, .inl (zeT ι .int, 7, .inl (fun _ => 0))), (q31, .inl (zeT ι .int, 7, .inl (fun _ => 0))), (q32, .inl (zeT ι .byte, 3456, .inl (fun _ => 0))), (q33, .inl (zeT ι .int, 5, .inl (fun _ => 0))), (q34, .inr (4, [.ref q35, .ref q36, .int 0, .int 0])), (q35, .inl (zeT ι .int, 81, .inl (fun _ => 0))), (q36, .inl (zeT ι .int, 7, .inl (fun _ => 0))), (q37, .inr (3, [.ref q38, .ref q39, .ref q40, .int 0, .int 0])), (q38, .inl (zeT ι .int, 40, .inl (fun _ => 0))), (q39, .inl (zeT ι .int, 40, .inl (fun _ => 0))), (q40, .inl (zeT ι .int, 40, .inl (fun _ => 0))), (q41, .inr (0, [.ref q42, .int 0, .ref q43, .int 0, .int 0])), (q42, .inl (zeT ι .int, 50, .inl (fun _ => 0))), (q43, .inl (zeT ι .int, 24, .inl (fun _ => 0))), (q44, .inl (zeT ι (.object "FourCubes$Shelf"), 6, .inr (.inr (.inr (.inr (fun j => some ([q45, q47, q49, q51, q53, q55].getD j 0))))))), (q45, .inr (6, [.int 0, .int 0, .int 0, .int 0, .ref q46])), (q46, .inl (zeT ι .long, 60, .inr (.inl (fun _ => 0)))), (q47, .inr (6, [.int 0, .int 0, .int 0, .int 0, .ref q48])), (q48, .inl (zeT ι .long, 60, .inr (.inl (fun _ => 0)))), (q49, .inr (6, [.int 0, .int 0, .int 0, .int 0, .ref q50])), (q50, .inl (zeT ι .long, 60, .inr (.inl (fun _ => 0)))), (q51, .inr (6, [.int 0, .int 0, .int 0, .int 0, .ref q52])), (q52, .inl (zeT ι .long, 60, .inr (.inl (fun _ => 0)))), (q53, .inr (6, [.int 0, .int 0, .int 0, .int 0, .ref q54])), (q54, .inl (zeT ι .long, 60, .inr (.inl (fun _ => 0)))), (q55, .inr (6, [.int 0, .int 0, .int 0, .int 0, .ref q56])), (q56, .inl (zeT ι .long, 60, .inr (.inl (fun _ => 0))))] := rfl
set_option maxRecDepth 100000 in
set_option maxHeartbeats 4000000 in
theorem y_wM {ι : zE} {μ : zM} {q0 q1 q2 q3 q4 q5 q6 q7 q8 q9 q10 q11 q12 q13 q14 q15 q16 q17 q18 q19 q20 q21 q22 q24 q25 q26 q27 q23 q28 q29 q30 q31 q32 q33 q34 q35 q36 q37 q38 q39 q40 q41 q42 q43 q44 q45 q46 q47 q48 q49 q50 q51 q52 q53 q54 q55 q56 n0 n1 n2 n3 n4 n5 n6 n7 n8 n9 n10 n11 n12 n13 n14 n15 n16 n17 n18 n19 n20 n21 n22 n23 n24 n25 n26 n27 b : Nat} {t : Nat → Nat} : yKM.map (z_cell (ι.1, ι.2.1, ι.2.2.1, yR q0 q1 q2 q3 q4 q5 q6 q7 q8 q9 q10 q11 q12 q13 q14 q15 q16 q17 q18 q19 q20 q21 q22 q24 q25 q26 q27 q23 q28 q29 q30 q31 q32 q33 q34 q35 q36 q37 q38 q39 q40 q41 q42 q43 q44 q45 q46 q47 q48 q49 q50 q51 q52 q53 q54 q55 q56 n0 n1 n2 n3 n4 n5 n6 n7 n8 n9 n10 n11 n12 n13 n14 n15 n16 n17 n18 n19 n20 n21 n22 n23 n24 n25 n26 n27 b t, yK) (ym μ)) = [(n0, .inr (9, [.int 0, .int 0, .ref n1, .ref n2, .int 0, .ref n3, .int 0, .int 0, .ref n4, .ref n5, .ref n6, .ref n7, .ref n8, .int 0, .int 0, .int 0, .int 0, .int 0, .ref n9, .ref n10, .ref n11, .ref n12, .ref n13, .ref n14, .ref n15, .int 0, .ref n16, .ref n17, .int 0, .ref n18, .ref n19, .int 0, .int 0, .int 0, .int 0, .ref n20, .ref n21, .int 0, .ref n22, .int 0, .ref n23, .ref n24, .ref n25, .ref n26, .ref n27])), (n1, .inl (zeT ι .int, 48, .inl (fun _ => 0))), (n2, .inl (zeT ι .int, 8, .inl (fun _ => 0))), (n3, .inl (zeT ι .int, 24, .inl (upd (upd (upd (upd (upd (upd (upd (upd (upd (upd (upd (upd (upd (upd (upd (upd (upd (upd (upd (upd (upd (upd (upd (upd (fun _ => 0) 0 5) 1 1) 2 4) 3 3) 4 0) 5 5) 6 2) 7 4) 8 4) 9 1) 10 5) 11 3) 12 0) 13 4) 14 2) 15 5) 16 0) 17 1) 18 2) 19 3) 20 2) 21 1) 22 0) 23 3))), (n4, .inl (zeT ι .int, 40, .inl (fun _ => 0))), (n5, .inl (zeT ι .int, 40, .inl (fun _ => 0))), (n6, .inl (zeT ι .int, 40, .inl (fun _ => 0))), (n7, .inl (zeT ι .int, 40, .inl (fun _ => 0))), (n8, .inl (zeT ι .byte, 120, .inl (fun _ => 0))), (n9, .inl (zeT ι .byte, 260, .inl (fun _ => 0))), (n10, .inl (zeT ι .int, 260, .inl (fun _ => 0))), (n11, .inl (zeT ι .int, 2, .inl (fun _ => 0))), (n12, .inl (zeT ι .short, 122, .inl (fun _ => 0))), (n13, .inl (zeT ι .short, 122, .inl (fun _ => 0))), (n14, .inl (zeT ι .int, 5, .inl (fun _ => 0))), (n15, .inl (zeT ι .int, 130, .inl (fun _ => 0))), (n16, .inl (zeT ι .boolean, 2304, .inl (fun _ => 0))), (n17, .inl (zeT ι .int, 8, .inl (fun _ => 0))), (n18, .inl (zeT ι .int, 8, .inl (fun _ => 0))), (n19, .inl (zeT ι .int, 8, .inl (fun _ => 0))), (n20, .inl (zeT ι .int, 7, .inl (fun _ => 0))), (n21, .inl (zeT ι .int, 81, .inl (fun _ => 0))), (n22, .inl (zeT ι .int, 50, .inl (fun _ => 0))), (n23, .inl (zeT ι .int, 24, .inl (fun _ => 0))), (n24, .inl (zeT ι .int, 6, .inl (upd (upd (upd (upd (upd (upd (fun _ => 0) 0 (-1)) 1 (-1)) 2 (-1)) 3 (-1)) 4 (-1)) 5 (-1)))), (n25, .inl (zeT ι .int, 6, .inl (fun _ => 0))), (n26, .inl (zeT ι .long, 360, .inr (.inl (fun _ => 0)))), (n27, .inl (zeT ι .long, 60, .inr (.inl (fun _ => 0))))] := rfl
theorem y_w (ι : zE) (μ : zM) (q0 q1 q2 q3 q4 q5 q6 q7 q8 q9 q10 q11 q12 q13 q14 q15 q16 q17 q18 q19 q20 q21 q22 q24 q25 q26 q27 q23 q28 q29 q30 q31 q32 q33 q34 q35 q36 q37 q38 q39 q40 q41 q42 q43 q44 q45 q46 q47 q48 q49 q50 q51 q52 q53 q54 q55 q56 n0 n1 n2 n3 n4 n5 n6 n7 n8 n9 n10 n11 n12 n13 n14 n15 n16 n17 n18 n19 n20 n21 n22 n23 n24 n25 n26 n27 b : Nat) (t : Nat → Nat) : z_ws (ι.1, ι.2.1, ι.2.2.1, yR q0 q1 q2 q3 q4 q5 q6 q7 q8 q9 q10 q11 q12 q13 q14 q15 q16 q17 q18 q19 q20 q21 q22 q24 q25 q26 q27 q23 q28 q29 q30 q31 q32 q33 q34 q35 q36 q37 q38 q39 q40 q41 q42 q43 q44 q45 q46 q47 q48 q49 q50 q51 q52 q53 q54 q55 q56 n0 n1 n2 n3 n4 n5 n6 n7 n8 n9 n10 n11 n12 n13 n14 n15 n16 n17 n18 n19 n20 n21 n22 n23 n24 n25 n26 n27 b t, yK) (ym μ) = [(q0, .inr (8, [.ref q1, .int 0, .int 0, .ref q18, .ref q23, .ref q34, .ref q37, .ref q41, .ref q44])), (q1, .inl (zeT ι (.object "FourCubes$Cube"), 8, .inr (.inr (.inr (.inr (fun j => some ([q2, q4, q6, q8, q10, q12, q14, q16].getD j 0))))))), (q2, .inr (1, [.ref q3, .int 16])), (q3, .inl (zeT ι .int, 6, .inl (fun _ => 0))), (q4, .inr (1, [.ref q5, .int 16])), (q5, .inl (zeT ι .int, 6, .inl (fun _ => 0))), (q6, .inr (1, [.ref q7, .int 16])), (q7, .inl (zeT ι .int, 6, .inl (fun _ => 0))), (q8, .inr (1, [.ref q9, .int 16])), (q9, .inl (zeT ι .int, 6, .inl (fun _ => 0))), (q10, .inr (1, [.ref q11, .int 16])), (q11, .inl (zeT ι .int, 6, .inl (fun _ => 0))), (q12, .inr (1, [.ref q13, .int 16])), (q13, .inl (zeT ι .int, 6, .inl (fun _ => 0))), (q14, .inr (1, [.ref q15, .int 16])), (q15, .inl (zeT ι .int, 6, .inl (fun _ => 0))), (q16, .inr (1, [.ref q17, .int 16])), (q17, .inl (zeT ι .int, 6, .inl (fun _ => 0))), z_cell (yιL ι q18 q19 q20 q21 q22) μ (4, 0), z_cell (yιL ι q18 q19 q20 q21 q22) μ (5, 0), z_cell (yιL ι q18 q19 q20 q21 q22) μ (6, 0), z_cell (yιL ι q18 q19 q20 q21 q22) μ (7, 0), z_cell (yιL ι q18 q19 q20 q21 q22) μ (8, 0), (q24, .inr (5, [.int 0, .ref q25, .ref q26, .ref q27])), (q25, .inl (zeT ι .int, 4, .inl (fun _ => 0))), (q26, .inl (zeT ι .int, 144, .inl (fun _ => 0))), (q27, .inl (zeT ι .int, 4, .inl (fun _ => 0))), (q23, .inr (7, [.ref q1, .ref q18, .ref q24, .ref q28, .ref q29, .int 0, .ref q30, .ref q31, .ref q32, .ref q33, .int 0, .int 0, .int 0])), (q28, .inl (zeT ι (.object "FourCubes$Cube"), 4, .inr (.inr (.inr (.inr (fun j => some ([q2, q4, q6, q8, q10, q12, q14, q16].getD j 0))))))), (q29, .inl (zeT ι .int, 4, .inl (fun _ => 0))), (q30, .inl (zeT ι .int, 7, .inl (fun _ => 0))), (q31, .inl (zeT ι .int, 7, .inl (fun _ => 0))), (q32, .inl (zeT ι .byte, 3456, .inl (fun _ => 0))), (q33, .inl (zeT ι .int, 5, .inl (fun _ => 0))), (q34, .inr (4, [.ref q35, .ref q36, .int 0, .int 0])), (q35, .inl (zeT ι .int, 81, .inl (fun _ => 0))), (q36, .inl (zeT ι .int, 7, .inl (fun _ => 0))), (q37, .inr (3, [.ref q38, .ref q39, .ref q40, .int 0, .int 0])), (q38, .inl (zeT ι .int, 40, .inl (fun _ => 0))), (q39, .inl (zeT ι .int, 40, .inl (fun _ => 0))), (q40, .inl (zeT ι .int, 40, .inl (fun _ => 0))), (q41, .inr (0, [.ref q42, .int 0, .ref q43, .int 0, .int 0])), (q42, .inl (zeT ι .int, 50, .inl (fun _ => 0))), (q43, .inl (zeT ι .int, 24, .inl (fun _ => 0))), (q44, .inl (zeT ι (.object "FourCubes$Shelf"), 6, .inr (.inr (.inr (.inr (fun j => some ([q45, q47, q49, q51, q53, q55].getD j 0))))))), (q45, .inr (6, [.int 0, .int 0, .int 0, .int 0, .ref q46])), (q46, .inl (zeT ι .long, 60, .inr (.inl (fun _ => 0)))), (q47, .inr (6, [.int 0, .int 0, .int 0, .int 0, .ref q48])), (q48, .inl (zeT ι .long, 60, .inr (.inl (fun _ => 0)))), (q49, .inr (6, [.int 0, .int 0, .int 0, .int 0, .ref q50])), (q50, .inl (zeT ι .long, 60, .inr (.inl (fun _ => 0)))), (q51, .inr (6, [.int 0, .int 0, .int 0, .int 0, .ref q52])), (q52, .inl (zeT ι .long, 60, .inr (.inl (fun _ => 0)))), (q53, .inr (6, [.int 0, .int 0, .int 0, .int 0, .ref q54])), (q54, .inl (zeT ι .long, 60, .inr (.inl (fun _ => 0)))), (q55, .inr (6, [.int 0, .int 0, .int 0, .int 0, .ref q56])), (q56, .inl (zeT ι .long, 60, .inr (.inl (fun _ => 0))))] ++ [(n0, .inr (9, [.int 0, .int 0, .ref n1, .ref n2, .int 0, .ref n3, .int 0, .int 0, .ref n4, .ref n5, .ref n6, .ref n7, .ref n8, .int 0, .int 0, .int 0, .int 0, .int 0, .ref n9, .ref n10, .ref n11, .ref n12, .ref n13, .ref n14, .ref n15, .int 0, .ref n16, .ref n17, .int 0, .ref n18, .ref n19, .int 0, .int 0, .int 0, .int 0, .ref n20, .ref n21, .int 0, .ref n22, .int 0, .ref n23, .ref n24, .ref n25, .ref n26, .ref n27])), (n1, .inl (zeT ι .int, 48, .inl (fun _ => 0))), (n2, .inl (zeT ι .int, 8, .inl (fun _ => 0))), (n3, .inl (zeT ι .int, 24, .inl (upd (upd (upd (upd (upd (upd (upd (upd (upd (upd (upd (upd (upd (upd (upd (upd (upd (upd (upd (upd (upd (upd (upd (upd (fun _ => 0) 0 5) 1 1) 2 4) 3 3) 4 0) 5 5) 6 2) 7 4) 8 4) 9 1) 10 5) 11 3) 12 0) 13 4) 14 2) 15 5) 16 0) 17 1) 18 2) 19 3) 20 2) 21 1) 22 0) 23 3))), (n4, .inl (zeT ι .int, 40, .inl (fun _ => 0))), (n5, .inl (zeT ι .int, 40, .inl (fun _ => 0))), (n6, .inl (zeT ι .int, 40, .inl (fun _ => 0))), (n7, .inl (zeT ι .int, 40, .inl (fun _ => 0))), (n8, .inl (zeT ι .byte, 120, .inl (fun _ => 0))), (n9, .inl (zeT ι .byte, 260, .inl (fun _ => 0))), (n10, .inl (zeT ι .int, 260, .inl (fun _ => 0))), (n11, .inl (zeT ι .int, 2, .inl (fun _ => 0))), (n12, .inl (zeT ι .short, 122, .inl (fun _ => 0))), (n13, .inl (zeT ι .short, 122, .inl (fun _ => 0))), (n14, .inl (zeT ι .int, 5, .inl (fun _ => 0))), (n15, .inl (zeT ι .int, 130, .inl (fun _ => 0))), (n16, .inl (zeT ι .boolean, 2304, .inl (fun _ => 0))), (n17, .inl (zeT ι .int, 8, .inl (fun _ => 0))), (n18, .inl (zeT ι .int, 8, .inl (fun _ => 0))), (n19, .inl (zeT ι .int, 8, .inl (fun _ => 0))), (n20, .inl (zeT ι .int, 7, .inl (fun _ => 0))), (n21, .inl (zeT ι .int, 81, .inl (fun _ => 0))), (n22, .inl (zeT ι .int, 50, .inl (fun _ => 0))), (n23, .inl (zeT ι .int, 24, .inl (fun _ => 0))), (n24, .inl (zeT ι .int, 6, .inl (upd (upd (upd (upd (upd (upd (fun _ => 0) 0 (-1)) 1 (-1)) 2 (-1)) 3 (-1)) 4 (-1)) 5 (-1)))), (n25, .inl (zeT ι .int, 6, .inl (fun _ => 0))), (n26, .inl (zeT ι .long, 360, .inr (.inl (fun _ => 0)))), (n27, .inl (zeT ι .long, 60, .inr (.inl (fun _ => 0))))] := by
  show (yKF ++ yKM).map _ = _
  rw [List.map_append, y_wF, y_wM]
theorem ym_RR {μ : zM} (hμ : yLM μ) : RR (ym μ) := by
  obtain ⟨f, v, g, hg, rfl⟩ := hμ
  refine ⟨0, 0, fun _ _ => 0, fun _ => 16, none, 0, fun _ => 999, 0, 0, 0, 0, ?_, ?_, ?_, ?_, ?_, ?_, ?_⟩
  · refine ⟨rfl, by decide, rfl, by decide, by decide, fun k hk f hf => ⟨rfl, Nat.zero_le _⟩, fun k hk => ⟨rfl, Nat.le_of_ble_eq_true rfl⟩, fun k hk => ?_⟩
    show (if 8 = 4 ∧ 0 = 0 ∧ 6 ≤ k ∧ k ≤ 10 then f k else if 8 = 7 ∧ 0 = 0 then v k else if 8 = 8 ∧ 0 = 0 then g k else yML.1 8 0 k) = _
    rw [if_neg (fun h => absurd h.1 (by decide)), if_neg (fun h => absurd h.1 (by decide)), if_pos ⟨rfl, rfl⟩]
    exact hg k hk
  · exact ⟨rfl, by decide, rfl, by decide, by decide, fun k hk f hf => ⟨rfl, Nat.zero_le _⟩, fun k hk => absurd hk (Nat.not_lt_zero _), rfl, fun j hj => yAr_ok j hj⟩
  · exact fun k _ _ => rfl
  · refine ⟨⟨?_, by decide, fun p hp => rfl, fun p hp => absurd hp (Nat.not_lt_zero _)⟩, ⟨rfl, by decide, fun p hp => rfl, fun p hp => absurd hp (Nat.not_lt_zero _)⟩⟩
    · show (if 4 = 4 ∧ 0 = 0 ∧ 6 ≤ 1 ∧ 1 ≤ 10 then f 1 else if 4 = 7 ∧ 0 = 0 then v 1 else if 4 = 8 ∧ 0 = 0 then g 1 else yML.1 4 0 1) = _
      rw [if_neg (fun h => absurd h.2.2.1 (by decide)), if_neg (fun h => absurd h.1 (by decide)), if_neg (fun h => absurd h.1 (by decide))]
      rfl
  · exact ⟨rfl, rfl, rfl, rfl, by decide, by decide, fun i hi => absurd hi (Nat.not_lt_zero _)⟩
  · exact ⟨rfl, rfl, by decide, fun b hb => absurd hb (Nat.not_lt_zero _), rfl, rfl, by decide, fun i _ hi => absurd hi (Nat.not_lt_zero _)⟩
  · intro k hk
    exact ⟨0, 0, 0, by decide, by decide, by decide, rfl, rfl, rfl, Or.inl ⟨rfl, yHo_ok k hk⟩⟩
