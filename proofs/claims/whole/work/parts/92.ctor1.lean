/-! the small constructors -/
set_option maxRecDepth 100000 in
set_option maxHeartbeats 4000000 in
theorem i_Bodies {l : Launch} {ι : zE} {w0 : va_W} {Post : va_W → Prop} {q0 : Nat} (h : ∀ q1 q2 : Nat, Post (w0 ++ [(q0, .inr (0, [.ref q1, .int 0, .ref q2, .int 0, .int 0])), (q1, .inl (zeT ι .int, 50, .inl (fun _ => 0))), (q2, .inl (zeT ι .int, 24, .inl (fun _ => 0)))])) : yC l ι M_Bodies_init 1 2 74 [zP q0 0] (w0 ++ [(q0, .inr (0, [.null, .int 0, .null, .int 0, .int 0]))]) Post := by
  refine y_enter (by decide) (Nat.le_of_ble_eq_true rfl) (fun X hXl hX hR => ?_)
  show yW ι M_Bodies_init X 0 [some (zP q0 0)] [] (w0 ++ [(q0, .inr (0, [.null, .int 0, .null, .int 0, .int 0]))]) 0 0
  refine y_aload_n hX (D_Bodies_init (i := 0) rfl) rfl ?_
  refine y_obj hX (D_Bodies_init (i := 1) rfl) lo_Bodies im_Object co_Object (by decide) ?_
  refine y_aload_n hX (D_Bodies_init (i := 2) rfl) rfl ?_
  refine y_bipush (v := 50) hX (D_Bodies_init (i := 3) rfl) (by decide) ?_
  refine y_newa (at_ := .int) (ty := .int) (t0 := 0) (N' := 50) (a0 := (50, .inl (fun _ => 0))) (ws2 := fun q => w0 ++ [(q0, .inr (0, [.null, .int 0, .null, .int 0, .int 0])), (q, .inl (zeT ι .int, 50, .inl (fun _ => 0)))]) (c2 := 1) (s2 := 50) hX (D_Bodies_init (i := 4) rfl) ac_int rfl rfl y_uqI (fun _ => rfl) (by decide) (by decide) (by decide) rfl rfl (by decide) (by decide) (fun q => yasc rfl) (fun q1 => ?_)
  show yW ι M_Bodies_init X 9 [some (zP q0 0)] [zP q1 0, zP q0 0] (w0 ++ [(q0, .inr (0, [.null, .int 0, .null, .int 0, .int 0])), (q1, .inl (zeT ι .int, 50, .inl (fun _ => 0)))]) 1 50
  refine y_putF (ci := 0) (j := 0) (N := 5) (i := w0.length + 0) (C := RX0) (T := TX0) (ty0 := tyX0) (ty := .array .int) (v := zP q1 0) (fs := [.null, .int 0, .null, .int 0, .int 0]) (ws' := w0 ++ [(q0, .inr (0, [.ref q1, .int 0, .null, .int 0, .int 0])), (q1, .inl (zeT ι .int, 50, .inl (fun _ => 0)))]) hX (D_Bodies_init (i := 5) rfl) w_Bodies_11 inX0 tyX0_ok nmX0 rfl (by decide) rfl rfl rfl rfl (by decide +kernel) rfl rfl (Nat.le_of_ble_eq_true rfl) (yat rfl) (yset rfl) ?_
  refine y_aload_n hX (D_Bodies_init (i := 6) rfl) rfl ?_
  refine y_bipush (v := 24) hX (D_Bodies_init (i := 7) rfl) (by decide) ?_
  refine y_newa (at_ := .int) (ty := .int) (t0 := 0) (N' := 24) (a0 := (24, .inl (fun _ => 0))) (ws2 := fun q => w0 ++ [(q0, .inr (0, [.ref q1, .int 0, .null, .int 0, .int 0])), (q1, .inl (zeT ι .int, 50, .inl (fun _ => 0))), (q, .inl (zeT ι .int, 24, .inl (fun _ => 0)))]) (c2 := 2) (s2 := 74) hX (D_Bodies_init (i := 8) rfl) ac_int rfl rfl y_uqI (fun _ => rfl) (by decide) (by decide) (by decide) rfl rfl (by decide) (by decide) (fun q => yasc rfl) (fun q2 => ?_)
  show yW ι M_Bodies_init X 17 [some (zP q0 0)] [zP q2 0, zP q0 0] (w0 ++ [(q0, .inr (0, [.ref q1, .int 0, .null, .int 0, .int 0])), (q1, .inl (zeT ι .int, 50, .inl (fun _ => 0))), (q2, .inl (zeT ι .int, 24, .inl (fun _ => 0)))]) 2 74
  refine y_putF (ci := 0) (j := 2) (N := 5) (i := w0.length + 0) (C := RX0) (T := TX0) (ty0 := tyX0) (ty := .array .int) (v := zP q2 0) (fs := [.ref q1, .int 0, .null, .int 0, .int 0]) (ws' := w0 ++ [(q0, .inr (0, [.ref q1, .int 0, .ref q2, .int 0, .int 0])), (q1, .inl (zeT ι .int, 50, .inl (fun _ => 0))), (q2, .inl (zeT ι .int, 24, .inl (fun _ => 0)))]) hX (D_Bodies_init (i := 9) rfl) w_Bodies_15 inX0 tyX0_ok nmX0 rfl (by decide) rfl rfl rfl rfl (by decide +kernel) rfl rfl (Nat.le_of_ble_eq_true rfl) (yat rfl) (yset rfl) ?_
  exact y_ret hX hR (D_Bodies_init (i := 10) rfl) rfl (by decide) (by decide) (h q1 q2)

set_option maxRecDepth 100000 in
set_option maxHeartbeats 4000000 in
theorem i_Cube {l : Launch} {ι : zE} {w0 : va_W} {Post : va_W → Prop} {q0 : Nat} (h : ∀ q1 : Nat, Post (w0 ++ [(q0, .inr (1, [.ref q1, .int 16])), (q1, .inl (zeT ι .int, 6, .inl (fun _ => 0)))])) : yC l ι M_Cube_init 1 1 6 [zP q0 0] (w0 ++ [(q0, .inr (1, [.null, .int 0]))]) Post := by
  refine y_enter (by decide) (Nat.le_of_ble_eq_true rfl) (fun X hXl hX hR => ?_)
  show yW ι M_Cube_init X 0 [some (zP q0 0)] [] (w0 ++ [(q0, .inr (1, [.null, .int 0]))]) 0 0
  refine y_aload_n hX (D_Cube_init (i := 0) rfl) rfl ?_
  refine y_obj hX (D_Cube_init (i := 1) rfl) lo_Cube im_Object co_Object (by decide) ?_
  refine y_aload_n hX (D_Cube_init (i := 2) rfl) rfl ?_
  refine y_bipush (v := 6) hX (D_Cube_init (i := 3) rfl) (by decide) ?_
  refine y_newa (at_ := .int) (ty := .int) (t0 := 0) (N' := 6) (a0 := (6, .inl (fun _ => 0))) (ws2 := fun q => w0 ++ [(q0, .inr (1, [.null, .int 0])), (q, .inl (zeT ι .int, 6, .inl (fun _ => 0)))]) (c2 := 1) (s2 := 6) hX (D_Cube_init (i := 4) rfl) ac_int rfl rfl y_uqI (fun _ => rfl) (by decide) (by decide) (by decide) rfl rfl (by decide) (by decide) (fun q => yasc rfl) (fun q1 => ?_)
  show yW ι M_Cube_init X 9 [some (zP q0 0)] [zP q1 0, zP q0 0] (w0 ++ [(q0, .inr (1, [.null, .int 0])), (q1, .inl (zeT ι .int, 6, .inl (fun _ => 0)))]) 1 6
  refine y_putF (ci := 1) (j := 0) (N := 2) (i := w0.length + 0) (C := RX1) (T := TX1) (ty0 := tyX1) (ty := .array .int) (v := zP q1 0) (fs := [.null, .int 0]) (ws' := w0 ++ [(q0, .inr (1, [.ref q1, .int 0])), (q1, .inl (zeT ι .int, 6, .inl (fun _ => 0)))]) hX (D_Cube_init (i := 5) rfl) w_Cube_9 inX1 tyX1_ok nmX1 rfl (by decide) rfl rfl rfl rfl (by decide +kernel) rfl rfl (Nat.le_of_ble_eq_true rfl) (yat rfl) (yset rfl) ?_
  refine y_aload_n hX (D_Cube_init (i := 6) rfl) rfl ?_
  refine y_bipush (v := 16) hX (D_Cube_init (i := 7) rfl) (by decide) ?_
  refine y_put (ci := 1) (j := 1) (i := w0.length + 0) (ty := .int) (v := zI 16) (fs := [.ref q1, .int 0]) (ws' := w0 ++ [(q0, .inr (1, [.ref q1, .int 16])), (q1, .inl (zeT ι .int, 6, .inl (fun _ => 0)))]) hX (D_Cube_init (i := 8) rfl) g_Cube_15 rfl rfl (Nat.le_of_ble_eq_true rfl) (yat rfl) (yset rfl) ?_
  exact y_ret hX hR (D_Cube_init (i := 9) rfl) rfl (by decide) (by decide) (h q1)

set_option maxRecDepth 100000 in
set_option maxHeartbeats 4000000 in
theorem i_Past {l : Launch} {ι : zE} {w0 : va_W} {Post : va_W → Prop} {q0 : Nat} (h : ∀ q1 q2 q3 : Nat, Post (w0 ++ [(q0, .inr (3, [.ref q1, .ref q2, .ref q3, .int 0, .int 0])), (q1, .inl (zeT ι .int, 40, .inl (fun _ => 0))), (q2, .inl (zeT ι .int, 40, .inl (fun _ => 0))), (q3, .inl (zeT ι .int, 40, .inl (fun _ => 0)))])) : yC l ι M_Past_init 1 3 120 [zP q0 0] (w0 ++ [(q0, .inr (3, [.null, .null, .null, .int 0, .int 0]))]) Post := by
  refine y_enter (by decide) (Nat.le_of_ble_eq_true rfl) (fun X hXl hX hR => ?_)
  show yW ι M_Past_init X 0 [some (zP q0 0)] [] (w0 ++ [(q0, .inr (3, [.null, .null, .null, .int 0, .int 0]))]) 0 0
  refine y_aload_n hX (D_Past_init (i := 0) rfl) rfl ?_
  refine y_obj hX (D_Past_init (i := 1) rfl) lo_Past im_Object co_Object (by decide) ?_
  refine y_aload_n hX (D_Past_init (i := 2) rfl) rfl ?_
  refine y_bipush (v := 40) hX (D_Past_init (i := 3) rfl) (by decide) ?_
  refine y_newa (at_ := .int) (ty := .int) (t0 := 0) (N' := 40) (a0 := (40, .inl (fun _ => 0))) (ws2 := fun q => w0 ++ [(q0, .inr (3, [.null, .null, .null, .int 0, .int 0])), (q, .inl (zeT ι .int, 40, .inl (fun _ => 0)))]) (c2 := 1) (s2 := 40) hX (D_Past_init (i := 4) rfl) ac_int rfl rfl y_uqI (fun _ => rfl) (by decide) (by decide) (by decide) rfl rfl (by decide) (by decide) (fun q => yasc rfl) (fun q1 => ?_)
  show yW ι M_Past_init X 9 [some (zP q0 0)] [zP q1 0, zP q0 0] (w0 ++ [(q0, .inr (3, [.null, .null, .null, .int 0, .int 0])), (q1, .inl (zeT ι .int, 40, .inl (fun _ => 0)))]) 1 40
  refine y_putF (ci := 3) (j := 0) (N := 5) (i := w0.length + 0) (C := RX3) (T := TX3) (ty0 := tyX3) (ty := .array .int) (v := zP q1 0) (fs := [.null, .null, .null, .int 0, .int 0]) (ws' := w0 ++ [(q0, .inr (3, [.ref q1, .null, .null, .int 0, .int 0])), (q1, .inl (zeT ι .int, 40, .inl (fun _ => 0)))]) hX (D_Past_init (i := 5) rfl) w_Past_9 inX3 tyX3_ok nmX3 rfl (by decide) rfl rfl rfl rfl (by decide +kernel) rfl rfl (Nat.le_of_ble_eq_true rfl) (yat rfl) (yset rfl) ?_
  refine y_aload_n hX (D_Past_init (i := 6) rfl) rfl ?_
  refine y_bipush (v := 40) hX (D_Past_init (i := 7) rfl) (by decide) ?_
  refine y_newa (at_ := .int) (ty := .int) (t0 := 0) (N' := 40) (a0 := (40, .inl (fun _ => 0))) (ws2 := fun q => w0 ++ [(q0, .inr (3, [.ref q1, .null, .null, .int 0, .int 0])), (q1, .inl (zeT ι .int, 40, .inl (fun _ => 0))), (q, .inl (zeT ι .int, 40, .inl (fun _ => 0)))]) (c2 := 2) (s2 := 80) hX (D_Past_init (i := 8) rfl) ac_int rfl rfl y_uqI (fun _ => rfl) (by decide) (by decide) (by decide) rfl rfl (by decide) (by decide) (fun q => yasc rfl) (fun q2 => ?_)
  show yW ι M_Past_init X 17 [some (zP q0 0)] [zP q2 0, zP q0 0] (w0 ++ [(q0, .inr (3, [.ref q1, .null, .null, .int 0, .int 0])), (q1, .inl (zeT ι .int, 40, .inl (fun _ => 0))), (q2, .inl (zeT ι .int, 40, .inl (fun _ => 0)))]) 2 80
  refine y_putF (ci := 3) (j := 1) (N := 5) (i := w0.length + 0) (C := RX3) (T := TX3) (ty0 := tyX3) (ty := .array .int) (v := zP q2 0) (fs := [.ref q1, .null, .null, .int 0, .int 0]) (ws' := w0 ++ [(q0, .inr (3, [.ref q1, .ref q2, .null, .int 0, .int 0])), (q1, .inl (zeT ι .int, 40, .inl (fun _ => 0))), (q2, .inl (zeT ι .int, 40, .inl (fun _ => 0)))]) hX (D_Past_init (i := 9) rfl) w_Past_13 inX3 tyX3_ok nmX3 rfl (by decide) rfl rfl rfl rfl (by decide +kernel) rfl rfl (Nat.le_of_ble_eq_true rfl) (yat rfl) (yset rfl) ?_
  refine y_aload_n hX (D_Past_init (i := 10) rfl) rfl ?_
  refine y_bipush (v := 40) hX (D_Past_init (i := 11) rfl) (by decide) ?_
  refine y_newa (at_ := .int) (ty := .int) (t0 := 0) (N' := 40) (a0 := (40, .inl (fun _ => 0))) (ws2 := fun q => w0 ++ [(q0, .inr (3, [.ref q1, .ref q2, .null, .int 0, .int 0])), (q1, .inl (zeT ι .int, 40, .inl (fun _ => 0))), (q2, .inl (zeT ι .int, 40, .inl (fun _ => 0))), (q, .inl (zeT ι .int, 40, .inl (fun _ => 0)))]) (c2 := 3) (s2 := 120) hX (D_Past_init (i := 12) rfl) ac_int rfl rfl y_uqI (fun _ => rfl) (by decide) (by decide) (by decide) rfl rfl (by decide) (by decide) (fun q => yasc rfl) (fun q3 => ?_)
  show yW ι M_Past_init X 25 [some (zP q0 0)] [zP q3 0, zP q0 0] (w0 ++ [(q0, .inr (3, [.ref q1, .ref q2, .null, .int 0, .int 0])), (q1, .inl (zeT ι .int, 40, .inl (fun _ => 0))), (q2, .inl (zeT ι .int, 40, .inl (fun _ => 0))), (q3, .inl (zeT ι .int, 40, .inl (fun _ => 0)))]) 3 120
  refine y_putF (ci := 3) (j := 2) (N := 5) (i := w0.length + 0) (C := RX3) (T := TX3) (ty0 := tyX3) (ty := .array .int) (v := zP q3 0) (fs := [.ref q1, .ref q2, .null, .int 0, .int 0]) (ws' := w0 ++ [(q0, .inr (3, [.ref q1, .ref q2, .ref q3, .int 0, .int 0])), (q1, .inl (zeT ι .int, 40, .inl (fun _ => 0))), (q2, .inl (zeT ι .int, 40, .inl (fun _ => 0))), (q3, .inl (zeT ι .int, 40, .inl (fun _ => 0)))]) hX (D_Past_init (i := 13) rfl) w_Past_16 inX3 tyX3_ok nmX3 rfl (by decide) rfl rfl rfl rfl (by decide +kernel) rfl rfl (Nat.le_of_ble_eq_true rfl) (yat rfl) (yset rfl) ?_
  exact y_ret hX hR (D_Past_init (i := 14) rfl) rfl (by decide) (by decide) (h q1 q2 q3)

set_option maxRecDepth 100000 in
set_option maxHeartbeats 4000000 in
theorem i_Rings {l : Launch} {ι : zE} {w0 : va_W} {Post : va_W → Prop} {q0 : Nat} (h : ∀ q1 q2 : Nat, Post (w0 ++ [(q0, .inr (4, [.ref q1, .ref q2, .int 0, .int 0])), (q1, .inl (zeT ι .int, 81, .inl (fun _ => 0))), (q2, .inl (zeT ι .int, 7, .inl (fun _ => 0)))])) : yC l ι M_Rings_init 1 2 88 [zP q0 0] (w0 ++ [(q0, .inr (4, [.null, .null, .int 0, .int 0]))]) Post := by
  refine y_enter (by decide) (Nat.le_of_ble_eq_true rfl) (fun X hXl hX hR => ?_)
  show yW ι M_Rings_init X 0 [some (zP q0 0)] [] (w0 ++ [(q0, .inr (4, [.null, .null, .int 0, .int 0]))]) 0 0
  refine y_aload_n hX (D_Rings_init (i := 0) rfl) rfl ?_
  refine y_obj hX (D_Rings_init (i := 1) rfl) lo_Rings im_Object co_Object (by decide) ?_
  refine y_aload_n hX (D_Rings_init (i := 2) rfl) rfl ?_
  refine y_bipush (v := 81) hX (D_Rings_init (i := 3) rfl) (by decide) ?_
  refine y_newa (at_ := .int) (ty := .int) (t0 := 0) (N' := 81) (a0 := (81, .inl (fun _ => 0))) (ws2 := fun q => w0 ++ [(q0, .inr (4, [.null, .null, .int 0, .int 0])), (q, .inl (zeT ι .int, 81, .inl (fun _ => 0)))]) (c2 := 1) (s2 := 81) hX (D_Rings_init (i := 4) rfl) ac_int rfl rfl y_uqI (fun _ => rfl) (by decide) (by decide) (by decide) rfl rfl (by decide) (by decide) (fun q => yasc rfl) (fun q1 => ?_)
  show yW ι M_Rings_init X 9 [some (zP q0 0)] [zP q1 0, zP q0 0] (w0 ++ [(q0, .inr (4, [.null, .null, .int 0, .int 0])), (q1, .inl (zeT ι .int, 81, .inl (fun _ => 0)))]) 1 81
  refine y_putF (ci := 4) (j := 0) (N := 4) (i := w0.length + 0) (C := RX4) (T := TX4) (ty0 := tyX4) (ty := .array .int) (v := zP q1 0) (fs := [.null, .null, .int 0, .int 0]) (ws' := w0 ++ [(q0, .inr (4, [.ref q1, .null, .int 0, .int 0])), (q1, .inl (zeT ι .int, 81, .inl (fun _ => 0)))]) hX (D_Rings_init (i := 5) rfl) w_Rings_11 inX4 tyX4_ok nmX4 rfl (by decide) rfl rfl rfl rfl (by decide +kernel) rfl rfl (Nat.le_of_ble_eq_true rfl) (yat rfl) (yset rfl) ?_
  refine y_aload_n hX (D_Rings_init (i := 6) rfl) rfl ?_
  refine y_bipush (v := 7) hX (D_Rings_init (i := 7) rfl) (by decide) ?_
  refine y_newa (at_ := .int) (ty := .int) (t0 := 0) (N' := 7) (a0 := (7, .inl (fun _ => 0))) (ws2 := fun q => w0 ++ [(q0, .inr (4, [.ref q1, .null, .int 0, .int 0])), (q1, .inl (zeT ι .int, 81, .inl (fun _ => 0))), (q, .inl (zeT ι .int, 7, .inl (fun _ => 0)))]) (c2 := 2) (s2 := 88) hX (D_Rings_init (i := 8) rfl) ac_int rfl rfl y_uqI (fun _ => rfl) (by decide) (by decide) (by decide) rfl rfl (by decide) (by decide) (fun q => yasc rfl) (fun q2 => ?_)
  show yW ι M_Rings_init X 17 [some (zP q0 0)] [zP q2 0, zP q0 0] (w0 ++ [(q0, .inr (4, [.ref q1, .null, .int 0, .int 0])), (q1, .inl (zeT ι .int, 81, .inl (fun _ => 0))), (q2, .inl (zeT ι .int, 7, .inl (fun _ => 0)))]) 2 88
  refine y_putF (ci := 4) (j := 1) (N := 4) (i := w0.length + 0) (C := RX4) (T := TX4) (ty0 := tyX4) (ty := .array .int) (v := zP q2 0) (fs := [.ref q1, .null, .int 0, .int 0]) (ws' := w0 ++ [(q0, .inr (4, [.ref q1, .ref q2, .int 0, .int 0])), (q1, .inl (zeT ι .int, 81, .inl (fun _ => 0))), (q2, .inl (zeT ι .int, 7, .inl (fun _ => 0)))]) hX (D_Rings_init (i := 9) rfl) w_Rings_15 inX4 tyX4_ok nmX4 rfl (by decide) rfl rfl rfl rfl (by decide +kernel) rfl rfl (Nat.le_of_ble_eq_true rfl) (yat rfl) (yset rfl) ?_
  exact y_ret hX hR (D_Rings_init (i := 10) rfl) rfl (by decide) (by decide) (h q1 q2)

set_option maxRecDepth 100000 in
set_option maxHeartbeats 4000000 in
theorem i_Search {l : Launch} {ι : zE} {w0 : va_W} {Post : va_W → Prop} {q0 : Nat} (h : ∀ q1 q2 q3 : Nat, Post (w0 ++ [(q0, .inr (5, [.int 0, .ref q1, .ref q2, .ref q3])), (q1, .inl (zeT ι .int, 4, .inl (fun _ => 0))), (q2, .inl (zeT ι .int, 144, .inl (fun _ => 0))), (q3, .inl (zeT ι .int, 4, .inl (fun _ => 0)))])) : yC l ι M_Search_init 1 3 152 [zP q0 0] (w0 ++ [(q0, .inr (5, [.int 0, .null, .null, .null]))]) Post := by
  refine y_enter (by decide) (Nat.le_of_ble_eq_true rfl) (fun X hXl hX hR => ?_)
  show yW ι M_Search_init X 0 [some (zP q0 0)] [] (w0 ++ [(q0, .inr (5, [.int 0, .null, .null, .null]))]) 0 0
  refine y_aload_n hX (D_Search_init (i := 0) rfl) rfl ?_
  refine y_obj hX (D_Search_init (i := 1) rfl) lo_Search im_Object co_Object (by decide) ?_
  refine y_aload_n hX (D_Search_init (i := 2) rfl) rfl ?_
  refine y_iconst (v := 4) hX (D_Search_init (i := 3) rfl) (by decide) ?_
  refine y_newa (at_ := .int) (ty := .int) (t0 := 0) (N' := 4) (a0 := (4, .inl (fun _ => 0))) (ws2 := fun q => w0 ++ [(q0, .inr (5, [.int 0, .null, .null, .null])), (q, .inl (zeT ι .int, 4, .inl (fun _ => 0)))]) (c2 := 1) (s2 := 4) hX (D_Search_init (i := 4) rfl) ac_int rfl rfl y_uqI (fun _ => rfl) (by decide) (by decide) (by decide) rfl rfl (by decide) (by decide) (fun q => yasc rfl) (fun q1 => ?_)
  show yW ι M_Search_init X 8 [some (zP q0 0)] [zP q1 0, zP q0 0] (w0 ++ [(q0, .inr (5, [.int 0, .null, .null, .null])), (q1, .inl (zeT ι .int, 4, .inl (fun _ => 0)))]) 1 4
  refine y_putF (ci := 5) (j := 1) (N := 4) (i := w0.length + 0) (C := RX5) (T := TX5) (ty0 := tyX5) (ty := .array .int) (v := zP q1 0) (fs := [.int 0, .null, .null, .null]) (ws' := w0 ++ [(q0, .inr (5, [.int 0, .ref q1, .null, .null])), (q1, .inl (zeT ι .int, 4, .inl (fun _ => 0)))]) hX (D_Search_init (i := 5) rfl) w_Search_9 inX5 tyX5_ok nmX5 rfl (by decide) rfl rfl rfl rfl (by decide +kernel) rfl rfl (Nat.le_of_ble_eq_true rfl) (yat rfl) (yset rfl) ?_
  refine y_aload_n hX (D_Search_init (i := 6) rfl) rfl ?_
  refine y_sipush (v := 144) hX (D_Search_init (i := 7) rfl) (by decide) ?_
  refine y_newa (at_ := .int) (ty := .int) (t0 := 0) (N' := 144) (a0 := (144, .inl (fun _ => 0))) (ws2 := fun q => w0 ++ [(q0, .inr (5, [.int 0, .ref q1, .null, .null])), (q1, .inl (zeT ι .int, 4, .inl (fun _ => 0))), (q, .inl (zeT ι .int, 144, .inl (fun _ => 0)))]) (c2 := 2) (s2 := 148) hX (D_Search_init (i := 8) rfl) ac_int rfl rfl y_uqI (fun _ => rfl) (by decide) (by decide) (by decide) rfl rfl (by decide) (by decide) (fun q => yasc rfl) (fun q2 => ?_)
  show yW ι M_Search_init X 17 [some (zP q0 0)] [zP q2 0, zP q0 0] (w0 ++ [(q0, .inr (5, [.int 0, .ref q1, .null, .null])), (q1, .inl (zeT ι .int, 4, .inl (fun _ => 0))), (q2, .inl (zeT ι .int, 144, .inl (fun _ => 0)))]) 2 148
  refine y_putF (ci := 5) (j := 2) (N := 4) (i := w0.length + 0) (C := RX5) (T := TX5) (ty0 := tyX5) (ty := .array .int) (v := zP q2 0) (fs := [.int 0, .ref q1, .null, .null]) (ws' := w0 ++ [(q0, .inr (5, [.int 0, .ref q1, .ref q2, .null])), (q1, .inl (zeT ι .int, 4, .inl (fun _ => 0))), (q2, .inl (zeT ι .int, 144, .inl (fun _ => 0)))]) hX (D_Search_init (i := 9) rfl) w_Search_15 inX5 tyX5_ok nmX5 rfl (by decide) rfl rfl rfl rfl (by decide +kernel) rfl rfl (Nat.le_of_ble_eq_true rfl) (yat rfl) (yset rfl) ?_
  refine y_aload_n hX (D_Search_init (i := 10) rfl) rfl ?_
  refine y_iconst (v := 4) hX (D_Search_init (i := 11) rfl) (by decide) ?_
  refine y_newa (at_ := .int) (ty := .int) (t0 := 0) (N' := 4) (a0 := (4, .inl (fun _ => 0))) (ws2 := fun q => w0 ++ [(q0, .inr (5, [.int 0, .ref q1, .ref q2, .null])), (q1, .inl (zeT ι .int, 4, .inl (fun _ => 0))), (q2, .inl (zeT ι .int, 144, .inl (fun _ => 0))), (q, .inl (zeT ι .int, 4, .inl (fun _ => 0)))]) (c2 := 3) (s2 := 152) hX (D_Search_init (i := 12) rfl) ac_int rfl rfl y_uqI (fun _ => rfl) (by decide) (by decide) (by decide) rfl rfl (by decide) (by decide) (fun q => yasc rfl) (fun q3 => ?_)
  show yW ι M_Search_init X 24 [some (zP q0 0)] [zP q3 0, zP q0 0] (w0 ++ [(q0, .inr (5, [.int 0, .ref q1, .ref q2, .null])), (q1, .inl (zeT ι .int, 4, .inl (fun _ => 0))), (q2, .inl (zeT ι .int, 144, .inl (fun _ => 0))), (q3, .inl (zeT ι .int, 4, .inl (fun _ => 0)))]) 3 152
  refine y_putF (ci := 5) (j := 3) (N := 4) (i := w0.length + 0) (C := RX5) (T := TX5) (ty0 := tyX5) (ty := .array .int) (v := zP q3 0) (fs := [.int 0, .ref q1, .ref q2, .null]) (ws' := w0 ++ [(q0, .inr (5, [.int 0, .ref q1, .ref q2, .ref q3])), (q1, .inl (zeT ι .int, 4, .inl (fun _ => 0))), (q2, .inl (zeT ι .int, 144, .inl (fun _ => 0))), (q3, .inl (zeT ι .int, 4, .inl (fun _ => 0)))]) hX (D_Search_init (i := 13) rfl) w_Search_18 inX5 tyX5_ok nmX5 rfl (by decide) rfl rfl rfl rfl (by decide +kernel) rfl rfl (Nat.le_of_ble_eq_true rfl) (yat rfl) (yset rfl) ?_
  exact y_ret hX hR (D_Search_init (i := 14) rfl) rfl (by decide) (by decide) (h q1 q2 q3)

set_option maxRecDepth 100000 in
set_option maxHeartbeats 4000000 in
theorem i_Shelf {l : Launch} {ι : zE} {w0 : va_W} {Post : va_W → Prop} {q0 : Nat} (h : ∀ q1 : Nat, Post (w0 ++ [(q0, .inr (6, [.int 0, .int 0, .int 0, .int 0, .ref q1])), (q1, .inl (zeT ι .long, 60, .inr (.inl (fun _ => 0))))])) : yC l ι M_Shelf_init 1 1 60 [zP q0 0] (w0 ++ [(q0, .inr (6, [.int 0, .int 0, .int 0, .int 0, .null]))]) Post := by
  refine y_enter (by decide) (Nat.le_of_ble_eq_true rfl) (fun X hXl hX hR => ?_)
  show yW ι M_Shelf_init X 0 [some (zP q0 0)] [] (w0 ++ [(q0, .inr (6, [.int 0, .int 0, .int 0, .int 0, .null]))]) 0 0
  refine y_aload_n hX (D_Shelf_init (i := 0) rfl) rfl ?_
  refine y_obj hX (D_Shelf_init (i := 1) rfl) lo_Shelf im_Object co_Object (by decide) ?_
  refine y_aload_n hX (D_Shelf_init (i := 2) rfl) rfl ?_
  refine y_iconst (v := 0) hX (D_Shelf_init (i := 3) rfl) (by decide) ?_
  refine y_put (ci := 6) (j := 0) (i := w0.length + 0) (ty := .int) (v := zI 0) (fs := [.int 0, .int 0, .int 0, .int 0, .null]) (ws' := w0 ++ [(q0, .inr (6, [.int 0, .int 0, .int 0, .int 0, .null]))]) hX (D_Shelf_init (i := 4) rfl) g_Shelf_11 rfl rfl (Nat.le_of_ble_eq_true rfl) (yat rfl) (yset rfl) ?_
  refine y_aload_n hX (D_Shelf_init (i := 5) rfl) rfl ?_
  refine y_bipush (v := 60) hX (D_Shelf_init (i := 6) rfl) (by decide) ?_
  refine y_newa (at_ := .long) (ty := .long) (t0 := 4) (N' := 60) (a0 := (60, .inr (.inl (fun _ => 0)))) (ws2 := fun q => w0 ++ [(q0, .inr (6, [.int 0, .int 0, .int 0, .int 0, .null])), (q, .inl (zeT ι .long, 60, .inr (.inl (fun _ => 0))))]) (c2 := 1) (s2 := 60) hX (D_Shelf_init (i := 7) rfl) ac_long rfl rfl y_uqJ (fun _ => rfl) (by decide) (by decide) (by decide) rfl rfl (by decide) (by decide) (fun q => yasc rfl) (fun q1 => ?_)
  show yW ι M_Shelf_init X 14 [some (zP q0 0)] [zP q1 0, zP q0 0] (w0 ++ [(q0, .inr (6, [.int 0, .int 0, .int 0, .int 0, .null])), (q1, .inl (zeT ι .long, 60, .inr (.inl (fun _ => 0))))]) 1 60
  refine y_putF (ci := 6) (j := 4) (N := 5) (i := w0.length + 0) (C := RX6) (T := TX6) (ty0 := tyX6) (ty := .array .long) (v := zP q1 0) (fs := [.int 0, .int 0, .int 0, .int 0, .null]) (ws' := w0 ++ [(q0, .inr (6, [.int 0, .int 0, .int 0, .int 0, .ref q1])), (q1, .inl (zeT ι .long, 60, .inr (.inl (fun _ => 0))))]) hX (D_Shelf_init (i := 8) rfl) w_Shelf_15 inX6 tyX6_ok nmX6 rfl (by decide) rfl rfl rfl rfl (by decide +kernel) rfl rfl (Nat.le_of_ble_eq_true rfl) (yat rfl) (yset rfl) ?_
  exact y_ret hX hR (D_Shelf_init (i := 9) rfl) rfl (by decide) (by decide) (h q1)
