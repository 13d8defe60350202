set_option maxRecDepth 100000 in
set_option maxHeartbeats 4000000 in
theorem c_X3_init (l : Launch) (G : Gt) (o f g v : Nat) (Y : va_W) (hg : g < 65536) : Cv l G yX3_init (ww yX3_init cX3_init 4 (none : Option ClassFile.FieldType)) (RM 1 0 0) [.ref o, .int (nI f), .int (nI g), .int (nI v)] ([(o, .inr (6, [.int (nI 0), .int (nI 0), .int (nI 0), .int (nI 0), .int (nI 0)]))] ++ Y) (fun w2 => w2 = ([(o, .inr (6, [.int (nI f), .int (nI g), .int (nI v), .int (nI 111), .int (zI (-1))]))] ++ Y)) := by
  refine Cv.introI (by decide) (Nat.le_of_ble_eq_true rfl) ?_
  intro p e s m args below meth c A X hin hW ls hl
  have hinit : meth.name = "<init>" := hin
  have hx := X.exec
  have hb := X.bytes
  have hl : lv_has ls 4 [(0, .ref o), (1, .int (nI f)), (2, .int (nI g)), (3, .int (nI v))] := hl
  refine lv_aload_n hx hb dX3_init_0 rfl (lv_at hl 0 rfl) ?_
  refine x_obj X wq_513 hl.1 dX3_init_1 (Nat.le_of_ble_eq_true rfl) (Nat.le_of_ble_eq_true rfl) (Nat.le_of_ble_eq_true rfl) ?_
  refine lv_aload_n hx hb dX3_init_4 rfl (lv_at hl 0 rfl) ?_
  refine lv_bipush (v := nI 111) hx hb dX3_init_5 (by decide) ?_
  refine x_put X hW 0 rfl 3 (w2 := ([(o, .inr (6, [.int (nI 0), .int (nI 0), .int (nI 0), .int (nI 111), .int (nI 0)]))] ++ Y)) rfl rfl iwX3 tyX3_ok nmX3 (by decide) wq_520 rfl rfl (pk_charN (by omega)).1 (pk_charN (by omega)).2 (Nat.le_of_ble_eq_true rfl) dX3_init_7 (fun H locs hW => ?_)
  refine lv_aload_n hx hb dX3_init_10 rfl (lv_at hl 0 rfl) ?_
  refine lv_iconst (v := zI (-1)) hx hb dX3_init_11 (by decide) ?_
  refine x_put X hW 0 rfl 4 (w2 := ([(o, .inr (6, [.int (nI 0), .int (nI 0), .int (nI 0), .int (nI 111), .int (zI (-1))]))] ++ Y)) rfl rfl iwX3 tyX3_ok nmX3 (by decide) wq_522 rfl rfl rfl rfl (Nat.le_of_ble_eq_true rfl) dX3_init_12 (fun H locs hW => ?_)
  refine lv_aload_n hx hb dX3_init_15 rfl (lv_at hl 0 rfl) ?_
  refine lv_iload_n hx hb dX3_init_16 rfl (lv_at hl 1 rfl) ?_
  refine x_putF X hW hinit 0 rfl 0 (w2 := ([(o, .inr (6, [.int (nI f), .int (nI 0), .int (nI 0), .int (nI 111), .int (zI (-1))]))] ++ Y)) rfl rfl iwX3 tyX3_ok nmX3 (by decide) wq_514 rfl (by decide) rfl rfl rfl (Nat.le_of_ble_eq_true rfl) dX3_init_17 (fun H locs hW => ?_)
  refine lv_aload_n hx hb dX3_init_20 rfl (lv_at hl 0 rfl) ?_
  refine lv_iload_n hx hb dX3_init_21 rfl (lv_at hl 2 rfl) ?_
  refine x_putF X hW hinit 0 rfl 1 (w2 := ([(o, .inr (6, [.int (nI f), .int (nI g), .int (nI 0), .int (nI 111), .int (zI (-1))]))] ++ Y)) rfl rfl iwX3 tyX3_ok nmX3 (by decide) wq_516 rfl (by decide) rfl (pk_charN (by omega)).1 (pk_charN (by omega)).2 (Nat.le_of_ble_eq_true rfl) dX3_init_22 (fun H locs hW => ?_)
  refine lv_aload_n hx hb dX3_init_25 rfl (lv_at hl 0 rfl) ?_
  refine lv_iload_n hx hb dX3_init_26 rfl (lv_at hl 3 rfl) ?_
  refine x_putF X hW hinit 0 rfl 2 (w2 := ([(o, .inr (6, [.int (nI f), .int (nI g), .int (nI v), .int (nI 111), .int (zI (-1))]))] ++ Y)) rfl rfl iwX3 tyX3_ok nmX3 (by decide) wq_518 rfl (by decide) rfl rfl rfl (Nat.le_of_ble_eq_true rfl) dX3_init_27 (fun H locs hW => ?_)
  exact ret_v X hW (rfl) rfl (by decide) (by decide) dX3_init_30

set_option maxRecDepth 100000 in
set_option maxHeartbeats 4000000 in
theorem c_X2_init (l : Launch) (G : Gt) (o f g : Nat) (Y : va_W) (hg : g < 65536) : Cv l G yX2_init (ww yX2_init cX2_init 3 (none : Option ClassFile.FieldType)) (RM 1 0 0) [.ref o, .int (nI f), .int (nI g)] ([(o, .inr (5, [.int (nI 0), .int (nI 0), .int (nI 0)]))] ++ Y) (fun w2 => w2 = ([(o, .inr (5, [.int (nI f), .int (nI g), .int (zI (-1))]))] ++ Y)) := by
  refine Cv.introI (by decide) (Nat.le_of_ble_eq_true rfl) ?_
  intro p e s m args below meth c A X hin hW ls hl
  have hinit : meth.name = "<init>" := hin
  have hx := X.exec
  have hb := X.bytes
  have hl : lv_has ls 3 [(0, .ref o), (1, .int (nI f)), (2, .int (nI g))] := hl
  refine lv_aload_n hx hb dX2_init_0 rfl (lv_at hl 0 rfl) ?_
  refine x_obj X wq_742 hl.1 dX2_init_1 (Nat.le_of_ble_eq_true rfl) (Nat.le_of_ble_eq_true rfl) (Nat.le_of_ble_eq_true rfl) ?_
  refine lv_aload_n hx hb dX2_init_4 rfl (lv_at hl 0 rfl) ?_
  refine lv_iconst (v := zI (-1)) hx hb dX2_init_5 (by decide) ?_
  refine x_put X hW 0 rfl 2 (w2 := ([(o, .inr (5, [.int (nI 0), .int (nI 0), .int (zI (-1))]))] ++ Y)) rfl rfl iwX2 tyX2_ok nmX2 (by decide) wq_747 rfl rfl rfl rfl (Nat.le_of_ble_eq_true rfl) dX2_init_6 (fun H locs hW => ?_)
  refine lv_aload_n hx hb dX2_init_9 rfl (lv_at hl 0 rfl) ?_
  refine lv_iload_n hx hb dX2_init_10 rfl (lv_at hl 1 rfl) ?_
  refine x_putF X hW hinit 0 rfl 0 (w2 := ([(o, .inr (5, [.int (nI f), .int (nI 0), .int (zI (-1))]))] ++ Y)) rfl rfl iwX2 tyX2_ok nmX2 (by decide) wq_743 rfl (by decide) rfl rfl rfl (Nat.le_of_ble_eq_true rfl) dX2_init_11 (fun H locs hW => ?_)
  refine lv_aload_n hx hb dX2_init_14 rfl (lv_at hl 0 rfl) ?_
  refine lv_iload_n hx hb dX2_init_15 rfl (lv_at hl 2 rfl) ?_
  refine x_putF X hW hinit 0 rfl 1 (w2 := ([(o, .inr (5, [.int (nI f), .int (nI g), .int (zI (-1))]))] ++ Y)) rfl rfl iwX2 tyX2_ok nmX2 (by decide) wq_745 rfl (by decide) rfl (pk_charN (by omega)).1 (pk_charN (by omega)).2 (Nat.le_of_ble_eq_true rfl) dX2_init_16 (fun H locs hW => ?_)
  exact ret_v X hW (rfl) rfl (by decide) (by decide) dX2_init_19

set_option maxRecDepth 100000 in
set_option maxHeartbeats 4000000 in
theorem c_X4_init (l : Launch) (G : Gt) (o f g v : Nat) (Y : va_W)  : Cv l G yX4_init (ww yX4_init cX4_init 4 (none : Option ClassFile.FieldType)) (RM 1 0 0) [.ref o, .int (nI f), .int (nI g), .int (nI v)] ([(o, .inr (7, [.int (nI 0), .int (nI 0), .int (nI 0)]))] ++ Y) (fun w2 => w2 = ([(o, .inr (7, [.int (nI f), .int (nI g), .int (nI v)]))] ++ Y)) := by
  refine Cv.introI (by decide) (Nat.le_of_ble_eq_true rfl) ?_
  intro p e s m args below meth c A X hin hW ls hl
  have hinit : meth.name = "<init>" := hin
  have hx := X.exec
  have hb := X.bytes
  have hl : lv_has ls 4 [(0, .ref o), (1, .int (nI f)), (2, .int (nI g)), (3, .int (nI v))] := hl
  refine lv_aload_n hx hb dX4_init_0 rfl (lv_at hl 0 rfl) ?_
  refine x_obj X wq_638 hl.1 dX4_init_1 (Nat.le_of_ble_eq_true rfl) (Nat.le_of_ble_eq_true rfl) (Nat.le_of_ble_eq_true rfl) ?_
  refine lv_aload_n hx hb dX4_init_4 rfl (lv_at hl 0 rfl) ?_
  refine lv_iload_n hx hb dX4_init_5 rfl (lv_at hl 1 rfl) ?_
  refine x_putF X hW hinit 0 rfl 0 (w2 := ([(o, .inr (7, [.int (nI f), .int (nI 0), .int (nI 0)]))] ++ Y)) rfl rfl iwX4 tyX4_ok nmX4 (by decide) wq_639 rfl (by decide) rfl rfl rfl (Nat.le_of_ble_eq_true rfl) dX4_init_6 (fun H locs hW => ?_)
  refine lv_aload_n hx hb dX4_init_9 rfl (lv_at hl 0 rfl) ?_
  refine lv_iload_n hx hb dX4_init_10 rfl (lv_at hl 2 rfl) ?_
  refine x_putF X hW hinit 0 rfl 1 (w2 := ([(o, .inr (7, [.int (nI f), .int (nI g), .int (nI 0)]))] ++ Y)) rfl rfl iwX4 tyX4_ok nmX4 (by decide) wq_641 rfl (by decide) rfl rfl rfl (Nat.le_of_ble_eq_true rfl) dX4_init_11 (fun H locs hW => ?_)
  refine lv_aload_n hx hb dX4_init_14 rfl (lv_at hl 0 rfl) ?_
  refine lv_iload_n hx hb dX4_init_15 rfl (lv_at hl 3 rfl) ?_
  refine x_putF X hW hinit 0 rfl 2 (w2 := ([(o, .inr (7, [.int (nI f), .int (nI g), .int (nI v)]))] ++ Y)) rfl rfl iwX4 tyX4_ok nmX4 (by decide) wq_643 rfl (by decide) rfl rfl rfl (Nat.le_of_ble_eq_true rfl) dX4_init_16 (fun H locs hW => ?_)
  exact ret_v X hW (rfl) rfl (by decide) (by decide) dX4_init_19

set_option maxRecDepth 100000 in
set_option maxHeartbeats 4000000 in
theorem c_X0_init (l : Launch) (G : Gt) (o d v : Nat) (Y : va_W)  : Cv l G yX0_init (ww yX0_init cX0_init 3 (none : Option ClassFile.FieldType)) (RM 4 1 3) [.ref o, .int (nI d), .int (nI v)] ([(o, .inr (3, [.int (nI 0), .null, .int (nI 0), .int (nI 0), .int (nI 0), .int (nI 0), .int (zI 0)]))] ++ Y) (fun w2 => ∃ q, w2 = ([(q, .inr (2, [.int (nI 0), .ref (G.2.2 0), .int (nI 0)]))] ++ ([(o, .inr (3, [.int (nI d), .ref q, .int (nI v), .int (nI 111), .int (nI 109), .int (zI (-1)), .int (zI 0)]))] ++ Y))) := by
  refine Cv.introI (by decide) (Nat.le_of_ble_eq_true rfl) ?_
  intro p e s m args below meth c A X hin hW ls hl
  have hinit : meth.name = "<init>" := hin
  have hx := X.exec
  have hb := X.bytes
  have hl : lv_has ls 3 [(0, .ref o), (1, .int (nI d)), (2, .int (nI v))] := hl
  refine lv_aload_n hx hb dX0_init_0 rfl (lv_at hl 0 rfl) ?_
  refine x_obj X wq_689 hl.1 dX0_init_1 (Nat.le_of_ble_eq_true rfl) (Nat.le_of_ble_eq_true rfl) (Nat.le_of_ble_eq_true rfl) ?_
  refine lv_aload_n hx hb dX0_init_4 rfl (lv_at hl 0 rfl) ?_
  refine x_newO X hW (ci := 2) (fs := [.int (nI 0), .null, .int (nI 0)]) (ty0 := tyJx4a65c) rfl iwJx4a65c tyJx4a65c_ok wq_690 wq_99 wq_64 (fun j hj => by rcases (show j = 0 ∨ j = 1 ∨ j = 2 by omega) with rfl | rfl | rfl <;> rfl) (Nat.le_of_ble_eq_true rfl) (Nat.le_of_ble_eq_true rfl) dX0_init_5 (fun q H hW => ?_)
  have hW : Wd G A s ([(q, .inr (2, [.int (nI 0), .null, .int (nI 0)]))] ++ ([(o, .inr (3, [.int (nI 0), .null, .int (nI 0), .int (nI 0), .int (nI 0), .int (nI 0), .int (zI 0)]))] ++ Y)) _ _ := hW
  refine lv_dup hx hb dX0_init_8 rfl ?_
  refine go_v X hW (run_I X hW (As := []) (rest := [.ref q, .ref o]) (c_Jx4a65c_init_da8c8 l G q _ _) wq_691 wq_101 wq_64 wq_102 rfl hyJx4a65c_init_da8c8 rfl rfl hl.1 (Nat.le_of_ble_eq_true rfl) ⟨Nat.le_of_ble_eq_true rfl, Nat.le_of_ble_eq_true rfl⟩ ⟨by decide, by decide⟩ dX0_init_9) (fun w2 H locs hp hW => ?_)
  subst hp
  have hW : Wd G A s ([(q, .inr (2, [.int (nI 0), .ref (G.2.2 0), .int (nI 0)]))] ++ ([(o, .inr (3, [.int (nI 0), .null, .int (nI 0), .int (nI 0), .int (nI 0), .int (nI 0), .int (zI 0)]))] ++ Y)) _ _ := hW
  refine x_putF X hW hinit 1 rfl 1 (w2 := ([(q, .inr (2, [.int (nI 0), .ref (G.2.2 0), .int (nI 0)]))] ++ ([(o, .inr (3, [.int (nI 0), .ref q, .int (nI 0), .int (nI 0), .int (nI 0), .int (nI 0), .int (zI 0)]))] ++ Y))) rfl rfl iwX0 tyX0_ok nmX0 (by decide) wq_694 rfl (by decide) rfl rfl rfl (Nat.le_of_ble_eq_true rfl) dX0_init_12 (fun H locs hW => ?_)
  refine lv_aload_n hx hb dX0_init_15 rfl (lv_at hl 0 rfl) ?_
  refine lv_bipush (v := nI 111) hx hb dX0_init_16 (by decide) ?_
  refine x_put X hW 1 rfl 3 (w2 := ([(q, .inr (2, [.int (nI 0), .ref (G.2.2 0), .int (nI 0)]))] ++ ([(o, .inr (3, [.int (nI 0), .ref q, .int (nI 0), .int (nI 111), .int (nI 0), .int (nI 0), .int (zI 0)]))] ++ Y))) rfl rfl iwX0 tyX0_ok nmX0 (by decide) wq_698 rfl rfl (pk_charN (by omega)).1 (pk_charN (by omega)).2 (Nat.le_of_ble_eq_true rfl) dX0_init_18 (fun H locs hW => ?_)
  refine lv_aload_n hx hb dX0_init_21 rfl (lv_at hl 0 rfl) ?_
  refine lv_bipush (v := nI 109) hx hb dX0_init_22 (by decide) ?_
  refine x_put X hW 1 rfl 4 (w2 := ([(q, .inr (2, [.int (nI 0), .ref (G.2.2 0), .int (nI 0)]))] ++ ([(o, .inr (3, [.int (nI 0), .ref q, .int (nI 0), .int (nI 111), .int (nI 109), .int (nI 0), .int (zI 0)]))] ++ Y))) rfl rfl iwX0 tyX0_ok nmX0 (by decide) wq_700 rfl rfl (pk_charN (by omega)).1 (pk_charN (by omega)).2 (Nat.le_of_ble_eq_true rfl) dX0_init_24 (fun H locs hW => ?_)
  refine lv_aload_n hx hb dX0_init_27 rfl (lv_at hl 0 rfl) ?_
  refine lv_iconst (v := zI (-1)) hx hb dX0_init_28 (by decide) ?_
  refine x_put X hW 1 rfl 5 (w2 := ([(q, .inr (2, [.int (nI 0), .ref (G.2.2 0), .int (nI 0)]))] ++ ([(o, .inr (3, [.int (nI 0), .ref q, .int (nI 0), .int (nI 111), .int (nI 109), .int (zI (-1)), .int (zI 0)]))] ++ Y))) rfl rfl iwX0 tyX0_ok nmX0 (by decide) wq_702 rfl rfl rfl rfl (Nat.le_of_ble_eq_true rfl) dX0_init_29 (fun H locs hW => ?_)
  refine lv_aload_n hx hb dX0_init_32 rfl (lv_at hl 0 rfl) ?_
  refine lv_iload_n hx hb dX0_init_33 rfl (lv_at hl 1 rfl) ?_
  refine x_putF X hW hinit 1 rfl 0 (w2 := ([(q, .inr (2, [.int (nI 0), .ref (G.2.2 0), .int (nI 0)]))] ++ ([(o, .inr (3, [.int (nI d), .ref q, .int (nI 0), .int (nI 111), .int (nI 109), .int (zI (-1)), .int (zI 0)]))] ++ Y))) rfl rfl iwX0 tyX0_ok nmX0 (by decide) wq_692 rfl (by decide) rfl rfl rfl (Nat.le_of_ble_eq_true rfl) dX0_init_34 (fun H locs hW => ?_)
  refine lv_aload_n hx hb dX0_init_37 rfl (lv_at hl 0 rfl) ?_
  refine lv_iload_n hx hb dX0_init_38 rfl (lv_at hl 2 rfl) ?_
  refine x_put X hW 1 rfl 2 (w2 := ([(q, .inr (2, [.int (nI 0), .ref (G.2.2 0), .int (nI 0)]))] ++ ([(o, .inr (3, [.int (nI d), .ref q, .int (nI v), .int (nI 111), .int (nI 109), .int (zI (-1)), .int (zI 0)]))] ++ Y))) rfl rfl iwX0 tyX0_ok nmX0 (by decide) wq_696 rfl rfl rfl rfl (Nat.le_of_ble_eq_true rfl) dX0_init_39 (fun H locs hW => ?_)
  exact ret_v X hW (⟨q, rfl⟩) rfl (by decide) (by decide) dX0_init_42

set_option maxRecDepth 100000 in
set_option maxHeartbeats 4000000 in
theorem c_X6_init (l : Launch) (G : Gt) (o : Nat) (Y : va_W)  : Cv l G yX6_init (ww yX6_init cX6_init 1 (none : Option ClassFile.FieldType)) (RM 4 19 1700) [.ref o] ([(o, .inr (9, [.null, .null, .null, .null, .null, .int (nI 0), .int (nI 0), .int (nI 0), .int (nI 0), .long (lZ 0)]))] ++ Y) (fun w2 => ∃ (q1 q2 q3 : Nat) (f h : Nat → Nat), w2 = (sW G h 0 0 (fun _ => 0) (fun _ => 0) (fun _ => 0) ++ (fW G f 0 0 0 (fun _ => 0) (fun _ => 0) (fun _ => 0) (fun _ => 0) (fun _ => 0) (fun _ => 0) (fun _ => 0) (fun _ => 0) (fun _ => 0) (fun _ => 0) (fun _ => 0) ++ ([(q3, .inr (2, [.int (nI 0), .ref (G.2.2 0), .int (nI 0)]))] ++ ([(q2, .inr (2, [.int (nI 0), .ref (G.2.2 0), .int (nI 0)]))] ++ ([(q1, .inr (2, [.int (nI 0), .ref (G.2.2 0), .int (nI 0)]))] ++ ([(o, .inr (9, [.ref q1, .ref q2, .ref q3, .ref (f 0), .ref (h 0), .int (nI 0), .int (nI 0), .int (nI 0), .int (nI 0), .long (lZ 0)]))] ++ Y))))))) := by
  refine Cv.introI (by decide) (Nat.le_of_ble_eq_true rfl) ?_
  intro p e s m args below meth c A X hin hW ls hl
  have hinit : meth.name = "<init>" := hin
  have hx := X.exec
  have hb := X.bytes
  have hl : lv_has ls 1 [(0, .ref o)] := hl
  refine lv_aload_n hx hb dX6_init_0 rfl (lv_at hl 0 rfl) ?_
  refine x_obj X wq_95 hl.1 dX6_init_1 (Nat.le_of_ble_eq_true rfl) (Nat.le_of_ble_eq_true rfl) (Nat.le_of_ble_eq_true rfl) ?_
  refine lv_aload_n hx hb dX6_init_4 rfl (lv_at hl 0 rfl) ?_
  refine x_newO X hW (ci := 2) (fs := [.int (nI 0), .null, .int (nI 0)]) (ty0 := tyJx4a65c) rfl iwJx4a65c tyJx4a65c_ok wq_98 wq_99 wq_64 (fun j hj => by rcases (show j = 0 ∨ j = 1 ∨ j = 2 by omega) with rfl | rfl | rfl <;> rfl) (Nat.le_of_ble_eq_true rfl) (Nat.le_of_ble_eq_true rfl) dX6_init_5 (fun q1 H hW => ?_)
  have hW : Wd G A s ([(q1, .inr (2, [.int (nI 0), .null, .int (nI 0)]))] ++ ([(o, .inr (9, [.null, .null, .null, .null, .null, .int (nI 0), .int (nI 0), .int (nI 0), .int (nI 0), .long (lZ 0)]))] ++ Y)) _ _ := hW
  refine lv_dup hx hb dX6_init_8 rfl ?_
  refine go_v X hW (run_I X hW (As := []) (rest := [.ref q1, .ref o]) (c_Jx4a65c_init_da8c8 l G q1 _ _) wq_100 wq_101 wq_64 wq_102 rfl hyJx4a65c_init_da8c8 rfl rfl hl.1 (Nat.le_of_ble_eq_true rfl) ⟨Nat.le_of_ble_eq_true rfl, Nat.le_of_ble_eq_true rfl⟩ ⟨by decide, by decide⟩ dX6_init_9) (fun w2 H locs hp hW => ?_)
  subst hp
  have hW : Wd G A s ([(q1, .inr (2, [.int (nI 0), .ref (G.2.2 0), .int (nI 0)]))] ++ ([(o, .inr (9, [.null, .null, .null, .null, .null, .int (nI 0), .int (nI 0), .int (nI 0), .int (nI 0), .long (lZ 0)]))] ++ Y)) _ _ := hW
  refine x_putF X hW hinit 1 rfl 0 (w2 := ([(q1, .inr (2, [.int (nI 0), .ref (G.2.2 0), .int (nI 0)]))] ++ ([(o, .inr (9, [.ref q1, .null, .null, .null, .null, .int (nI 0), .int (nI 0), .int (nI 0), .int (nI 0), .long (lZ 0)]))] ++ Y))) rfl rfl iwX6 tyX6_ok nmX6 (by decide) wq_210 rfl (by decide) rfl rfl rfl (Nat.le_of_ble_eq_true rfl) dX6_init_12 (fun H locs hW => ?_)
  refine lv_aload_n hx hb dX6_init_15 rfl (lv_at hl 0 rfl) ?_
  refine x_newO X hW (ci := 2) (fs := [.int (nI 0), .null, .int (nI 0)]) (ty0 := tyJx4a65c) rfl iwJx4a65c tyJx4a65c_ok wq_98 wq_99 wq_64 (fun j hj => by rcases (show j = 0 ∨ j = 1 ∨ j = 2 by omega) with rfl | rfl | rfl <;> rfl) (Nat.le_of_ble_eq_true rfl) (Nat.le_of_ble_eq_true rfl) dX6_init_16 (fun q2 H hW => ?_)
  have hW : Wd G A s ([(q2, .inr (2, [.int (nI 0), .null, .int (nI 0)]))] ++ ([(q1, .inr (2, [.int (nI 0), .ref (G.2.2 0), .int (nI 0)]))] ++ ([(o, .inr (9, [.ref q1, .null, .null, .null, .null, .int (nI 0), .int (nI 0), .int (nI 0), .int (nI 0), .long (lZ 0)]))] ++ Y))) _ _ := hW
  refine lv_dup hx hb dX6_init_19 rfl ?_
  refine go_v X hW (run_I X hW (As := []) (rest := [.ref q2, .ref o]) (c_Jx4a65c_init_da8c8 l G q2 _ _) wq_100 wq_101 wq_64 wq_102 rfl hyJx4a65c_init_da8c8 rfl rfl hl.1 (Nat.le_of_ble_eq_true rfl) ⟨Nat.le_of_ble_eq_true rfl, Nat.le_of_ble_eq_true rfl⟩ ⟨by decide, by decide⟩ dX6_init_20) (fun w2 H locs hp hW => ?_)
  subst hp
  have hW : Wd G A s ([(q2, .inr (2, [.int (nI 0), .ref (G.2.2 0), .int (nI 0)]))] ++ ([(q1, .inr (2, [.int (nI 0), .ref (G.2.2 0), .int (nI 0)]))] ++ ([(o, .inr (9, [.ref q1, .null, .null, .null, .null, .int (nI 0), .int (nI 0), .int (nI 0), .int (nI 0), .long (lZ 0)]))] ++ Y))) _ _ := hW
  refine x_putF X hW hinit 2 rfl 1 (w2 := ([(q2, .inr (2, [.int (nI 0), .ref (G.2.2 0), .int (nI 0)]))] ++ ([(q1, .inr (2, [.int (nI 0), .ref (G.2.2 0), .int (nI 0)]))] ++ ([(o, .inr (9, [.ref q1, .ref q2, .null, .null, .null, .int (nI 0), .int (nI 0), .int (nI 0), .int (nI 0), .long (lZ 0)]))] ++ Y)))) rfl rfl iwX6 tyX6_ok nmX6 (by decide) wq_211 rfl (by decide) rfl rfl rfl (Nat.le_of_ble_eq_true rfl) dX6_init_23 (fun H locs hW => ?_)
  refine lv_aload_n hx hb dX6_init_26 rfl (lv_at hl 0 rfl) ?_
  refine x_newO X hW (ci := 2) (fs := [.int (nI 0), .null, .int (nI 0)]) (ty0 := tyJx4a65c) rfl iwJx4a65c tyJx4a65c_ok wq_98 wq_99 wq_64 (fun j hj => by rcases (show j = 0 ∨ j = 1 ∨ j = 2 by omega) with rfl | rfl | rfl <;> rfl) (Nat.le_of_ble_eq_true rfl) (Nat.le_of_ble_eq_true rfl) dX6_init_27 (fun q3 H hW => ?_)
  have hW : Wd G A s ([(q3, .inr (2, [.int (nI 0), .null, .int (nI 0)]))] ++ ([(q2, .inr (2, [.int (nI 0), .ref (G.2.2 0), .int (nI 0)]))] ++ ([(q1, .inr (2, [.int (nI 0), .ref (G.2.2 0), .int (nI 0)]))] ++ ([(o, .inr (9, [.ref q1, .ref q2, .null, .null, .null, .int (nI 0), .int (nI 0), .int (nI 0), .int (nI 0), .long (lZ 0)]))] ++ Y)))) _ _ := hW
  refine lv_dup hx hb dX6_init_30 rfl ?_
  refine go_v X hW (run_I X hW (As := []) (rest := [.ref q3, .ref o]) (c_Jx4a65c_init_da8c8 l G q3 _ _) wq_100 wq_101 wq_64 wq_102 rfl hyJx4a65c_init_da8c8 rfl rfl hl.1 (Nat.le_of_ble_eq_true rfl) ⟨Nat.le_of_ble_eq_true rfl, Nat.le_of_ble_eq_true rfl⟩ ⟨by decide, by decide⟩ dX6_init_31) (fun w2 H locs hp hW => ?_)
  subst hp
  have hW : Wd G A s ([(q3, .inr (2, [.int (nI 0), .ref (G.2.2 0), .int (nI 0)]))] ++ ([(q2, .inr (2, [.int (nI 0), .ref (G.2.2 0), .int (nI 0)]))] ++ ([(q1, .inr (2, [.int (nI 0), .ref (G.2.2 0), .int (nI 0)]))] ++ ([(o, .inr (9, [.ref q1, .ref q2, .null, .null, .null, .int (nI 0), .int (nI 0), .int (nI 0), .int (nI 0), .long (lZ 0)]))] ++ Y)))) _ _ := hW
  refine x_putF X hW hinit 3 rfl 2 (w2 := ([(q3, .inr (2, [.int (nI 0), .ref (G.2.2 0), .int (nI 0)]))] ++ ([(q2, .inr (2, [.int (nI 0), .ref (G.2.2 0), .int (nI 0)]))] ++ ([(q1, .inr (2, [.int (nI 0), .ref (G.2.2 0), .int (nI 0)]))] ++ ([(o, .inr (9, [.ref q1, .ref q2, .ref q3, .null, .null, .int (nI 0), .int (nI 0), .int (nI 0), .int (nI 0), .long (lZ 0)]))] ++ Y))))) rfl rfl iwX6 tyX6_ok nmX6 (by decide) wq_212 rfl (by decide) rfl rfl rfl (Nat.le_of_ble_eq_true rfl) dX6_init_34 (fun H locs hW => ?_)
  refine lv_aload_n hx hb dX6_init_37 rfl (lv_at hl 0 rfl) ?_
  refine x_newO X hW (ci := 4) (fs := [.null, .null, .null, .null, .null, .null, .null, .null, .null, .null, .null, .int (nI 0), .int (nI 0), .int (nI 0)]) (ty0 := tyX1) rfl iwX1 tyX1_ok wq_124 wq_125 wq_65 (fun j hj => by rcases (show j = 0 ∨ j = 1 ∨ j = 2 ∨ j = 3 ∨ j = 4 ∨ j = 5 ∨ j = 6 ∨ j = 7 ∨ j = 8 ∨ j = 9 ∨ j = 10 ∨ j = 11 ∨ j = 12 ∨ j = 13 by omega) with rfl | rfl | rfl | rfl | rfl | rfl | rfl | rfl | rfl | rfl | rfl | rfl | rfl | rfl <;> rfl) (Nat.le_of_ble_eq_true rfl) (Nat.le_of_ble_eq_true rfl) dX6_init_38 (fun q4 H hW => ?_)
  have hW : Wd G A s ([(q4, .inr (4, [.null, .null, .null, .null, .null, .null, .null, .null, .null, .null, .null, .int (nI 0), .int (nI 0), .int (nI 0)]))] ++ ([(q3, .inr (2, [.int (nI 0), .ref (G.2.2 0), .int (nI 0)]))] ++ ([(q2, .inr (2, [.int (nI 0), .ref (G.2.2 0), .int (nI 0)]))] ++ ([(q1, .inr (2, [.int (nI 0), .ref (G.2.2 0), .int (nI 0)]))] ++ ([(o, .inr (9, [.ref q1, .ref q2, .ref q3, .null, .null, .int (nI 0), .int (nI 0), .int (nI 0), .int (nI 0), .long (lZ 0)]))] ++ Y))))) _ _ := hW
  refine lv_dup hx hb dX6_init_41 rfl ?_
  refine go_v X hW (run_IN X hW (As := []) (rest := [.ref q4, .ref o]) (c_X1_init l G q4 _ _) wq_126 wq_127 wq_65 wq_128 rfl hyX1_init rfl rfl hl.1 (Nat.le_of_ble_eq_true rfl) ⟨Nat.le_of_ble_eq_true rfl, Nat.le_of_ble_eq_true rfl⟩ ⟨by decide, by decide⟩ dX6_init_42) (fun w2 H locs hp hW => ?_)
  obtain ⟨f, hf0, hwf⟩ := hp
  rw [hwf] at hW
  rw [show q4 = f 0 from hf0.symm]
  refine x_putF X hW hinit 15 rfl 3 (w2 := (fW G f 0 0 0 (fun _ => 0) (fun _ => 0) (fun _ => 0) (fun _ => 0) (fun _ => 0) (fun _ => 0) (fun _ => 0) (fun _ => 0) (fun _ => 0) (fun _ => 0) (fun _ => 0) ++ ([(q3, .inr (2, [.int (nI 0), .ref (G.2.2 0), .int (nI 0)]))] ++ ([(q2, .inr (2, [.int (nI 0), .ref (G.2.2 0), .int (nI 0)]))] ++ ([(q1, .inr (2, [.int (nI 0), .ref (G.2.2 0), .int (nI 0)]))] ++ ([(o, .inr (9, [.ref q1, .ref q2, .ref q3, .ref (f 0), .null, .int (nI 0), .int (nI 0), .int (nI 0), .int (nI 0), .long (lZ 0)]))] ++ Y)))))) rfl rfl iwX6 tyX6_ok nmX6 (by decide) wq_213 rfl (by decide) rfl rfl rfl (Nat.le_of_ble_eq_true rfl) dX6_init_45 (fun H locs hW => ?_)
  refine lv_aload_n hx hb dX6_init_48 rfl (lv_at hl 0 rfl) ?_
  refine x_newO X hW (ci := 8) (fs := [.null, .null, .null, .int (nI 0), .int (zI 0)]) (ty0 := tyX5) rfl iwX5 tyX5_ok wq_185 wq_186 wq_66 (fun j hj => by rcases (show j = 0 ∨ j = 1 ∨ j = 2 ∨ j = 3 ∨ j = 4 by omega) with rfl | rfl | rfl | rfl | rfl <;> rfl) (Nat.le_of_ble_eq_true rfl) (Nat.le_of_ble_eq_true rfl) dX6_init_49 (fun q5 H hW => ?_)
  have hW : Wd G A s ([(q5, .inr (8, [.null, .null, .null, .int (nI 0), .int (zI 0)]))] ++ (fW G f 0 0 0 (fun _ => 0) (fun _ => 0) (fun _ => 0) (fun _ => 0) (fun _ => 0) (fun _ => 0) (fun _ => 0) (fun _ => 0) (fun _ => 0) (fun _ => 0) (fun _ => 0) ++ ([(q3, .inr (2, [.int (nI 0), .ref (G.2.2 0), .int (nI 0)]))] ++ ([(q2, .inr (2, [.int (nI 0), .ref (G.2.2 0), .int (nI 0)]))] ++ ([(q1, .inr (2, [.int (nI 0), .ref (G.2.2 0), .int (nI 0)]))] ++ ([(o, .inr (9, [.ref q1, .ref q2, .ref q3, .ref (f 0), .null, .int (nI 0), .int (nI 0), .int (nI 0), .int (nI 0), .long (lZ 0)]))] ++ Y)))))) _ _ := hW
  refine lv_dup hx hb dX6_init_52 rfl ?_
  refine go_v X hW (run_IN X hW (As := []) (rest := [.ref q5, .ref o]) (c_X5_init l G q5 _ _) wq_187 wq_188 wq_66 wq_189 rfl hyX5_init rfl rfl hl.1 (Nat.le_of_ble_eq_true rfl) ⟨Nat.le_of_ble_eq_true rfl, Nat.le_of_ble_eq_true rfl⟩ ⟨by decide, by decide⟩ dX6_init_53) (fun w2 H locs hp hW => ?_)
  obtain ⟨h, hh0, hwh⟩ := hp
  rw [hwh] at hW
  rw [show q5 = h 0 from hh0.symm]
  refine x_putF X hW hinit 19 rfl 4 (w2 := (sW G h 0 0 (fun _ => 0) (fun _ => 0) (fun _ => 0) ++ (fW G f 0 0 0 (fun _ => 0) (fun _ => 0) (fun _ => 0) (fun _ => 0) (fun _ => 0) (fun _ => 0) (fun _ => 0) (fun _ => 0) (fun _ => 0) (fun _ => 0) (fun _ => 0) ++ ([(q3, .inr (2, [.int (nI 0), .ref (G.2.2 0), .int (nI 0)]))] ++ ([(q2, .inr (2, [.int (nI 0), .ref (G.2.2 0), .int (nI 0)]))] ++ ([(q1, .inr (2, [.int (nI 0), .ref (G.2.2 0), .int (nI 0)]))] ++ ([(o, .inr (9, [.ref q1, .ref q2, .ref q3, .ref (f 0), .ref (h 0), .int (nI 0), .int (nI 0), .int (nI 0), .int (nI 0), .long (lZ 0)]))] ++ Y))))))) rfl rfl iwX6 tyX6_ok nmX6 (by decide) wq_214 rfl (by decide) rfl rfl rfl (Nat.le_of_ble_eq_true rfl) dX6_init_56 (fun H locs hW => ?_)
  exact ret_v X hW (⟨q1, q2, q3, f, h, rfl⟩) rfl (by decide) (by decide) dX6_init_59

