set_option maxRecDepth 100000 in
set_option maxHeartbeats 4000000 in
theorem c_X7_thrown (l : Launch) (G : Gt) (a : Nat → Nat) (th lo bi ru ol ob : Nat) (tk : Int) (fib gra res buy lst bst rea bid pri itm akf akg got : Nat → Nat) (pai : Nat → Int) (riv rf ro rs lat bat : Nat → Nat) (val : Nat → Int) (cos row ahe wan giv : Nat → Nat) (Y : va_W)  : Ci l G yX7_thrown (ww yX7_thrown cX7_thrown 1 (some FieldType.int)) (RM 0 0 0) [.ref (a 0)] (mW G a th lo bi ru ol ob tk fib gra res buy lst bst rea bid pri itm akf akg got pai riv rf ro rs lat bat val cos row ahe wan giv ++ Y) (fun r w2 => r = nI th ∧ w2 = (mW G a th lo bi ru ol ob tk fib gra res buy lst bst rea bid pri itm akf akg got pai riv rf ro rs lat bat val cos row ahe wan giv ++ Y)) := by
  refine Ci.intro (by decide) (Nat.le_of_ble_eq_true rfl) ?_
  intro p e s m args below meth c A X hW ls hl
  have hx := X.exec
  have hb := X.bytes
  have hl : lv_has ls 1 [(0, .ref (a 0))] := hl
  refine lv_aload_n hx hb dX7_thrown_0 rfl (lv_at hl 0 rfl) ?_
  refine x_get X hW 0 rfl 0 rfl rfl iwX7 (by decide) wq_1080 rfl dX7_thrown_1 ?_
  exact ret_i X hW (v := (nI th)) (⟨rfl, rfl⟩) rfl (by decide) (by decide) dX7_thrown_4

set_option maxRecDepth 100000 in
set_option maxHeartbeats 4000000 in
theorem c_X7_fail (l : Launch) (G : Gt) (a : Nat → Nat) (th lo bi ru ol ob : Nat) (tk : Int) (fib gra res buy lst bst rea bid pri itm akf akg got : Nat → Nat) (pai : Nat → Int) (riv rf ro rs lat bat : Nat → Nat) (val : Nat → Int) (cos row ahe wan giv : Nat → Nat) (Y : va_W) (k : Nat)  : Ci l G yX7_fail (ww yX7_fail cX7_fail 2 (some FieldType.int)) (RM 0 0 0) [.ref (a 0), .int (nI k)] (mW G a th lo bi ru ol ob tk fib gra res buy lst bst rea bid pri itm akf akg got pai riv rf ro rs lat bat val cos row ahe wan giv ++ Y) (fun r w2 => r = nI 0 ∧ w2 = (mW G a k lo bi ru ol ob tk fib gra res buy lst bst rea bid pri itm akf akg got pai riv rf ro rs lat bat val cos row ahe wan giv ++ Y)) := by
  refine Ci.intro (by decide) (Nat.le_of_ble_eq_true rfl) ?_
  intro p e s m args below meth c A X hW ls hl
  have hx := X.exec
  have hb := X.bytes
  have hl : lv_has ls 2 [(0, .ref (a 0)), (1, .int (nI k))] := hl
  refine lv_aload_n hx hb dX7_fail_0 rfl (lv_at hl 0 rfl) ?_
  refine lv_iload_n hx hb dX7_fail_1 rfl (lv_at hl 1 rfl) ?_
  refine x_put X hW 0 rfl 0 (w2 := (mW G a k lo bi ru ol ob tk fib gra res buy lst bst rea bid pri itm akf akg got pai riv rf ro rs lat bat val cos row ahe wan giv ++ Y)) rfl rfl iwX7 tyX7_ok nmX7 (by decide) wq_1080 rfl rfl rfl rfl (Nat.le_of_ble_eq_true rfl) dX7_fail_2 (fun H locs hW => ?_)
  refine lv_iconst (v := nI 0) hx hb dX7_fail_5 (by decide) ?_
  exact ret_i X hW (v := (nI 0)) (⟨rfl, rfl⟩) rfl (by decide) (by decide) dX7_fail_6

set_option maxRecDepth 100000 in
set_option maxHeartbeats 4000000 in
theorem c_X7_isIn (l : Launch) (G : Gt) (w : va_W) (x lo hi : Int32) (zx zl zh : Int) (h1 : x = zI zx) (h2 : lo = zI zl) (h3 : hi = zI zh) (r1 : iR zx) (r2 : iR zl) (r3 : iR zh) : Ci l G yX7_isIn (ww yX7_isIn cX7_isIn 3 (some FieldType.boolean)) (RM 0 0 0) [.int x, .int lo, .int hi] w (fun r w2 => r = nI (if zl ≤ zx ∧ zx ≤ zh then 1 else 0) ∧ w2 = w) := by
  subst h1 h2 h3
  refine Ci.intro (by decide) (Nat.le_of_ble_eq_true rfl) ?_
  intro p e s m args below meth c A X hW ls hl
  have hx := X.exec
  have hb := X.bytes
  have hl : lv_has ls 3 [(0, .int (zI zx)), (1, .int (zI zl)), (2, .int (zI zh))] := hl
  refine lv_iload_n hx hb dX7_isIn_0 rfl (lv_at hl 0 rfl) ?_
  refine lv_iload_n hx hb dX7_isIn_1 rfl (lv_at hl 1 rfl) ?_
  refine z_icmp_lt hx hb rfl rfl r1 r2 (tgt := 14) dX7_isIn_2 (by decide) (fun c_2 => ?_) (fun c_2 => ?_)
  · refine lv_iconst (v := nI 0) hx hb dX7_isIn_14 (by decide) ?_
    exact ret_z X hW (v := (nI 0)) (⟨by rw [if_neg (by omega)], rfl⟩) rfl (by first | rfl | exact (pk_charN (by omega)).1) (by decide) (by decide) dX7_isIn_15
  · refine lv_iload_n hx hb dX7_isIn_5 rfl (lv_at hl 0 rfl) ?_
    refine lv_iload_n hx hb dX7_isIn_6 rfl (lv_at hl 2 rfl) ?_
    refine z_icmp_gt hx hb rfl rfl r1 r3 (tgt := 14) dX7_isIn_7 (by decide) (fun c_7 => ?_) (fun c_7 => ?_)
    · refine lv_iconst (v := nI 0) hx hb dX7_isIn_14 (by decide) ?_
      exact ret_z X hW (v := (nI 0)) (⟨by rw [if_neg (by omega)], rfl⟩) rfl (by first | rfl | exact (pk_charN (by omega)).1) (by decide) (by decide) dX7_isIn_15
    · refine lv_iconst (v := nI 1) hx hb dX7_isIn_10 (by decide) ?_
      refine lv_goto (tgt := 15) hx hb dX7_isIn_11 (by decide) ?_
      exact ret_z X hW (v := (nI 1)) (⟨by rw [if_pos ⟨by omega, by omega⟩], rfl⟩) rfl (by first | rfl | exact (pk_charN (by omega)).1) (by decide) (by decide) dX7_isIn_15

set_option maxRecDepth 100000 in
set_option maxHeartbeats 4000000 in
theorem c_X7_isGrade (l : Launch) (G : Gt) (w : va_W) (g : Nat) (hg : g < 65536) : Ci l G yX7_isGrade (ww yX7_isGrade cX7_isGrade 1 (some FieldType.boolean)) (RM 0 0 0) [.int (nI g)] w (fun r w2 => r = nI (if 97 ≤ g ∧ g ≤ 101 then 1 else 0) ∧ w2 = w) := by
  refine Ci.intro (by decide) (Nat.le_of_ble_eq_true rfl) ?_
  intro p e s m args below meth c A X hW ls hl
  have hx := X.exec
  have hb := X.bytes
  have hl : lv_has ls 1 [(0, .int (nI g))] := hl
  refine lv_iload_n hx hb dX7_isGrade_0 rfl (lv_at hl 0 rfl) ?_
  refine lv_bipush (v := nI 97) hx hb dX7_isGrade_1 (by decide) ?_
  refine n_icmp_lt hx hb rfl rfl (by omega) (by omega) (tgt := 16) dX7_isGrade_3 (by decide) (fun c_3 => ?_) (fun c_3 => ?_)
  · refine lv_iconst (v := nI 0) hx hb dX7_isGrade_16 (by decide) ?_
    exact ret_z X hW (v := (nI 0)) (⟨by rw [if_neg (by omega)], rfl⟩) rfl (by first | rfl | exact (pk_charN (by omega)).1) (by decide) (by decide) dX7_isGrade_17
  · refine lv_iload_n hx hb dX7_isGrade_6 rfl (lv_at hl 0 rfl) ?_
    refine lv_bipush (v := nI 101) hx hb dX7_isGrade_7 (by decide) ?_
    refine n_icmp_gt hx hb rfl rfl (by omega) (by omega) (tgt := 16) dX7_isGrade_9 (by decide) (fun c_9 => ?_) (fun c_9 => ?_)
    · refine lv_iconst (v := nI 0) hx hb dX7_isGrade_16 (by decide) ?_
      exact ret_z X hW (v := (nI 0)) (⟨by rw [if_neg (by omega)], rfl⟩) rfl (by first | rfl | exact (pk_charN (by omega)).1) (by decide) (by decide) dX7_isGrade_17
    · refine lv_iconst (v := nI 1) hx hb dX7_isGrade_12 (by decide) ?_
      refine lv_goto (tgt := 17) hx hb dX7_isGrade_13 (by decide) ?_
      exact ret_z X hW (v := (nI 1)) (⟨by rw [if_pos ⟨by omega, by omega⟩], rfl⟩) rfl (by first | rfl | exact (pk_charN (by omega)).1) (by decide) (by decide) dX7_isGrade_17

set_option maxRecDepth 100000 in
set_option maxHeartbeats 4000000 in
theorem c_X7_isLot (l : Launch) (G : Gt) (a : Nat → Nat) (th lo bi ru ol ob : Nat) (tk : Int) (fib gra res buy lst bst rea bid pri itm akf akg got : Nat → Nat) (pai : Nat → Int) (riv rf ro rs lat bat : Nat → Nat) (val : Nat → Int) (cos row ahe wan giv : Nat → Nat) (Y : va_W) (x : Int32) (z : Int) (hz : x = zI z) (hr : iR z) (hc : lo ≤ 40) : Ci l G yX7_isLot (ww yX7_isLot cX7_isLot 2 (some FieldType.boolean)) (RM 1 0 0) [.ref (a 0), .int x] (mW G a th lo bi ru ol ob tk fib gra res buy lst bst rea bid pri itm akf akg got pai riv rf ro rs lat bat val cos row ahe wan giv ++ Y) (fun r w2 => r = nI (if 0 ≤ z ∧ z < ((lo : Nat) : Int) then 1 else 0) ∧ w2 = (mW G a th lo bi ru ol ob tk fib gra res buy lst bst rea bid pri itm akf akg got pai riv rf ro rs lat bat val cos row ahe wan giv ++ Y)) := by
  subst hz
  refine Ci.intro (by decide) (Nat.le_of_ble_eq_true rfl) ?_
  intro p e s m args below meth c A X hW ls hl
  have hx := X.exec
  have hb := X.bytes
  have hl : lv_has ls 2 [(0, .ref (a 0)), (1, .int (zI z))] := hl
  refine lv_iload_n hx hb dX7_isLot_0 rfl (lv_at hl 1 rfl) ?_
  refine lv_iconst (v := nI 0) hx hb dX7_isLot_1 (by decide) ?_
  refine lv_aload_n hx hb dX7_isLot_2 rfl (lv_at hl 0 rfl) ?_
  refine x_get X hW 0 rfl 1 rfl rfl iwX7 (by decide) wq_1081 rfl dX7_isLot_3 ?_
  refine lv_iconst (v := nI 1) hx hb dX7_isLot_6 (by decide) ?_
  refine z_isub hx hb (nZ _) (nZ _) dX7_isLot_7 ?_
  refine go_i X hW (run_S X hW (As := [.int (zI z), .int (nI 0), .int (zI (((lo : Nat) : Int) - ((1 : Nat) : Int)))]) (rest := []) (c_X7_isIn l G (mW G a th lo bi ru ol ob tk fib gra res buy lst bst rea bid pri itm akf akg got pai riv rf ro rs lat bat val cos row ahe wan giv ++ Y) (zI z) (nI 0) (zI (((lo : Nat) : Int) - ((1 : Nat) : Int))) z ((0 : Nat) : Int) (((lo : Nat) : Int) - ((1 : Nat) : Int)) rfl (nZ _) rfl (by omega) (by omega) (by omega) _) (gi_S wq_1189 wq_1190 wq_67 wq_1191) hyX7_isIn rfl rfl hl.1 (Nat.le_of_ble_eq_true rfl) ⟨Nat.le_of_ble_eq_true rfl, Nat.le_of_ble_eq_true rfl⟩ ⟨by decide, by decide⟩ dX7_isLot_8) (fun r w2 H locs hp hW => ?_)
  obtain ⟨rfl, rfl⟩ := hp
  exact ret_z X hW (v := (nI (if ((0 : Nat) : Int) ≤ z ∧ z ≤ (((lo : Nat) : Int) - ((1 : Nat) : Int)) then 1 else 0))) (⟨by congr 1; simp only [show (((0 : Nat) : Int) ≤ z ∧ z ≤ ((lo : Nat) : Int) - ((1 : Nat) : Int)) ↔ (0 ≤ z ∧ z < ((lo : Nat) : Int)) by omega], rfl⟩) rfl (by split <;> rfl) (by decide) (by decide) dX7_isLot_11

set_option maxRecDepth 100000 in
set_option maxHeartbeats 4000000 in
theorem c_X7_noLot (l : Launch) (G : Gt) (a : Nat → Nat) (th lo bi ru ol ob : Nat) (tk : Int) (fib gra res buy lst bst rea bid pri itm akf akg got : Nat → Nat) (pai : Nat → Int) (riv rf ro rs lat bat : Nat → Nat) (val : Nat → Int) (cos row ahe wan giv : Nat → Nat) (Y : va_W) (x : Int32) (z : Int) (hz : x = zI z) (hr : iR z) (hc : lo ≤ 40) : Ci l G yX7_noLot (ww yX7_noLot cX7_noLot 2 (some FieldType.boolean)) (RM 2 0 0) [.ref (a 0), .int x] (mW G a th lo bi ru ol ob tk fib gra res buy lst bst rea bid pri itm akf akg got pai riv rf ro rs lat bat val cos row ahe wan giv ++ Y) (fun r w2 => r = nI (if ¬ (0 ≤ z ∧ z < ((lo : Nat) : Int)) then 1 else 0) ∧ w2 = (mW G a (if ¬ (0 ≤ z ∧ z < ((lo : Nat) : Int)) then 1 else 0) lo bi ru ol ob tk fib gra res buy lst bst rea bid pri itm akf akg got pai riv rf ro rs lat bat val cos row ahe wan giv ++ Y)) := by
  subst hz
  refine Ci.intro (by decide) (Nat.le_of_ble_eq_true rfl) ?_
  intro p e s m args below meth c A X hW ls hl
  have hx := X.exec
  have hb := X.bytes
  have hl : lv_has ls 2 [(0, .ref (a 0)), (1, .int (zI z))] := hl
  refine lv_aload_n hx hb dX7_noLot_0 rfl (lv_at hl 0 rfl) ?_
  refine lv_aload_n hx hb dX7_noLot_1 rfl (lv_at hl 0 rfl) ?_
  refine lv_iload_n hx hb dX7_noLot_2 rfl (lv_at hl 1 rfl) ?_
  refine go_i X hW (run_V X hW (As := [.int (zI z)]) (rest := [.ref (a 0)]) 10 0 rfl (c_X7_isLot l G a th lo bi ru ol ob tk fib gra res buy lst bst rea bid pri itm akf akg got pai riv rf ro rs lat bat val cos row ahe wan giv Y (zI z) z rfl (by omega) (by omega) _) (gi_V wq_1203 wq_1205 wq_45 wq_67 wq_1206) rfl hyX7_isLot rfl rfl rfl hl.1 (Nat.le_of_ble_eq_true rfl) ⟨Nat.le_of_ble_eq_true rfl, Nat.le_of_ble_eq_true rfl⟩ ⟨by decide, by decide⟩ dX7_noLot_3) (fun r w2 H locs hp hW => ?_)
  obtain ⟨rfl, rfl⟩ := hp
  refine p_if_eq hx hb (tgt := 13) dX7_noLot_6 (by decide) (fun c_6 => ?_) (fun c_6 => ?_)
  · refine lv_iconst (v := nI 1) hx hb dX7_noLot_13 (by decide) ?_
    refine x_put X hW 0 rfl 0 (w2 := (mW G a 1 lo bi ru ol ob tk fib gra res buy lst bst rea bid pri itm akf akg got pai riv rf ro rs lat bat val cos row ahe wan giv ++ Y)) rfl rfl iwX7 tyX7_ok nmX7 (by decide) wq_1080 rfl rfl rfl rfl (Nat.le_of_ble_eq_true rfl) dX7_noLot_14 (fun H locs hW => ?_)
    refine lv_aload_n hx hb dX7_noLot_17 rfl (lv_at hl 0 rfl) ?_
    refine x_get X hW 0 rfl 0 rfl rfl iwX7 (by decide) wq_1080 rfl dX7_noLot_18 ?_
    refine n_if_eq hx hb rfl (by omega) (tgt := 28) dX7_noLot_21 (by decide) (fun c_21 => absurd c_21 (by decide)) (fun c_21 => ?_)
    refine lv_iconst (v := nI 1) hx hb dX7_noLot_24 (by decide) ?_
    refine lv_goto (tgt := 29) hx hb dX7_noLot_25 (by decide) ?_
    exact ret_z X hW (v := (nI 1)) (⟨by rw [if_pos (by assumption)], by rw [if_pos (by assumption)]⟩) rfl (by first | rfl | exact (pk_charN (by omega)).1) (by decide) (by decide) dX7_noLot_29
  · refine lv_iconst (v := nI 0) hx hb dX7_noLot_9 (by decide) ?_
    refine lv_goto (tgt := 14) hx hb dX7_noLot_10 (by decide) ?_
    refine x_put X hW 0 rfl 0 (w2 := (mW G a 0 lo bi ru ol ob tk fib gra res buy lst bst rea bid pri itm akf akg got pai riv rf ro rs lat bat val cos row ahe wan giv ++ Y)) rfl rfl iwX7 tyX7_ok nmX7 (by decide) wq_1080 rfl rfl rfl rfl (Nat.le_of_ble_eq_true rfl) dX7_noLot_14 (fun H locs hW => ?_)
    refine lv_aload_n hx hb dX7_noLot_17 rfl (lv_at hl 0 rfl) ?_
    refine x_get X hW 0 rfl 0 rfl rfl iwX7 (by decide) wq_1080 rfl dX7_noLot_18 ?_
    refine n_if_eq hx hb rfl (by omega) (tgt := 28) dX7_noLot_21 (by decide) (fun c_21 => ?_) (fun c_21 => absurd c_21 (by decide))
    refine lv_iconst (v := nI 0) hx hb dX7_noLot_28 (by decide) ?_
    exact ret_z X hW (v := (nI 0)) (⟨by rw [if_neg (fun q => q (by assumption))], by rw [if_neg (fun q => q (by assumption))]⟩) rfl (by first | rfl | exact (pk_charN (by omega)).1) (by decide) (by decide) dX7_noLot_29

set_option maxRecDepth 100000 in
set_option maxHeartbeats 4000000 in
theorem c_X7_isBid (l : Launch) (G : Gt) (a : Nat → Nat) (th lo bi ru ol ob : Nat) (tk : Int) (fib gra res buy lst bst rea bid pri itm akf akg got : Nat → Nat) (pai : Nat → Int) (riv rf ro rs lat bat : Nat → Nat) (val : Nat → Int) (cos row ahe wan giv : Nat → Nat) (Y : va_W) (x : Int32) (z : Int) (hz : x = zI z) (hr : iR z) (hc : bi ≤ 40) : Ci l G yX7_isBid (ww yX7_isBid cX7_isBid 2 (some FieldType.boolean)) (RM 1 0 0) [.ref (a 0), .int x] (mW G a th lo bi ru ol ob tk fib gra res buy lst bst rea bid pri itm akf akg got pai riv rf ro rs lat bat val cos row ahe wan giv ++ Y) (fun r w2 => r = nI (if 0 ≤ z ∧ z < ((bi : Nat) : Int) then 1 else 0) ∧ w2 = (mW G a th lo bi ru ol ob tk fib gra res buy lst bst rea bid pri itm akf akg got pai riv rf ro rs lat bat val cos row ahe wan giv ++ Y)) := by
  subst hz
  refine Ci.intro (by decide) (Nat.le_of_ble_eq_true rfl) ?_
  intro p e s m args below meth c A X hW ls hl
  have hx := X.exec
  have hb := X.bytes
  have hl : lv_has ls 2 [(0, .ref (a 0)), (1, .int (zI z))] := hl
  refine lv_iload_n hx hb dX7_isBid_0 rfl (lv_at hl 1 rfl) ?_
  refine lv_iconst (v := nI 0) hx hb dX7_isBid_1 (by decide) ?_
  refine lv_aload_n hx hb dX7_isBid_2 rfl (lv_at hl 0 rfl) ?_
  refine x_get X hW 0 rfl 2 rfl rfl iwX7 (by decide) wq_1082 rfl dX7_isBid_3 ?_
  refine lv_iconst (v := nI 1) hx hb dX7_isBid_6 (by decide) ?_
  refine z_isub hx hb (nZ _) (nZ _) dX7_isBid_7 ?_
  refine go_i X hW (run_S X hW (As := [.int (zI z), .int (nI 0), .int (zI (((bi : Nat) : Int) - ((1 : Nat) : Int)))]) (rest := []) (c_X7_isIn l G (mW G a th lo bi ru ol ob tk fib gra res buy lst bst rea bid pri itm akf akg got pai riv rf ro rs lat bat val cos row ahe wan giv ++ Y) (zI z) (nI 0) (zI (((bi : Nat) : Int) - ((1 : Nat) : Int))) z ((0 : Nat) : Int) (((bi : Nat) : Int) - ((1 : Nat) : Int)) rfl (nZ _) rfl (by omega) (by omega) (by omega) _) (gi_S wq_1189 wq_1190 wq_67 wq_1191) hyX7_isIn rfl rfl hl.1 (Nat.le_of_ble_eq_true rfl) ⟨Nat.le_of_ble_eq_true rfl, Nat.le_of_ble_eq_true rfl⟩ ⟨by decide, by decide⟩ dX7_isBid_8) (fun r w2 H locs hp hW => ?_)
  obtain ⟨rfl, rfl⟩ := hp
  exact ret_z X hW (v := (nI (if ((0 : Nat) : Int) ≤ z ∧ z ≤ (((bi : Nat) : Int) - ((1 : Nat) : Int)) then 1 else 0))) (⟨by congr 1; simp only [show (((0 : Nat) : Int) ≤ z ∧ z ≤ ((bi : Nat) : Int) - ((1 : Nat) : Int)) ↔ (0 ≤ z ∧ z < ((bi : Nat) : Int)) by omega], rfl⟩) rfl (by split <;> rfl) (by decide) (by decide) dX7_isBid_11

set_option maxRecDepth 100000 in
set_option maxHeartbeats 4000000 in
theorem c_X7_noBid (l : Launch) (G : Gt) (a : Nat → Nat) (th lo bi ru ol ob : Nat) (tk : Int) (fib gra res buy lst bst rea bid pri itm akf akg got : Nat → Nat) (pai : Nat → Int) (riv rf ro rs lat bat : Nat → Nat) (val : Nat → Int) (cos row ahe wan giv : Nat → Nat) (Y : va_W) (x : Int32) (z : Int) (hz : x = zI z) (hr : iR z) (hc : bi ≤ 40) : Ci l G yX7_noBid (ww yX7_noBid cX7_noBid 2 (some FieldType.boolean)) (RM 2 0 0) [.ref (a 0), .int x] (mW G a th lo bi ru ol ob tk fib gra res buy lst bst rea bid pri itm akf akg got pai riv rf ro rs lat bat val cos row ahe wan giv ++ Y) (fun r w2 => r = nI (if ¬ (0 ≤ z ∧ z < ((bi : Nat) : Int)) then 1 else 0) ∧ w2 = (mW G a (if ¬ (0 ≤ z ∧ z < ((bi : Nat) : Int)) then 1 else 0) lo bi ru ol ob tk fib gra res buy lst bst rea bid pri itm akf akg got pai riv rf ro rs lat bat val cos row ahe wan giv ++ Y)) := by
  subst hz
  refine Ci.intro (by decide) (Nat.le_of_ble_eq_true rfl) ?_
  intro p e s m args below meth c A X hW ls hl
  have hx := X.exec
  have hb := X.bytes
  have hl : lv_has ls 2 [(0, .ref (a 0)), (1, .int (zI z))] := hl
  refine lv_aload_n hx hb dX7_noBid_0 rfl (lv_at hl 0 rfl) ?_
  refine lv_aload_n hx hb dX7_noBid_1 rfl (lv_at hl 0 rfl) ?_
  refine lv_iload_n hx hb dX7_noBid_2 rfl (lv_at hl 1 rfl) ?_
  refine go_i X hW (run_V X hW (As := [.int (zI z)]) (rest := [.ref (a 0)]) 10 0 rfl (c_X7_isBid l G a th lo bi ru ol ob tk fib gra res buy lst bst rea bid pri itm akf akg got pai riv rf ro rs lat bat val cos row ahe wan giv Y (zI z) z rfl (by omega) (by omega) _) (gi_V wq_1223 wq_1225 wq_46 wq_67 wq_1226) rfl hyX7_isBid rfl rfl rfl hl.1 (Nat.le_of_ble_eq_true rfl) ⟨Nat.le_of_ble_eq_true rfl, Nat.le_of_ble_eq_true rfl⟩ ⟨by decide, by decide⟩ dX7_noBid_3) (fun r w2 H locs hp hW => ?_)
  obtain ⟨rfl, rfl⟩ := hp
  refine p_if_eq hx hb (tgt := 13) dX7_noBid_6 (by decide) (fun c_6 => ?_) (fun c_6 => ?_)
  · refine lv_iconst (v := nI 1) hx hb dX7_noBid_13 (by decide) ?_
    refine x_put X hW 0 rfl 0 (w2 := (mW G a 1 lo bi ru ol ob tk fib gra res buy lst bst rea bid pri itm akf akg got pai riv rf ro rs lat bat val cos row ahe wan giv ++ Y)) rfl rfl iwX7 tyX7_ok nmX7 (by decide) wq_1080 rfl rfl rfl rfl (Nat.le_of_ble_eq_true rfl) dX7_noBid_14 (fun H locs hW => ?_)
    refine lv_aload_n hx hb dX7_noBid_17 rfl (lv_at hl 0 rfl) ?_
    refine x_get X hW 0 rfl 0 rfl rfl iwX7 (by decide) wq_1080 rfl dX7_noBid_18 ?_
    refine n_if_eq hx hb rfl (by omega) (tgt := 28) dX7_noBid_21 (by decide) (fun c_21 => absurd c_21 (by decide)) (fun c_21 => ?_)
    refine lv_iconst (v := nI 1) hx hb dX7_noBid_24 (by decide) ?_
    refine lv_goto (tgt := 29) hx hb dX7_noBid_25 (by decide) ?_
    exact ret_z X hW (v := (nI 1)) (⟨by rw [if_pos (by assumption)], by rw [if_pos (by assumption)]⟩) rfl (by first | rfl | exact (pk_charN (by omega)).1) (by decide) (by decide) dX7_noBid_29
  · refine lv_iconst (v := nI 0) hx hb dX7_noBid_9 (by decide) ?_
    refine lv_goto (tgt := 14) hx hb dX7_noBid_10 (by decide) ?_
    refine x_put X hW 0 rfl 0 (w2 := (mW G a 0 lo bi ru ol ob tk fib gra res buy lst bst rea bid pri itm akf akg got pai riv rf ro rs lat bat val cos row ahe wan giv ++ Y)) rfl rfl iwX7 tyX7_ok nmX7 (by decide) wq_1080 rfl rfl rfl rfl (Nat.le_of_ble_eq_true rfl) dX7_noBid_14 (fun H locs hW => ?_)
    refine lv_aload_n hx hb dX7_noBid_17 rfl (lv_at hl 0 rfl) ?_
    refine x_get X hW 0 rfl 0 rfl rfl iwX7 (by decide) wq_1080 rfl dX7_noBid_18 ?_
    refine n_if_eq hx hb rfl (by omega) (tgt := 28) dX7_noBid_21 (by decide) (fun c_21 => ?_) (fun c_21 => absurd c_21 (by decide))
    refine lv_iconst (v := nI 0) hx hb dX7_noBid_28 (by decide) ?_
    exact ret_z X hW (v := (nI 0)) (⟨by rw [if_neg (fun q => q (by assumption))], by rw [if_neg (fun q => q (by assumption))]⟩) rfl (by first | rfl | exact (pk_charN (by omega)).1) (by decide) (by decide) dX7_noBid_29

