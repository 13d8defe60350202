set_option maxRecDepth 100000 in
set_option maxHeartbeats 4000000 in
theorem c_X6_isFibre (l : Launch) (G : Gt) (v : Int) (w : va_W) (hv : iR v) : Ci l G yX6_isFibre (ww yX6_isFibre cX6_isFibre 1 (some FieldType.boolean)) (RM 0 0 0) [.int (zI v)] w (fun r w2 => r = nI (if 0 ≤ v ∧ v < 4 then 1 else 0) ∧ w2 = w) := by
  refine Ci.intro (by decide) (Nat.le_of_ble_eq_true rfl) ?_
  intro p e s m args below meth c A X hW ls hl
  have hx := X.exec
  have hb := X.bytes
  have hl : lv_has ls 1 [(0, .int (zI v))] := hl
  refine lv_iload_n hx hb dX6_isFibre_0 rfl (lv_at hl 0 rfl) ?_
  refine z_if_lt hx hb rfl (by omega) (tgt := 13) dX6_isFibre_1 (by decide) (fun c_1 => ?_) (fun c_1 => ?_)
  · refine lv_iconst (v := nI 0) hx hb dX6_isFibre_13 (by decide) ?_
    exact ret_z X hW (v := (nI 0)) (⟨by rw [if_neg (by omega)], rfl⟩) rfl (by first | rfl | exact (pk_charN (by omega)).1) (by decide) (by decide) dX6_isFibre_14
  · refine lv_iload_n hx hb dX6_isFibre_4 rfl (lv_at hl 0 rfl) ?_
    refine lv_iconst (v := nI 4) hx hb dX6_isFibre_5 (by decide) ?_
    refine z_icmp_ge hx hb rfl (nZ _) (by omega) (by omega) (tgt := 13) dX6_isFibre_6 (by decide) (fun c_6 => ?_) (fun c_6 => ?_)
    · refine lv_iconst (v := nI 0) hx hb dX6_isFibre_13 (by decide) ?_
      exact ret_z X hW (v := (nI 0)) (⟨by rw [if_neg (by omega)], rfl⟩) rfl (by first | rfl | exact (pk_charN (by omega)).1) (by decide) (by decide) dX6_isFibre_14
    · refine lv_iconst (v := nI 1) hx hb dX6_isFibre_9 (by decide) ?_
      refine lv_goto (tgt := 14) hx hb dX6_isFibre_10 (by decide) ?_
      exact ret_z X hW (v := (nI 1)) (⟨by rw [if_pos (by (repeat' apply And.intro) <;> first | assumption | omega)], rfl⟩) rfl (by first | rfl | exact (pk_charN (by omega)).1) (by decide) (by decide) dX6_isFibre_14

set_option maxRecDepth 100000 in
set_option maxHeartbeats 4000000 in
theorem c_X6_isGrade (l : Launch) (G : Gt) (g : Nat) (w : va_W) (hg : g < 65536) : Ci l G yX6_isGrade (ww yX6_isGrade cX6_isGrade 1 (some FieldType.boolean)) (RM 0 0 0) [.int (nI g)] w (fun r w2 => r = nI (if 97 ≤ g ∧ g ≤ 101 then 1 else 0) ∧ w2 = w) := by
  refine Ci.intro (by decide) (Nat.le_of_ble_eq_true rfl) ?_
  intro p e s m args below meth c A X hW ls hl
  have hx := X.exec
  have hb := X.bytes
  have hl : lv_has ls 1 [(0, .int (nI g))] := hl
  refine lv_iload_n hx hb dX6_isGrade_0 rfl (lv_at hl 0 rfl) ?_
  refine lv_bipush (v := nI 97) hx hb dX6_isGrade_1 (by decide) ?_
  refine n_icmp_lt hx hb rfl rfl (by omega) (by omega) (tgt := 16) dX6_isGrade_3 (by decide) (fun c_3 => ?_) (fun c_3 => ?_)
  · refine lv_iconst (v := nI 0) hx hb dX6_isGrade_16 (by decide) ?_
    exact ret_z X hW (v := (nI 0)) (⟨by rw [if_neg (by omega)], rfl⟩) rfl (by first | rfl | exact (pk_charN (by omega)).1) (by decide) (by decide) dX6_isGrade_17
  · refine lv_iload_n hx hb dX6_isGrade_6 rfl (lv_at hl 0 rfl) ?_
    refine lv_bipush (v := nI 101) hx hb dX6_isGrade_7 (by decide) ?_
    refine n_icmp_gt hx hb rfl rfl (by omega) (by omega) (tgt := 16) dX6_isGrade_9 (by decide) (fun c_9 => ?_) (fun c_9 => ?_)
    · refine lv_iconst (v := nI 0) hx hb dX6_isGrade_16 (by decide) ?_
      exact ret_z X hW (v := (nI 0)) (⟨by rw [if_neg (by omega)], rfl⟩) rfl (by first | rfl | exact (pk_charN (by omega)).1) (by decide) (by decide) dX6_isGrade_17
    · refine lv_iconst (v := nI 1) hx hb dX6_isGrade_12 (by decide) ?_
      refine lv_goto (tgt := 17) hx hb dX6_isGrade_13 (by decide) ?_
      exact ret_z X hW (v := (nI 1)) (⟨by rw [if_pos (by (repeat' apply And.intro) <;> first | assumption | omega)], rfl⟩) rfl (by first | rfl | exact (pk_charN (by omega)).1) (by decide) (by decide) dX6_isGrade_17

set_option maxRecDepth 100000 in
set_option maxHeartbeats 4000000 in
theorem c_X6_isBidder (l : Launch) (G : Gt) (v : Int) (w : va_W) (hv : iR v) : Ci l G yX6_isBidder (ww yX6_isBidder cX6_isBidder 1 (some FieldType.boolean)) (RM 0 0 0) [.int (zI v)] w (fun r w2 => r = nI (if 0 ≤ v ∧ v < 8 then 1 else 0) ∧ w2 = w) := by
  refine Ci.intro (by decide) (Nat.le_of_ble_eq_true rfl) ?_
  intro p e s m args below meth c A X hW ls hl
  have hx := X.exec
  have hb := X.bytes
  have hl : lv_has ls 1 [(0, .int (zI v))] := hl
  refine lv_iload_n hx hb dX6_isBidder_0 rfl (lv_at hl 0 rfl) ?_
  refine z_if_lt hx hb rfl (by omega) (tgt := 14) dX6_isBidder_1 (by decide) (fun c_1 => ?_) (fun c_1 => ?_)
  · refine lv_iconst (v := nI 0) hx hb dX6_isBidder_14 (by decide) ?_
    exact ret_z X hW (v := (nI 0)) (⟨by rw [if_neg (by omega)], rfl⟩) rfl (by first | rfl | exact (pk_charN (by omega)).1) (by decide) (by decide) dX6_isBidder_15
  · refine lv_iload_n hx hb dX6_isBidder_4 rfl (lv_at hl 0 rfl) ?_
    refine lv_bipush (v := nI 8) hx hb dX6_isBidder_5 (by decide) ?_
    refine z_icmp_ge hx hb rfl (nZ _) (by omega) (by omega) (tgt := 14) dX6_isBidder_7 (by decide) (fun c_7 => ?_) (fun c_7 => ?_)
    · refine lv_iconst (v := nI 0) hx hb dX6_isBidder_14 (by decide) ?_
      exact ret_z X hW (v := (nI 0)) (⟨by rw [if_neg (by omega)], rfl⟩) rfl (by first | rfl | exact (pk_charN (by omega)).1) (by decide) (by decide) dX6_isBidder_15
    · refine lv_iconst (v := nI 1) hx hb dX6_isBidder_10 (by decide) ?_
      refine lv_goto (tgt := 15) hx hb dX6_isBidder_11 (by decide) ?_
      exact ret_z X hW (v := (nI 1)) (⟨by rw [if_pos (by (repeat' apply And.intro) <;> first | assumption | omega)], rfl⟩) rfl (by first | rfl | exact (pk_charN (by omega)).1) (by decide) (by decide) dX6_isBidder_15

set_option maxRecDepth 100000 in
set_option maxHeartbeats 4000000 in
theorem c_X6_isLot (l : Launch) (G : Gt) (z f h : Nat → Nat) (ol ob sc wc : Nat) (tk : Int) (e0 k0 m0 e1 k1 m1 e2 k2 m2 lo bi ru : Nat) (la fib gra res lst : Nat → Nat) (byr : Nat → Int) (ra rf ro rs : Nat → Nat) (ba bid wo pri bst rea : Nat → Nat) (rvl pad : Nat → Int) (we wk wm itm ia akf akg : Nat → Nat) (gt : Nat → Int) (Y w : va_W) (v : Int) (hc : w.Perm (CW G z f h ol ob sc wc tk e0 k0 m0 e1 k1 m1 e2 k2 m2 lo bi ru la fib gra res lst byr ra rf ro rs ba bid wo pri bst rea rvl pad we wk wm itm ia akf akg gt Y)) (hlo : lo ≤ 40) (hv : iR v) : Ci l G yX6_isLot (ww yX6_isLot cX6_isLot 2 (some FieldType.boolean)) (RM 1 0 0) [.ref (z 0), .int (zI v)] w (fun r w2 => r = nI (if 0 ≤ v ∧ v < ((lo : Nat) : Int) then 1 else 0) ∧ w2 = w) := by
  refine Ci.intro (by decide) (Nat.le_of_ble_eq_true rfl) ?_
  intro p e s m args below meth c A X hW ls hl
  have hx := X.exec
  have hb := X.bytes
  have hl : lv_has ls 2 [(0, .ref (z 0)), (1, .int (zI v))] := hl
  refine lv_iload_n hx hb dX6_isLot_0 rfl (lv_at hl 1 rfl) ?_
  refine z_if_lt hx hb rfl (by omega) (tgt := 19) dX6_isLot_1 (by decide) (fun c_1 => ?_) (fun c_1 => ?_)
  · refine lv_iconst (v := nI 0) hx hb dX6_isLot_19 (by decide) ?_
    exact ret_z X hW (v := (nI 0)) (⟨by rw [if_neg (by omega)], rfl⟩) rfl (by first | rfl | exact (pk_charN (by omega)).1) (by decide) (by decide) dX6_isLot_20
  · refine lv_iload_n hx hb dX6_isLot_4 rfl (lv_at hl 1 rfl) ?_
    refine lv_aload_n hx hb dX6_isLot_5 rfl (lv_at hl 0 rfl) ?_
    obtain ⟨q0, hq0⟩ := List.mem_iff_getElem?.mp (cw_mk hc)
    refine x_get X hW q0 hq0 0 rfl rfl iwX6 (by decide) wq_210 rfl dX6_isLot_6 ?_
    obtain ⟨r9, hL0⟩ := cw_l0 hc
    obtain ⟨q0, hq0⟩ := List.mem_iff_getElem?.mp (ls_mem hL0)
    refine go_i X hW (run_V X hW (As := []) (rest := [.int (zI v)]) 2 q0 hq0 (c_szP hL0 _) (gi_V wq_245 wq_246 wq_247 wq_64 wq_248) rfl hyJx4a65c_size_8abf5 rfl rfl rfl hl.1 (Nat.le_of_ble_eq_true rfl) ⟨Nat.le_of_ble_eq_true rfl, Nat.le_of_ble_eq_true rfl⟩ ⟨by decide, by decide⟩ dX6_isLot_9) (fun r w2 H locs hp hW => ?_)
    obtain ⟨hr0, hw2⟩ := hp
    subst hr0
    rw [hw2] at hW
    refine z_icmp_ge hx hb rfl (nZ _) (by omega) (by omega) (tgt := 19) dX6_isLot_12 (by decide) (fun c_12 => ?_) (fun c_12 => ?_)
    · refine lv_iconst (v := nI 0) hx hb dX6_isLot_19 (by decide) ?_
      exact ret_z X hW (v := (nI 0)) (⟨by rw [if_neg (by omega)], rfl⟩) rfl (by first | rfl | exact (pk_charN (by omega)).1) (by decide) (by decide) dX6_isLot_20
    · refine lv_iconst (v := nI 1) hx hb dX6_isLot_15 (by decide) ?_
      refine lv_goto (tgt := 20) hx hb dX6_isLot_16 (by decide) ?_
      exact ret_z X hW (v := (nI 1)) (⟨by rw [if_pos (by (repeat' apply And.intro) <;> first | assumption | omega)], rfl⟩) rfl (by first | rfl | exact (pk_charN (by omega)).1) (by decide) (by decide) dX6_isLot_20

set_option maxRecDepth 100000 in
set_option maxHeartbeats 4000000 in
theorem c_X6_isBid (l : Launch) (G : Gt) (z f h : Nat → Nat) (ol ob sc wc : Nat) (tk : Int) (e0 k0 m0 e1 k1 m1 e2 k2 m2 lo bi ru : Nat) (la fib gra res lst : Nat → Nat) (byr : Nat → Int) (ra rf ro rs : Nat → Nat) (ba bid wo pri bst rea : Nat → Nat) (rvl pad : Nat → Int) (we wk wm itm ia akf akg : Nat → Nat) (gt : Nat → Int) (Y w : va_W) (v : Int) (hc : w.Perm (CW G z f h ol ob sc wc tk e0 k0 m0 e1 k1 m1 e2 k2 m2 lo bi ru la fib gra res lst byr ra rf ro rs ba bid wo pri bst rea rvl pad we wk wm itm ia akf akg gt Y)) (hbi : bi ≤ 40) (hv : iR v) : Ci l G yX6_isBid (ww yX6_isBid cX6_isBid 2 (some FieldType.boolean)) (RM 1 0 0) [.ref (z 0), .int (zI v)] w (fun r w2 => r = nI (if 0 ≤ v ∧ v < ((bi : Nat) : Int) then 1 else 0) ∧ w2 = w) := by
  refine Ci.intro (by decide) (Nat.le_of_ble_eq_true rfl) ?_
  intro p e s m args below meth c A X hW ls hl
  have hx := X.exec
  have hb := X.bytes
  have hl : lv_has ls 2 [(0, .ref (z 0)), (1, .int (zI v))] := hl
  refine lv_iload_n hx hb dX6_isBid_0 rfl (lv_at hl 1 rfl) ?_
  refine z_if_lt hx hb rfl (by omega) (tgt := 19) dX6_isBid_1 (by decide) (fun c_1 => ?_) (fun c_1 => ?_)
  · refine lv_iconst (v := nI 0) hx hb dX6_isBid_19 (by decide) ?_
    exact ret_z X hW (v := (nI 0)) (⟨by rw [if_neg (by omega)], rfl⟩) rfl (by first | rfl | exact (pk_charN (by omega)).1) (by decide) (by decide) dX6_isBid_20
  · refine lv_iload_n hx hb dX6_isBid_4 rfl (lv_at hl 1 rfl) ?_
    refine lv_aload_n hx hb dX6_isBid_5 rfl (lv_at hl 0 rfl) ?_
    obtain ⟨q0, hq0⟩ := List.mem_iff_getElem?.mp (cw_mk hc)
    refine x_get X hW q0 hq0 1 rfl rfl iwX6 (by decide) wq_211 rfl dX6_isBid_6 ?_
    obtain ⟨r9, hL1⟩ := cw_l1 hc
    obtain ⟨q0, hq0⟩ := List.mem_iff_getElem?.mp (ls_mem hL1)
    refine go_i X hW (run_V X hW (As := []) (rest := [.int (zI v)]) 2 q0 hq0 (c_szP hL1 _) (gi_V wq_245 wq_246 wq_247 wq_64 wq_248) rfl hyJx4a65c_size_8abf5 rfl rfl rfl hl.1 (Nat.le_of_ble_eq_true rfl) ⟨Nat.le_of_ble_eq_true rfl, Nat.le_of_ble_eq_true rfl⟩ ⟨by decide, by decide⟩ dX6_isBid_9) (fun r w2 H locs hp hW => ?_)
    obtain ⟨hr0, hw2⟩ := hp
    subst hr0
    rw [hw2] at hW
    refine z_icmp_ge hx hb rfl (nZ _) (by omega) (by omega) (tgt := 19) dX6_isBid_12 (by decide) (fun c_12 => ?_) (fun c_12 => ?_)
    · refine lv_iconst (v := nI 0) hx hb dX6_isBid_19 (by decide) ?_
      exact ret_z X hW (v := (nI 0)) (⟨by rw [if_neg (by omega)], rfl⟩) rfl (by first | rfl | exact (pk_charN (by omega)).1) (by decide) (by decide) dX6_isBid_20
    · refine lv_iconst (v := nI 1) hx hb dX6_isBid_15 (by decide) ?_
      refine lv_goto (tgt := 20) hx hb dX6_isBid_16 (by decide) ?_
      exact ret_z X hW (v := (nI 1)) (⟨by rw [if_pos (by (repeat' apply And.intro) <;> first | assumption | omega)], rfl⟩) rfl (by first | rfl | exact (pk_charN (by omega)).1) (by decide) (by decide) dX6_isBid_20

set_option maxRecDepth 100000 in
set_option maxHeartbeats 4000000 in
theorem c_X6_knownLot (l : Launch) (hl9 : l.stackTraces = false) (G : Gt) (z f h : Nat → Nat) (ol ob sc wc : Nat) (tk : Int) (e0 k0 m0 e1 k1 m1 e2 k2 m2 lo bi ru : Nat) (la fib gra res lst : Nat → Nat) (byr : Nat → Int) (ra rf ro rs : Nat → Nat) (ba bid wo pri bst rea : Nat → Nat) (rvl pad : Nat → Int) (we wk wm itm ia akf akg : Nat → Nat) (gt : Nat → Int) (Y w : va_W) (v : Int) (hc : w.Perm (CW G z f h ol ob sc wc tk e0 k0 m0 e1 k1 m1 e2 k2 m2 lo bi ru la fib gra res lst byr ra rf ro rs ba bid wo pri bst rea rvl pad we wk wm itm ia akf akg gt Y)) (h0 : LsOK G e0 k0 lo) (hlo : lo ≤ 40) (hv : iR v) : Xr l G yX6_knownLot (ww yX6_knownLot cX6_knownLot 2 (some (FieldType.object "SkeinMarket$Lot"))) (RM 3 1 6) [.ref (z 0), .int (zI v)] w (fun r w2 => (0 ≤ v ∧ v < ((lo : Nat) : Int)) ∧ r = la v.toNat ∧ w2 = w) (fun E w2 => (E = "java/util/NoSuchElementException" ∧ (¬ (0 ≤ v ∧ v < ((lo : Nat) : Int))) ∧ w2 = w)) := by
  refine Xr.intro (by decide) (Nat.le_of_ble_eq_true rfl) ?_
  intro p e s m args below meth c A X hout hW ls hl
  have hx := X.exec
  have hb := X.bytes
  have hl : lv_has ls 2 [(0, .ref (z 0)), (1, .int (zI v))] := hl
  refine lv_aload_n hx hb dX6_knownLot_0 rfl (lv_at hl 0 rfl) ?_
  refine lv_iload_n hx hb dX6_knownLot_1 rfl (lv_at hl 1 rfl) ?_
  obtain ⟨q0, hq0⟩ := List.mem_iff_getElem?.mp (cw_mk hc)
  refine go_i X hW (run_V X hW (As := [.int (zI v)]) (rest := []) 9 q0 hq0 (c_X6_isLot l G _ _ _ _ _ _ _ _ _ _ _ _ _ _ _ _ _ _ _ _ _ _ _ _ _ _ _ _ _ _ _ _ _ _ _ _ _ _ _ _ _ _ _ _ _ _ _ _ v hc hlo (by omega) _) (gi_V wq_306 wq_308 wq_6 wq_61 wq_309) rfl hyX6_isLot rfl rfl rfl hl.1 (Nat.le_of_ble_eq_true rfl) ⟨Nat.le_of_ble_eq_true rfl, Nat.le_of_ble_eq_true rfl⟩ ⟨by decide, by decide⟩ dX6_knownLot_2) (fun r w2 H locs hp hW => ?_)
  obtain ⟨hr0, hw2⟩ := hp
  subst hr0
  rw [hw2] at hW
  refine p_if_ne hx hb (tgt := 19) dX6_knownLot_5 (by decide) (fun c_5 => ?_) (fun c_5 => ?_)
  · refine lv_aload_n hx hb dX6_knownLot_19 rfl (lv_at hl 0 rfl) ?_
    obtain ⟨q0, hq0⟩ := List.mem_iff_getElem?.mp (cw_mk hc)
    refine x_get X hW q0 hq0 0 rfl rfl iwX6 (by decide) wq_210 rfl dX6_knownLot_20 ?_
    refine lv_iload_n hx hb dX6_knownLot_23 rfl (lv_at hl 1 rfl) ?_
    refine r_zn (a := v.toNat) (by omega) ?_
    obtain ⟨r9, hL0⟩ := cw_l0 hc
    obtain ⟨q0, hq0⟩ := List.mem_iff_getElem?.mp (ls_mem hL0)
    refine go_r X hW (run_V X hW (As := [.int (nI v.toNat)]) (rest := []) 2 q0 hq0 (c_gtP hL0 h0 (by omega) _) (gi_V wq_273 wq_274 wq_275 wq_64 wq_276) rfl hyJx4a65c_get_915e3 rfl rfl rfl hl.1 (Nat.le_of_ble_eq_true rfl) ⟨Nat.le_of_ble_eq_true rfl, Nat.le_of_ble_eq_true rfl⟩ ⟨by decide, by decide⟩ dX6_knownLot_24) (fun b w2 H locs hp hW => ?_)
    obtain ⟨hr0, hw2⟩ := hp
    subst hr0
    rw [hw2] at hW
    refine x_cast X hW (cw_lot hc (i := v.toNat) (by omega)) rfl wq_509 wq_287 dX6_knownLot_27 ?_
    exact vx_ret (ret_r X hW (⟨(by (repeat' apply And.intro) <;> first | assumption | omega), rfl, rfl⟩) rfl (Or.inl ⟨_, rfl⟩) (by decide) (by decide) dX6_knownLot_30)
  · exact x_thrN X hout hW hl9 (cls := "java/util/NoSuchElementException") nse_0 nse_1 nse_2 nse_5 2 rfl pl_NSE fit_NSE y0_ok names_N wq_608 wq_78 at1_NSE at2_NSE good_NSE hl.1 dX6_knownLot_8 dX6_knownLot_11 dX6_knownLot_12 dX6_knownLot_15 dX6_knownLot_18 (Nat.le_of_ble_eq_true rfl) (Nat.le_of_ble_eq_true rfl) (Nat.le_of_ble_eq_true rfl) (Nat.le_of_ble_eq_true rfl) (⟨rfl, (by (repeat' apply And.intro) <;> first | assumption | omega), rfl⟩) (Nat.le_of_ble_eq_true rfl) (Nat.le_of_ble_eq_true rfl)

set_option maxRecDepth 100000 in
set_option maxHeartbeats 4000000 in
theorem c_X6_knownBid (l : Launch) (hl9 : l.stackTraces = false) (G : Gt) (z f h : Nat → Nat) (ol ob sc wc : Nat) (tk : Int) (e0 k0 m0 e1 k1 m1 e2 k2 m2 lo bi ru : Nat) (la fib gra res lst : Nat → Nat) (byr : Nat → Int) (ra rf ro rs : Nat → Nat) (ba bid wo pri bst rea : Nat → Nat) (rvl pad : Nat → Int) (we wk wm itm ia akf akg : Nat → Nat) (gt : Nat → Int) (Y w : va_W) (v : Int) (hc : w.Perm (CW G z f h ol ob sc wc tk e0 k0 m0 e1 k1 m1 e2 k2 m2 lo bi ru la fib gra res lst byr ra rf ro rs ba bid wo pri bst rea rvl pad we wk wm itm ia akf akg gt Y)) (h1 : LsOK G e1 k1 bi) (hbi : bi ≤ 40) (hv : iR v) : Xr l G yX6_knownBid (ww yX6_knownBid cX6_knownBid 2 (some (FieldType.object "SkeinMarket$Bid"))) (RM 3 1 6) [.ref (z 0), .int (zI v)] w (fun r w2 => (0 ≤ v ∧ v < ((bi : Nat) : Int)) ∧ r = ba v.toNat ∧ w2 = w) (fun E w2 => (E = "java/util/NoSuchElementException" ∧ (¬ (0 ≤ v ∧ v < ((bi : Nat) : Int))) ∧ w2 = w)) := by
  refine Xr.intro (by decide) (Nat.le_of_ble_eq_true rfl) ?_
  intro p e s m args below meth c A X hout hW ls hl
  have hx := X.exec
  have hb := X.bytes
  have hl : lv_has ls 2 [(0, .ref (z 0)), (1, .int (zI v))] := hl
  refine lv_aload_n hx hb dX6_knownBid_0 rfl (lv_at hl 0 rfl) ?_
  refine lv_iload_n hx hb dX6_knownBid_1 rfl (lv_at hl 1 rfl) ?_
  obtain ⟨q0, hq0⟩ := List.mem_iff_getElem?.mp (cw_mk hc)
  refine go_i X hW (run_V X hW (As := [.int (zI v)]) (rest := []) 9 q0 hq0 (c_X6_isBid l G _ _ _ _ _ _ _ _ _ _ _ _ _ _ _ _ _ _ _ _ _ _ _ _ _ _ _ _ _ _ _ _ _ _ _ _ _ _ _ _ _ _ _ _ _ _ _ _ v hc hbi (by omega) _) (gi_V wq_731 wq_733 wq_31 wq_61 wq_734) rfl hyX6_isBid rfl rfl rfl hl.1 (Nat.le_of_ble_eq_true rfl) ⟨Nat.le_of_ble_eq_true rfl, Nat.le_of_ble_eq_true rfl⟩ ⟨by decide, by decide⟩ dX6_knownBid_2) (fun r w2 H locs hp hW => ?_)
  obtain ⟨hr0, hw2⟩ := hp
  subst hr0
  rw [hw2] at hW
  refine p_if_ne hx hb (tgt := 19) dX6_knownBid_5 (by decide) (fun c_5 => ?_) (fun c_5 => ?_)
  · refine lv_aload_n hx hb dX6_knownBid_19 rfl (lv_at hl 0 rfl) ?_
    obtain ⟨q0, hq0⟩ := List.mem_iff_getElem?.mp (cw_mk hc)
    refine x_get X hW q0 hq0 1 rfl rfl iwX6 (by decide) wq_211 rfl dX6_knownBid_20 ?_
    refine lv_iload_n hx hb dX6_knownBid_23 rfl (lv_at hl 1 rfl) ?_
    refine r_zn (a := v.toNat) (by omega) ?_
    obtain ⟨r9, hL1⟩ := cw_l1 hc
    obtain ⟨q0, hq0⟩ := List.mem_iff_getElem?.mp (ls_mem hL1)
    refine go_r X hW (run_V X hW (As := [.int (nI v.toNat)]) (rest := []) 2 q0 hq0 (c_gtP hL1 h1 (by omega) _) (gi_V wq_273 wq_274 wq_275 wq_64 wq_276) rfl hyJx4a65c_get_915e3 rfl rfl rfl hl.1 (Nat.le_of_ble_eq_true rfl) ⟨Nat.le_of_ble_eq_true rfl, Nat.le_of_ble_eq_true rfl⟩ ⟨by decide, by decide⟩ dX6_knownBid_24) (fun b w2 H locs hp hW => ?_)
    obtain ⟨hr0, hw2⟩ := hp
    subst hr0
    rw [hw2] at hW
    refine x_cast X hW (cw_bid hc (b := v.toNat) (by omega)) rfl wq_685 wq_292 dX6_knownBid_27 ?_
    exact vx_ret (ret_r X hW (⟨(by (repeat' apply And.intro) <;> first | assumption | omega), rfl, rfl⟩) rfl (Or.inl ⟨_, rfl⟩) (by decide) (by decide) dX6_knownBid_30)
  · exact x_thrN X hout hW hl9 (cls := "java/util/NoSuchElementException") nse_0 nse_1 nse_2 nse_5 9 rfl pl_NSE fit_NSE y0_ok names_N wq_608 wq_78 at1_NSE at2_NSE good_NSE hl.1 dX6_knownBid_8 dX6_knownBid_11 dX6_knownBid_12 dX6_knownBid_15 dX6_knownBid_18 (Nat.le_of_ble_eq_true rfl) (Nat.le_of_ble_eq_true rfl) (Nat.le_of_ble_eq_true rfl) (Nat.le_of_ble_eq_true rfl) (⟨rfl, (by (repeat' apply And.intro) <;> first | assumption | omega), rfl⟩) (Nat.le_of_ble_eq_true rfl) (Nat.le_of_ble_eq_true rfl)

set_option maxRecDepth 100000 in
set_option maxHeartbeats 4000000 in
theorem c_X6_knownOpenBid (l : Launch) (hl9 : l.stackTraces = false) (G : Gt) (z f h : Nat → Nat) (ol ob sc wc : Nat) (tk : Int) (e0 k0 m0 e1 k1 m1 e2 k2 m2 lo bi ru : Nat) (la fib gra res lst : Nat → Nat) (byr : Nat → Int) (ra rf ro rs : Nat → Nat) (ba bid wo pri bst rea : Nat → Nat) (rvl pad : Nat → Int) (we wk wm itm ia akf akg : Nat → Nat) (gt : Nat → Int) (Y w : va_W) (v : Int) (hc : w.Perm (CW G z f h ol ob sc wc tk e0 k0 m0 e1 k1 m1 e2 k2 m2 lo bi ru la fib gra res lst byr ra rf ro rs ba bid wo pri bst rea rvl pad we wk wm itm ia akf akg gt Y)) (h1 : LsOK G e1 k1 bi) (hbi : bi ≤ 40) (hbst : ∀ k, bst k < 65536) (hv : iR v) : Xr l G yX6_knownOpenBid (ww yX6_knownOpenBid cX6_knownOpenBid 3 (some (FieldType.object "SkeinMarket$Bid"))) (RM 4 2 12) [.ref (z 0), .int (zI v)] w (fun r w2 => ((0 ≤ v ∧ v < ((bi : Nat) : Int)) ∧ bst v.toNat = 111) ∧ r = ba v.toNat ∧ w2 = w) (fun E w2 => (E = "java/util/NoSuchElementException" ∧ (¬ (0 ≤ v ∧ v < ((bi : Nat) : Int))) ∧ w2 = w) ∨ (E = "java/lang/IllegalStateException" ∧ ((0 ≤ v ∧ v < ((bi : Nat) : Int)) ∧ bst v.toNat ≠ 111) ∧ w2 = w)) := by
  refine Xr.intro (by decide) (Nat.le_of_ble_eq_true rfl) ?_
  intro p e s m args below meth c A X hout hW ls hl
  have hx := X.exec
  have hb := X.bytes
  have hl : lv_has ls 3 [(0, .ref (z 0)), (1, .int (zI v))] := hl
  refine lv_aload_n hx hb dX6_knownOpenBid_0 rfl (lv_at hl 0 rfl) ?_
  refine lv_iload_n hx hb dX6_knownOpenBid_1 rfl (lv_at hl 1 rfl) ?_
  obtain ⟨q0, hq0⟩ := List.mem_iff_getElem?.mp (cw_mk hc)
  refine go_xr X hout hW (run_XV X hW (As := [.int (zI v)]) (rest := []) 9 q0 hq0 (c_X6_knownBid l hl9 G _ _ _ _ _ _ _ _ _ _ _ _ _ _ _ _ _ _ _ _ _ _ _ _ _ _ _ _ _ _ _ _ _ _ _ _ _ _ _ _ _ _ _ _ _ _ _ _ v hc h1 hbi (by omega) _) (gi_V wq_727 wq_729 wq_30 wq_61 wq_730) rfl hyX6_knownBid rfl rfl rfl hl.1 (Nat.le_of_ble_eq_true rfl) ⟨Nat.le_of_ble_eq_true rfl, Nat.le_of_ble_eq_true rfl⟩ ⟨by decide, by decide⟩ dX6_knownOpenBid_2) (fun _ _ h => Or.inl h) (Nat.le_of_ble_eq_true rfl) (Nat.le_of_ble_eq_true rfl) (fun b w2 H locs hp hW => ?_)
  obtain ⟨hk2, hr0, hw2⟩ := hp
  subst hr0
  rw [hw2] at hW
  refine lv_astore_n (lv' := [(2, .ref (ba v.toNat)), (0, .ref (z 0)), (1, .int (zI v))]) hx hb dX6_knownOpenBid_5 rfl hl (by decide) rfl (fun ls hl => ?_)
  refine lv_aload_n hx hb dX6_knownOpenBid_6 rfl (lv_at hl 0 rfl) ?_
  obtain ⟨q0, hq0⟩ := List.mem_iff_getElem?.mp (cw_bid hc (b := v.toNat) (by omega))
  refine x_getN X hW q0 hq0 3 rfl rfl iwX0 (by decide) wq_699 rfl dX6_knownOpenBid_7 ?_
  refine lv_bipush (v := nI 111) hx hb dX6_knownOpenBid_10 (by decide) ?_
  refine n_icmp_eq hx hb rfl rfl (by have := hbst v.toNat; omega) (by omega) (tgt := 26) dX6_knownOpenBid_12 (by decide) (fun c_12 => ?_) (fun c_12 => ?_)
  · refine lv_aload_n hx hb dX6_knownOpenBid_26 rfl (lv_at hl 0 rfl) ?_
    exact vx_ret (ret_r X hW (⟨(by (repeat' apply And.intro) <;> first | assumption | omega), rfl, rfl⟩) rfl (Or.inl ⟨_, rfl⟩) (by decide) (by decide) dX6_knownOpenBid_27)
  · exact x_thrW X hout hW hl9 (cls := "java/lang/IllegalStateException") 12 rfl pl_ISE fit_ISE names_ok wq_493 wq_72 at1_ISE at2_ISE good_ISE hl.1 dX6_knownOpenBid_15 dX6_knownOpenBid_18 dX6_knownOpenBid_19 dX6_knownOpenBid_22 dX6_knownOpenBid_25 (Nat.le_of_ble_eq_true rfl) (Nat.le_of_ble_eq_true rfl) (Nat.le_of_ble_eq_true rfl) (Nat.le_of_ble_eq_true rfl) (Or.inr (⟨rfl, (by (repeat' apply And.intro) <;> first | assumption | omega), rfl⟩)) (Nat.le_of_ble_eq_true rfl) (Nat.le_of_ble_eq_true rfl)

set_option maxRecDepth 100000 in
set_option maxHeartbeats 4000000 in
theorem c_X6_knownItem (l : Launch) (hl9 : l.stackTraces = false) (G : Gt) (z f h : Nat → Nat) (ol ob sc wc : Nat) (tk : Int) (e0 k0 m0 e1 k1 m1 e2 k2 m2 lo bi ru : Nat) (la fib gra res lst : Nat → Nat) (byr : Nat → Int) (ra rf ro rs : Nat → Nat) (ba bid wo pri bst rea : Nat → Nat) (rvl pad : Nat → Int) (we wk wm itm ia akf akg : Nat → Nat) (gt : Nat → Int) (Y w : va_W) (b : Nat) (v : Int) (hc : w.Perm (CW G z f h ol ob sc wc tk e0 k0 m0 e1 k1 m1 e2 k2 m2 lo bi ru la fib gra res lst byr ra rf ro rs ba bid wo pri bst rea rvl pad we wk wm itm ia akf akg gt Y)) (h3 : ∀ b, b < bi → LsOK G (we b) (wk b) (itm b)) (hitm : ∀ k, itm k ≤ 3) (hb9 : b < bi) (hv : iR v) : Xr l G yX6_knownItem (ww yX6_knownItem cX6_knownItem 2 (some (FieldType.object "SkeinMarket$Item"))) (RM 3 1 6) [.ref (ba b), .int (zI v)] w (fun r w2 => (0 ≤ v ∧ v < ((itm b : Nat) : Int)) ∧ r = ia (3 * b + v.toNat) ∧ w2 = w) (fun E w2 => (E = "java/lang/IndexOutOfBoundsException" ∧ (¬ (0 ≤ v ∧ v < ((itm b : Nat) : Int))) ∧ w2 = w)) := by
  refine Xr.intro (by decide) (Nat.le_of_ble_eq_true rfl) ?_
  intro p e s m args below meth c A X hout hW ls hl
  have hx := X.exec
  have hb := X.bytes
  have hl : lv_has ls 2 [(0, .ref (ba b)), (1, .int (zI v))] := hl
  have hi9 := hitm b
  refine lv_iload_n hx hb dX6_knownItem_0 rfl (lv_at hl 1 rfl) ?_
  refine z_if_lt hx hb rfl (by omega) (tgt := 15) dX6_knownItem_1 (by decide) (fun c_1 => ?_) (fun c_1 => ?_)
  · exact x_thrW X hout hW hl9 (cls := "java/lang/IndexOutOfBoundsException") 16 rfl pl_IOO fit_IOO names_ok wq_903 wq_85 at1_IOO at2_IOO good_IOO hl.1 dX6_knownItem_15 dX6_knownItem_18 dX6_knownItem_19 dX6_knownItem_22 dX6_knownItem_25 (Nat.le_of_ble_eq_true rfl) (Nat.le_of_ble_eq_true rfl) (Nat.le_of_ble_eq_true rfl) (Nat.le_of_ble_eq_true rfl) (⟨rfl, (by (repeat' apply And.intro) <;> first | assumption | omega), rfl⟩) (Nat.le_of_ble_eq_true rfl) (Nat.le_of_ble_eq_true rfl)
  · refine lv_iload_n hx hb dX6_knownItem_4 rfl (lv_at hl 1 rfl) ?_
    refine lv_aload_n hx hb dX6_knownItem_5 rfl (lv_at hl 0 rfl) ?_
    obtain ⟨q0, hq0⟩ := List.mem_iff_getElem?.mp (cw_bid hc (b := b) (by omega))
    refine x_getN X hW q0 hq0 1 rfl rfl iwX0 (by decide) wq_695 rfl dX6_knownItem_6 ?_
    obtain ⟨r9, hLw⟩ := cw_wl hc (b := b) (by omega)
    obtain ⟨q0, hq0⟩ := List.mem_iff_getElem?.mp (ls_mem hLw)
    refine go_i X hW (run_V X hW (As := []) (rest := [.int (zI v)]) 2 q0 hq0 (c_szP hLw _) (gi_V wq_245 wq_246 wq_247 wq_64 wq_248) rfl hyJx4a65c_size_8abf5 rfl rfl rfl hl.1 (Nat.le_of_ble_eq_true rfl) ⟨Nat.le_of_ble_eq_true rfl, Nat.le_of_ble_eq_true rfl⟩ ⟨by decide, by decide⟩ dX6_knownItem_9) (fun r w2 H locs hp hW => ?_)
    obtain ⟨hr0, hw2⟩ := hp
    subst hr0
    rw [hw2] at hW
    refine z_icmp_lt hx hb rfl (nZ _) (by omega) (by omega) (tgt := 26) dX6_knownItem_12 (by decide) (fun c_12 => ?_) (fun c_12 => ?_)
    · refine lv_aload_n hx hb dX6_knownItem_26 rfl (lv_at hl 0 rfl) ?_
      obtain ⟨q0, hq0⟩ := List.mem_iff_getElem?.mp (cw_bid hc (b := b) (by omega))
      refine x_getN X hW q0 hq0 1 rfl rfl iwX0 (by decide) wq_695 rfl dX6_knownItem_27 ?_
      refine lv_iload_n hx hb dX6_knownItem_30 rfl (lv_at hl 1 rfl) ?_
      refine r_zn (a := v.toNat) (by omega) ?_
      obtain ⟨r9, hLw⟩ := cw_wl hc (b := b) (by omega)
      obtain ⟨q0, hq0⟩ := List.mem_iff_getElem?.mp (ls_mem hLw)
      refine go_r X hW (run_V X hW (As := [.int (nI v.toNat)]) (rest := []) 2 q0 hq0 (c_gtP hLw (h3 b (by omega)) (by omega) _) (gi_V wq_273 wq_274 wq_275 wq_64 wq_276) rfl hyJx4a65c_get_915e3 rfl rfl rfl hl.1 (Nat.le_of_ble_eq_true rfl) ⟨Nat.le_of_ble_eq_true rfl, Nat.le_of_ble_eq_true rfl⟩ ⟨by decide, by decide⟩ dX6_knownItem_31) (fun b w2 H locs hp hW => ?_)
      obtain ⟨hr0, hw2⟩ := hp
      subst hr0
      rw [hw2] at hW
      refine x_cast X hW (cw_itm hc (b := b) (j := v.toNat) (by omega) (by omega)) rfl wq_738 wq_301 dX6_knownItem_34 ?_
      exact vx_ret (ret_r X hW (⟨(by (repeat' apply And.intro) <;> first | assumption | omega), rfl, rfl⟩) rfl (Or.inl ⟨_, rfl⟩) (by decide) (by decide) dX6_knownItem_37)
    · exact x_thrW X hout hW hl9 (cls := "java/lang/IndexOutOfBoundsException") 16 rfl pl_IOO fit_IOO names_ok wq_903 wq_85 at1_IOO at2_IOO good_IOO hl.1 dX6_knownItem_15 dX6_knownItem_18 dX6_knownItem_19 dX6_knownItem_22 dX6_knownItem_25 (Nat.le_of_ble_eq_true rfl) (Nat.le_of_ble_eq_true rfl) (Nat.le_of_ble_eq_true rfl) (Nat.le_of_ble_eq_true rfl) (⟨rfl, (by (repeat' apply And.intro) <;> first | assumption | omega), rfl⟩) (Nat.le_of_ble_eq_true rfl) (Nat.le_of_ble_eq_true rfl)

set_option maxRecDepth 100000 in
set_option maxHeartbeats 4000000 in
theorem c_X6_isFit (l : Launch) (G : Gt) (z f h : Nat → Nat) (ol ob sc wc : Nat) (tk : Int) (e0 k0 m0 e1 k1 m1 e2 k2 m2 lo bi ru : Nat) (la fib gra res lst : Nat → Nat) (byr : Nat → Int) (ra rf ro rs : Nat → Nat) (ba bid wo pri bst rea : Nat → Nat) (rvl pad : Nat → Int) (we wk wm itm ia akf akg : Nat → Nat) (gt : Nat → Int) (Y w : va_W) (i q : Nat) (hc : w.Perm (CW G z f h ol ob sc wc tk e0 k0 m0 e1 k1 m1 e2 k2 m2 lo bi ru la fib gra res lst byr ra rf ro rs ba bid wo pri bst rea rvl pad we wk wm itm ia akf akg gt Y)) (h2 : LsOK G e2 k2 ru) (hI : CIa lo bi ru ol ob fib gra res lst bst rea bid pri itm akf akg rf ro rs) (hi : i < lo) (hmi : itmC ia akf akg gt q ∈ w) : Ci l G yX6_isFit (ww yX6_isFit cX6_isFit 6 (some FieldType.boolean)) (RM 3 0 0) [.ref (z 0), .ref (la i), .ref (ia q)] w (fun r w2 => r = nI (if suiB fib gra rf ro rs ru akf akg i q = true then 1 else 0) ∧ w2 = w) := by
  refine Ci.intro (by decide) (Nat.le_of_ble_eq_true rfl) ?_
  intro p e s m args below meth c A X hW ls hl
  have hx := X.exec
  have hb := X.bytes
  have hl : lv_has ls 6 [(0, .ref (z 0)), (1, .ref (la i)), (2, .ref (ia q))] := hl
  obtain ⟨hlo, hbi, hru, hol, hob, hfib, hgra, hres, hlst, hbst, hrea, hbid, hpri, hitm, hakf, hakg, hrf, hro, hrs, hol2, hob2⟩ := hI
  have h_g := hgra i
  have h_b := hakg q
  refine lv_aload_n hx hb dX6_isFit_0 rfl (lv_at hl 2 rfl) ?_
  obtain ⟨q0, hq0⟩ := List.mem_iff_getElem?.mp hmi
  refine x_getN X hW q0 hq0 1 rfl rfl iwX2 (by decide) wq_746 rfl dX6_isFit_1 ?_
  refine lv_aload_n hx hb dX6_isFit_4 rfl (lv_at hl 1 rfl) ?_
  obtain ⟨q0, hq0⟩ := List.mem_iff_getElem?.mp (cw_lot hc (i := i) hi)
  refine x_getN X hW q0 hq0 1 rfl rfl iwX3 (by decide) wq_517 rfl dX6_isFit_5 ?_
  refine z_isub hx hb (nZ _) (nZ _) dX6_isFit_8 ?_
  refine lv_istore_n (lv' := [(3, .int (zI ((((akg q) : Nat) : Int) - (((gra i) : Nat) : Int)))), (0, .ref (z 0)), (1, .ref (la i)), (2, .ref (ia q))]) hx hb dX6_isFit_9 rfl hl (by decide) rfl (fun ls hl => ?_)
  refine lv_aload_n hx hb dX6_isFit_10 rfl (lv_at hl 2 rfl) ?_
  obtain ⟨q0, hq0⟩ := List.mem_iff_getElem?.mp (cw_lot hc (i := i) hi)
  refine x_getN X hW q0 hq0 0 rfl rfl iwX3 (by decide) wq_515 rfl dX6_isFit_11 ?_
  refine lv_aload_n hx hb dX6_isFit_14 rfl (lv_at hl 3 rfl) ?_
  obtain ⟨q0, hq0⟩ := List.mem_iff_getElem?.mp hmi
  refine x_getN X hW q0 hq0 0 rfl rfl iwX2 (by decide) wq_744 rfl dX6_isFit_15 ?_
  refine n_icmp_ne hx hb rfl rfl (by have := hfib i; omega) (by have := hakf q; omega) (tgt := 27) dX6_isFit_18 (by decide) (fun c_18 => ?_) (fun c_18 => ?_)
  · refine lv_iconst (v := nI 0) hx hb dX6_isFit_27 (by decide) ?_
    refine lv_istore (lv' := [(4, .int (nI 0)), (3, .int (zI ((((akg q) : Nat) : Int) - (((gra i) : Nat) : Int)))), (0, .ref (z 0)), (1, .ref (la i)), (2, .ref (ia q))]) hx hb dX6_isFit_28 hl (by decide) rfl (fun ls hl => ?_)
    have hno : (decide (fib i = akf q) && decide (gra i ≤ akg q)) = false := by rw [decide_eq_false c_18]; rfl
    have loop : ∀ (n : Nat) (k : Nat), ru + 1 ≤ k + n → k ≤ ru → (∀ j, j < k → (ruP fib gra rf ro rs akf akg i q) j = false) → ∀ (H : Heap) (locs : List Loc) (ls : Array Slot), Wd G A s w H locs → lv_has ls 6 [(0, .ref (z 0)), (1, .ref (la i)), (2, .ref (ia q)), (3, .int (zI (((akg q : Nat) : Int) - ((gra i : Nat) : Int)))), (4, .int (nI k))] → W p l e (RM 3 0 0) s m args below meth c H locs 0 0 (MQ below (Qi G A (fun r w2 => r = nI (if suiB fib gra rf ro rs ru akf akg i q = true then 1 else 0) ∧ w2 = w)) args s (RM 3 0 0).cells (RM 3 0 0).slots A) (F0 m 30 ls []) := by
      intro n
      induction n with
      | zero => intro k h1 hk2 h3; exact absurd h1 (by omega)
      | succ n ih =>
        intro k h1 hk2 h3 H locs ls hW hl
        refine lv_iload hx hb dX6_isFit_30 (lv_at hl 4 rfl) ?_
        refine lv_aload_n hx hb dX6_isFit_32 rfl (lv_at hl 0 rfl) ?_
        obtain ⟨q0, hq0⟩ := List.mem_iff_getElem?.mp (cw_mk hc)
        refine x_get X hW q0 hq0 2 rfl rfl iwX6 (by decide) wq_212 rfl dX6_isFit_33 ?_
        obtain ⟨r9, hL2⟩ := cw_l2 hc
        obtain ⟨q0, hq0⟩ := List.mem_iff_getElem?.mp (ls_mem hL2)
        refine go_i X hW (run_V X hW (As := []) (rest := [.int (nI k)]) 2 q0 hq0 (c_szP hL2 _) (gi_V wq_245 wq_246 wq_247 wq_64 wq_248) rfl hyJx4a65c_size_8abf5 rfl rfl rfl hl.1 (Nat.le_of_ble_eq_true rfl) ⟨Nat.le_of_ble_eq_true rfl, Nat.le_of_ble_eq_true rfl⟩ ⟨by decide, by decide⟩ dX6_isFit_36) (fun r w2 H locs hp hW => ?_)
        obtain ⟨hr0, hw2⟩ := hp
        subst hr0
        rw [hw2] at hW
        refine n_icmp_ge hx hb rfl rfl (by omega) (by omega) (tgt := 97) dX6_isFit_39 (by decide) (fun c_39 => ?_) (fun c_39 => ?_)
        · refine lv_iconst (v := nI 0) hx hb dX6_isFit_97 (by decide) ?_
          exact ret_z X hW (v := (nI 0)) (⟨by rw [if_neg (by rw [suiB, fst1_no (fun j hj => h3 j (by omega)), decide_eq_false (Nat.lt_irrefl ru), Bool.or_false, hno]; decide)], rfl⟩) rfl (by first | rfl | exact (pk_charN (by omega)).1) (by decide) (by decide) dX6_isFit_98
        · refine lv_aload_n hx hb dX6_isFit_42 rfl (lv_at hl 0 rfl) ?_
          obtain ⟨q0, hq0⟩ := List.mem_iff_getElem?.mp (cw_mk hc)
          refine x_get X hW q0 hq0 2 rfl rfl iwX6 (by decide) wq_212 rfl dX6_isFit_43 ?_
          refine lv_iload hx hb dX6_isFit_46 (lv_at hl 4 rfl) ?_
          obtain ⟨r9, hL2⟩ := cw_l2 hc
          obtain ⟨q0, hq0⟩ := List.mem_iff_getElem?.mp (ls_mem hL2)
          refine go_r X hW (run_V X hW (As := [.int (nI k)]) (rest := []) 2 q0 hq0 (c_gtP hL2 h2 (by omega) _) (gi_V wq_273 wq_274 wq_275 wq_64 wq_276) rfl hyJx4a65c_get_915e3 rfl rfl rfl hl.1 (Nat.le_of_ble_eq_true rfl) ⟨Nat.le_of_ble_eq_true rfl, Nat.le_of_ble_eq_true rfl⟩ ⟨by decide, by decide⟩ dX6_isFit_48) (fun b w2 H locs hp hW => ?_)
          obtain ⟨hr0, hw2⟩ := hp
          subst hr0
          rw [hw2] at hW
          refine x_cast X hW (cw_rul hc (i := k) (by omega)) rfl wq_634 wq_314 dX6_isFit_51 ?_
          refine lv_astore (lv' := [(5, .ref (ra k)), (0, .ref (z 0)), (1, .ref (la i)), (2, .ref (ia q)), (3, .int (zI (((akg q : Nat) : Int) - ((gra i : Nat) : Int)))), (4, .int (nI k))]) hx hb dX6_isFit_54 hl (by decide) rfl (fun ls hl => ?_)
          refine lv_aload hx hb dX6_isFit_56 (lv_at hl 0 rfl) ?_
          obtain ⟨q0, hq0⟩ := List.mem_iff_getElem?.mp (cw_rul hc (i := k) (by omega))
          refine x_getN X hW q0 hq0 0 rfl rfl iwX4 (by decide) wq_640 rfl dX6_isFit_58 ?_
          refine lv_aload_n hx hb dX6_isFit_61 rfl (lv_at hl 3 rfl) ?_
          obtain ⟨q0, hq0⟩ := List.mem_iff_getElem?.mp hmi
          refine x_getN X hW q0 hq0 0 rfl rfl iwX2 (by decide) wq_744 rfl dX6_isFit_62 ?_
          refine n_icmp_ne hx hb rfl rfl (by have := hrf k; omega) (by have := hakf q; omega) (tgt := 91) dX6_isFit_65 (by decide) (fun c_65 => ?_) (fun c_65 => ?_)
          · refine lv_iinc (v := (nI (k + 1))) (lv' := [(4, .int (nI (k + 1))), (5, .ref (ra k)), (0, .ref (z 0)), (1, .ref (la i)), (2, .ref (ia q)), (3, .int (zI (((akg q : Nat) : Int) - ((gra i : Nat) : Int))))]) hx hb dX6_isFit_91 hl (k := 5) rfl (nI_add _ _) (by decide) rfl (fun ls hl => ?_)
            refine lv_goto (tgt := 30) hx hb dX6_isFit_94 (by decide) ?_
            exact ih (k + 1) (by omega) (by omega) (fun j hj => by rcases Nat.lt_or_ge j k with q9 | q9; exact h3 j q9; rw [show j = k by omega]; rw [ruP, decide_eq_false c_65]; rfl) _ _ _ hW (lv_sub hl [2, 3, 4, 5, 0] rfl)
          · refine lv_aload hx hb dX6_isFit_68 (lv_at hl 0 rfl) ?_
            obtain ⟨q0, hq0⟩ := List.mem_iff_getElem?.mp (cw_rul hc (i := k) (by omega))
            refine x_getN X hW q0 hq0 1 rfl rfl iwX4 (by decide) wq_642 rfl dX6_isFit_70 ?_
            refine lv_aload_n hx hb dX6_isFit_73 rfl (lv_at hl 2 rfl) ?_
            obtain ⟨q0, hq0⟩ := List.mem_iff_getElem?.mp (cw_lot hc (i := i) hi)
            refine x_getN X hW q0 hq0 0 rfl rfl iwX3 (by decide) wq_515 rfl dX6_isFit_74 ?_
            refine n_icmp_ne hx hb rfl rfl (by have := hro k; omega) (by have := hfib i; omega) (tgt := 91) dX6_isFit_77 (by decide) (fun c_77 => ?_) (fun c_77 => ?_)
            · refine lv_iinc (v := (nI (k + 1))) (lv' := [(4, .int (nI (k + 1))), (5, .ref (ra k)), (0, .ref (z 0)), (1, .ref (la i)), (2, .ref (ia q)), (3, .int (zI (((akg q : Nat) : Int) - ((gra i : Nat) : Int))))]) hx hb dX6_isFit_91 hl (k := 5) rfl (nI_add _ _) (by decide) rfl (fun ls hl => ?_)
              refine lv_goto (tgt := 30) hx hb dX6_isFit_94 (by decide) ?_
              exact ih (k + 1) (by omega) (by omega) (fun j hj => by rcases Nat.lt_or_ge j k with q9 | q9; exact h3 j q9; rw [show j = k by omega]; rw [ruP, decide_eq_false c_77, Bool.and_false]; rfl) _ _ _ hW (lv_sub hl [2, 3, 4, 5, 0] rfl)
            · refine lv_iload_n hx hb dX6_isFit_80 rfl (lv_at hl 4 rfl) ?_
              refine lv_aload hx hb dX6_isFit_81 (lv_at hl 0 rfl) ?_
              obtain ⟨q0, hq0⟩ := List.mem_iff_getElem?.mp (cw_rul hc (i := k) (by omega))
              refine x_getN X hW q0 hq0 2 rfl rfl iwX4 (by decide) wq_644 rfl dX6_isFit_83 ?_
              refine z_icmp_lt hx hb rfl (nZ _) (by omega) (by have := hrs k; omega) (tgt := 91) dX6_isFit_86 (by decide) (fun c_86 => ?_) (fun c_86 => ?_)
              · refine lv_iinc (v := (nI (k + 1))) (lv' := [(4, .int (nI (k + 1))), (5, .ref (ra k)), (0, .ref (z 0)), (1, .ref (la i)), (2, .ref (ia q)), (3, .int (zI (((akg q : Nat) : Int) - ((gra i : Nat) : Int))))]) hx hb dX6_isFit_91 hl (k := 5) rfl (nI_add _ _) (by decide) rfl (fun ls hl => ?_)
                refine lv_goto (tgt := 30) hx hb dX6_isFit_94 (by decide) ?_
                exact ih (k + 1) (by omega) (by omega) (fun j hj => by rcases Nat.lt_or_ge j k with q9 | q9; exact h3 j q9; rw [show j = k by omega]; rw [ruP, decide_eq_false (show ¬ gra i + rs k ≤ akg q by omega), Bool.and_false]) _ _ _ hW (lv_sub hl [2, 3, 4, 5, 0] rfl)
              · refine lv_iconst (v := nI 1) hx hb dX6_isFit_89 (by decide) ?_
                exact ret_z X hW (v := (nI 1)) (⟨by rw [if_pos (by rw [suiB, decide_eq_true (fst1_lt (P := (ruP fib gra rf ro rs akf akg i q)) (k := k) (by omega) (by rw [ruP, decide_eq_true c_65, decide_eq_true c_77, decide_eq_true (show gra i + rs k ≤ akg q by omega)]; rfl)).1, Bool.or_true])], rfl⟩) rfl (by first | rfl | exact (pk_charN (by omega)).1) (by decide) (by decide) dX6_isFit_90
    exact loop (ru + 1) 0 (by omega) (by omega) (fun j hj => absurd hj (by omega)) _ _ _ hW (lv_sub hl [2, 3, 4, 1, 0] rfl)
  · refine lv_iload_n hx hb dX6_isFit_21 rfl (lv_at hl 0 rfl) ?_
    refine z_if_lt hx hb rfl (by omega) (tgt := 27) dX6_isFit_22 (by decide) (fun c_22 => ?_) (fun c_22 => ?_)
    · refine lv_iconst (v := nI 0) hx hb dX6_isFit_27 (by decide) ?_
      refine lv_istore (lv' := [(4, .int (nI 0)), (3, .int (zI ((((akg q) : Nat) : Int) - (((gra i) : Nat) : Int)))), (0, .ref (z 0)), (1, .ref (la i)), (2, .ref (ia q))]) hx hb dX6_isFit_28 hl (by decide) rfl (fun ls hl => ?_)
      have hno : (decide (fib i = akf q) && decide (gra i ≤ akg q)) = false := by rw [decide_eq_false (show ¬ gra i ≤ akg q by omega), Bool.and_false]
      have loop : ∀ (n : Nat) (k : Nat), ru + 1 ≤ k + n → k ≤ ru → (∀ j, j < k → (ruP fib gra rf ro rs akf akg i q) j = false) → ∀ (H : Heap) (locs : List Loc) (ls : Array Slot), Wd G A s w H locs → lv_has ls 6 [(0, .ref (z 0)), (1, .ref (la i)), (2, .ref (ia q)), (3, .int (zI (((akg q : Nat) : Int) - ((gra i : Nat) : Int)))), (4, .int (nI k))] → W p l e (RM 3 0 0) s m args below meth c H locs 0 0 (MQ below (Qi G A (fun r w2 => r = nI (if suiB fib gra rf ro rs ru akf akg i q = true then 1 else 0) ∧ w2 = w)) args s (RM 3 0 0).cells (RM 3 0 0).slots A) (F0 m 30 ls []) := by
        intro n
        induction n with
        | zero => intro k h1 hk2 h3; exact absurd h1 (by omega)
        | succ n ih =>
          intro k h1 hk2 h3 H locs ls hW hl
          refine lv_iload hx hb dX6_isFit_30 (lv_at hl 4 rfl) ?_
          refine lv_aload_n hx hb dX6_isFit_32 rfl (lv_at hl 0 rfl) ?_
          obtain ⟨q0, hq0⟩ := List.mem_iff_getElem?.mp (cw_mk hc)
          refine x_get X hW q0 hq0 2 rfl rfl iwX6 (by decide) wq_212 rfl dX6_isFit_33 ?_
          obtain ⟨r9, hL2⟩ := cw_l2 hc
          obtain ⟨q0, hq0⟩ := List.mem_iff_getElem?.mp (ls_mem hL2)
          refine go_i X hW (run_V X hW (As := []) (rest := [.int (nI k)]) 2 q0 hq0 (c_szP hL2 _) (gi_V wq_245 wq_246 wq_247 wq_64 wq_248) rfl hyJx4a65c_size_8abf5 rfl rfl rfl hl.1 (Nat.le_of_ble_eq_true rfl) ⟨Nat.le_of_ble_eq_true rfl, Nat.le_of_ble_eq_true rfl⟩ ⟨by decide, by decide⟩ dX6_isFit_36) (fun r w2 H locs hp hW => ?_)
          obtain ⟨hr0, hw2⟩ := hp
          subst hr0
          rw [hw2] at hW
          refine n_icmp_ge hx hb rfl rfl (by omega) (by omega) (tgt := 97) dX6_isFit_39 (by decide) (fun c_39 => ?_) (fun c_39 => ?_)
          · refine lv_iconst (v := nI 0) hx hb dX6_isFit_97 (by decide) ?_
            exact ret_z X hW (v := (nI 0)) (⟨by rw [if_neg (by rw [suiB, fst1_no (fun j hj => h3 j (by omega)), decide_eq_false (Nat.lt_irrefl ru), Bool.or_false, hno]; decide)], rfl⟩) rfl (by first | rfl | exact (pk_charN (by omega)).1) (by decide) (by decide) dX6_isFit_98
          · refine lv_aload_n hx hb dX6_isFit_42 rfl (lv_at hl 0 rfl) ?_
            obtain ⟨q0, hq0⟩ := List.mem_iff_getElem?.mp (cw_mk hc)
            refine x_get X hW q0 hq0 2 rfl rfl iwX6 (by decide) wq_212 rfl dX6_isFit_43 ?_
            refine lv_iload hx hb dX6_isFit_46 (lv_at hl 4 rfl) ?_
            obtain ⟨r9, hL2⟩ := cw_l2 hc
            obtain ⟨q0, hq0⟩ := List.mem_iff_getElem?.mp (ls_mem hL2)
            refine go_r X hW (run_V X hW (As := [.int (nI k)]) (rest := []) 2 q0 hq0 (c_gtP hL2 h2 (by omega) _) (gi_V wq_273 wq_274 wq_275 wq_64 wq_276) rfl hyJx4a65c_get_915e3 rfl rfl rfl hl.1 (Nat.le_of_ble_eq_true rfl) ⟨Nat.le_of_ble_eq_true rfl, Nat.le_of_ble_eq_true rfl⟩ ⟨by decide, by decide⟩ dX6_isFit_48) (fun b w2 H locs hp hW => ?_)
            obtain ⟨hr0, hw2⟩ := hp
            subst hr0
            rw [hw2] at hW
            refine x_cast X hW (cw_rul hc (i := k) (by omega)) rfl wq_634 wq_314 dX6_isFit_51 ?_
            refine lv_astore (lv' := [(5, .ref (ra k)), (0, .ref (z 0)), (1, .ref (la i)), (2, .ref (ia q)), (3, .int (zI (((akg q : Nat) : Int) - ((gra i : Nat) : Int)))), (4, .int (nI k))]) hx hb dX6_isFit_54 hl (by decide) rfl (fun ls hl => ?_)
            refine lv_aload hx hb dX6_isFit_56 (lv_at hl 0 rfl) ?_
            obtain ⟨q0, hq0⟩ := List.mem_iff_getElem?.mp (cw_rul hc (i := k) (by omega))
            refine x_getN X hW q0 hq0 0 rfl rfl iwX4 (by decide) wq_640 rfl dX6_isFit_58 ?_
            refine lv_aload_n hx hb dX6_isFit_61 rfl (lv_at hl 3 rfl) ?_
            obtain ⟨q0, hq0⟩ := List.mem_iff_getElem?.mp hmi
            refine x_getN X hW q0 hq0 0 rfl rfl iwX2 (by decide) wq_744 rfl dX6_isFit_62 ?_
            refine n_icmp_ne hx hb rfl rfl (by have := hrf k; omega) (by have := hakf q; omega) (tgt := 91) dX6_isFit_65 (by decide) (fun c_65 => ?_) (fun c_65 => ?_)
            · refine lv_iinc (v := (nI (k + 1))) (lv' := [(4, .int (nI (k + 1))), (5, .ref (ra k)), (0, .ref (z 0)), (1, .ref (la i)), (2, .ref (ia q)), (3, .int (zI (((akg q : Nat) : Int) - ((gra i : Nat) : Int))))]) hx hb dX6_isFit_91 hl (k := 5) rfl (nI_add _ _) (by decide) rfl (fun ls hl => ?_)
              refine lv_goto (tgt := 30) hx hb dX6_isFit_94 (by decide) ?_
              exact ih (k + 1) (by omega) (by omega) (fun j hj => by rcases Nat.lt_or_ge j k with q9 | q9; exact h3 j q9; rw [show j = k by omega]; rw [ruP, decide_eq_false c_65]; rfl) _ _ _ hW (lv_sub hl [2, 3, 4, 5, 0] rfl)
            · refine lv_aload hx hb dX6_isFit_68 (lv_at hl 0 rfl) ?_
              obtain ⟨q0, hq0⟩ := List.mem_iff_getElem?.mp (cw_rul hc (i := k) (by omega))
              refine x_getN X hW q0 hq0 1 rfl rfl iwX4 (by decide) wq_642 rfl dX6_isFit_70 ?_
              refine lv_aload_n hx hb dX6_isFit_73 rfl (lv_at hl 2 rfl) ?_
              obtain ⟨q0, hq0⟩ := List.mem_iff_getElem?.mp (cw_lot hc (i := i) hi)
              refine x_getN X hW q0 hq0 0 rfl rfl iwX3 (by decide) wq_515 rfl dX6_isFit_74 ?_
              refine n_icmp_ne hx hb rfl rfl (by have := hro k; omega) (by have := hfib i; omega) (tgt := 91) dX6_isFit_77 (by decide) (fun c_77 => ?_) (fun c_77 => ?_)
              · refine lv_iinc (v := (nI (k + 1))) (lv' := [(4, .int (nI (k + 1))), (5, .ref (ra k)), (0, .ref (z 0)), (1, .ref (la i)), (2, .ref (ia q)), (3, .int (zI (((akg q : Nat) : Int) - ((gra i : Nat) : Int))))]) hx hb dX6_isFit_91 hl (k := 5) rfl (nI_add _ _) (by decide) rfl (fun ls hl => ?_)
                refine lv_goto (tgt := 30) hx hb dX6_isFit_94 (by decide) ?_
                exact ih (k + 1) (by omega) (by omega) (fun j hj => by rcases Nat.lt_or_ge j k with q9 | q9; exact h3 j q9; rw [show j = k by omega]; rw [ruP, decide_eq_false c_77, Bool.and_false]; rfl) _ _ _ hW (lv_sub hl [2, 3, 4, 5, 0] rfl)
              · refine lv_iload_n hx hb dX6_isFit_80 rfl (lv_at hl 4 rfl) ?_
                refine lv_aload hx hb dX6_isFit_81 (lv_at hl 0 rfl) ?_
                obtain ⟨q0, hq0⟩ := List.mem_iff_getElem?.mp (cw_rul hc (i := k) (by omega))
                refine x_getN X hW q0 hq0 2 rfl rfl iwX4 (by decide) wq_644 rfl dX6_isFit_83 ?_
                refine z_icmp_lt hx hb rfl (nZ _) (by omega) (by have := hrs k; omega) (tgt := 91) dX6_isFit_86 (by decide) (fun c_86 => ?_) (fun c_86 => ?_)
                · refine lv_iinc (v := (nI (k + 1))) (lv' := [(4, .int (nI (k + 1))), (5, .ref (ra k)), (0, .ref (z 0)), (1, .ref (la i)), (2, .ref (ia q)), (3, .int (zI (((akg q : Nat) : Int) - ((gra i : Nat) : Int))))]) hx hb dX6_isFit_91 hl (k := 5) rfl (nI_add _ _) (by decide) rfl (fun ls hl => ?_)
                  refine lv_goto (tgt := 30) hx hb dX6_isFit_94 (by decide) ?_
                  exact ih (k + 1) (by omega) (by omega) (fun j hj => by rcases Nat.lt_or_ge j k with q9 | q9; exact h3 j q9; rw [show j = k by omega]; rw [ruP, decide_eq_false (show ¬ gra i + rs k ≤ akg q by omega), Bool.and_false]) _ _ _ hW (lv_sub hl [2, 3, 4, 5, 0] rfl)
                · refine lv_iconst (v := nI 1) hx hb dX6_isFit_89 (by decide) ?_
                  exact ret_z X hW (v := (nI 1)) (⟨by rw [if_pos (by rw [suiB, decide_eq_true (fst1_lt (P := (ruP fib gra rf ro rs akf akg i q)) (k := k) (by omega) (by rw [ruP, decide_eq_true c_65, decide_eq_true c_77, decide_eq_true (show gra i + rs k ≤ akg q by omega)]; rfl)).1, Bool.or_true])], rfl⟩) rfl (by first | rfl | exact (pk_charN (by omega)).1) (by decide) (by decide) dX6_isFit_90
      exact loop (ru + 1) 0 (by omega) (by omega) (fun j hj => absurd hj (by omega)) _ _ _ hW (lv_sub hl [2, 3, 4, 1, 0] rfl)
    · refine lv_iconst (v := nI 1) hx hb dX6_isFit_25 (by decide) ?_
      exact ret_z X hW (v := (nI 1)) (⟨by rw [if_pos (by rw [suiB, decide_eq_true c_18, decide_eq_true (show gra i ≤ akg q by omega)]; rfl)], rfl⟩) rfl (by first | rfl | exact (pk_charN (by omega)).1) (by decide) (by decide) dX6_isFit_26

