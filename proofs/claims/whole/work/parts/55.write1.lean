set_option maxRecDepth 100000 in
set_option maxHeartbeats 4000000 in
theorem c_X6_withdraw (l : Launch) (hl9 : l.stackTraces = false) (G : Gt) (z f h : Nat → Nat) (ol ob sc wc : Nat) (tk : Int) (lo bi ru : Nat) (fib gra res lst : Nat → Nat) (byr : Nat → Int) (rf ro rs bid pri bst rea : Nat → Nat) (rvl pad : Nat → Int) (itm akf akg : Nat → Nat) (gt : Nat → Int) (Y w : va_W) (v : Int) (hI : CIa lo bi ru ol ob fib gra res lst bst rea bid pri itm akf akg rf ro rs) (hR : CR G z f h ol ob sc wc tk lo bi ru fib gra res lst byr rf ro rs bid pri bst rea rvl pad itm akf akg gt Y w) (hv : iR v) : Xi l G yX6_withdraw (ww yX6_withdraw cX6_withdraw 3 (some FieldType.int)) (RM 6 3 18) [.ref (z 0), .int (zI v)] w (fun r w2 => ((0 ≤ v ∧ v < ((lo : Nat) : Int)) ∧ lst v.toNat = 111) ∧ r = nI (ol - 1) ∧ CR G z f h (ol - 1) ob sc wc tk lo bi ru fib gra res (va_up lst v.toNat 119) byr rf ro rs bid pri bst rea rvl pad itm akf akg gt Y w2) (fun E w2 => (E = "java/util/NoSuchElementException" ∧ (¬ (0 ≤ v ∧ v < ((lo : Nat) : Int))) ∧ w2 = w) ∨ (E = "java/lang/IllegalStateException" ∧ ((0 ≤ v ∧ v < ((lo : Nat) : Int)) ∧ lst v.toNat ≠ 111) ∧ w2 = w)) := by
  refine Xi.intro (by decide) (Nat.le_of_ble_eq_true rfl) ?_
  intro p e s m args below meth c A X hout hW ls hl
  have hx := X.exec
  have hb := X.bytes
  have hl : lv_has ls 3 [(0, .ref (z 0)), (1, .int (zI v))] := hl
  obtain ⟨e0, k0, m0, e1, k1, m1, e2, k2, m2, la, ra, ba, wo, we, wk, wm, ia, h0, h1, h2, h3, hc⟩ := hR
  obtain ⟨hlo, hbi, hru, hol, hob, hfib, hgra, hres, hlst, hbst, hrea, hbid, hpri, hitm, hakf, hakg, hrf, hro, hrs, hol2, hob2⟩ := hI
  refine lv_aload_n hx hb dX6_withdraw_0 rfl (lv_at hl 0 rfl) ?_
  refine lv_iload_n hx hb dX6_withdraw_1 rfl (lv_at hl 1 rfl) ?_
  obtain ⟨q0, hq0⟩ := List.mem_iff_getElem?.mp (cw_mk hc)
  refine go_xr X hout hW (run_XV X hW (As := [.int (zI v)]) (rest := []) 9 q0 hq0 (c_X6_knownLot l hl9 G _ _ _ _ _ _ _ _ _ _ _ _ _ _ _ _ _ _ _ _ _ _ _ _ _ _ _ _ _ _ _ _ _ _ _ _ _ _ _ _ _ _ _ _ _ _ _ _ v hc h0 hlo (by omega) _) (gi_V wq_604 wq_606 wq_28 wq_61 wq_607) rfl hyX6_knownLot rfl rfl rfl hl.1 (Nat.le_of_ble_eq_true rfl) ⟨Nat.le_of_ble_eq_true rfl, Nat.le_of_ble_eq_true rfl⟩ ⟨by decide, by decide⟩ dX6_withdraw_2) (fun _ _ h => Or.inl h) (Nat.le_of_ble_eq_true rfl) (Nat.le_of_ble_eq_true rfl) (fun b w2 H locs hp hW => ?_)
  obtain ⟨hk2, hr0, hw2⟩ := hp
  subst hr0
  rw [hw2] at hW
  refine lv_astore_n (lv' := [(2, .ref (la v.toNat)), (0, .ref (z 0)), (1, .int (zI v))]) hx hb dX6_withdraw_5 rfl hl (by decide) rfl (fun ls hl => ?_)
  refine lv_aload_n hx hb dX6_withdraw_6 rfl (lv_at hl 0 rfl) ?_
  obtain ⟨q0, hq0⟩ := List.mem_iff_getElem?.mp (cw_lot hc (i := v.toNat) (by omega))
  refine x_getN X hW q0 hq0 3 rfl rfl iwX3 (by decide) wq_521 rfl dX6_withdraw_7 ?_
  refine lv_bipush (v := nI 111) hx hb dX6_withdraw_10 (by decide) ?_
  refine n_icmp_eq hx hb rfl rfl (by have := hlst v.toNat; omega) (by omega) (tgt := 25) dX6_withdraw_12 (by decide) (fun c_12 => ?_) (fun c_12 => ?_)
  · refine lv_aload_n hx hb dX6_withdraw_25 rfl (lv_at hl 0 rfl) ?_
    refine lv_bipush (v := nI 119) hx hb dX6_withdraw_26 (by decide) ?_
    obtain ⟨q0, hq0⟩ := List.mem_iff_getElem?.mp (cw_lot hc (i := v.toNat) (by omega))
    refine x_putN X hW q0 hq0 3 (w2 := _) rfl rfl iwX3 tyX3_ok nmX3 (by decide) wq_521 rfl rfl (pk_charN (by omega)).1 (pk_charN (by omega)).2 (Nat.le_of_ble_eq_true rfl) dX6_withdraw_28 (fun H locs hW => ?_)
    obtain ⟨w, hW, hc⟩ : ∃ w9, Wd G A s w9 H locs ∧ w9.Perm (CW G z f h ol ob sc wc tk e0 k0 m0 e1 k1 m1 e2 k2 m2 lo bi ru la fib gra res (va_up lst v.toNat 119) byr ra rf ro rs ba bid wo pri bst rea rvl pad we wk wm itm ia akf akg gt Y) := ⟨_, hW, Fc.set (cw_lst hc (i := v.toNat) (by omega) 119) hq0⟩
    have hpo := bsum_pos (p := fun k => decide (lst k = 111)) (g := fun _ => 1) (n := lo) (k := v.toNat) (by omega) (decide_eq_true (by omega))
    refine lv_aload_n hx hb dX6_withdraw_31 rfl (lv_at hl 1 rfl) ?_
    refine lv_dup hx hb dX6_withdraw_32 rfl ?_
    obtain ⟨q0, hq0⟩ := List.mem_iff_getElem?.mp (cw_mk hc)
    refine x_get X hW q0 hq0 5 rfl rfl iwX6 (by decide) wq_215 rfl dX6_withdraw_33 ?_
    refine lv_iconst (v := nI 1) hx hb dX6_withdraw_36 (by decide) ?_
    refine n_isub hx hb (by omega) dX6_withdraw_37 ?_
    obtain ⟨q0, hq0⟩ := List.mem_iff_getElem?.mp (cw_mk hc)
    refine x_put X hW q0 hq0 5 (w2 := _) rfl rfl iwX6 tyX6_ok nmX6 (by decide) wq_215 rfl rfl rfl rfl (Nat.le_of_ble_eq_true rfl) dX6_withdraw_38 (fun H locs hW => ?_)
    obtain ⟨w, hW, hc⟩ : ∃ w9, Wd G A s w9 H locs ∧ w9.Perm (CW G z f h (ol - 1) ob sc wc tk e0 k0 m0 e1 k1 m1 e2 k2 m2 lo bi ru la fib gra res (va_up lst v.toNat 119) byr ra rf ro rs ba bid wo pri bst rea rvl pad we wk wm itm ia akf akg gt Y) := ⟨_, hW, Fc.set (cw_mkU hc (ol - 1) ob sc wc tk) hq0⟩
    refine lv_aload_n hx hb dX6_withdraw_41 rfl (lv_at hl 1 rfl) ?_
    obtain ⟨q0, hq0⟩ := List.mem_iff_getElem?.mp (cw_mk hc)
    refine x_get X hW q0 hq0 5 rfl rfl iwX6 (by decide) wq_215 rfl dX6_withdraw_42 ?_
    exact vx_ret (ret_i X hW (v := (nI (ol - 1))) (⟨(by (repeat' apply And.intro) <;> first | assumption | omega), rfl, ⟨e0, k0, m0, e1, k1, m1, e2, k2, m2, la, ra, ba, wo, we, wk, wm, ia, h0, h1, h2, h3, hc⟩⟩) rfl (by decide) (by decide) dX6_withdraw_45)
  · exact x_thrS X hout hW hl9 (cls := "java/lang/IllegalStateException") 3 rfl pl_ISE fit_ISE names_ok wq_493 wq_72 at1_ISE at2_ISE good_ISE hl.1 dX6_withdraw_15 dX6_withdraw_18 dX6_withdraw_19 dX6_withdraw_21 dX6_withdraw_24 (Nat.le_of_ble_eq_true rfl) (Nat.le_of_ble_eq_true rfl) (Nat.le_of_ble_eq_true rfl) (Nat.le_of_ble_eq_true rfl) (Or.inr (⟨rfl, (by (repeat' apply And.intro) <;> first | assumption | omega), rfl⟩)) (Nat.le_of_ble_eq_true rfl) (Nat.le_of_ble_eq_true rfl)

set_option maxRecDepth 100000 in
set_option maxHeartbeats 4000000 in
theorem c_X6_cancel (l : Launch) (hl9 : l.stackTraces = false) (G : Gt) (z f h : Nat → Nat) (ol ob sc wc : Nat) (tk : Int) (lo bi ru : Nat) (fib gra res lst : Nat → Nat) (byr : Nat → Int) (rf ro rs bid pri bst rea : Nat → Nat) (rvl pad : Nat → Int) (itm akf akg : Nat → Nat) (gt : Nat → Int) (Y w : va_W) (v : Int) (hI : CIa lo bi ru ol ob fib gra res lst bst rea bid pri itm akf akg rf ro rs) (hR : CR G z f h ol ob sc wc tk lo bi ru fib gra res lst byr rf ro rs bid pri bst rea rvl pad itm akf akg gt Y w) (hv : iR v) : Xi l G yX6_cancel (ww yX6_cancel cX6_cancel 3 (some FieldType.int)) (RM 6 3 18) [.ref (z 0), .int (zI v)] w (fun r w2 => ((0 ≤ v ∧ v < ((bi : Nat) : Int)) ∧ bst v.toNat = 111) ∧ r = nI (pri v.toNat) ∧ CR G z f h ol (ob - 1) sc wc tk lo bi ru fib gra res lst byr rf ro rs bid pri (va_up bst v.toNat 99) rea rvl pad itm akf akg gt Y w2) (fun E w2 => (E = "java/util/NoSuchElementException" ∧ (¬ (0 ≤ v ∧ v < ((bi : Nat) : Int))) ∧ w2 = w) ∨ (E = "java/lang/IllegalStateException" ∧ ((0 ≤ v ∧ v < ((bi : Nat) : Int)) ∧ bst v.toNat ≠ 111) ∧ w2 = w)) := by
  refine Xi.intro (by decide) (Nat.le_of_ble_eq_true rfl) ?_
  intro p e s m args below meth c A X hout hW ls hl
  have hx := X.exec
  have hb := X.bytes
  have hl : lv_has ls 3 [(0, .ref (z 0)), (1, .int (zI v))] := hl
  obtain ⟨e0, k0, m0, e1, k1, m1, e2, k2, m2, la, ra, ba, wo, we, wk, wm, ia, h0, h1, h2, h3, hc⟩ := hR
  obtain ⟨hlo, hbi, hru, hol, hob, hfib, hgra, hres, hlst, hbst, hrea, hbid, hpri, hitm, hakf, hakg, hrf, hro, hrs, hol2, hob2⟩ := hI
  refine lv_aload_n hx hb dX6_cancel_0 rfl (lv_at hl 0 rfl) ?_
  refine lv_iload_n hx hb dX6_cancel_1 rfl (lv_at hl 1 rfl) ?_
  obtain ⟨q0, hq0⟩ := List.mem_iff_getElem?.mp (cw_mk hc)
  refine go_xr X hout hW (run_XV X hW (As := [.int (zI v)]) (rest := []) 9 q0 hq0 (c_X6_knownOpenBid l hl9 G _ _ _ _ _ _ _ _ _ _ _ _ _ _ _ _ _ _ _ _ _ _ _ _ _ _ _ _ _ _ _ _ _ _ _ _ _ _ _ _ _ _ _ _ _ _ _ _ v hc h1 hbi hbst (by omega) _) (gi_V wq_763 wq_765 wq_32 wq_61 wq_766) rfl hyX6_knownOpenBid rfl rfl rfl hl.1 (Nat.le_of_ble_eq_true rfl) ⟨Nat.le_of_ble_eq_true rfl, Nat.le_of_ble_eq_true rfl⟩ ⟨by decide, by decide⟩ dX6_cancel_2) (fun _ _ h => h) (Nat.le_of_ble_eq_true rfl) (Nat.le_of_ble_eq_true rfl) (fun b w2 H locs hp hW => ?_)
  obtain ⟨hk2, hr0, hw2⟩ := hp
  subst hr0
  rw [hw2] at hW
  refine lv_astore_n (lv' := [(2, .ref (ba v.toNat)), (0, .ref (z 0)), (1, .int (zI v))]) hx hb dX6_cancel_5 rfl hl (by decide) rfl (fun ls hl => ?_)
  refine lv_aload_n hx hb dX6_cancel_6 rfl (lv_at hl 0 rfl) ?_
  refine lv_bipush (v := nI 99) hx hb dX6_cancel_7 (by decide) ?_
  obtain ⟨q0, hq0⟩ := List.mem_iff_getElem?.mp (cw_bid hc (b := v.toNat) (by omega))
  refine x_putN X hW q0 hq0 3 (w2 := _) rfl rfl iwX0 tyX0_ok nmX0 (by decide) wq_699 rfl rfl (pk_charN (by omega)).1 (pk_charN (by omega)).2 (Nat.le_of_ble_eq_true rfl) dX6_cancel_9 (fun H locs hW => ?_)
  obtain ⟨w, hW, hc⟩ : ∃ w9, Wd G A s w9 H locs ∧ w9.Perm (CW G z f h ol ob sc wc tk e0 k0 m0 e1 k1 m1 e2 k2 m2 lo bi ru la fib gra res lst byr ra rf ro rs ba bid wo pri (va_up bst v.toNat 99) rea rvl pad we wk wm itm ia akf akg gt Y) := ⟨_, hW, Fc.set (cw_bst hc (i := v.toNat) (by omega) 99) hq0⟩
  have hpo := bsum_pos (p := fun k => decide (bst k = 111)) (g := fun _ => 1) (n := bi) (k := v.toNat) (by omega) (decide_eq_true (by omega))
  refine lv_aload_n hx hb dX6_cancel_12 rfl (lv_at hl 1 rfl) ?_
  refine lv_dup hx hb dX6_cancel_13 rfl ?_
  obtain ⟨q0, hq0⟩ := List.mem_iff_getElem?.mp (cw_mk hc)
  refine x_get X hW q0 hq0 6 rfl rfl iwX6 (by decide) wq_216 rfl dX6_cancel_14 ?_
  refine lv_iconst (v := nI 1) hx hb dX6_cancel_17 (by decide) ?_
  refine n_isub hx hb (by omega) dX6_cancel_18 ?_
  obtain ⟨q0, hq0⟩ := List.mem_iff_getElem?.mp (cw_mk hc)
  refine x_put X hW q0 hq0 6 (w2 := _) rfl rfl iwX6 tyX6_ok nmX6 (by decide) wq_216 rfl rfl rfl rfl (Nat.le_of_ble_eq_true rfl) dX6_cancel_19 (fun H locs hW => ?_)
  obtain ⟨w, hW, hc⟩ : ∃ w9, Wd G A s w9 H locs ∧ w9.Perm (CW G z f h ol (ob - 1) sc wc tk e0 k0 m0 e1 k1 m1 e2 k2 m2 lo bi ru la fib gra res lst byr ra rf ro rs ba bid wo pri (va_up bst v.toNat 99) rea rvl pad we wk wm itm ia akf akg gt Y) := ⟨_, hW, Fc.set (cw_mkU hc ol (ob - 1) sc wc tk) hq0⟩
  refine lv_aload_n hx hb dX6_cancel_22 rfl (lv_at hl 0 rfl) ?_
  obtain ⟨q0, hq0⟩ := List.mem_iff_getElem?.mp (cw_bid hc (b := v.toNat) (by omega))
  refine x_getN X hW q0 hq0 2 rfl rfl iwX0 (by decide) wq_697 rfl dX6_cancel_23 ?_
  exact vx_ret (ret_i X hW (v := (nI (pri v.toNat))) (⟨(by (repeat' apply And.intro) <;> first | assumption | omega), rfl, ⟨e0, k0, m0, e1, k1, m1, e2, k2, m2, la, ra, ba, wo, we, wk, wm, ia, h0, h1, h2, h3, hc⟩⟩) rfl (by decide) (by decide) dX6_cancel_26)

set_option maxRecDepth 100000 in
set_option maxHeartbeats 4000000 in
theorem c_X6_raise (l : Launch) (hl9 : l.stackTraces = false) (G : Gt) (z f h : Nat → Nat) (ol ob sc wc : Nat) (tk : Int) (lo bi ru : Nat) (fib gra res lst : Nat → Nat) (byr : Nat → Int) (rf ro rs bid pri bst rea : Nat → Nat) (rvl pad : Nat → Int) (itm akf akg : Nat → Nat) (gt : Nat → Int) (Y w : va_W) (v y : Int) (hI : CIa lo bi ru ol ob fib gra res lst bst rea bid pri itm akf akg rf ro rs) (hR : CR G z f h ol ob sc wc tk lo bi ru fib gra res lst byr rf ro rs bid pri bst rea rvl pad itm akf akg gt Y w) (hv : iR v) (hy : iR y) : Xi l G yX6_raise (ww yX6_raise cX6_raise 5 (some FieldType.int)) (RM 6 4 24) [.ref (z 0), .int (zI v), .int (zI y)] w (fun r w2 => ((0 ≤ v ∧ v < ((bi : Nat) : Int)) ∧ bst v.toNat = 111 ∧ (pri v.toNat : Int) < y ∧ y ≤ 9999) ∧ r = nI (pri v.toNat) ∧ CR G z f h ol ob sc wc tk lo bi ru fib gra res lst byr rf ro rs bid (va_up pri v.toNat y.toNat) bst rea rvl pad itm akf akg gt Y w2) (fun E w2 => (E = "java/util/NoSuchElementException" ∧ (¬ (0 ≤ v ∧ v < ((bi : Nat) : Int))) ∧ w2 = w) ∨ (E = "java/lang/IllegalStateException" ∧ ((0 ≤ v ∧ v < ((bi : Nat) : Int)) ∧ bst v.toNat ≠ 111) ∧ w2 = w) ∨ (E = "java/lang/IllegalArgumentException" ∧ ((0 ≤ v ∧ v < ((bi : Nat) : Int)) ∧ bst v.toNat = 111 ∧ (y ≤ pri v.toNat ∨ 9999 < y)) ∧ w2 = w)) := by
  refine Xi.intro (by decide) (Nat.le_of_ble_eq_true rfl) ?_
  intro p e s m args below meth c A X hout hW ls hl
  have hx := X.exec
  have hb := X.bytes
  have hl : lv_has ls 5 [(0, .ref (z 0)), (1, .int (zI v)), (2, .int (zI y))] := hl
  obtain ⟨e0, k0, m0, e1, k1, m1, e2, k2, m2, la, ra, ba, wo, we, wk, wm, ia, h0, h1, h2, h3, hc⟩ := hR
  obtain ⟨hlo, hbi, hru, hol, hob, hfib, hgra, hres, hlst, hbst, hrea, hbid, hpri, hitm, hakf, hakg, hrf, hro, hrs, hol2, hob2⟩ := hI
  refine lv_aload_n hx hb dX6_raise_0 rfl (lv_at hl 0 rfl) ?_
  refine lv_iload_n hx hb dX6_raise_1 rfl (lv_at hl 1 rfl) ?_
  obtain ⟨q0, hq0⟩ := List.mem_iff_getElem?.mp (cw_mk hc)
  refine go_xr X hout hW (run_XV X hW (As := [.int (zI v)]) (rest := []) 9 q0 hq0 (c_X6_knownOpenBid l hl9 G _ _ _ _ _ _ _ _ _ _ _ _ _ _ _ _ _ _ _ _ _ _ _ _ _ _ _ _ _ _ _ _ _ _ _ _ _ _ _ _ _ _ _ _ _ _ _ _ v hc h1 hbi hbst (by omega) _) (gi_V wq_763 wq_765 wq_32 wq_61 wq_766) rfl hyX6_knownOpenBid rfl rfl rfl hl.1 (Nat.le_of_ble_eq_true rfl) ⟨Nat.le_of_ble_eq_true rfl, Nat.le_of_ble_eq_true rfl⟩ ⟨by decide, by decide⟩ dX6_raise_2) (fun _ _ h => by rcases h with h | h; exact Or.inl h; exact Or.inr (Or.inl h)) (Nat.le_of_ble_eq_true rfl) (Nat.le_of_ble_eq_true rfl) (fun b w2 H locs hp hW => ?_)
  obtain ⟨hk2, hr0, hw2⟩ := hp
  subst hr0
  rw [hw2] at hW
  refine lv_astore_n (lv' := [(3, .ref (ba v.toNat)), (0, .ref (z 0)), (1, .int (zI v)), (2, .int (zI y))]) hx hb dX6_raise_5 rfl hl (by decide) rfl (fun ls hl => ?_)
  refine lv_aload_n hx hb dX6_raise_6 rfl (lv_at hl 0 rfl) ?_
  obtain ⟨q0, hq0⟩ := List.mem_iff_getElem?.mp (cw_bid hc (b := v.toNat) (by omega))
  refine x_getN X hW q0 hq0 2 rfl rfl iwX0 (by decide) wq_697 rfl dX6_raise_7 ?_
  refine lv_istore (lv' := [(4, .int (nI (pri v.toNat))), (3, .ref (ba v.toNat)), (0, .ref (z 0)), (1, .int (zI v)), (2, .int (zI y))]) hx hb dX6_raise_10 hl (by decide) rfl (fun ls hl => ?_)
  refine lv_iload_n hx hb dX6_raise_12 rfl (lv_at hl 4 rfl) ?_
  refine lv_iload hx hb dX6_raise_13 (lv_at hl 0 rfl) ?_
  refine z_icmp_le hx hb rfl (nZ _) (by omega) (by have := hpri v.toNat; omega) (tgt := 25) dX6_raise_15 (by decide) (fun c_15 => ?_) (fun c_15 => ?_)
  · exact x_thrS X hout hW hl9 (cls := "java/lang/IllegalArgumentException") 13 rfl pl_IAE fit_IAE names_ok wq_421 wq_71 at1_IAE at2_IAE good_IAE hl.1 dX6_raise_25 dX6_raise_28 dX6_raise_29 dX6_raise_31 dX6_raise_34 (Nat.le_of_ble_eq_true rfl) (Nat.le_of_ble_eq_true rfl) (Nat.le_of_ble_eq_true rfl) (Nat.le_of_ble_eq_true rfl) (Or.inr (Or.inr (⟨rfl, (by (repeat' apply And.intro) <;> first | assumption | omega), rfl⟩))) (Nat.le_of_ble_eq_true rfl) (Nat.le_of_ble_eq_true rfl)
  · refine lv_iload_n hx hb dX6_raise_18 rfl (lv_at hl 4 rfl) ?_
    refine lv_sipush (v := nI 9999) hx hb dX6_raise_19 (by decide) ?_
    refine z_icmp_le hx hb rfl (nZ _) (by omega) (by omega) (tgt := 35) dX6_raise_22 (by decide) (fun c_22 => ?_) (fun c_22 => ?_)
    · refine lv_aload_n hx hb dX6_raise_35 rfl (lv_at hl 1 rfl) ?_
      refine lv_iload_n hx hb dX6_raise_36 rfl (lv_at hl 4 rfl) ?_
      refine r_zn (a := y.toNat) (by omega) ?_
      obtain ⟨q0, hq0⟩ := List.mem_iff_getElem?.mp (cw_bid hc (b := v.toNat) (by omega))
      refine x_putN X hW q0 hq0 2 (w2 := _) rfl rfl iwX0 tyX0_ok nmX0 (by decide) wq_697 rfl rfl rfl rfl (Nat.le_of_ble_eq_true rfl) dX6_raise_37 (fun H locs hW => ?_)
      obtain ⟨w, hW, hc⟩ : ∃ w9, Wd G A s w9 H locs ∧ w9.Perm (CW G z f h ol ob sc wc tk e0 k0 m0 e1 k1 m1 e2 k2 m2 lo bi ru la fib gra res lst byr ra rf ro rs ba bid wo (va_up pri v.toNat y.toNat) bst rea rvl pad we wk wm itm ia akf akg gt Y) := ⟨_, hW, Fc.set (cw_pri hc (i := v.toNat) (by omega) y.toNat) hq0⟩
      refine lv_iload hx hb dX6_raise_40 (lv_at hl 0 rfl) ?_
      exact vx_ret (ret_i X hW (v := (nI (pri v.toNat))) (⟨(by (repeat' apply And.intro) <;> first | assumption | omega), rfl, ⟨e0, k0, m0, e1, k1, m1, e2, k2, m2, la, ra, ba, wo, we, wk, wm, ia, h0, h1, h2, h3, hc⟩⟩) rfl (by decide) (by decide) dX6_raise_42)
    · exact x_thrS X hout hW hl9 (cls := "java/lang/IllegalArgumentException") 13 rfl pl_IAE fit_IAE names_ok wq_421 wq_71 at1_IAE at2_IAE good_IAE hl.1 dX6_raise_25 dX6_raise_28 dX6_raise_29 dX6_raise_31 dX6_raise_34 (Nat.le_of_ble_eq_true rfl) (Nat.le_of_ble_eq_true rfl) (Nat.le_of_ble_eq_true rfl) (Nat.le_of_ble_eq_true rfl) (Or.inr (Or.inr (⟨rfl, (by (repeat' apply And.intro) <;> first | assumption | omega), rfl⟩))) (Nat.le_of_ble_eq_true rfl) (Nat.le_of_ble_eq_true rfl)

set_option maxRecDepth 100000 in
set_option maxHeartbeats 4000000 in
theorem c_X6_offer (l : Launch) (hl9 : l.stackTraces = false) (G : Gt) (z f h : Nat → Nat) (ol ob sc wc : Nat) (tk : Int) (lo bi ru : Nat) (fib gra res lst : Nat → Nat) (byr : Nat → Int) (rf ro rs bid pri bst rea : Nat → Nat) (rvl pad : Nat → Int) (itm akf akg : Nat → Nat) (gt : Nat → Int) (Y w : va_W) (v y : Int) (g : Nat) (hI : CIa lo bi ru ol ob fib gra res lst bst rea bid pri itm akf akg rf ro rs) (hR : CR G z f h ol ob sc wc tk lo bi ru fib gra res lst byr rf ro rs bid pri bst rea rvl pad itm akf akg gt Y w) (hv : iR v) (hy : iR y) (hg : g < 65536) : Xi l G yX6_offer (ww yX6_offer cX6_offer 4 (some FieldType.int)) (RM 6 3 112) [.ref (z 0), .int (zI v), .int (nI g), .int (zI y)] w (fun r w2 => ((0 ≤ v ∧ v ≤ 3 ∧ 97 ≤ g ∧ g ≤ 101 ∧ 0 ≤ y ∧ y ≤ 999) ∧ ol < 8 ∧ lo < 40) ∧ r = nI lo ∧ CR G z f h (ol + 1) ob sc wc tk (lo + 1) bi ru (va_up fib lo v.toNat) (va_up gra lo g) (va_up res lo y.toNat) (va_up lst lo 111) (va_up byr lo (-1)) rf ro rs bid pri bst rea rvl pad itm akf akg gt Y w2) (fun E w2 => (E = "java/lang/IllegalArgumentException" ∧ (¬ (0 ≤ v ∧ v ≤ 3 ∧ 97 ≤ g ∧ g ≤ 101 ∧ 0 ≤ y ∧ y ≤ 999)) ∧ w2 = w) ∨ (E = "java/lang/IllegalStateException" ∧ ((0 ≤ v ∧ v ≤ 3 ∧ 97 ≤ g ∧ g ≤ 101 ∧ 0 ≤ y ∧ y ≤ 999) ∧ (ol = 8 ∨ lo = 40)) ∧ w2 = w)) := by
  refine Xi.intro (by decide) (Nat.le_of_ble_eq_true rfl) ?_
  intro p e s m args below meth c A X hout hW ls hl
  have hx := X.exec
  have hb := X.bytes
  have hl : lv_has ls 4 [(0, .ref (z 0)), (1, .int (zI v)), (2, .int (nI g)), (3, .int (zI y))] := hl
  obtain ⟨e0, k0, m0, e1, k1, m1, e2, k2, m2, la, ra, ba, wo, we, wk, wm, ia, h0, h1, h2, h3, hc⟩ := hR
  obtain ⟨hlo, hbi, hru, hol, hob, hfib, hgra, hres, hlst, hbst, hrea, hbid, hpri, hitm, hakf, hakg, hrf, hro, hrs, hol2, hob2⟩ := hI
  refine lv_iload_n hx hb dX6_offer_0 rfl (lv_at hl 1 rfl) ?_
  refine go_i X hW (run_S X hW (As := [.int (zI v)]) (rest := []) (c_X6_isFibre l G v w (by omega) _) (gi_S wq_415 wq_416 wq_61 wq_417) hyX6_isFibre rfl rfl hl.1 (Nat.le_of_ble_eq_true rfl) ⟨Nat.le_of_ble_eq_true rfl, Nat.le_of_ble_eq_true rfl⟩ ⟨by decide, by decide⟩ dX6_offer_1) (fun r w2 H locs hp hW => ?_)
  obtain ⟨hr0, hw2⟩ := hp
  subst hr0
  rw [hw2] at hW
  refine p_if_eq hx hb (tgt := 25) dX6_offer_4 (by decide) (fun c_4 => ?_) (fun c_4 => ?_)
  · exact x_thrS X hout hW hl9 (cls := "java/lang/IllegalArgumentException") 0 rfl pl_IAE fit_IAE names_ok wq_421 wq_71 at1_IAE at2_IAE good_IAE hl.1 dX6_offer_25 dX6_offer_28 dX6_offer_29 dX6_offer_31 dX6_offer_34 (Nat.le_of_ble_eq_true rfl) (Nat.le_of_ble_eq_true rfl) (Nat.le_of_ble_eq_true rfl) (Nat.le_of_ble_eq_true rfl) (Or.inl (⟨rfl, (by (repeat' apply And.intro) <;> first | assumption | omega), rfl⟩)) (Nat.le_of_ble_eq_true rfl) (Nat.le_of_ble_eq_true rfl)
  · refine lv_iload_n hx hb dX6_offer_7 rfl (lv_at hl 2 rfl) ?_
    refine go_i X hW (run_S X hW (As := [.int (nI g)]) (rest := []) (c_X6_isGrade l G g w (by omega) _) (gi_S wq_418 wq_419 wq_61 wq_420) hyX6_isGrade rfl rfl hl.1 (Nat.le_of_ble_eq_true rfl) ⟨Nat.le_of_ble_eq_true rfl, Nat.le_of_ble_eq_true rfl⟩ ⟨by decide, by decide⟩ dX6_offer_8) (fun r w2 H locs hp hW => ?_)
    obtain ⟨hr0, hw2⟩ := hp
    subst hr0
    rw [hw2] at hW
    refine p_if_eq hx hb (tgt := 25) dX6_offer_11 (by decide) (fun c_11 => ?_) (fun c_11 => ?_)
    · exact x_thrS X hout hW hl9 (cls := "java/lang/IllegalArgumentException") 0 rfl pl_IAE fit_IAE names_ok wq_421 wq_71 at1_IAE at2_IAE good_IAE hl.1 dX6_offer_25 dX6_offer_28 dX6_offer_29 dX6_offer_31 dX6_offer_34 (Nat.le_of_ble_eq_true rfl) (Nat.le_of_ble_eq_true rfl) (Nat.le_of_ble_eq_true rfl) (Nat.le_of_ble_eq_true rfl) (Or.inl (⟨rfl, (by (repeat' apply And.intro) <;> first | assumption | omega), rfl⟩)) (Nat.le_of_ble_eq_true rfl) (Nat.le_of_ble_eq_true rfl)
    · refine lv_iload_n hx hb dX6_offer_14 rfl (lv_at hl 3 rfl) ?_
      refine z_if_lt hx hb rfl (by omega) (tgt := 25) dX6_offer_15 (by decide) (fun c_15 => ?_) (fun c_15 => ?_)
      · exact x_thrS X hout hW hl9 (cls := "java/lang/IllegalArgumentException") 0 rfl pl_IAE fit_IAE names_ok wq_421 wq_71 at1_IAE at2_IAE good_IAE hl.1 dX6_offer_25 dX6_offer_28 dX6_offer_29 dX6_offer_31 dX6_offer_34 (Nat.le_of_ble_eq_true rfl) (Nat.le_of_ble_eq_true rfl) (Nat.le_of_ble_eq_true rfl) (Nat.le_of_ble_eq_true rfl) (Or.inl (⟨rfl, (by (repeat' apply And.intro) <;> first | assumption | omega), rfl⟩)) (Nat.le_of_ble_eq_true rfl) (Nat.le_of_ble_eq_true rfl)
      · refine lv_iload_n hx hb dX6_offer_18 rfl (lv_at hl 3 rfl) ?_
        refine lv_sipush (v := nI 999) hx hb dX6_offer_19 (by decide) ?_
        refine z_icmp_le hx hb rfl (nZ _) (by omega) (by omega) (tgt := 35) dX6_offer_22 (by decide) (fun c_22 => ?_) (fun c_22 => ?_)
        · refine lv_aload_n hx hb dX6_offer_35 rfl (lv_at hl 0 rfl) ?_
          obtain ⟨q0, hq0⟩ := List.mem_iff_getElem?.mp (cw_mk hc)
          refine x_get X hW q0 hq0 5 rfl rfl iwX6 (by decide) wq_215 rfl dX6_offer_36 ?_
          refine lv_bipush (v := nI 8) hx hb dX6_offer_39 (by decide) ?_
          refine n_icmp_ge hx hb rfl rfl (by omega) (by omega) (tgt := 56) dX6_offer_41 (by decide) (fun c_41 => ?_) (fun c_41 => ?_)
          · exact x_thrS X hout hW hl9 (cls := "java/lang/IllegalStateException") 1 rfl pl_ISE fit_ISE names_ok wq_493 wq_72 at1_ISE at2_ISE good_ISE hl.1 dX6_offer_56 dX6_offer_59 dX6_offer_60 dX6_offer_62 dX6_offer_65 (Nat.le_of_ble_eq_true rfl) (Nat.le_of_ble_eq_true rfl) (Nat.le_of_ble_eq_true rfl) (Nat.le_of_ble_eq_true rfl) (Or.inr (⟨rfl, (by (repeat' apply And.intro) <;> first | assumption | omega), rfl⟩)) (Nat.le_of_ble_eq_true rfl) (Nat.le_of_ble_eq_true rfl)
          · refine lv_aload_n hx hb dX6_offer_44 rfl (lv_at hl 0 rfl) ?_
            obtain ⟨q0, hq0⟩ := List.mem_iff_getElem?.mp (cw_mk hc)
            refine x_get X hW q0 hq0 0 rfl rfl iwX6 (by decide) wq_210 rfl dX6_offer_45 ?_
            obtain ⟨r9, hL0⟩ := cw_l0 hc
            obtain ⟨q0, hq0⟩ := List.mem_iff_getElem?.mp (ls_mem hL0)
            refine go_i X hW (run_V X hW (As := []) (rest := []) 2 q0 hq0 (c_szP hL0 _) (gi_V wq_245 wq_246 wq_247 wq_64 wq_248) rfl hyJx4a65c_size_8abf5 rfl rfl rfl hl.1 (Nat.le_of_ble_eq_true rfl) ⟨Nat.le_of_ble_eq_true rfl, Nat.le_of_ble_eq_true rfl⟩ ⟨by decide, by decide⟩ dX6_offer_48) (fun r w2 H locs hp hW => ?_)
            obtain ⟨hr0, hw2⟩ := hp
            subst hr0
            rw [hw2] at hW
            refine lv_bipush (v := nI 40) hx hb dX6_offer_51 (by decide) ?_
            refine n_icmp_lt hx hb rfl rfl (by omega) (by omega) (tgt := 66) dX6_offer_53 (by decide) (fun c_53 => ?_) (fun c_53 => ?_)
            · refine lv_aload_n hx hb dX6_offer_66 rfl (lv_at hl 0 rfl) ?_
              obtain ⟨q0, hq0⟩ := List.mem_iff_getElem?.mp (cw_mk hc)
              refine x_get X hW q0 hq0 0 rfl rfl iwX6 (by decide) wq_210 rfl dX6_offer_67 ?_
              refine x_newO X hW (ci := 6) (fs := [.int (nI 0), .int (nI 0), .int (nI 0), .int (nI 0), .int (nI 0)]) (ty0 := tyX3) rfl iwX3 tyX3_ok wq_287 wq_509 wq_73 (fun j hj => by rcases (show j = 0 ∨ j = 1 ∨ j = 2 ∨ j = 3 ∨ j = 4 by omega) with rfl | rfl | rfl | rfl | rfl <;> rfl) (Nat.le_of_ble_eq_true rfl) (Nat.le_of_ble_eq_true rfl) dX6_offer_70 (fun q H hW => ?_)
              refine lv_dup hx hb dX6_offer_73 rfl ?_
              refine lv_iload_n hx hb dX6_offer_74 rfl (lv_at hl 1 rfl) ?_
              refine r_zn (a := v.toNat) (by omega) ?_
              refine lv_iload_n hx hb dX6_offer_75 rfl (lv_at hl 2 rfl) ?_
              refine lv_iload_n hx hb dX6_offer_76 rfl (lv_at hl 3 rfl) ?_
              refine r_zn (a := y.toNat) (by omega) ?_
              refine go_v X hW (run_IN X hW (As := [.int (nI v.toNat), .int (nI g), .int (nI y.toNat)]) (rest := [.ref q, .ref (z 1)]) (c_X3_init l G q v.toNat g y.toNat w (by omega) _) wq_510 wq_511 wq_73 wq_512 rfl hyX3_init rfl rfl hl.1 (Nat.le_of_ble_eq_true rfl) ⟨Nat.le_of_ble_eq_true rfl, Nat.le_of_ble_eq_true rfl⟩ ⟨by decide, by decide⟩ dX6_offer_77) (fun w2 H locs hp hW => ?_)
              subst hp
              have hW : Wd G A s ((q, .inr (6, [.int (nI v.toNat), .int (nI g), .int (nI y.toNat), .int (nI 111), .int (zI (-1))])) :: w) _ _ := hW
              obtain ⟨r9, hp1, hp2, hp3⟩ := cw_addL hc
              have hp4 : ((q, .inr (6, [.int (nI v.toNat), .int (nI g), .int (nI y.toNat), .int (nI 111), .int (zI (-1))])) :: w).Perm (lsW G (z 1) e0 k0 m0 lo la ++ ((q, .inr (6, [.int (nI v.toNat), .int (nI g), .int (nI y.toNat), .int (nI 111), .int (zI (-1))])) :: r9)) := pmX hp1 _
              obtain ⟨q0, hq0⟩ := List.mem_iff_getElem?.mp (ls_mem hp4)
              refine go_i X hW (run_V X hW (As := [.ref q]) (rest := []) 2 q0 hq0 (c_adP hp4 h0 (by omega) (ci := 6) rfl wq_1429 (List.mem_cons_self) (fun i hi => by obtain ⟨fs, h⟩ := hp2 i hi; exact ⟨fs, List.mem_cons_of_mem _ h⟩) _) (gi_V wq_535 wq_536 wq_537 wq_64 wq_538) rfl hyJx4a65c_add_9ea2d rfl rfl rfl hl.1 (Nat.le_of_ble_eq_true rfl) ⟨Nat.le_of_ble_eq_true rfl, Nat.le_of_ble_eq_true rfl⟩ ⟨by decide, by decide⟩ dX6_offer_80) (fun r w2 H locs hp hW => ?_)
              obtain ⟨hr0, e9, k9, hok9, hw9⟩ := hp
              subst hr0
              obtain ⟨w, hW, hc⟩ : ∃ w9, Wd G A s w9 H locs ∧ w9.Perm (CW G z f h ol ob sc wc tk e9 k9 (m0 + 1) e1 k1 m1 e2 k2 m2 (lo + 1) bi ru (va_up la lo q) (va_up fib lo v.toNat) (va_up gra lo g) (va_up res lo y.toNat) (va_up lst lo 111) (va_up byr lo (-1)) ra rf ro rs ba bid wo pri bst rea rvl pad we wk wm itm ia akf akg gt Y) := ⟨_, hW, hw9.trans (hp3 q e9 k9 v.toNat g y.toNat)⟩
              have h0 := hok9
              refine lv_pop hx hb dX6_offer_83 rfl ?_
              refine lv_aload_n hx hb dX6_offer_84 rfl (lv_at hl 0 rfl) ?_
              refine lv_dup hx hb dX6_offer_85 rfl ?_
              obtain ⟨q0, hq0⟩ := List.mem_iff_getElem?.mp (cw_mk hc)
              refine x_get X hW q0 hq0 5 rfl rfl iwX6 (by decide) wq_215 rfl dX6_offer_86 ?_
              refine lv_iconst (v := nI 1) hx hb dX6_offer_89 (by decide) ?_
              refine n_iadd hx hb dX6_offer_90 ?_
              obtain ⟨q0, hq0⟩ := List.mem_iff_getElem?.mp (cw_mk hc)
              refine x_put X hW q0 hq0 5 (w2 := _) rfl rfl iwX6 tyX6_ok nmX6 (by decide) wq_215 rfl rfl rfl rfl (Nat.le_of_ble_eq_true rfl) dX6_offer_91 (fun H locs hW => ?_)
              obtain ⟨w, hW, hc⟩ : ∃ w9, Wd G A s w9 H locs ∧ w9.Perm (CW G z f h (ol + 1) ob sc wc tk e9 k9 (m0 + 1) e1 k1 m1 e2 k2 m2 (lo + 1) bi ru (va_up la lo q) (va_up fib lo v.toNat) (va_up gra lo g) (va_up res lo y.toNat) (va_up lst lo 111) (va_up byr lo (-1)) ra rf ro rs ba bid wo pri bst rea rvl pad we wk wm itm ia akf akg gt Y) := ⟨_, hW, Fc.set (cw_mkU hc (ol + 1) ob sc wc tk) hq0⟩
              refine lv_aload_n hx hb dX6_offer_94 rfl (lv_at hl 0 rfl) ?_
              obtain ⟨q0, hq0⟩ := List.mem_iff_getElem?.mp (cw_mk hc)
              refine x_get X hW q0 hq0 0 rfl rfl iwX6 (by decide) wq_210 rfl dX6_offer_95 ?_
              obtain ⟨r9, hL0⟩ := cw_l0 hc
              obtain ⟨q0, hq0⟩ := List.mem_iff_getElem?.mp (ls_mem hL0)
              refine go_i X hW (run_V X hW (As := []) (rest := []) 2 q0 hq0 (c_szP hL0 _) (gi_V wq_245 wq_246 wq_247 wq_64 wq_248) rfl hyJx4a65c_size_8abf5 rfl rfl rfl hl.1 (Nat.le_of_ble_eq_true rfl) ⟨Nat.le_of_ble_eq_true rfl, Nat.le_of_ble_eq_true rfl⟩ ⟨by decide, by decide⟩ dX6_offer_98) (fun r w2 H locs hp hW => ?_)
              obtain ⟨hr0, hw2⟩ := hp
              subst hr0
              rw [hw2] at hW
              refine lv_iconst (v := nI 1) hx hb dX6_offer_101 (by decide) ?_
              refine n_isub hx hb (by omega) dX6_offer_102 ?_
              exact vx_ret (ret_i X hW (v := (nI ((lo + 1) - 1))) (⟨(by (repeat' apply And.intro) <;> first | assumption | omega), by rw [Nat.add_sub_cancel], ⟨e9, k9, (m0 + 1), e1, k1, m1, e2, k2, m2, (va_up la lo q), ra, ba, wo, we, wk, wm, ia, h0, h1, h2, h3, hc⟩⟩) rfl (by decide) (by decide) dX6_offer_103)
            · exact x_thrS X hout hW hl9 (cls := "java/lang/IllegalStateException") 1 rfl pl_ISE fit_ISE names_ok wq_493 wq_72 at1_ISE at2_ISE good_ISE hl.1 dX6_offer_56 dX6_offer_59 dX6_offer_60 dX6_offer_62 dX6_offer_65 (Nat.le_of_ble_eq_true rfl) (Nat.le_of_ble_eq_true rfl) (Nat.le_of_ble_eq_true rfl) (Nat.le_of_ble_eq_true rfl) (Or.inr (⟨rfl, (by (repeat' apply And.intro) <;> first | assumption | omega), rfl⟩)) (Nat.le_of_ble_eq_true rfl) (Nat.le_of_ble_eq_true rfl)
        · exact x_thrS X hout hW hl9 (cls := "java/lang/IllegalArgumentException") 0 rfl pl_IAE fit_IAE names_ok wq_421 wq_71 at1_IAE at2_IAE good_IAE hl.1 dX6_offer_25 dX6_offer_28 dX6_offer_29 dX6_offer_31 dX6_offer_34 (Nat.le_of_ble_eq_true rfl) (Nat.le_of_ble_eq_true rfl) (Nat.le_of_ble_eq_true rfl) (Nat.le_of_ble_eq_true rfl) (Or.inl (⟨rfl, (by (repeat' apply And.intro) <;> first | assumption | omega), rfl⟩)) (Nat.le_of_ble_eq_true rfl) (Nat.le_of_ble_eq_true rfl)

set_option maxRecDepth 100000 in
set_option maxHeartbeats 4000000 in
theorem c_X6_allow (l : Launch) (hl9 : l.stackTraces = false) (G : Gt) (z f h : Nat → Nat) (ol ob sc wc : Nat) (tk : Int) (lo bi ru : Nat) (fib gra res lst : Nat → Nat) (byr : Nat → Int) (rf ro rs bid pri bst rea : Nat → Nat) (rvl pad : Nat → Int) (itm akf akg : Nat → Nat) (gt : Nat → Int) (Y w : va_W) (v y x : Int) (hI : CIa lo bi ru ol ob fib gra res lst bst rea bid pri itm akf akg rf ro rs) (hR : CR G z f h ol ob sc wc tk lo bi ru fib gra res lst byr rf ro rs bid pri bst rea rvl pad itm akf akg gt Y w) (hv : iR v) (hy : iR y) (hxx : iR x) : Xi l G yX6_allow (ww yX6_allow cX6_allow 4 (some FieldType.int)) (RM 6 3 112) [.ref (z 0), .int (zI v), .int (zI y), .int (zI x)] w (fun r w2 => ((0 ≤ v ∧ v ≤ 3 ∧ 0 ≤ y ∧ y ≤ 3 ∧ 0 ≤ x ∧ x ≤ 4) ∧ ru < 6) ∧ r = nI (ru + 1) ∧ CR G z f h ol ob sc wc tk lo bi (ru + 1) fib gra res lst byr (va_up rf ru v.toNat) (va_up ro ru y.toNat) (va_up rs ru x.toNat) bid pri bst rea rvl pad itm akf akg gt Y w2) (fun E w2 => (E = "java/lang/IllegalArgumentException" ∧ (¬ (0 ≤ v ∧ v ≤ 3 ∧ 0 ≤ y ∧ y ≤ 3 ∧ 0 ≤ x ∧ x ≤ 4)) ∧ w2 = w) ∨ (E = "java/lang/IllegalStateException" ∧ ((0 ≤ v ∧ v ≤ 3 ∧ 0 ≤ y ∧ y ≤ 3 ∧ 0 ≤ x ∧ x ≤ 4) ∧ ru = 6) ∧ w2 = w)) := by
  refine Xi.intro (by decide) (Nat.le_of_ble_eq_true rfl) ?_
  intro p e s m args below meth c A X hout hW ls hl
  have hx := X.exec
  have hb := X.bytes
  have hl : lv_has ls 4 [(0, .ref (z 0)), (1, .int (zI v)), (2, .int (zI y)), (3, .int (zI x))] := hl
  obtain ⟨e0, k0, m0, e1, k1, m1, e2, k2, m2, la, ra, ba, wo, we, wk, wm, ia, h0, h1, h2, h3, hc⟩ := hR
  obtain ⟨hlo, hbi, hru, hol, hob, hfib, hgra, hres, hlst, hbst, hrea, hbid, hpri, hitm, hakf, hakg, hrf, hro, hrs, hol2, hob2⟩ := hI
  refine lv_iload_n hx hb dX6_allow_0 rfl (lv_at hl 1 rfl) ?_
  refine go_i X hW (run_S X hW (As := [.int (zI v)]) (rest := []) (c_X6_isFibre l G v w (by omega) _) (gi_S wq_415 wq_416 wq_61 wq_417) hyX6_isFibre rfl rfl hl.1 (Nat.le_of_ble_eq_true rfl) ⟨Nat.le_of_ble_eq_true rfl, Nat.le_of_ble_eq_true rfl⟩ ⟨by decide, by decide⟩ dX6_allow_1) (fun r w2 H locs hp hW => ?_)
  obtain ⟨hr0, hw2⟩ := hp
  subst hr0
  rw [hw2] at hW
  refine p_if_eq hx hb (tgt := 23) dX6_allow_4 (by decide) (fun c_4 => ?_) (fun c_4 => ?_)
  · exact x_thrS X hout hW hl9 (cls := "java/lang/IllegalArgumentException") 4 rfl pl_IAE fit_IAE names_ok wq_421 wq_71 at1_IAE at2_IAE good_IAE hl.1 dX6_allow_23 dX6_allow_26 dX6_allow_27 dX6_allow_29 dX6_allow_32 (Nat.le_of_ble_eq_true rfl) (Nat.le_of_ble_eq_true rfl) (Nat.le_of_ble_eq_true rfl) (Nat.le_of_ble_eq_true rfl) (Or.inl (⟨rfl, (by (repeat' apply And.intro) <;> first | assumption | omega), rfl⟩)) (Nat.le_of_ble_eq_true rfl) (Nat.le_of_ble_eq_true rfl)
  · refine lv_iload_n hx hb dX6_allow_7 rfl (lv_at hl 2 rfl) ?_
    refine go_i X hW (run_S X hW (As := [.int (zI y)]) (rest := []) (c_X6_isFibre l G y w (by omega) _) (gi_S wq_415 wq_416 wq_61 wq_417) hyX6_isFibre rfl rfl hl.1 (Nat.le_of_ble_eq_true rfl) ⟨Nat.le_of_ble_eq_true rfl, Nat.le_of_ble_eq_true rfl⟩ ⟨by decide, by decide⟩ dX6_allow_8) (fun r w2 H locs hp hW => ?_)
    obtain ⟨hr0, hw2⟩ := hp
    subst hr0
    rw [hw2] at hW
    refine p_if_eq hx hb (tgt := 23) dX6_allow_11 (by decide) (fun c_11 => ?_) (fun c_11 => ?_)
    · exact x_thrS X hout hW hl9 (cls := "java/lang/IllegalArgumentException") 4 rfl pl_IAE fit_IAE names_ok wq_421 wq_71 at1_IAE at2_IAE good_IAE hl.1 dX6_allow_23 dX6_allow_26 dX6_allow_27 dX6_allow_29 dX6_allow_32 (Nat.le_of_ble_eq_true rfl) (Nat.le_of_ble_eq_true rfl) (Nat.le_of_ble_eq_true rfl) (Nat.le_of_ble_eq_true rfl) (Or.inl (⟨rfl, (by (repeat' apply And.intro) <;> first | assumption | omega), rfl⟩)) (Nat.le_of_ble_eq_true rfl) (Nat.le_of_ble_eq_true rfl)
    · refine lv_iload_n hx hb dX6_allow_14 rfl (lv_at hl 3 rfl) ?_
      refine z_if_lt hx hb rfl (by omega) (tgt := 23) dX6_allow_15 (by decide) (fun c_15 => ?_) (fun c_15 => ?_)
      · exact x_thrS X hout hW hl9 (cls := "java/lang/IllegalArgumentException") 4 rfl pl_IAE fit_IAE names_ok wq_421 wq_71 at1_IAE at2_IAE good_IAE hl.1 dX6_allow_23 dX6_allow_26 dX6_allow_27 dX6_allow_29 dX6_allow_32 (Nat.le_of_ble_eq_true rfl) (Nat.le_of_ble_eq_true rfl) (Nat.le_of_ble_eq_true rfl) (Nat.le_of_ble_eq_true rfl) (Or.inl (⟨rfl, (by (repeat' apply And.intro) <;> first | assumption | omega), rfl⟩)) (Nat.le_of_ble_eq_true rfl) (Nat.le_of_ble_eq_true rfl)
      · refine lv_iload_n hx hb dX6_allow_18 rfl (lv_at hl 3 rfl) ?_
        refine lv_iconst (v := nI 4) hx hb dX6_allow_19 (by decide) ?_
        refine z_icmp_le hx hb rfl (nZ _) (by omega) (by omega) (tgt := 33) dX6_allow_20 (by decide) (fun c_20 => ?_) (fun c_20 => ?_)
        · refine lv_aload_n hx hb dX6_allow_33 rfl (lv_at hl 0 rfl) ?_
          obtain ⟨q0, hq0⟩ := List.mem_iff_getElem?.mp (cw_mk hc)
          refine x_get X hW q0 hq0 2 rfl rfl iwX6 (by decide) wq_212 rfl dX6_allow_34 ?_
          obtain ⟨r9, hL2⟩ := cw_l2 hc
          obtain ⟨q0, hq0⟩ := List.mem_iff_getElem?.mp (ls_mem hL2)
          refine go_i X hW (run_V X hW (As := []) (rest := []) 2 q0 hq0 (c_szP hL2 _) (gi_V wq_245 wq_246 wq_247 wq_64 wq_248) rfl hyJx4a65c_size_8abf5 rfl rfl rfl hl.1 (Nat.le_of_ble_eq_true rfl) ⟨Nat.le_of_ble_eq_true rfl, Nat.le_of_ble_eq_true rfl⟩ ⟨by decide, by decide⟩ dX6_allow_37) (fun r w2 H locs hp hW => ?_)
          obtain ⟨hr0, hw2⟩ := hp
          subst hr0
          rw [hw2] at hW
          refine lv_bipush (v := nI 6) hx hb dX6_allow_40 (by decide) ?_
          refine n_icmp_lt hx hb rfl rfl (by omega) (by omega) (tgt := 55) dX6_allow_42 (by decide) (fun c_42 => ?_) (fun c_42 => ?_)
          · refine lv_aload_n hx hb dX6_allow_55 rfl (lv_at hl 0 rfl) ?_
            obtain ⟨q0, hq0⟩ := List.mem_iff_getElem?.mp (cw_mk hc)
            refine x_get X hW q0 hq0 2 rfl rfl iwX6 (by decide) wq_212 rfl dX6_allow_56 ?_
            refine x_newO X hW (ci := 7) (fs := [.int (nI 0), .int (nI 0), .int (nI 0)]) (ty0 := tyX4) rfl iwX4 tyX4_ok wq_314 wq_634 wq_81 (fun j hj => by rcases (show j = 0 ∨ j = 1 ∨ j = 2 by omega) with rfl | rfl | rfl <;> rfl) (Nat.le_of_ble_eq_true rfl) (Nat.le_of_ble_eq_true rfl) dX6_allow_59 (fun q H hW => ?_)
            refine lv_dup hx hb dX6_allow_62 rfl ?_
            refine lv_iload_n hx hb dX6_allow_63 rfl (lv_at hl 1 rfl) ?_
            refine r_zn (a := v.toNat) (by omega) ?_
            refine lv_iload_n hx hb dX6_allow_64 rfl (lv_at hl 2 rfl) ?_
            refine r_zn (a := y.toNat) (by omega) ?_
            refine lv_iload_n hx hb dX6_allow_65 rfl (lv_at hl 3 rfl) ?_
            refine r_zn (a := x.toNat) (by omega) ?_
            refine go_v X hW (run_IN X hW (As := [.int (nI v.toNat), .int (nI y.toNat), .int (nI x.toNat)]) (rest := [.ref q, .ref (z 3)]) (c_X4_init l G q v.toNat y.toNat x.toNat w _) wq_635 wq_636 wq_81 wq_637 rfl hyX4_init rfl rfl hl.1 (Nat.le_of_ble_eq_true rfl) ⟨Nat.le_of_ble_eq_true rfl, Nat.le_of_ble_eq_true rfl⟩ ⟨by decide, by decide⟩ dX6_allow_66) (fun w2 H locs hp hW => ?_)
            subst hp
            have hW : Wd G A s ((q, .inr (7, [.int (nI v.toNat), .int (nI y.toNat), .int (nI x.toNat)])) :: w) _ _ := hW
            obtain ⟨r9, hp1, hp2, hp3⟩ := cw_addR hc
            have hp4 : ((q, .inr (7, [.int (nI v.toNat), .int (nI y.toNat), .int (nI x.toNat)])) :: w).Perm (lsW G (z 3) e2 k2 m2 ru ra ++ ((q, .inr (7, [.int (nI v.toNat), .int (nI y.toNat), .int (nI x.toNat)])) :: r9)) := pmX hp1 _
            obtain ⟨q0, hq0⟩ := List.mem_iff_getElem?.mp (ls_mem hp4)
            refine go_i X hW (run_V X hW (As := [.ref q]) (rest := []) 2 q0 hq0 (c_adP hp4 h2 (by omega) (ci := 7) rfl wq_1431 (List.mem_cons_self) (fun i hi => by obtain ⟨fs, h⟩ := hp2 i hi; exact ⟨fs, List.mem_cons_of_mem _ h⟩) _) (gi_V wq_535 wq_536 wq_537 wq_64 wq_538) rfl hyJx4a65c_add_9ea2d rfl rfl rfl hl.1 (Nat.le_of_ble_eq_true rfl) ⟨Nat.le_of_ble_eq_true rfl, Nat.le_of_ble_eq_true rfl⟩ ⟨by decide, by decide⟩ dX6_allow_69) (fun r w2 H locs hp hW => ?_)
            obtain ⟨hr0, e9, k9, hok9, hw9⟩ := hp
            subst hr0
            obtain ⟨w, hW, hc⟩ : ∃ w9, Wd G A s w9 H locs ∧ w9.Perm (CW G z f h ol ob sc wc tk e0 k0 m0 e1 k1 m1 e9 k9 (m2 + 1) lo bi (ru + 1) la fib gra res lst byr (va_up ra ru q) (va_up rf ru v.toNat) (va_up ro ru y.toNat) (va_up rs ru x.toNat) ba bid wo pri bst rea rvl pad we wk wm itm ia akf akg gt Y) := ⟨_, hW, hw9.trans (hp3 q e9 k9 v.toNat y.toNat x.toNat)⟩
            have h2 := hok9
            refine lv_pop hx hb dX6_allow_72 rfl ?_
            refine lv_aload_n hx hb dX6_allow_73 rfl (lv_at hl 0 rfl) ?_
            obtain ⟨q0, hq0⟩ := List.mem_iff_getElem?.mp (cw_mk hc)
            refine x_get X hW q0 hq0 2 rfl rfl iwX6 (by decide) wq_212 rfl dX6_allow_74 ?_
            obtain ⟨r9, hL2⟩ := cw_l2 hc
            obtain ⟨q0, hq0⟩ := List.mem_iff_getElem?.mp (ls_mem hL2)
            refine go_i X hW (run_V X hW (As := []) (rest := []) 2 q0 hq0 (c_szP hL2 _) (gi_V wq_245 wq_246 wq_247 wq_64 wq_248) rfl hyJx4a65c_size_8abf5 rfl rfl rfl hl.1 (Nat.le_of_ble_eq_true rfl) ⟨Nat.le_of_ble_eq_true rfl, Nat.le_of_ble_eq_true rfl⟩ ⟨by decide, by decide⟩ dX6_allow_77) (fun r w2 H locs hp hW => ?_)
            obtain ⟨hr0, hw2⟩ := hp
            subst hr0
            rw [hw2] at hW
            exact vx_ret (ret_i X hW (v := (nI (ru + 1))) (⟨(by (repeat' apply And.intro) <;> first | assumption | omega), rfl, ⟨e0, k0, m0, e1, k1, m1, e9, k9, (m2 + 1), la, (va_up ra ru q), ba, wo, we, wk, wm, ia, h0, h1, h2, h3, hc⟩⟩) rfl (by decide) (by decide) dX6_allow_80)
          · exact x_thrS X hout hW hl9 (cls := "java/lang/IllegalStateException") 5 rfl pl_ISE fit_ISE names_ok wq_493 wq_72 at1_ISE at2_ISE good_ISE hl.1 dX6_allow_45 dX6_allow_48 dX6_allow_49 dX6_allow_51 dX6_allow_54 (Nat.le_of_ble_eq_true rfl) (Nat.le_of_ble_eq_true rfl) (Nat.le_of_ble_eq_true rfl) (Nat.le_of_ble_eq_true rfl) (Or.inr (⟨rfl, (by (repeat' apply And.intro) <;> first | assumption | omega), rfl⟩)) (Nat.le_of_ble_eq_true rfl) (Nat.le_of_ble_eq_true rfl)
        · exact x_thrS X hout hW hl9 (cls := "java/lang/IllegalArgumentException") 4 rfl pl_IAE fit_IAE names_ok wq_421 wq_71 at1_IAE at2_IAE good_IAE hl.1 dX6_allow_23 dX6_allow_26 dX6_allow_27 dX6_allow_29 dX6_allow_32 (Nat.le_of_ble_eq_true rfl) (Nat.le_of_ble_eq_true rfl) (Nat.le_of_ble_eq_true rfl) (Nat.le_of_ble_eq_true rfl) (Or.inl (⟨rfl, (by (repeat' apply And.intro) <;> first | assumption | omega), rfl⟩)) (Nat.le_of_ble_eq_true rfl) (Nat.le_of_ble_eq_true rfl)

set_option maxRecDepth 100000 in
set_option maxHeartbeats 4000000 in
theorem c_X6_forbid (l : Launch) (hl9 : l.stackTraces = false) (G : Gt) (z f h : Nat → Nat) (ol ob sc wc : Nat) (tk : Int) (lo bi ru : Nat) (fib gra res lst : Nat → Nat) (byr : Nat → Int) (rf ro rs bid pri bst rea : Nat → Nat) (rvl pad : Nat → Int) (itm akf akg : Nat → Nat) (gt : Nat → Int) (Y w : va_W) (hI : CIa lo bi ru ol ob fib gra res lst bst rea bid pri itm akf akg rf ro rs) (hR : CR G z f h ol ob sc wc tk lo bi ru fib gra res lst byr rf ro rs bid pri bst rea rvl pad itm akf akg gt Y w) : Xi l G yX6_forbid (ww yX6_forbid cX6_forbid 1 (some FieldType.int)) (RM 6 1 6) [.ref (z 0)] w (fun r w2 => (0 < ru) ∧ r = nI (ru - 1) ∧ CR G z f h ol ob sc wc tk lo bi (ru - 1) fib gra res lst byr rf ro rs bid pri bst rea rvl pad itm akf akg gt Y w2) (fun E w2 => (E = "java/lang/IllegalStateException" ∧ (ru = 0) ∧ w2 = w)) := by
  refine Xi.intro (by decide) (Nat.le_of_ble_eq_true rfl) ?_
  intro p e s m args below meth c A X hout hW ls hl
  have hx := X.exec
  have hb := X.bytes
  have hl : lv_has ls 1 [(0, .ref (z 0))] := hl
  obtain ⟨e0, k0, m0, e1, k1, m1, e2, k2, m2, la, ra, ba, wo, we, wk, wm, ia, h0, h1, h2, h3, hc⟩ := hR
  obtain ⟨hlo, hbi, hru, hol, hob, hfib, hgra, hres, hlst, hbst, hrea, hbid, hpri, hitm, hakf, hakg, hrf, hro, hrs, hol2, hob2⟩ := hI
  refine lv_aload_n hx hb dX6_forbid_0 rfl (lv_at hl 0 rfl) ?_
  obtain ⟨q0, hq0⟩ := List.mem_iff_getElem?.mp (cw_mk hc)
  refine x_get X hW q0 hq0 2 rfl rfl iwX6 (by decide) wq_212 rfl dX6_forbid_1 ?_
  obtain ⟨r9, hL2⟩ := cw_l2 hc
  obtain ⟨q0, hq0⟩ := List.mem_iff_getElem?.mp (ls_mem hL2)
  refine go_i X hW (run_V X hW (As := []) (rest := []) 2 q0 hq0 (c_emP hL2 (by omega) _) (gi_V wq_659 wq_660 wq_661 wq_64 wq_662) rfl hyJx4a65c_isEmpty_aae02 rfl rfl rfl hl.1 (Nat.le_of_ble_eq_true rfl) ⟨Nat.le_of_ble_eq_true rfl, Nat.le_of_ble_eq_true rfl⟩ ⟨by decide, by decide⟩ dX6_forbid_4) (fun r w2 H locs hp hW => ?_)
  obtain ⟨hr0, hw2⟩ := hp
  subst hr0
  rw [hw2] at hW
  refine p_if_eq hx hb (tgt := 20) dX6_forbid_7 (by decide) (fun c_7 => ?_) (fun c_7 => ?_)
  · refine lv_aload_n hx hb dX6_forbid_20 rfl (lv_at hl 0 rfl) ?_
    obtain ⟨q0, hq0⟩ := List.mem_iff_getElem?.mp (cw_mk hc)
    refine x_get X hW q0 hq0 2 rfl rfl iwX6 (by decide) wq_212 rfl dX6_forbid_21 ?_
    refine lv_aload_n hx hb dX6_forbid_24 rfl (lv_at hl 0 rfl) ?_
    obtain ⟨q0, hq0⟩ := List.mem_iff_getElem?.mp (cw_mk hc)
    refine x_get X hW q0 hq0 2 rfl rfl iwX6 (by decide) wq_212 rfl dX6_forbid_25 ?_
    obtain ⟨r9, hL2⟩ := cw_l2 hc
    obtain ⟨q0, hq0⟩ := List.mem_iff_getElem?.mp (ls_mem hL2)
    refine go_i X hW (run_V X hW (As := []) (rest := [.ref (z 3)]) 2 q0 hq0 (c_szP hL2 _) (gi_V wq_245 wq_246 wq_247 wq_64 wq_248) rfl hyJx4a65c_size_8abf5 rfl rfl rfl hl.1 (Nat.le_of_ble_eq_true rfl) ⟨Nat.le_of_ble_eq_true rfl, Nat.le_of_ble_eq_true rfl⟩ ⟨by decide, by decide⟩ dX6_forbid_28) (fun r w2 H locs hp hW => ?_)
    obtain ⟨hr0, hw2⟩ := hp
    subst hr0
    rw [hw2] at hW
    refine lv_iconst (v := nI 1) hx hb dX6_forbid_31 (by decide) ?_
    refine n_isub hx hb (by omega) dX6_forbid_32 ?_
    obtain ⟨r9, hp1, x9, hp2⟩ := cw_popR hc (by omega)
    obtain ⟨q0, hq0⟩ := List.mem_iff_getElem?.mp (ls_mem hp1)
    refine go_r X hW (run_V X hW (As := [.int (nI (ru - 1))]) (rest := []) 2 q0 hq0 (c_rmP hp1 h2 (by omega) _) (gi_V wq_664 wq_665 wq_666 wq_64 wq_667) rfl hyJx4a65c_remove_915e3 rfl rfl rfl hl.1 (Nat.le_of_ble_eq_true rfl) ⟨Nat.le_of_ble_eq_true rfl, Nat.le_of_ble_eq_true rfl⟩ ⟨by decide, by decide⟩ dX6_forbid_33) (fun b w2 H locs hp hW => ?_)
    obtain ⟨hr0, hw9⟩ := hp
    subst hr0
    obtain ⟨w, hW, hc⟩ : ∃ w9, Wd G A s w9 H locs ∧ w9.Perm (CW G z f h ol ob sc wc tk e0 k0 m0 e1 k1 m1 e2 k2 (m2 + 1) lo bi (ru - 1) la fib gra res lst byr ra rf ro rs ba bid wo pri bst rea rvl pad we wk wm itm ia akf akg gt Y) := ⟨_, (hW.perm (hw9.trans hp2)).drop (List.sublist_cons_self _ _), List.Perm.refl _⟩
    have h2 : LsOK G e2 k2 (ru - 1) := ⟨by have := h2.1; omega, h2.2.1, h2.2.2⟩
    refine lv_pop hx hb dX6_forbid_36 rfl ?_
    refine lv_aload_n hx hb dX6_forbid_37 rfl (lv_at hl 0 rfl) ?_
    obtain ⟨q0, hq0⟩ := List.mem_iff_getElem?.mp (cw_mk hc)
    refine x_get X hW q0 hq0 2 rfl rfl iwX6 (by decide) wq_212 rfl dX6_forbid_38 ?_
    obtain ⟨r9, hL2⟩ := cw_l2 hc
    obtain ⟨q0, hq0⟩ := List.mem_iff_getElem?.mp (ls_mem hL2)
    refine go_i X hW (run_V X hW (As := []) (rest := []) 2 q0 hq0 (c_szP hL2 _) (gi_V wq_245 wq_246 wq_247 wq_64 wq_248) rfl hyJx4a65c_size_8abf5 rfl rfl rfl hl.1 (Nat.le_of_ble_eq_true rfl) ⟨Nat.le_of_ble_eq_true rfl, Nat.le_of_ble_eq_true rfl⟩ ⟨by decide, by decide⟩ dX6_forbid_41) (fun r w2 H locs hp hW => ?_)
    obtain ⟨hr0, hw2⟩ := hp
    subst hr0
    rw [hw2] at hW
    exact vx_ret (ret_i X hW (v := (nI (ru - 1))) (⟨(by (repeat' apply And.intro) <;> first | assumption | omega), rfl, ⟨e0, k0, m0, e1, k1, m1, e2, k2, (m2 + 1), la, ra, ba, wo, we, wk, wm, ia, h0, h1, h2, h3, hc⟩⟩) rfl (by decide) (by decide) dX6_forbid_44)
  · exact x_thrS X hout hW hl9 (cls := "java/lang/IllegalStateException") 6 rfl pl_ISE fit_ISE names_ok wq_493 wq_72 at1_ISE at2_ISE good_ISE hl.1 dX6_forbid_10 dX6_forbid_13 dX6_forbid_14 dX6_forbid_16 dX6_forbid_19 (Nat.le_of_ble_eq_true rfl) (Nat.le_of_ble_eq_true rfl) (Nat.le_of_ble_eq_true rfl) (Nat.le_of_ble_eq_true rfl) (⟨rfl, (by (repeat' apply And.intro) <;> first | assumption | omega), rfl⟩) (Nat.le_of_ble_eq_true rfl) (Nat.le_of_ble_eq_true rfl)

set_option maxRecDepth 100000 in
set_option maxHeartbeats 4000000 in
theorem c_X6_bid (l : Launch) (hl9 : l.stackTraces = false) (G : Gt) (z f h : Nat → Nat) (ol ob sc wc : Nat) (tk : Int) (lo bi ru : Nat) (fib gra res lst : Nat → Nat) (byr : Nat → Int) (rf ro rs bid pri bst rea : Nat → Nat) (rvl pad : Nat → Int) (itm akf akg : Nat → Nat) (gt : Nat → Int) (Y w : va_W) (v y : Int) (hI : CIa lo bi ru ol ob fib gra res lst bst rea bid pri itm akf akg rf ro rs) (hR : CR G z f h ol ob sc wc tk lo bi ru fib gra res lst byr rf ro rs bid pri bst rea rvl pad itm akf akg gt Y w) (hv : iR v) (hy : iR y) : Xi l G yX6_bid (ww yX6_bid cX6_bid 3 (some FieldType.int)) (RM 6 4 130) [.ref (z 0), .int (zI v), .int (zI y)] w (fun r w2 => ((0 ≤ v ∧ v ≤ 7 ∧ 0 ≤ y ∧ y ≤ 9999) ∧ ob < 8 ∧ bi < 40) ∧ r = nI bi ∧ CR G z f h ol (ob + 1) sc wc tk lo (bi + 1) ru fib gra res lst byr rf ro rs (va_up bid bi v.toNat) (va_up pri bi y.toNat) (va_up bst bi 111) (va_up rea bi 109) (va_up rvl bi (-1)) (va_up pad bi 0) (va_up itm bi 0) akf akg gt Y w2) (fun E w2 => (E = "java/lang/IllegalArgumentException" ∧ (¬ (0 ≤ v ∧ v ≤ 7 ∧ 0 ≤ y ∧ y ≤ 9999)) ∧ w2 = w) ∨ (E = "java/lang/IllegalStateException" ∧ ((0 ≤ v ∧ v ≤ 7 ∧ 0 ≤ y ∧ y ≤ 9999) ∧ (ob = 8 ∨ bi = 40)) ∧ w2 = w)) := by
  refine Xi.intro (by decide) (Nat.le_of_ble_eq_true rfl) ?_
  intro p e s m args below meth c A X hout hW ls hl
  have hx := X.exec
  have hb := X.bytes
  have hl : lv_has ls 3 [(0, .ref (z 0)), (1, .int (zI v)), (2, .int (zI y))] := hl
  obtain ⟨e0, k0, m0, e1, k1, m1, e2, k2, m2, la, ra, ba, wo, we, wk, wm, ia, h0, h1, h2, h3, hc⟩ := hR
  obtain ⟨hlo, hbi, hru, hol, hob, hfib, hgra, hres, hlst, hbst, hrea, hbid, hpri, hitm, hakf, hakg, hrf, hro, hrs, hol2, hob2⟩ := hI
  refine lv_iload_n hx hb dX6_bid_0 rfl (lv_at hl 1 rfl) ?_
  refine go_i X hW (run_S X hW (As := [.int (zI v)]) (rest := []) (c_X6_isBidder l G v w (by omega) _) (gi_S wq_680 wq_681 wq_61 wq_682) hyX6_isBidder rfl rfl hl.1 (Nat.le_of_ble_eq_true rfl) ⟨Nat.le_of_ble_eq_true rfl, Nat.le_of_ble_eq_true rfl⟩ ⟨by decide, by decide⟩ dX6_bid_1) (fun r w2 H locs hp hW => ?_)
  obtain ⟨hr0, hw2⟩ := hp
  subst hr0
  rw [hw2] at hW
  refine p_if_eq hx hb (tgt := 18) dX6_bid_4 (by decide) (fun c_4 => ?_) (fun c_4 => ?_)
  · exact x_thrS X hout hW hl9 (cls := "java/lang/IllegalArgumentException") 7 rfl pl_IAE fit_IAE names_ok wq_421 wq_71 at1_IAE at2_IAE good_IAE hl.1 dX6_bid_18 dX6_bid_21 dX6_bid_22 dX6_bid_24 dX6_bid_27 (Nat.le_of_ble_eq_true rfl) (Nat.le_of_ble_eq_true rfl) (Nat.le_of_ble_eq_true rfl) (Nat.le_of_ble_eq_true rfl) (Or.inl (⟨rfl, (by (repeat' apply And.intro) <;> first | assumption | omega), rfl⟩)) (Nat.le_of_ble_eq_true rfl) (Nat.le_of_ble_eq_true rfl)
  · refine lv_iload_n hx hb dX6_bid_7 rfl (lv_at hl 2 rfl) ?_
    refine z_if_lt hx hb rfl (by omega) (tgt := 18) dX6_bid_8 (by decide) (fun c_8 => ?_) (fun c_8 => ?_)
    · exact x_thrS X hout hW hl9 (cls := "java/lang/IllegalArgumentException") 7 rfl pl_IAE fit_IAE names_ok wq_421 wq_71 at1_IAE at2_IAE good_IAE hl.1 dX6_bid_18 dX6_bid_21 dX6_bid_22 dX6_bid_24 dX6_bid_27 (Nat.le_of_ble_eq_true rfl) (Nat.le_of_ble_eq_true rfl) (Nat.le_of_ble_eq_true rfl) (Nat.le_of_ble_eq_true rfl) (Or.inl (⟨rfl, (by (repeat' apply And.intro) <;> first | assumption | omega), rfl⟩)) (Nat.le_of_ble_eq_true rfl) (Nat.le_of_ble_eq_true rfl)
    · refine lv_iload_n hx hb dX6_bid_11 rfl (lv_at hl 2 rfl) ?_
      refine lv_sipush (v := nI 9999) hx hb dX6_bid_12 (by decide) ?_
      refine z_icmp_le hx hb rfl (nZ _) (by omega) (by omega) (tgt := 28) dX6_bid_15 (by decide) (fun c_15 => ?_) (fun c_15 => ?_)
      · refine lv_aload_n hx hb dX6_bid_28 rfl (lv_at hl 0 rfl) ?_
        obtain ⟨q0, hq0⟩ := List.mem_iff_getElem?.mp (cw_mk hc)
        refine x_get X hW q0 hq0 6 rfl rfl iwX6 (by decide) wq_216 rfl dX6_bid_29 ?_
        refine lv_bipush (v := nI 8) hx hb dX6_bid_32 (by decide) ?_
        refine n_icmp_ge hx hb rfl rfl (by omega) (by omega) (tgt := 49) dX6_bid_34 (by decide) (fun c_34 => ?_) (fun c_34 => ?_)
        · exact x_thrS X hout hW hl9 (cls := "java/lang/IllegalStateException") 8 rfl pl_ISE fit_ISE names_ok wq_493 wq_72 at1_ISE at2_ISE good_ISE hl.1 dX6_bid_49 dX6_bid_52 dX6_bid_53 dX6_bid_55 dX6_bid_58 (Nat.le_of_ble_eq_true rfl) (Nat.le_of_ble_eq_true rfl) (Nat.le_of_ble_eq_true rfl) (Nat.le_of_ble_eq_true rfl) (Or.inr (⟨rfl, (by (repeat' apply And.intro) <;> first | assumption | omega), rfl⟩)) (Nat.le_of_ble_eq_true rfl) (Nat.le_of_ble_eq_true rfl)
        · refine lv_aload_n hx hb dX6_bid_37 rfl (lv_at hl 0 rfl) ?_
          obtain ⟨q0, hq0⟩ := List.mem_iff_getElem?.mp (cw_mk hc)
          refine x_get X hW q0 hq0 1 rfl rfl iwX6 (by decide) wq_211 rfl dX6_bid_38 ?_
          obtain ⟨r9, hL1⟩ := cw_l1 hc
          obtain ⟨q0, hq0⟩ := List.mem_iff_getElem?.mp (ls_mem hL1)
          refine go_i X hW (run_V X hW (As := []) (rest := []) 2 q0 hq0 (c_szP hL1 _) (gi_V wq_245 wq_246 wq_247 wq_64 wq_248) rfl hyJx4a65c_size_8abf5 rfl rfl rfl hl.1 (Nat.le_of_ble_eq_true rfl) ⟨Nat.le_of_ble_eq_true rfl, Nat.le_of_ble_eq_true rfl⟩ ⟨by decide, by decide⟩ dX6_bid_41) (fun r w2 H locs hp hW => ?_)
          obtain ⟨hr0, hw2⟩ := hp
          subst hr0
          rw [hw2] at hW
          refine lv_bipush (v := nI 40) hx hb dX6_bid_44 (by decide) ?_
          refine n_icmp_lt hx hb rfl rfl (by omega) (by omega) (tgt := 59) dX6_bid_46 (by decide) (fun c_46 => ?_) (fun c_46 => ?_)
          · refine lv_aload_n hx hb dX6_bid_59 rfl (lv_at hl 0 rfl) ?_
            obtain ⟨q0, hq0⟩ := List.mem_iff_getElem?.mp (cw_mk hc)
            refine x_get X hW q0 hq0 1 rfl rfl iwX6 (by decide) wq_211 rfl dX6_bid_60 ?_
            refine x_newO X hW (ci := 3) (fs := [.int (nI 0), .null, .int (nI 0), .int (nI 0), .int (nI 0), .int (nI 0), .int (zI 0)]) (ty0 := tyX0) rfl iwX0 tyX0_ok wq_292 wq_685 wq_82 (fun j hj => by rcases (show j = 0 ∨ j = 1 ∨ j = 2 ∨ j = 3 ∨ j = 4 ∨ j = 5 ∨ j = 6 by omega) with rfl | rfl | rfl | rfl | rfl | rfl | rfl <;> rfl) (Nat.le_of_ble_eq_true rfl) (Nat.le_of_ble_eq_true rfl) dX6_bid_63 (fun q H hW => ?_)
            refine lv_dup hx hb dX6_bid_66 rfl ?_
            refine lv_iload_n hx hb dX6_bid_67 rfl (lv_at hl 1 rfl) ?_
            refine r_zn (a := v.toNat) (by omega) ?_
            refine lv_iload_n hx hb dX6_bid_68 rfl (lv_at hl 2 rfl) ?_
            refine r_zn (a := y.toNat) (by omega) ?_
            refine go_v X hW (run_IN X hW (As := [.int (nI v.toNat), .int (nI y.toNat)]) (rest := [.ref q, .ref (z 2)]) (c_X0_init l G q v.toNat y.toNat w _) wq_686 wq_687 wq_82 wq_688 rfl hyX0_init rfl rfl hl.1 (Nat.le_of_ble_eq_true rfl) ⟨Nat.le_of_ble_eq_true rfl, Nat.le_of_ble_eq_true rfl⟩ ⟨by decide, by decide⟩ dX6_bid_69) (fun w2 H locs hp hW => ?_)
            obtain ⟨q9, hw9⟩ := hp
            rw [hw9] at hW
            have hW : Wd G A s ((q9, .inr (2, [.int (nI 0), .ref (G.2.2 0), .int (nI 0)])) :: (q, .inr (3, [.int (nI v.toNat), .ref q9, .int (nI y.toNat), .int (nI 111), .int (nI 109), .int (zI (-1)), .int (zI 0)])) :: w) _ _ := hW
            obtain ⟨r9, hp1, hp2, hp3⟩ := cw_addB hc
            have hp4 : ((q9, .inr (2, [.int (nI 0), .ref (G.2.2 0), .int (nI 0)])) :: (q, .inr (3, [.int (nI v.toNat), .ref q9, .int (nI y.toNat), .int (nI 111), .int (nI 109), .int (zI (-1)), .int (zI 0)])) :: w).Perm (lsW G (z 2) e1 k1 m1 bi ba ++ ((q9, .inr (2, [.int (nI 0), .ref (G.2.2 0), .int (nI 0)])) :: (q, .inr (3, [.int (nI v.toNat), .ref q9, .int (nI y.toNat), .int (nI 111), .int (nI 109), .int (zI (-1)), .int (zI 0)])) :: r9)) := pmX (pmX hp1 _) _
            obtain ⟨q0, hq0⟩ := List.mem_iff_getElem?.mp (ls_mem hp4)
            refine go_i X hW (run_V X hW (As := [.ref q]) (rest := []) 2 q0 hq0 (c_adP hp4 h1 (by omega) (ci := 3) rfl wq_1432 (List.mem_cons_of_mem _ List.mem_cons_self) (fun i hi => by obtain ⟨fs, h⟩ := hp2 i hi; exact ⟨fs, List.mem_cons_of_mem _ (List.mem_cons_of_mem _ h)⟩) _) (gi_V wq_535 wq_536 wq_537 wq_64 wq_538) rfl hyJx4a65c_add_9ea2d rfl rfl rfl hl.1 (Nat.le_of_ble_eq_true rfl) ⟨Nat.le_of_ble_eq_true rfl, Nat.le_of_ble_eq_true rfl⟩ ⟨by decide, by decide⟩ dX6_bid_72) (fun r w2 H locs hp hW => ?_)
            obtain ⟨hr0, e9, k9, hok9, hw9⟩ := hp
            subst hr0
            obtain ⟨w, hW, hc⟩ : ∃ w9, Wd G A s w9 H locs ∧ w9.Perm (CW G z f h ol ob sc wc tk e0 k0 m0 e9 k9 (m1 + 1) e2 k2 m2 lo (bi + 1) ru la fib gra res lst byr ra rf ro rs (va_up ba bi q) (va_up bid bi v.toNat) (va_up wo bi q9) (va_up pri bi y.toNat) (va_up bst bi 111) (va_up rea bi 109) (va_up rvl bi (-1)) (va_up pad bi 0) (va_up we bi (G.2.2 0)) (va_up wk bi 0) (va_up wm bi 0) (va_up itm bi 0) ia akf akg gt Y) := ⟨_, hW, hw9.trans (hp3 q q9 e9 k9 v.toNat y.toNat)⟩
            have h1 := hok9
            have h3 : ∀ b, b < bi + 1 → LsOK G (va_up we bi (G.2.2 0) b) (va_up wk bi 0 b) (va_up itm bi 0 b) := fun b hb9 => by
              by_cases hq : b = bi
              · subst hq; rw [va_up_self, va_up_self, va_up_self]; exact ⟨Nat.le_refl _, by omega, fun _ => rfl⟩
              · rw [va_up_ne _ _ hq, va_up_ne _ _ hq, va_up_ne _ _ hq]; exact h3 b (by omega)
            refine lv_pop hx hb dX6_bid_75 rfl ?_
            refine lv_aload_n hx hb dX6_bid_76 rfl (lv_at hl 0 rfl) ?_
            refine lv_dup hx hb dX6_bid_77 rfl ?_
            obtain ⟨q0, hq0⟩ := List.mem_iff_getElem?.mp (cw_mk hc)
            refine x_get X hW q0 hq0 6 rfl rfl iwX6 (by decide) wq_216 rfl dX6_bid_78 ?_
            refine lv_iconst (v := nI 1) hx hb dX6_bid_81 (by decide) ?_
            refine n_iadd hx hb dX6_bid_82 ?_
            obtain ⟨q0, hq0⟩ := List.mem_iff_getElem?.mp (cw_mk hc)
            refine x_put X hW q0 hq0 6 (w2 := _) rfl rfl iwX6 tyX6_ok nmX6 (by decide) wq_216 rfl rfl rfl rfl (Nat.le_of_ble_eq_true rfl) dX6_bid_83 (fun H locs hW => ?_)
            obtain ⟨w, hW, hc⟩ : ∃ w9, Wd G A s w9 H locs ∧ w9.Perm (CW G z f h ol (ob + 1) sc wc tk e0 k0 m0 e9 k9 (m1 + 1) e2 k2 m2 lo (bi + 1) ru la fib gra res lst byr ra rf ro rs (va_up ba bi q) (va_up bid bi v.toNat) (va_up wo bi q9) (va_up pri bi y.toNat) (va_up bst bi 111) (va_up rea bi 109) (va_up rvl bi (-1)) (va_up pad bi 0) (va_up we bi (G.2.2 0)) (va_up wk bi 0) (va_up wm bi 0) (va_up itm bi 0) ia akf akg gt Y) := ⟨_, hW, Fc.set (cw_mkU hc ol (ob + 1) sc wc tk) hq0⟩
            refine lv_aload_n hx hb dX6_bid_86 rfl (lv_at hl 0 rfl) ?_
            obtain ⟨q0, hq0⟩ := List.mem_iff_getElem?.mp (cw_mk hc)
            refine x_get X hW q0 hq0 1 rfl rfl iwX6 (by decide) wq_211 rfl dX6_bid_87 ?_
            obtain ⟨r9, hL1⟩ := cw_l1 hc
            obtain ⟨q0, hq0⟩ := List.mem_iff_getElem?.mp (ls_mem hL1)
            refine go_i X hW (run_V X hW (As := []) (rest := []) 2 q0 hq0 (c_szP hL1 _) (gi_V wq_245 wq_246 wq_247 wq_64 wq_248) rfl hyJx4a65c_size_8abf5 rfl rfl rfl hl.1 (Nat.le_of_ble_eq_true rfl) ⟨Nat.le_of_ble_eq_true rfl, Nat.le_of_ble_eq_true rfl⟩ ⟨by decide, by decide⟩ dX6_bid_90) (fun r w2 H locs hp hW => ?_)
            obtain ⟨hr0, hw2⟩ := hp
            subst hr0
            rw [hw2] at hW
            refine lv_iconst (v := nI 1) hx hb dX6_bid_93 (by decide) ?_
            refine n_isub hx hb (by omega) dX6_bid_94 ?_
            exact vx_ret (ret_i X hW (v := (nI ((bi + 1) - 1))) (⟨(by (repeat' apply And.intro) <;> first | assumption | omega), by rw [Nat.add_sub_cancel], ⟨e0, k0, m0, e9, k9, (m1 + 1), e2, k2, m2, la, ra, (va_up ba bi q), (va_up wo bi q9), (va_up we bi (G.2.2 0)), (va_up wk bi 0), (va_up wm bi 0), ia, h0, h1, h2, h3, hc⟩⟩) rfl (by decide) (by decide) dX6_bid_95)
          · exact x_thrS X hout hW hl9 (cls := "java/lang/IllegalStateException") 8 rfl pl_ISE fit_ISE names_ok wq_493 wq_72 at1_ISE at2_ISE good_ISE hl.1 dX6_bid_49 dX6_bid_52 dX6_bid_53 dX6_bid_55 dX6_bid_58 (Nat.le_of_ble_eq_true rfl) (Nat.le_of_ble_eq_true rfl) (Nat.le_of_ble_eq_true rfl) (Nat.le_of_ble_eq_true rfl) (Or.inr (⟨rfl, (by (repeat' apply And.intro) <;> first | assumption | omega), rfl⟩)) (Nat.le_of_ble_eq_true rfl) (Nat.le_of_ble_eq_true rfl)
      · exact x_thrS X hout hW hl9 (cls := "java/lang/IllegalArgumentException") 7 rfl pl_IAE fit_IAE names_ok wq_421 wq_71 at1_IAE at2_IAE good_IAE hl.1 dX6_bid_18 dX6_bid_21 dX6_bid_22 dX6_bid_24 dX6_bid_27 (Nat.le_of_ble_eq_true rfl) (Nat.le_of_ble_eq_true rfl) (Nat.le_of_ble_eq_true rfl) (Nat.le_of_ble_eq_true rfl) (Or.inl (⟨rfl, (by (repeat' apply And.intro) <;> first | assumption | omega), rfl⟩)) (Nat.le_of_ble_eq_true rfl) (Nat.le_of_ble_eq_true rfl)

set_option maxRecDepth 100000 in
set_option maxHeartbeats 4000000 in
theorem c_X6_ask (l : Launch) (hl9 : l.stackTraces = false) (G : Gt) (z f h : Nat → Nat) (ol ob sc wc : Nat) (tk : Int) (lo bi ru : Nat) (fib gra res lst : Nat → Nat) (byr : Nat → Int) (rf ro rs bid pri bst rea : Nat → Nat) (rvl pad : Nat → Int) (itm akf akg : Nat → Nat) (gt : Nat → Int) (Y w : va_W) (v y : Int) (g : Nat) (hI : CIa lo bi ru ol ob fib gra res lst bst rea bid pri itm akf akg rf ro rs) (hR : CR G z f h ol ob sc wc tk lo bi ru fib gra res lst byr rf ro rs bid pri bst rea rvl pad itm akf akg gt Y w) (hv : iR v) (hy : iR y) (hg : g < 65536) : Xi l G yX6_ask (ww yX6_ask cX6_ask 5 (some FieldType.int)) (RM 6 4 130) [.ref (z 0), .int (zI v), .int (zI y), .int (nI g)] w (fun r w2 => ((0 ≤ v ∧ v < ((bi : Nat) : Int)) ∧ (0 ≤ y ∧ y ≤ 3 ∧ 97 ≤ g ∧ g ≤ 101) ∧ bst v.toNat = 111 ∧ itm v.toNat < 3) ∧ r = nI (itm v.toNat + 1) ∧ CR G z f h ol ob sc wc tk lo bi ru fib gra res lst byr rf ro rs bid pri bst rea rvl pad (va_up itm v.toNat (itm v.toNat + 1)) (va_up akf (3 * v.toNat + itm v.toNat) y.toNat) (va_up akg (3 * v.toNat + itm v.toNat) g) (va_up gt (3 * v.toNat + itm v.toNat) (-1)) Y w2) (fun E w2 => (E = "java/util/NoSuchElementException" ∧ (¬ (0 ≤ v ∧ v < ((bi : Nat) : Int))) ∧ w2 = w) ∨ (E = "java/lang/IllegalArgumentException" ∧ ((0 ≤ v ∧ v < ((bi : Nat) : Int)) ∧ ¬ (0 ≤ y ∧ y ≤ 3 ∧ 97 ≤ g ∧ g ≤ 101)) ∧ w2 = w) ∨ (E = "java/lang/IllegalStateException" ∧ ((0 ≤ v ∧ v < ((bi : Nat) : Int)) ∧ (0 ≤ y ∧ y ≤ 3 ∧ 97 ≤ g ∧ g ≤ 101) ∧ (bst v.toNat ≠ 111 ∨ itm v.toNat = 3)) ∧ w2 = w)) := by
  refine Xi.intro (by decide) (Nat.le_of_ble_eq_true rfl) ?_
  intro p e s m args below meth c A X hout hW ls hl
  have hx := X.exec
  have hb := X.bytes
  have hl : lv_has ls 5 [(0, .ref (z 0)), (1, .int (zI v)), (2, .int (zI y)), (3, .int (nI g))] := hl
  obtain ⟨e0, k0, m0, e1, k1, m1, e2, k2, m2, la, ra, ba, wo, we, wk, wm, ia, h0, h1, h2, h3, hc⟩ := hR
  obtain ⟨hlo, hbi, hru, hol, hob, hfib, hgra, hres, hlst, hbst, hrea, hbid, hpri, hitm, hakf, hakg, hrf, hro, hrs, hol2, hob2⟩ := hI
  have hi9 := hitm v.toNat
  refine lv_aload_n hx hb dX6_ask_0 rfl (lv_at hl 0 rfl) ?_
  refine lv_iload_n hx hb dX6_ask_1 rfl (lv_at hl 1 rfl) ?_
  obtain ⟨q0, hq0⟩ := List.mem_iff_getElem?.mp (cw_mk hc)
  refine go_xr X hout hW (run_XV X hW (As := [.int (zI v)]) (rest := []) 9 q0 hq0 (c_X6_knownBid l hl9 G _ _ _ _ _ _ _ _ _ _ _ _ _ _ _ _ _ _ _ _ _ _ _ _ _ _ _ _ _ _ _ _ _ _ _ _ _ _ _ _ _ _ _ _ _ _ _ _ v hc h1 hbi (by omega) _) (gi_V wq_727 wq_729 wq_30 wq_61 wq_730) rfl hyX6_knownBid rfl rfl rfl hl.1 (Nat.le_of_ble_eq_true rfl) ⟨Nat.le_of_ble_eq_true rfl, Nat.le_of_ble_eq_true rfl⟩ ⟨by decide, by decide⟩ dX6_ask_2) (fun _ _ h => Or.inl h) (Nat.le_of_ble_eq_true rfl) (Nat.le_of_ble_eq_true rfl) (fun b w2 H locs hp hW => ?_)
  obtain ⟨hk2, hr0, hw2⟩ := hp
  subst hr0
  rw [hw2] at hW
  refine lv_astore (lv' := [(4, .ref (ba v.toNat)), (0, .ref (z 0)), (1, .int (zI v)), (2, .int (zI y)), (3, .int (nI g))]) hx hb dX6_ask_5 hl (by decide) rfl (fun ls hl => ?_)
  refine lv_iload_n hx hb dX6_ask_7 rfl (lv_at hl 3 rfl) ?_
  refine go_i X hW (run_S X hW (As := [.int (zI y)]) (rest := []) (c_X6_isFibre l G y w (by omega) _) (gi_S wq_415 wq_416 wq_61 wq_417) hyX6_isFibre rfl rfl hl.1 (Nat.le_of_ble_eq_true rfl) ⟨Nat.le_of_ble_eq_true rfl, Nat.le_of_ble_eq_true rfl⟩ ⟨by decide, by decide⟩ dX6_ask_8) (fun r w2 H locs hp hW => ?_)
  obtain ⟨hr0, hw2⟩ := hp
  subst hr0
  rw [hw2] at hW
  refine p_if_eq hx hb (tgt := 21) dX6_ask_11 (by decide) (fun c_11 => ?_) (fun c_11 => ?_)
  · exact x_thrS X hout hW hl9 (cls := "java/lang/IllegalArgumentException") 10 rfl pl_IAE fit_IAE names_ok wq_421 wq_71 at1_IAE at2_IAE good_IAE hl.1 dX6_ask_21 dX6_ask_24 dX6_ask_25 dX6_ask_27 dX6_ask_30 (Nat.le_of_ble_eq_true rfl) (Nat.le_of_ble_eq_true rfl) (Nat.le_of_ble_eq_true rfl) (Nat.le_of_ble_eq_true rfl) (Or.inr (Or.inl (⟨rfl, (by (repeat' apply And.intro) <;> first | assumption | omega), rfl⟩))) (Nat.le_of_ble_eq_true rfl) (Nat.le_of_ble_eq_true rfl)
  · refine lv_iload_n hx hb dX6_ask_14 rfl (lv_at hl 4 rfl) ?_
    refine go_i X hW (run_S X hW (As := [.int (nI g)]) (rest := []) (c_X6_isGrade l G g w (by omega) _) (gi_S wq_418 wq_419 wq_61 wq_420) hyX6_isGrade rfl rfl hl.1 (Nat.le_of_ble_eq_true rfl) ⟨Nat.le_of_ble_eq_true rfl, Nat.le_of_ble_eq_true rfl⟩ ⟨by decide, by decide⟩ dX6_ask_15) (fun r w2 H locs hp hW => ?_)
    obtain ⟨hr0, hw2⟩ := hp
    subst hr0
    rw [hw2] at hW
    refine p_if_ne hx hb (tgt := 31) dX6_ask_18 (by decide) (fun c_18 => ?_) (fun c_18 => ?_)
    · refine lv_aload hx hb dX6_ask_31 (lv_at hl 0 rfl) ?_
      obtain ⟨q0, hq0⟩ := List.mem_iff_getElem?.mp (cw_bid hc (b := v.toNat) (by omega))
      refine x_getN X hW q0 hq0 3 rfl rfl iwX0 (by decide) wq_699 rfl dX6_ask_33 ?_
      refine lv_bipush (v := nI 111) hx hb dX6_ask_36 (by decide) ?_
      refine n_icmp_ne hx hb rfl rfl (by have := hbst v.toNat; omega) (by omega) (tgt := 53) dX6_ask_38 (by decide) (fun c_38 => ?_) (fun c_38 => ?_)
      · exact x_thrS X hout hW hl9 (cls := "java/lang/IllegalStateException") 11 rfl pl_ISE fit_ISE names_ok wq_493 wq_72 at1_ISE at2_ISE good_ISE hl.1 dX6_ask_53 dX6_ask_56 dX6_ask_57 dX6_ask_59 dX6_ask_62 (Nat.le_of_ble_eq_true rfl) (Nat.le_of_ble_eq_true rfl) (Nat.le_of_ble_eq_true rfl) (Nat.le_of_ble_eq_true rfl) (Or.inr (Or.inr (⟨rfl, (by (repeat' apply And.intro) <;> first | assumption | omega), rfl⟩))) (Nat.le_of_ble_eq_true rfl) (Nat.le_of_ble_eq_true rfl)
      · refine lv_aload hx hb dX6_ask_41 (lv_at hl 0 rfl) ?_
        obtain ⟨q0, hq0⟩ := List.mem_iff_getElem?.mp (cw_bid hc (b := v.toNat) (by omega))
        refine x_getN X hW q0 hq0 1 rfl rfl iwX0 (by decide) wq_695 rfl dX6_ask_43 ?_
        obtain ⟨r9, hLw⟩ := cw_wl hc (b := v.toNat) (by omega)
        obtain ⟨q0, hq0⟩ := List.mem_iff_getElem?.mp (ls_mem hLw)
        refine go_i X hW (run_V X hW (As := []) (rest := []) 2 q0 hq0 (c_szP hLw _) (gi_V wq_245 wq_246 wq_247 wq_64 wq_248) rfl hyJx4a65c_size_8abf5 rfl rfl rfl hl.1 (Nat.le_of_ble_eq_true rfl) ⟨Nat.le_of_ble_eq_true rfl, Nat.le_of_ble_eq_true rfl⟩ ⟨by decide, by decide⟩ dX6_ask_46) (fun r w2 H locs hp hW => ?_)
        obtain ⟨hr0, hw2⟩ := hp
        subst hr0
        rw [hw2] at hW
        refine lv_iconst (v := nI 3) hx hb dX6_ask_49 (by decide) ?_
        refine n_icmp_lt hx hb rfl rfl (by omega) (by omega) (tgt := 63) dX6_ask_50 (by decide) (fun c_50 => ?_) (fun c_50 => ?_)
        · refine lv_aload hx hb dX6_ask_63 (lv_at hl 0 rfl) ?_
          obtain ⟨q0, hq0⟩ := List.mem_iff_getElem?.mp (cw_bid hc (b := v.toNat) (by omega))
          refine x_getN X hW q0 hq0 1 rfl rfl iwX0 (by decide) wq_695 rfl dX6_ask_65 ?_
          refine x_newO X hW (ci := 5) (fs := [.int (nI 0), .int (nI 0), .int (nI 0)]) (ty0 := tyX2) rfl iwX2 tyX2_ok wq_301 wq_738 wq_83 (fun j hj => by rcases (show j = 0 ∨ j = 1 ∨ j = 2 by omega) with rfl | rfl | rfl <;> rfl) (Nat.le_of_ble_eq_true rfl) (Nat.le_of_ble_eq_true rfl) dX6_ask_68 (fun q H hW => ?_)
          refine lv_dup hx hb dX6_ask_71 rfl ?_
          refine lv_iload_n hx hb dX6_ask_72 rfl (lv_at hl 3 rfl) ?_
          refine r_zn (a := y.toNat) (by omega) ?_
          refine lv_iload_n hx hb dX6_ask_73 rfl (lv_at hl 4 rfl) ?_
          refine go_v X hW (run_IN X hW (As := [.int (nI y.toNat), .int (nI g)]) (rest := [.ref q, .ref (wo v.toNat)]) (c_X2_init l G q y.toNat g w (by omega) _) wq_739 wq_740 wq_83 wq_741 rfl hyX2_init rfl rfl hl.1 (Nat.le_of_ble_eq_true rfl) ⟨Nat.le_of_ble_eq_true rfl, Nat.le_of_ble_eq_true rfl⟩ ⟨by decide, by decide⟩ dX6_ask_74) (fun w2 H locs hp hW => ?_)
          subst hp
          have hW : Wd G A s ((q, .inr (5, [.int (nI y.toNat), .int (nI g), .int (zI (-1))])) :: w) _ _ := hW
          obtain ⟨r9, hp1, hp2, hp3⟩ := cw_addI hc (b := v.toNat) (by omega) hitm (by omega)
          have hp4 : ((q, .inr (5, [.int (nI y.toNat), .int (nI g), .int (zI (-1))])) :: w).Perm (lsW G (wo v.toNat) (we v.toNat) (wk v.toNat) (wm v.toNat) (itm v.toNat) (fun j => ia (3 * v.toNat + j)) ++ ((q, .inr (5, [.int (nI y.toNat), .int (nI g), .int (zI (-1))])) :: r9)) := pmX hp1 _
          obtain ⟨q0, hq0⟩ := List.mem_iff_getElem?.mp (ls_mem hp4)
          refine go_i X hW (run_V X hW (As := [.ref q]) (rest := []) 2 q0 hq0 (c_adP hp4 (h3 v.toNat (by omega)) (by omega) (ci := 5) rfl wq_1433 (List.mem_cons_self) (fun i hi => by obtain ⟨fs, h⟩ := hp2 i hi; exact ⟨fs, List.mem_cons_of_mem _ h⟩) _) (gi_V wq_535 wq_536 wq_537 wq_64 wq_538) rfl hyJx4a65c_add_9ea2d rfl rfl rfl hl.1 (Nat.le_of_ble_eq_true rfl) ⟨Nat.le_of_ble_eq_true rfl, Nat.le_of_ble_eq_true rfl⟩ ⟨by decide, by decide⟩ dX6_ask_77) (fun r w2 H locs hp hW => ?_)
          obtain ⟨hr0, e9, k9, hok9, hw9⟩ := hp
          subst hr0
          obtain ⟨w, hW, hc⟩ : ∃ w9, Wd G A s w9 H locs ∧ w9.Perm (CW G z f h ol ob sc wc tk e0 k0 m0 e1 k1 m1 e2 k2 m2 lo bi ru la fib gra res lst byr ra rf ro rs ba bid wo pri bst rea rvl pad (va_up we v.toNat e9) (va_up wk v.toNat k9) (va_up wm v.toNat (wm v.toNat + 1)) (va_up itm v.toNat (itm v.toNat + 1)) (va_up ia (3 * v.toNat + itm v.toNat) q) (va_up akf (3 * v.toNat + itm v.toNat) y.toNat) (va_up akg (3 * v.toNat + itm v.toNat) g) (va_up gt (3 * v.toNat + itm v.toNat) (-1)) Y) := ⟨_, hW, hw9.trans (hp3 q e9 k9 y.toNat g)⟩
          have h3 : ∀ b, b < bi → LsOK G (va_up we v.toNat e9 b) (va_up wk v.toNat k9 b) (va_up itm v.toNat (itm v.toNat + 1) b) := fun b hb9 => by
            by_cases hq : b = v.toNat
            · subst hq; rw [va_up_self, va_up_self, va_up_self]; exact hok9
            · rw [va_up_ne _ _ hq, va_up_ne _ _ hq, va_up_ne _ _ hq]; exact h3 b hb9
          refine lv_pop hx hb dX6_ask_80 rfl ?_
          refine lv_aload hx hb dX6_ask_81 (lv_at hl 0 rfl) ?_
          obtain ⟨q0, hq0⟩ := List.mem_iff_getElem?.mp (cw_bid hc (b := v.toNat) (by omega))
          refine x_getN X hW q0 hq0 1 rfl rfl iwX0 (by decide) wq_695 rfl dX6_ask_83 ?_
          obtain ⟨r9, hLw⟩ := cw_wl hc (b := v.toNat) (by omega)
          obtain ⟨q0, hq0⟩ := List.mem_iff_getElem?.mp (ls_mem hLw)
          refine go_i X hW (run_V X hW (As := []) (rest := []) 2 q0 hq0 (c_szP hLw _) (gi_V wq_245 wq_246 wq_247 wq_64 wq_248) rfl hyJx4a65c_size_8abf5 rfl rfl rfl hl.1 (Nat.le_of_ble_eq_true rfl) ⟨Nat.le_of_ble_eq_true rfl, Nat.le_of_ble_eq_true rfl⟩ ⟨by decide, by decide⟩ dX6_ask_86) (fun r w2 H locs hp hW => ?_)
          obtain ⟨hr0, hw2⟩ := hp
          subst hr0
          rw [hw2] at hW
          exact vx_ret (ret_i X hW (v := (nI ((va_up itm v.toNat (itm v.toNat + 1)) v.toNat))) (⟨(by (repeat' apply And.intro) <;> first | assumption | omega), by rw [va_up_self], ⟨e0, k0, m0, e1, k1, m1, e2, k2, m2, la, ra, ba, wo, (va_up we v.toNat e9), (va_up wk v.toNat k9), (va_up wm v.toNat (wm v.toNat + 1)), (va_up ia (3 * v.toNat + itm v.toNat) q), h0, h1, h2, h3, hc⟩⟩) rfl (by decide) (by decide) dX6_ask_89)
        · exact x_thrS X hout hW hl9 (cls := "java/lang/IllegalStateException") 11 rfl pl_ISE fit_ISE names_ok wq_493 wq_72 at1_ISE at2_ISE good_ISE hl.1 dX6_ask_53 dX6_ask_56 dX6_ask_57 dX6_ask_59 dX6_ask_62 (Nat.le_of_ble_eq_true rfl) (Nat.le_of_ble_eq_true rfl) (Nat.le_of_ble_eq_true rfl) (Nat.le_of_ble_eq_true rfl) (Or.inr (Or.inr (⟨rfl, (by (repeat' apply And.intro) <;> first | assumption | omega), rfl⟩))) (Nat.le_of_ble_eq_true rfl) (Nat.le_of_ble_eq_true rfl)
    · exact x_thrS X hout hW hl9 (cls := "java/lang/IllegalArgumentException") 10 rfl pl_IAE fit_IAE names_ok wq_421 wq_71 at1_IAE at2_IAE good_IAE hl.1 dX6_ask_21 dX6_ask_24 dX6_ask_25 dX6_ask_27 dX6_ask_30 (Nat.le_of_ble_eq_true rfl) (Nat.le_of_ble_eq_true rfl) (Nat.le_of_ble_eq_true rfl) (Nat.le_of_ble_eq_true rfl) (Or.inr (Or.inl (⟨rfl, (by (repeat' apply And.intro) <;> first | assumption | omega), rfl⟩))) (Nat.le_of_ble_eq_true rfl) (Nat.le_of_ble_eq_true rfl)

