set_option maxRecDepth 100000 in
set_option maxHeartbeats 4000000 in
theorem c_X6_lots (l : Launch) (G : Gt) (z f h : Nat → Nat) (ol ob sc wc : Nat) (tk : Int) (lo bi ru : Nat) (fib gra res lst : Nat → Nat) (byr : Nat → Int) (rf ro rs bid pri bst rea : Nat → Nat) (rvl pad : Nat → Int) (itm akf akg : Nat → Nat) (gt : Nat → Int) (Y w : va_W) (hI : CIa lo bi ru ol ob fib gra res lst bst rea bid pri itm akf akg rf ro rs) (hR : CR G z f h ol ob sc wc tk lo bi ru fib gra res lst byr rf ro rs bid pri bst rea rvl pad itm akf akg gt Y w) : Ci l G yX6_lots (ww yX6_lots cX6_lots 1 (some FieldType.int)) (RM 1 0 0) [.ref (z 0)] w (fun r w2 => r = nI lo ∧ w2 = w) := by
  refine Ci.intro (by decide) (Nat.le_of_ble_eq_true rfl) ?_
  intro p e s m args below meth c A X hW ls hl
  have hx := X.exec
  have hb := X.bytes
  have hl : lv_has ls 1 [(0, .ref (z 0))] := hl
  obtain ⟨e0, k0, m0, e1, k1, m1, e2, k2, m2, la, ra, ba, wo, we, wk, wm, ia, h0, h1, h2, h3, hc⟩ := hR
  obtain ⟨hlo, hbi, hru, hol, hob, hfib, hgra, hres, hlst, hbst, hrea, hbid, hpri, hitm, hakf, hakg, hrf, hro, hrs, hol2, hob2⟩ := hI
  refine lv_aload_n hx hb dX6_lots_0 rfl (lv_at hl 0 rfl) ?_
  obtain ⟨q0, hq0⟩ := List.mem_iff_getElem?.mp (cw_mk hc)
  refine x_get X hW q0 hq0 0 rfl rfl iwX6 (by decide) wq_210 rfl dX6_lots_1 ?_
  obtain ⟨r9, hL0⟩ := cw_l0 hc
  obtain ⟨q0, hq0⟩ := List.mem_iff_getElem?.mp (ls_mem hL0)
  refine go_i X hW (run_V X hW (As := []) (rest := []) 2 q0 hq0 (c_szP hL0 _) (gi_V wq_245 wq_246 wq_247 wq_64 wq_248) rfl hyJx4a65c_size_8abf5 rfl rfl rfl hl.1 (Nat.le_of_ble_eq_true rfl) ⟨Nat.le_of_ble_eq_true rfl, Nat.le_of_ble_eq_true rfl⟩ ⟨by decide, by decide⟩ dX6_lots_4) (fun r w2 H locs hp hW => ?_)
  obtain ⟨hr0, hw2⟩ := hp
  subst hr0
  rw [hw2] at hW
  exact ret_i X hW (v := (nI lo)) (⟨rfl, rfl⟩) rfl (by decide) (by decide) dX6_lots_7

set_option maxRecDepth 100000 in
set_option maxHeartbeats 4000000 in
theorem c_X6_bids (l : Launch) (G : Gt) (z f h : Nat → Nat) (ol ob sc wc : Nat) (tk : Int) (lo bi ru : Nat) (fib gra res lst : Nat → Nat) (byr : Nat → Int) (rf ro rs bid pri bst rea : Nat → Nat) (rvl pad : Nat → Int) (itm akf akg : Nat → Nat) (gt : Nat → Int) (Y w : va_W) (hI : CIa lo bi ru ol ob fib gra res lst bst rea bid pri itm akf akg rf ro rs) (hR : CR G z f h ol ob sc wc tk lo bi ru fib gra res lst byr rf ro rs bid pri bst rea rvl pad itm akf akg gt Y w) : Ci l G yX6_bids (ww yX6_bids cX6_bids 1 (some FieldType.int)) (RM 1 0 0) [.ref (z 0)] w (fun r w2 => r = nI bi ∧ w2 = w) := by
  refine Ci.intro (by decide) (Nat.le_of_ble_eq_true rfl) ?_
  intro p e s m args below meth c A X hW ls hl
  have hx := X.exec
  have hb := X.bytes
  have hl : lv_has ls 1 [(0, .ref (z 0))] := hl
  obtain ⟨e0, k0, m0, e1, k1, m1, e2, k2, m2, la, ra, ba, wo, we, wk, wm, ia, h0, h1, h2, h3, hc⟩ := hR
  obtain ⟨hlo, hbi, hru, hol, hob, hfib, hgra, hres, hlst, hbst, hrea, hbid, hpri, hitm, hakf, hakg, hrf, hro, hrs, hol2, hob2⟩ := hI
  refine lv_aload_n hx hb dX6_bids_0 rfl (lv_at hl 0 rfl) ?_
  obtain ⟨q0, hq0⟩ := List.mem_iff_getElem?.mp (cw_mk hc)
  refine x_get X hW q0 hq0 1 rfl rfl iwX6 (by decide) wq_211 rfl dX6_bids_1 ?_
  obtain ⟨r9, hL1⟩ := cw_l1 hc
  obtain ⟨q0, hq0⟩ := List.mem_iff_getElem?.mp (ls_mem hL1)
  refine go_i X hW (run_V X hW (As := []) (rest := []) 2 q0 hq0 (c_szP hL1 _) (gi_V wq_245 wq_246 wq_247 wq_64 wq_248) rfl hyJx4a65c_size_8abf5 rfl rfl rfl hl.1 (Nat.le_of_ble_eq_true rfl) ⟨Nat.le_of_ble_eq_true rfl, Nat.le_of_ble_eq_true rfl⟩ ⟨by decide, by decide⟩ dX6_bids_4) (fun r w2 H locs hp hW => ?_)
  obtain ⟨hr0, hw2⟩ := hp
  subst hr0
  rw [hw2] at hW
  exact ret_i X hW (v := (nI bi)) (⟨rfl, rfl⟩) rfl (by decide) (by decide) dX6_bids_7

set_option maxRecDepth 100000 in
set_option maxHeartbeats 4000000 in
theorem c_X6_openLots (l : Launch) (G : Gt) (z f h : Nat → Nat) (ol ob sc wc : Nat) (tk : Int) (lo bi ru : Nat) (fib gra res lst : Nat → Nat) (byr : Nat → Int) (rf ro rs bid pri bst rea : Nat → Nat) (rvl pad : Nat → Int) (itm akf akg : Nat → Nat) (gt : Nat → Int) (Y w : va_W) (hI : CIa lo bi ru ol ob fib gra res lst bst rea bid pri itm akf akg rf ro rs) (hR : CR G z f h ol ob sc wc tk lo bi ru fib gra res lst byr rf ro rs bid pri bst rea rvl pad itm akf akg gt Y w) : Ci l G yX6_openLots (ww yX6_openLots cX6_openLots 1 (some FieldType.int)) (RM 0 0 0) [.ref (z 0)] w (fun r w2 => r = nI ol ∧ w2 = w) := by
  refine Ci.intro (by decide) (Nat.le_of_ble_eq_true rfl) ?_
  intro p e s m args below meth c A X hW ls hl
  have hx := X.exec
  have hb := X.bytes
  have hl : lv_has ls 1 [(0, .ref (z 0))] := hl
  obtain ⟨e0, k0, m0, e1, k1, m1, e2, k2, m2, la, ra, ba, wo, we, wk, wm, ia, h0, h1, h2, h3, hc⟩ := hR
  obtain ⟨hlo, hbi, hru, hol, hob, hfib, hgra, hres, hlst, hbst, hrea, hbid, hpri, hitm, hakf, hakg, hrf, hro, hrs, hol2, hob2⟩ := hI
  refine lv_aload_n hx hb dX6_openLots_0 rfl (lv_at hl 0 rfl) ?_
  obtain ⟨q0, hq0⟩ := List.mem_iff_getElem?.mp (cw_mk hc)
  refine x_get X hW q0 hq0 5 rfl rfl iwX6 (by decide) wq_215 rfl dX6_openLots_1 ?_
  exact ret_i X hW (v := (nI ol)) (⟨rfl, rfl⟩) rfl (by decide) (by decide) dX6_openLots_4

set_option maxRecDepth 100000 in
set_option maxHeartbeats 4000000 in
theorem c_X6_openBids (l : Launch) (G : Gt) (z f h : Nat → Nat) (ol ob sc wc : Nat) (tk : Int) (lo bi ru : Nat) (fib gra res lst : Nat → Nat) (byr : Nat → Int) (rf ro rs bid pri bst rea : Nat → Nat) (rvl pad : Nat → Int) (itm akf akg : Nat → Nat) (gt : Nat → Int) (Y w : va_W) (hI : CIa lo bi ru ol ob fib gra res lst bst rea bid pri itm akf akg rf ro rs) (hR : CR G z f h ol ob sc wc tk lo bi ru fib gra res lst byr rf ro rs bid pri bst rea rvl pad itm akf akg gt Y w) : Ci l G yX6_openBids (ww yX6_openBids cX6_openBids 1 (some FieldType.int)) (RM 0 0 0) [.ref (z 0)] w (fun r w2 => r = nI ob ∧ w2 = w) := by
  refine Ci.intro (by decide) (Nat.le_of_ble_eq_true rfl) ?_
  intro p e s m args below meth c A X hW ls hl
  have hx := X.exec
  have hb := X.bytes
  have hl : lv_has ls 1 [(0, .ref (z 0))] := hl
  obtain ⟨e0, k0, m0, e1, k1, m1, e2, k2, m2, la, ra, ba, wo, we, wk, wm, ia, h0, h1, h2, h3, hc⟩ := hR
  obtain ⟨hlo, hbi, hru, hol, hob, hfib, hgra, hres, hlst, hbst, hrea, hbid, hpri, hitm, hakf, hakg, hrf, hro, hrs, hol2, hob2⟩ := hI
  refine lv_aload_n hx hb dX6_openBids_0 rfl (lv_at hl 0 rfl) ?_
  obtain ⟨q0, hq0⟩ := List.mem_iff_getElem?.mp (cw_mk hc)
  refine x_get X hW q0 hq0 6 rfl rfl iwX6 (by decide) wq_216 rfl dX6_openBids_1 ?_
  exact ret_i X hW (v := (nI ob)) (⟨rfl, rfl⟩) rfl (by decide) (by decide) dX6_openBids_4

set_option maxRecDepth 100000 in
set_option maxHeartbeats 4000000 in
theorem c_X6_takings (l : Launch) (G : Gt) (z f h : Nat → Nat) (ol ob sc wc : Nat) (tk : Int) (lo bi ru : Nat) (fib gra res lst : Nat → Nat) (byr : Nat → Int) (rf ro rs bid pri bst rea : Nat → Nat) (rvl pad : Nat → Int) (itm akf akg : Nat → Nat) (gt : Nat → Int) (Y w : va_W) (hI : CIa lo bi ru ol ob fib gra res lst bst rea bid pri itm akf akg rf ro rs) (hR : CR G z f h ol ob sc wc tk lo bi ru fib gra res lst byr rf ro rs bid pri bst rea rvl pad itm akf akg gt Y w) : Cl l G yX6_takings (ww yX6_takings cX6_takings 1 (some FieldType.long)) (RM 0 0 0) [.ref (z 0)] w (fun r w2 => r = lZ tk ∧ w2 = w) := by
  refine Cl.intro (by decide) (Nat.le_of_ble_eq_true rfl) ?_
  intro p e s m args below meth c A X hW ls hl
  have hx := X.exec
  have hb := X.bytes
  have hl : lv_has ls 1 [(0, .ref (z 0))] := hl
  obtain ⟨e0, k0, m0, e1, k1, m1, e2, k2, m2, la, ra, ba, wo, we, wk, wm, ia, h0, h1, h2, h3, hc⟩ := hR
  obtain ⟨hlo, hbi, hru, hol, hob, hfib, hgra, hres, hlst, hbst, hrea, hbid, hpri, hitm, hakf, hakg, hrf, hro, hrs, hol2, hob2⟩ := hI
  refine lv_aload_n hx hb dX6_takings_0 rfl (lv_at hl 0 rfl) ?_
  obtain ⟨q0, hq0⟩ := List.mem_iff_getElem?.mp (cw_mk hc)
  refine x_get X hW q0 hq0 9 rfl rfl iwX6 (by decide) wq_219 rfl dX6_takings_1 ?_
  exact ret_l X hW (⟨rfl, rfl⟩) rfl (by decide) (by decide) dX6_takings_4

set_option maxRecDepth 100000 in
set_option maxHeartbeats 4000000 in
theorem c_X6_fibreOf (l : Launch) (hl9 : l.stackTraces = false) (G : Gt) (z f h : Nat → Nat) (ol ob sc wc : Nat) (tk : Int) (lo bi ru : Nat) (fib gra res lst : Nat → Nat) (byr : Nat → Int) (rf ro rs bid pri bst rea : Nat → Nat) (rvl pad : Nat → Int) (itm akf akg : Nat → Nat) (gt : Nat → Int) (Y w : va_W) (v : Int) (hI : CIa lo bi ru ol ob fib gra res lst bst rea bid pri itm akf akg rf ro rs) (hR : CR G z f h ol ob sc wc tk lo bi ru fib gra res lst byr rf ro rs bid pri bst rea rvl pad itm akf akg gt Y w) (hv : iR v) : Xi l G yX6_fibreOf (ww yX6_fibreOf cX6_fibreOf 2 (some FieldType.int)) (RM 6 3 18) [.ref (z 0), .int (zI v)] w (fun r w2 => (0 ≤ v ∧ v < ((lo : Nat) : Int)) ∧ r = nI (fib v.toNat) ∧ w2 = w) (fun E w2 => (E = "java/util/NoSuchElementException" ∧ (¬ (0 ≤ v ∧ v < ((lo : Nat) : Int))) ∧ w2 = w)) := by
  refine Xi.intro (by decide) (Nat.le_of_ble_eq_true rfl) ?_
  intro p e s m args below meth c A X hout hW ls hl
  have hx := X.exec
  have hb := X.bytes
  have hl : lv_has ls 2 [(0, .ref (z 0)), (1, .int (zI v))] := hl
  obtain ⟨e0, k0, m0, e1, k1, m1, e2, k2, m2, la, ra, ba, wo, we, wk, wm, ia, h0, h1, h2, h3, hc⟩ := hR
  obtain ⟨hlo, hbi, hru, hol, hob, hfib, hgra, hres, hlst, hbst, hrea, hbid, hpri, hitm, hakf, hakg, hrf, hro, hrs, hol2, hob2⟩ := hI
  refine lv_aload_n hx hb dX6_fibreOf_0 rfl (lv_at hl 0 rfl) ?_
  refine lv_iload_n hx hb dX6_fibreOf_1 rfl (lv_at hl 1 rfl) ?_
  obtain ⟨q0, hq0⟩ := List.mem_iff_getElem?.mp (cw_mk hc)
  refine go_xr X hout hW (run_XV X hW (As := [.int (zI v)]) (rest := []) 9 q0 hq0 (c_X6_knownLot l hl9 G _ _ _ _ _ _ _ _ _ _ _ _ _ _ _ _ _ _ _ _ _ _ _ _ _ _ _ _ _ _ _ _ _ _ _ _ _ _ _ _ _ _ _ _ _ _ _ _ v hc h0 hlo (by omega) _) (gi_V wq_604 wq_606 wq_28 wq_61 wq_607) rfl hyX6_knownLot rfl rfl rfl hl.1 (Nat.le_of_ble_eq_true rfl) ⟨Nat.le_of_ble_eq_true rfl, Nat.le_of_ble_eq_true rfl⟩ ⟨by decide, by decide⟩ dX6_fibreOf_2) (fun _ _ h => h) (Nat.le_of_ble_eq_true rfl) (Nat.le_of_ble_eq_true rfl) (fun b w2 H locs hp hW => ?_)
  obtain ⟨hk2, hr0, hw2⟩ := hp
  subst hr0
  rw [hw2] at hW
  obtain ⟨q0, hq0⟩ := List.mem_iff_getElem?.mp (cw_lot hc (i := v.toNat) (by omega))
  refine x_getN X hW q0 hq0 0 rfl rfl iwX3 (by decide) wq_515 rfl dX6_fibreOf_5 ?_
  exact vx_ret (ret_i X hW (v := (nI (fib v.toNat))) (⟨(by (repeat' apply And.intro) <;> first | assumption | omega), rfl, rfl⟩) rfl (by decide) (by decide) dX6_fibreOf_8)

set_option maxRecDepth 100000 in
set_option maxHeartbeats 4000000 in
theorem c_X6_gradeOf (l : Launch) (hl9 : l.stackTraces = false) (G : Gt) (z f h : Nat → Nat) (ol ob sc wc : Nat) (tk : Int) (lo bi ru : Nat) (fib gra res lst : Nat → Nat) (byr : Nat → Int) (rf ro rs bid pri bst rea : Nat → Nat) (rvl pad : Nat → Int) (itm akf akg : Nat → Nat) (gt : Nat → Int) (Y w : va_W) (v : Int) (hI : CIa lo bi ru ol ob fib gra res lst bst rea bid pri itm akf akg rf ro rs) (hR : CR G z f h ol ob sc wc tk lo bi ru fib gra res lst byr rf ro rs bid pri bst rea rvl pad itm akf akg gt Y w) (hv : iR v) : Xi l G yX6_gradeOf (ww yX6_gradeOf cX6_gradeOf 2 (some FieldType.char)) (RM 6 3 18) [.ref (z 0), .int (zI v)] w (fun r w2 => (0 ≤ v ∧ v < ((lo : Nat) : Int)) ∧ r = nI (gra v.toNat) ∧ w2 = w) (fun E w2 => (E = "java/util/NoSuchElementException" ∧ (¬ (0 ≤ v ∧ v < ((lo : Nat) : Int))) ∧ w2 = w)) := by
  refine Xi.intro (by decide) (Nat.le_of_ble_eq_true rfl) ?_
  intro p e s m args below meth c A X hout hW ls hl
  have hx := X.exec
  have hb := X.bytes
  have hl : lv_has ls 2 [(0, .ref (z 0)), (1, .int (zI v))] := hl
  obtain ⟨e0, k0, m0, e1, k1, m1, e2, k2, m2, la, ra, ba, wo, we, wk, wm, ia, h0, h1, h2, h3, hc⟩ := hR
  obtain ⟨hlo, hbi, hru, hol, hob, hfib, hgra, hres, hlst, hbst, hrea, hbid, hpri, hitm, hakf, hakg, hrf, hro, hrs, hol2, hob2⟩ := hI
  refine lv_aload_n hx hb dX6_gradeOf_0 rfl (lv_at hl 0 rfl) ?_
  refine lv_iload_n hx hb dX6_gradeOf_1 rfl (lv_at hl 1 rfl) ?_
  obtain ⟨q0, hq0⟩ := List.mem_iff_getElem?.mp (cw_mk hc)
  refine go_xr X hout hW (run_XV X hW (As := [.int (zI v)]) (rest := []) 9 q0 hq0 (c_X6_knownLot l hl9 G _ _ _ _ _ _ _ _ _ _ _ _ _ _ _ _ _ _ _ _ _ _ _ _ _ _ _ _ _ _ _ _ _ _ _ _ _ _ _ _ _ _ _ _ _ _ _ _ v hc h0 hlo (by omega) _) (gi_V wq_604 wq_606 wq_28 wq_61 wq_607) rfl hyX6_knownLot rfl rfl rfl hl.1 (Nat.le_of_ble_eq_true rfl) ⟨Nat.le_of_ble_eq_true rfl, Nat.le_of_ble_eq_true rfl⟩ ⟨by decide, by decide⟩ dX6_gradeOf_2) (fun _ _ h => h) (Nat.le_of_ble_eq_true rfl) (Nat.le_of_ble_eq_true rfl) (fun b w2 H locs hp hW => ?_)
  obtain ⟨hk2, hr0, hw2⟩ := hp
  subst hr0
  rw [hw2] at hW
  obtain ⟨q0, hq0⟩ := List.mem_iff_getElem?.mp (cw_lot hc (i := v.toNat) (by omega))
  refine x_getN X hW q0 hq0 1 rfl rfl iwX3 (by decide) wq_517 rfl dX6_gradeOf_5 ?_
  exact vx_ret (ret_z X hW (v := (nI (gra v.toNat))) (⟨(by (repeat' apply And.intro) <;> first | assumption | omega), rfl, rfl⟩) rfl ((pk_charN (by have := hgra v.toNat; omega)).1) (by decide) (by decide) dX6_gradeOf_8)

set_option maxRecDepth 100000 in
set_option maxHeartbeats 4000000 in
theorem c_X6_reserveOf (l : Launch) (hl9 : l.stackTraces = false) (G : Gt) (z f h : Nat → Nat) (ol ob sc wc : Nat) (tk : Int) (lo bi ru : Nat) (fib gra res lst : Nat → Nat) (byr : Nat → Int) (rf ro rs bid pri bst rea : Nat → Nat) (rvl pad : Nat → Int) (itm akf akg : Nat → Nat) (gt : Nat → Int) (Y w : va_W) (v : Int) (hI : CIa lo bi ru ol ob fib gra res lst bst rea bid pri itm akf akg rf ro rs) (hR : CR G z f h ol ob sc wc tk lo bi ru fib gra res lst byr rf ro rs bid pri bst rea rvl pad itm akf akg gt Y w) (hv : iR v) : Xi l G yX6_reserveOf (ww yX6_reserveOf cX6_reserveOf 2 (some FieldType.int)) (RM 6 3 18) [.ref (z 0), .int (zI v)] w (fun r w2 => (0 ≤ v ∧ v < ((lo : Nat) : Int)) ∧ r = nI (res v.toNat) ∧ w2 = w) (fun E w2 => (E = "java/util/NoSuchElementException" ∧ (¬ (0 ≤ v ∧ v < ((lo : Nat) : Int))) ∧ w2 = w)) := by
  refine Xi.intro (by decide) (Nat.le_of_ble_eq_true rfl) ?_
  intro p e s m args below meth c A X hout hW ls hl
  have hx := X.exec
  have hb := X.bytes
  have hl : lv_has ls 2 [(0, .ref (z 0)), (1, .int (zI v))] := hl
  obtain ⟨e0, k0, m0, e1, k1, m1, e2, k2, m2, la, ra, ba, wo, we, wk, wm, ia, h0, h1, h2, h3, hc⟩ := hR
  obtain ⟨hlo, hbi, hru, hol, hob, hfib, hgra, hres, hlst, hbst, hrea, hbid, hpri, hitm, hakf, hakg, hrf, hro, hrs, hol2, hob2⟩ := hI
  refine lv_aload_n hx hb dX6_reserveOf_0 rfl (lv_at hl 0 rfl) ?_
  refine lv_iload_n hx hb dX6_reserveOf_1 rfl (lv_at hl 1 rfl) ?_
  obtain ⟨q0, hq0⟩ := List.mem_iff_getElem?.mp (cw_mk hc)
  refine go_xr X hout hW (run_XV X hW (As := [.int (zI v)]) (rest := []) 9 q0 hq0 (c_X6_knownLot l hl9 G _ _ _ _ _ _ _ _ _ _ _ _ _ _ _ _ _ _ _ _ _ _ _ _ _ _ _ _ _ _ _ _ _ _ _ _ _ _ _ _ _ _ _ _ _ _ _ _ v hc h0 hlo (by omega) _) (gi_V wq_604 wq_606 wq_28 wq_61 wq_607) rfl hyX6_knownLot rfl rfl rfl hl.1 (Nat.le_of_ble_eq_true rfl) ⟨Nat.le_of_ble_eq_true rfl, Nat.le_of_ble_eq_true rfl⟩ ⟨by decide, by decide⟩ dX6_reserveOf_2) (fun _ _ h => h) (Nat.le_of_ble_eq_true rfl) (Nat.le_of_ble_eq_true rfl) (fun b w2 H locs hp hW => ?_)
  obtain ⟨hk2, hr0, hw2⟩ := hp
  subst hr0
  rw [hw2] at hW
  obtain ⟨q0, hq0⟩ := List.mem_iff_getElem?.mp (cw_lot hc (i := v.toNat) (by omega))
  refine x_getN X hW q0 hq0 2 rfl rfl iwX3 (by decide) wq_519 rfl dX6_reserveOf_5 ?_
  exact vx_ret (ret_i X hW (v := (nI (res v.toNat))) (⟨(by (repeat' apply And.intro) <;> first | assumption | omega), rfl, rfl⟩) rfl (by decide) (by decide) dX6_reserveOf_8)

set_option maxRecDepth 100000 in
set_option maxHeartbeats 4000000 in
theorem c_X6_lotState (l : Launch) (hl9 : l.stackTraces = false) (G : Gt) (z f h : Nat → Nat) (ol ob sc wc : Nat) (tk : Int) (lo bi ru : Nat) (fib gra res lst : Nat → Nat) (byr : Nat → Int) (rf ro rs bid pri bst rea : Nat → Nat) (rvl pad : Nat → Int) (itm akf akg : Nat → Nat) (gt : Nat → Int) (Y w : va_W) (v : Int) (hI : CIa lo bi ru ol ob fib gra res lst bst rea bid pri itm akf akg rf ro rs) (hR : CR G z f h ol ob sc wc tk lo bi ru fib gra res lst byr rf ro rs bid pri bst rea rvl pad itm akf akg gt Y w) (hv : iR v) : Xi l G yX6_lotState (ww yX6_lotState cX6_lotState 2 (some FieldType.char)) (RM 6 3 18) [.ref (z 0), .int (zI v)] w (fun r w2 => (0 ≤ v ∧ v < ((lo : Nat) : Int)) ∧ r = nI (lst v.toNat) ∧ w2 = w) (fun E w2 => (E = "java/util/NoSuchElementException" ∧ (¬ (0 ≤ v ∧ v < ((lo : Nat) : Int))) ∧ w2 = w)) := by
  refine Xi.intro (by decide) (Nat.le_of_ble_eq_true rfl) ?_
  intro p e s m args below meth c A X hout hW ls hl
  have hx := X.exec
  have hb := X.bytes
  have hl : lv_has ls 2 [(0, .ref (z 0)), (1, .int (zI v))] := hl
  obtain ⟨e0, k0, m0, e1, k1, m1, e2, k2, m2, la, ra, ba, wo, we, wk, wm, ia, h0, h1, h2, h3, hc⟩ := hR
  obtain ⟨hlo, hbi, hru, hol, hob, hfib, hgra, hres, hlst, hbst, hrea, hbid, hpri, hitm, hakf, hakg, hrf, hro, hrs, hol2, hob2⟩ := hI
  refine lv_aload_n hx hb dX6_lotState_0 rfl (lv_at hl 0 rfl) ?_
  refine lv_iload_n hx hb dX6_lotState_1 rfl (lv_at hl 1 rfl) ?_
  obtain ⟨q0, hq0⟩ := List.mem_iff_getElem?.mp (cw_mk hc)
  refine go_xr X hout hW (run_XV X hW (As := [.int (zI v)]) (rest := []) 9 q0 hq0 (c_X6_knownLot l hl9 G _ _ _ _ _ _ _ _ _ _ _ _ _ _ _ _ _ _ _ _ _ _ _ _ _ _ _ _ _ _ _ _ _ _ _ _ _ _ _ _ _ _ _ _ _ _ _ _ v hc h0 hlo (by omega) _) (gi_V wq_604 wq_606 wq_28 wq_61 wq_607) rfl hyX6_knownLot rfl rfl rfl hl.1 (Nat.le_of_ble_eq_true rfl) ⟨Nat.le_of_ble_eq_true rfl, Nat.le_of_ble_eq_true rfl⟩ ⟨by decide, by decide⟩ dX6_lotState_2) (fun _ _ h => h) (Nat.le_of_ble_eq_true rfl) (Nat.le_of_ble_eq_true rfl) (fun b w2 H locs hp hW => ?_)
  obtain ⟨hk2, hr0, hw2⟩ := hp
  subst hr0
  rw [hw2] at hW
  obtain ⟨q0, hq0⟩ := List.mem_iff_getElem?.mp (cw_lot hc (i := v.toNat) (by omega))
  refine x_getN X hW q0 hq0 3 rfl rfl iwX3 (by decide) wq_521 rfl dX6_lotState_5 ?_
  exact vx_ret (ret_z X hW (v := (nI (lst v.toNat))) (⟨(by (repeat' apply And.intro) <;> first | assumption | omega), rfl, rfl⟩) rfl ((pk_charN (by have := hlst v.toNat; omega)).1) (by decide) (by decide) dX6_lotState_8)

set_option maxRecDepth 100000 in
set_option maxHeartbeats 4000000 in
theorem c_X6_soldTo (l : Launch) (hl9 : l.stackTraces = false) (G : Gt) (z f h : Nat → Nat) (ol ob sc wc : Nat) (tk : Int) (lo bi ru : Nat) (fib gra res lst : Nat → Nat) (byr : Nat → Int) (rf ro rs bid pri bst rea : Nat → Nat) (rvl pad : Nat → Int) (itm akf akg : Nat → Nat) (gt : Nat → Int) (Y w : va_W) (v : Int) (hI : CIa lo bi ru ol ob fib gra res lst bst rea bid pri itm akf akg rf ro rs) (hR : CR G z f h ol ob sc wc tk lo bi ru fib gra res lst byr rf ro rs bid pri bst rea rvl pad itm akf akg gt Y w) (hv : iR v) : Xi l G yX6_soldTo (ww yX6_soldTo cX6_soldTo 3 (some FieldType.int)) (RM 6 3 18) [.ref (z 0), .int (zI v)] w (fun r w2 => ((0 ≤ v ∧ v < ((lo : Nat) : Int)) ∧ lst v.toNat = 115) ∧ r = zI (byr v.toNat) ∧ w2 = w) (fun E w2 => (E = "java/util/NoSuchElementException" ∧ (¬ (0 ≤ v ∧ v < ((lo : Nat) : Int))) ∧ w2 = w) ∨ (E = "java/lang/IllegalStateException" ∧ ((0 ≤ v ∧ v < ((lo : Nat) : Int)) ∧ lst v.toNat ≠ 115) ∧ w2 = w)) := by
  refine Xi.intro (by decide) (Nat.le_of_ble_eq_true rfl) ?_
  intro p e s m args below meth c A X hout hW ls hl
  have hx := X.exec
  have hb := X.bytes
  have hl : lv_has ls 3 [(0, .ref (z 0)), (1, .int (zI v))] := hl
  obtain ⟨e0, k0, m0, e1, k1, m1, e2, k2, m2, la, ra, ba, wo, we, wk, wm, ia, h0, h1, h2, h3, hc⟩ := hR
  obtain ⟨hlo, hbi, hru, hol, hob, hfib, hgra, hres, hlst, hbst, hrea, hbid, hpri, hitm, hakf, hakg, hrf, hro, hrs, hol2, hob2⟩ := hI
  refine lv_aload_n hx hb dX6_soldTo_0 rfl (lv_at hl 0 rfl) ?_
  refine lv_iload_n hx hb dX6_soldTo_1 rfl (lv_at hl 1 rfl) ?_
  obtain ⟨q0, hq0⟩ := List.mem_iff_getElem?.mp (cw_mk hc)
  refine go_xr X hout hW (run_XV X hW (As := [.int (zI v)]) (rest := []) 9 q0 hq0 (c_X6_knownLot l hl9 G _ _ _ _ _ _ _ _ _ _ _ _ _ _ _ _ _ _ _ _ _ _ _ _ _ _ _ _ _ _ _ _ _ _ _ _ _ _ _ _ _ _ _ _ _ _ _ _ v hc h0 hlo (by omega) _) (gi_V wq_604 wq_606 wq_28 wq_61 wq_607) rfl hyX6_knownLot rfl rfl rfl hl.1 (Nat.le_of_ble_eq_true rfl) ⟨Nat.le_of_ble_eq_true rfl, Nat.le_of_ble_eq_true rfl⟩ ⟨by decide, by decide⟩ dX6_soldTo_2) (fun _ _ h => Or.inl h) (Nat.le_of_ble_eq_true rfl) (Nat.le_of_ble_eq_true rfl) (fun b w2 H locs hp hW => ?_)
  obtain ⟨hk2, hr0, hw2⟩ := hp
  subst hr0
  rw [hw2] at hW
  refine lv_astore_n (lv' := [(2, .ref (la v.toNat)), (0, .ref (z 0)), (1, .int (zI v))]) hx hb dX6_soldTo_5 rfl hl (by decide) rfl (fun ls hl => ?_)
  refine lv_aload_n hx hb dX6_soldTo_6 rfl (lv_at hl 0 rfl) ?_
  obtain ⟨q0, hq0⟩ := List.mem_iff_getElem?.mp (cw_lot hc (i := v.toNat) (by omega))
  refine x_getN X hW q0 hq0 3 rfl rfl iwX3 (by decide) wq_521 rfl dX6_soldTo_7 ?_
  refine lv_bipush (v := nI 115) hx hb dX6_soldTo_10 (by decide) ?_
  refine n_icmp_eq hx hb rfl rfl (by have := hlst v.toNat; omega) (by omega) (tgt := 25) dX6_soldTo_12 (by decide) (fun c_12 => ?_) (fun c_12 => ?_)
  · refine lv_aload_n hx hb dX6_soldTo_25 rfl (lv_at hl 0 rfl) ?_
    obtain ⟨q0, hq0⟩ := List.mem_iff_getElem?.mp (cw_lot hc (i := v.toNat) (by omega))
    refine x_getN X hW q0 hq0 4 rfl rfl iwX3 (by decide) wq_523 rfl dX6_soldTo_26 ?_
    exact vx_ret (ret_i X hW (v := (zI (byr v.toNat))) (⟨(by (repeat' apply And.intro) <;> first | assumption | omega), rfl, rfl⟩) rfl (by decide) (by decide) dX6_soldTo_29)
  · exact x_thrS X hout hW hl9 (cls := "java/lang/IllegalStateException") 15 rfl pl_ISE fit_ISE names_ok wq_493 wq_72 at1_ISE at2_ISE good_ISE hl.1 dX6_soldTo_15 dX6_soldTo_18 dX6_soldTo_19 dX6_soldTo_21 dX6_soldTo_24 (Nat.le_of_ble_eq_true rfl) (Nat.le_of_ble_eq_true rfl) (Nat.le_of_ble_eq_true rfl) (Nat.le_of_ble_eq_true rfl) (Or.inr (⟨rfl, (by (repeat' apply And.intro) <;> first | assumption | omega), rfl⟩)) (Nat.le_of_ble_eq_true rfl) (Nat.le_of_ble_eq_true rfl)

set_option maxRecDepth 100000 in
set_option maxHeartbeats 4000000 in
theorem c_X6_items (l : Launch) (hl9 : l.stackTraces = false) (G : Gt) (z f h : Nat → Nat) (ol ob sc wc : Nat) (tk : Int) (lo bi ru : Nat) (fib gra res lst : Nat → Nat) (byr : Nat → Int) (rf ro rs bid pri bst rea : Nat → Nat) (rvl pad : Nat → Int) (itm akf akg : Nat → Nat) (gt : Nat → Int) (Y w : va_W) (v : Int) (hI : CIa lo bi ru ol ob fib gra res lst bst rea bid pri itm akf akg rf ro rs) (hR : CR G z f h ol ob sc wc tk lo bi ru fib gra res lst byr rf ro rs bid pri bst rea rvl pad itm akf akg gt Y w) (hv : iR v) : Xi l G yX6_items (ww yX6_items cX6_items 2 (some FieldType.int)) (RM 6 3 18) [.ref (z 0), .int (zI v)] w (fun r w2 => (0 ≤ v ∧ v < ((bi : Nat) : Int)) ∧ r = nI (itm v.toNat) ∧ w2 = w) (fun E w2 => (E = "java/util/NoSuchElementException" ∧ (¬ (0 ≤ v ∧ v < ((bi : Nat) : Int))) ∧ w2 = w)) := by
  refine Xi.intro (by decide) (Nat.le_of_ble_eq_true rfl) ?_
  intro p e s m args below meth c A X hout hW ls hl
  have hx := X.exec
  have hb := X.bytes
  have hl : lv_has ls 2 [(0, .ref (z 0)), (1, .int (zI v))] := hl
  obtain ⟨e0, k0, m0, e1, k1, m1, e2, k2, m2, la, ra, ba, wo, we, wk, wm, ia, h0, h1, h2, h3, hc⟩ := hR
  obtain ⟨hlo, hbi, hru, hol, hob, hfib, hgra, hres, hlst, hbst, hrea, hbid, hpri, hitm, hakf, hakg, hrf, hro, hrs, hol2, hob2⟩ := hI
  refine lv_aload_n hx hb dX6_items_0 rfl (lv_at hl 0 rfl) ?_
  refine lv_iload_n hx hb dX6_items_1 rfl (lv_at hl 1 rfl) ?_
  obtain ⟨q0, hq0⟩ := List.mem_iff_getElem?.mp (cw_mk hc)
  refine go_xr X hout hW (run_XV X hW (As := [.int (zI v)]) (rest := []) 9 q0 hq0 (c_X6_knownBid l hl9 G _ _ _ _ _ _ _ _ _ _ _ _ _ _ _ _ _ _ _ _ _ _ _ _ _ _ _ _ _ _ _ _ _ _ _ _ _ _ _ _ _ _ _ _ _ _ _ _ v hc h1 hbi (by omega) _) (gi_V wq_727 wq_729 wq_30 wq_61 wq_730) rfl hyX6_knownBid rfl rfl rfl hl.1 (Nat.le_of_ble_eq_true rfl) ⟨Nat.le_of_ble_eq_true rfl, Nat.le_of_ble_eq_true rfl⟩ ⟨by decide, by decide⟩ dX6_items_2) (fun _ _ h => h) (Nat.le_of_ble_eq_true rfl) (Nat.le_of_ble_eq_true rfl) (fun b w2 H locs hp hW => ?_)
  obtain ⟨hk2, hr0, hw2⟩ := hp
  subst hr0
  rw [hw2] at hW
  obtain ⟨q0, hq0⟩ := List.mem_iff_getElem?.mp (cw_bid hc (b := v.toNat) (by omega))
  refine x_getN X hW q0 hq0 1 rfl rfl iwX0 (by decide) wq_695 rfl dX6_items_5 ?_
  obtain ⟨r9, hLw⟩ := cw_wl hc (b := v.toNat) (by omega)
  obtain ⟨q0, hq0⟩ := List.mem_iff_getElem?.mp (ls_mem hLw)
  refine go_i X hW (run_V X hW (As := []) (rest := []) 2 q0 hq0 (c_szP hLw _) (gi_V wq_245 wq_246 wq_247 wq_64 wq_248) rfl hyJx4a65c_size_8abf5 rfl rfl rfl hl.1 (Nat.le_of_ble_eq_true rfl) ⟨Nat.le_of_ble_eq_true rfl, Nat.le_of_ble_eq_true rfl⟩ ⟨by decide, by decide⟩ dX6_items_8) (fun r w2 H locs hp hW => ?_)
  obtain ⟨hr0, hw2⟩ := hp
  subst hr0
  rw [hw2] at hW
  exact vx_ret (ret_i X hW (v := (nI (itm v.toNat))) (⟨(by (repeat' apply And.intro) <;> first | assumption | omega), rfl, rfl⟩) rfl (by decide) (by decide) dX6_items_11)

set_option maxRecDepth 100000 in
set_option maxHeartbeats 4000000 in
theorem c_X6_priceOf (l : Launch) (hl9 : l.stackTraces = false) (G : Gt) (z f h : Nat → Nat) (ol ob sc wc : Nat) (tk : Int) (lo bi ru : Nat) (fib gra res lst : Nat → Nat) (byr : Nat → Int) (rf ro rs bid pri bst rea : Nat → Nat) (rvl pad : Nat → Int) (itm akf akg : Nat → Nat) (gt : Nat → Int) (Y w : va_W) (v : Int) (hI : CIa lo bi ru ol ob fib gra res lst bst rea bid pri itm akf akg rf ro rs) (hR : CR G z f h ol ob sc wc tk lo bi ru fib gra res lst byr rf ro rs bid pri bst rea rvl pad itm akf akg gt Y w) (hv : iR v) : Xi l G yX6_priceOf (ww yX6_priceOf cX6_priceOf 2 (some FieldType.int)) (RM 6 3 18) [.ref (z 0), .int (zI v)] w (fun r w2 => (0 ≤ v ∧ v < ((bi : Nat) : Int)) ∧ r = nI (pri v.toNat) ∧ w2 = w) (fun E w2 => (E = "java/util/NoSuchElementException" ∧ (¬ (0 ≤ v ∧ v < ((bi : Nat) : Int))) ∧ w2 = w)) := by
  refine Xi.intro (by decide) (Nat.le_of_ble_eq_true rfl) ?_
  intro p e s m args below meth c A X hout hW ls hl
  have hx := X.exec
  have hb := X.bytes
  have hl : lv_has ls 2 [(0, .ref (z 0)), (1, .int (zI v))] := hl
  obtain ⟨e0, k0, m0, e1, k1, m1, e2, k2, m2, la, ra, ba, wo, we, wk, wm, ia, h0, h1, h2, h3, hc⟩ := hR
  obtain ⟨hlo, hbi, hru, hol, hob, hfib, hgra, hres, hlst, hbst, hrea, hbid, hpri, hitm, hakf, hakg, hrf, hro, hrs, hol2, hob2⟩ := hI
  refine lv_aload_n hx hb dX6_priceOf_0 rfl (lv_at hl 0 rfl) ?_
  refine lv_iload_n hx hb dX6_priceOf_1 rfl (lv_at hl 1 rfl) ?_
  obtain ⟨q0, hq0⟩ := List.mem_iff_getElem?.mp (cw_mk hc)
  refine go_xr X hout hW (run_XV X hW (As := [.int (zI v)]) (rest := []) 9 q0 hq0 (c_X6_knownBid l hl9 G _ _ _ _ _ _ _ _ _ _ _ _ _ _ _ _ _ _ _ _ _ _ _ _ _ _ _ _ _ _ _ _ _ _ _ _ _ _ _ _ _ _ _ _ _ _ _ _ v hc h1 hbi (by omega) _) (gi_V wq_727 wq_729 wq_30 wq_61 wq_730) rfl hyX6_knownBid rfl rfl rfl hl.1 (Nat.le_of_ble_eq_true rfl) ⟨Nat.le_of_ble_eq_true rfl, Nat.le_of_ble_eq_true rfl⟩ ⟨by decide, by decide⟩ dX6_priceOf_2) (fun _ _ h => h) (Nat.le_of_ble_eq_true rfl) (Nat.le_of_ble_eq_true rfl) (fun b w2 H locs hp hW => ?_)
  obtain ⟨hk2, hr0, hw2⟩ := hp
  subst hr0
  rw [hw2] at hW
  obtain ⟨q0, hq0⟩ := List.mem_iff_getElem?.mp (cw_bid hc (b := v.toNat) (by omega))
  refine x_getN X hW q0 hq0 2 rfl rfl iwX0 (by decide) wq_697 rfl dX6_priceOf_5 ?_
  exact vx_ret (ret_i X hW (v := (nI (pri v.toNat))) (⟨(by (repeat' apply And.intro) <;> first | assumption | omega), rfl, rfl⟩) rfl (by decide) (by decide) dX6_priceOf_8)

set_option maxRecDepth 100000 in
set_option maxHeartbeats 4000000 in
theorem c_X6_stateOf (l : Launch) (hl9 : l.stackTraces = false) (G : Gt) (z f h : Nat → Nat) (ol ob sc wc : Nat) (tk : Int) (lo bi ru : Nat) (fib gra res lst : Nat → Nat) (byr : Nat → Int) (rf ro rs bid pri bst rea : Nat → Nat) (rvl pad : Nat → Int) (itm akf akg : Nat → Nat) (gt : Nat → Int) (Y w : va_W) (v : Int) (hI : CIa lo bi ru ol ob fib gra res lst bst rea bid pri itm akf akg rf ro rs) (hR : CR G z f h ol ob sc wc tk lo bi ru fib gra res lst byr rf ro rs bid pri bst rea rvl pad itm akf akg gt Y w) (hv : iR v) : Xi l G yX6_stateOf (ww yX6_stateOf cX6_stateOf 2 (some FieldType.char)) (RM 6 3 18) [.ref (z 0), .int (zI v)] w (fun r w2 => (0 ≤ v ∧ v < ((bi : Nat) : Int)) ∧ r = nI (bst v.toNat) ∧ w2 = w) (fun E w2 => (E = "java/util/NoSuchElementException" ∧ (¬ (0 ≤ v ∧ v < ((bi : Nat) : Int))) ∧ w2 = w)) := by
  refine Xi.intro (by decide) (Nat.le_of_ble_eq_true rfl) ?_
  intro p e s m args below meth c A X hout hW ls hl
  have hx := X.exec
  have hb := X.bytes
  have hl : lv_has ls 2 [(0, .ref (z 0)), (1, .int (zI v))] := hl
  obtain ⟨e0, k0, m0, e1, k1, m1, e2, k2, m2, la, ra, ba, wo, we, wk, wm, ia, h0, h1, h2, h3, hc⟩ := hR
  obtain ⟨hlo, hbi, hru, hol, hob, hfib, hgra, hres, hlst, hbst, hrea, hbid, hpri, hitm, hakf, hakg, hrf, hro, hrs, hol2, hob2⟩ := hI
  refine lv_aload_n hx hb dX6_stateOf_0 rfl (lv_at hl 0 rfl) ?_
  refine lv_iload_n hx hb dX6_stateOf_1 rfl (lv_at hl 1 rfl) ?_
  obtain ⟨q0, hq0⟩ := List.mem_iff_getElem?.mp (cw_mk hc)
  refine go_xr X hout hW (run_XV X hW (As := [.int (zI v)]) (rest := []) 9 q0 hq0 (c_X6_knownBid l hl9 G _ _ _ _ _ _ _ _ _ _ _ _ _ _ _ _ _ _ _ _ _ _ _ _ _ _ _ _ _ _ _ _ _ _ _ _ _ _ _ _ _ _ _ _ _ _ _ _ v hc h1 hbi (by omega) _) (gi_V wq_727 wq_729 wq_30 wq_61 wq_730) rfl hyX6_knownBid rfl rfl rfl hl.1 (Nat.le_of_ble_eq_true rfl) ⟨Nat.le_of_ble_eq_true rfl, Nat.le_of_ble_eq_true rfl⟩ ⟨by decide, by decide⟩ dX6_stateOf_2) (fun _ _ h => h) (Nat.le_of_ble_eq_true rfl) (Nat.le_of_ble_eq_true rfl) (fun b w2 H locs hp hW => ?_)
  obtain ⟨hk2, hr0, hw2⟩ := hp
  subst hr0
  rw [hw2] at hW
  obtain ⟨q0, hq0⟩ := List.mem_iff_getElem?.mp (cw_bid hc (b := v.toNat) (by omega))
  refine x_getN X hW q0 hq0 3 rfl rfl iwX0 (by decide) wq_699 rfl dX6_stateOf_5 ?_
  exact vx_ret (ret_z X hW (v := (nI (bst v.toNat))) (⟨(by (repeat' apply And.intro) <;> first | assumption | omega), rfl, rfl⟩) rfl ((pk_charN (by have := hbst v.toNat; omega)).1) (by decide) (by decide) dX6_stateOf_8)

set_option maxRecDepth 100000 in
set_option maxHeartbeats 4000000 in
theorem c_X6_reason (l : Launch) (hl9 : l.stackTraces = false) (G : Gt) (z f h : Nat → Nat) (ol ob sc wc : Nat) (tk : Int) (lo bi ru : Nat) (fib gra res lst : Nat → Nat) (byr : Nat → Int) (rf ro rs bid pri bst rea : Nat → Nat) (rvl pad : Nat → Int) (itm akf akg : Nat → Nat) (gt : Nat → Int) (Y w : va_W) (v : Int) (hI : CIa lo bi ru ol ob fib gra res lst bst rea bid pri itm akf akg rf ro rs) (hR : CR G z f h ol ob sc wc tk lo bi ru fib gra res lst byr rf ro rs bid pri bst rea rvl pad itm akf akg gt Y w) (hv : iR v) : Xi l G yX6_reason (ww yX6_reason cX6_reason 3 (some FieldType.char)) (RM 6 3 18) [.ref (z 0), .int (zI v)] w (fun r w2 => ((0 ≤ v ∧ v < ((bi : Nat) : Int)) ∧ bst v.toNat = 108) ∧ r = nI (rea v.toNat) ∧ w2 = w) (fun E w2 => (E = "java/util/NoSuchElementException" ∧ (¬ (0 ≤ v ∧ v < ((bi : Nat) : Int))) ∧ w2 = w) ∨ (E = "java/lang/IllegalStateException" ∧ ((0 ≤ v ∧ v < ((bi : Nat) : Int)) ∧ bst v.toNat ≠ 108) ∧ w2 = w)) := by
  refine Xi.intro (by decide) (Nat.le_of_ble_eq_true rfl) ?_
  intro p e s m args below meth c A X hout hW ls hl
  have hx := X.exec
  have hb := X.bytes
  have hl : lv_has ls 3 [(0, .ref (z 0)), (1, .int (zI v))] := hl
  obtain ⟨e0, k0, m0, e1, k1, m1, e2, k2, m2, la, ra, ba, wo, we, wk, wm, ia, h0, h1, h2, h3, hc⟩ := hR
  obtain ⟨hlo, hbi, hru, hol, hob, hfib, hgra, hres, hlst, hbst, hrea, hbid, hpri, hitm, hakf, hakg, hrf, hro, hrs, hol2, hob2⟩ := hI
  refine lv_aload_n hx hb dX6_reason_0 rfl (lv_at hl 0 rfl) ?_
  refine lv_iload_n hx hb dX6_reason_1 rfl (lv_at hl 1 rfl) ?_
  obtain ⟨q0, hq0⟩ := List.mem_iff_getElem?.mp (cw_mk hc)
  refine go_xr X hout hW (run_XV X hW (As := [.int (zI v)]) (rest := []) 9 q0 hq0 (c_X6_knownBid l hl9 G _ _ _ _ _ _ _ _ _ _ _ _ _ _ _ _ _ _ _ _ _ _ _ _ _ _ _ _ _ _ _ _ _ _ _ _ _ _ _ _ _ _ _ _ _ _ _ _ v hc h1 hbi (by omega) _) (gi_V wq_727 wq_729 wq_30 wq_61 wq_730) rfl hyX6_knownBid rfl rfl rfl hl.1 (Nat.le_of_ble_eq_true rfl) ⟨Nat.le_of_ble_eq_true rfl, Nat.le_of_ble_eq_true rfl⟩ ⟨by decide, by decide⟩ dX6_reason_2) (fun _ _ h => Or.inl h) (Nat.le_of_ble_eq_true rfl) (Nat.le_of_ble_eq_true rfl) (fun b w2 H locs hp hW => ?_)
  obtain ⟨hk2, hr0, hw2⟩ := hp
  subst hr0
  rw [hw2] at hW
  refine lv_astore_n (lv' := [(2, .ref (ba v.toNat)), (0, .ref (z 0)), (1, .int (zI v))]) hx hb dX6_reason_5 rfl hl (by decide) rfl (fun ls hl => ?_)
  refine lv_aload_n hx hb dX6_reason_6 rfl (lv_at hl 0 rfl) ?_
  obtain ⟨q0, hq0⟩ := List.mem_iff_getElem?.mp (cw_bid hc (b := v.toNat) (by omega))
  refine x_getN X hW q0 hq0 3 rfl rfl iwX0 (by decide) wq_699 rfl dX6_reason_7 ?_
  refine lv_bipush (v := nI 108) hx hb dX6_reason_10 (by decide) ?_
  refine n_icmp_eq hx hb rfl rfl (by have := hbst v.toNat; omega) (by omega) (tgt := 25) dX6_reason_12 (by decide) (fun c_12 => ?_) (fun c_12 => ?_)
  · refine lv_aload_n hx hb dX6_reason_25 rfl (lv_at hl 0 rfl) ?_
    obtain ⟨q0, hq0⟩ := List.mem_iff_getElem?.mp (cw_bid hc (b := v.toNat) (by omega))
    refine x_getN X hW q0 hq0 4 rfl rfl iwX0 (by decide) wq_701 rfl dX6_reason_26 ?_
    exact vx_ret (ret_z X hW (v := (nI (rea v.toNat))) (⟨(by (repeat' apply And.intro) <;> first | assumption | omega), rfl, rfl⟩) rfl ((pk_charN (by have := hrea v.toNat; omega)).1) (by decide) (by decide) dX6_reason_29)
  · exact x_thrS X hout hW hl9 (cls := "java/lang/IllegalStateException") 17 rfl pl_ISE fit_ISE names_ok wq_493 wq_72 at1_ISE at2_ISE good_ISE hl.1 dX6_reason_15 dX6_reason_18 dX6_reason_19 dX6_reason_21 dX6_reason_24 (Nat.le_of_ble_eq_true rfl) (Nat.le_of_ble_eq_true rfl) (Nat.le_of_ble_eq_true rfl) (Nat.le_of_ble_eq_true rfl) (Or.inr (⟨rfl, (by (repeat' apply And.intro) <;> first | assumption | omega), rfl⟩)) (Nat.le_of_ble_eq_true rfl) (Nat.le_of_ble_eq_true rfl)

set_option maxRecDepth 100000 in
set_option maxHeartbeats 4000000 in
theorem c_X6_rival (l : Launch) (hl9 : l.stackTraces = false) (G : Gt) (z f h : Nat → Nat) (ol ob sc wc : Nat) (tk : Int) (lo bi ru : Nat) (fib gra res lst : Nat → Nat) (byr : Nat → Int) (rf ro rs bid pri bst rea : Nat → Nat) (rvl pad : Nat → Int) (itm akf akg : Nat → Nat) (gt : Nat → Int) (Y w : va_W) (v : Int) (hI : CIa lo bi ru ol ob fib gra res lst bst rea bid pri itm akf akg rf ro rs) (hR : CR G z f h ol ob sc wc tk lo bi ru fib gra res lst byr rf ro rs bid pri bst rea rvl pad itm akf akg gt Y w) (hv : iR v) : Xi l G yX6_rival (ww yX6_rival cX6_rival 3 (some FieldType.int)) (RM 6 3 18) [.ref (z 0), .int (zI v)] w (fun r w2 => ((0 ≤ v ∧ v < ((bi : Nat) : Int)) ∧ bst v.toNat = 108 ∧ rea v.toNat = 98) ∧ r = zI (rvl v.toNat) ∧ w2 = w) (fun E w2 => (E = "java/util/NoSuchElementException" ∧ (¬ (0 ≤ v ∧ v < ((bi : Nat) : Int))) ∧ w2 = w) ∨ (E = "java/lang/IllegalStateException" ∧ ((0 ≤ v ∧ v < ((bi : Nat) : Int)) ∧ ¬ (bst v.toNat = 108 ∧ rea v.toNat = 98)) ∧ w2 = w)) := by
  refine Xi.intro (by decide) (Nat.le_of_ble_eq_true rfl) ?_
  intro p e s m args below meth c A X hout hW ls hl
  have hx := X.exec
  have hb := X.bytes
  have hl : lv_has ls 3 [(0, .ref (z 0)), (1, .int (zI v))] := hl
  obtain ⟨e0, k0, m0, e1, k1, m1, e2, k2, m2, la, ra, ba, wo, we, wk, wm, ia, h0, h1, h2, h3, hc⟩ := hR
  obtain ⟨hlo, hbi, hru, hol, hob, hfib, hgra, hres, hlst, hbst, hrea, hbid, hpri, hitm, hakf, hakg, hrf, hro, hrs, hol2, hob2⟩ := hI
  refine lv_aload_n hx hb dX6_rival_0 rfl (lv_at hl 0 rfl) ?_
  refine lv_iload_n hx hb dX6_rival_1 rfl (lv_at hl 1 rfl) ?_
  obtain ⟨q0, hq0⟩ := List.mem_iff_getElem?.mp (cw_mk hc)
  refine go_xr X hout hW (run_XV X hW (As := [.int (zI v)]) (rest := []) 9 q0 hq0 (c_X6_knownBid l hl9 G _ _ _ _ _ _ _ _ _ _ _ _ _ _ _ _ _ _ _ _ _ _ _ _ _ _ _ _ _ _ _ _ _ _ _ _ _ _ _ _ _ _ _ _ _ _ _ _ v hc h1 hbi (by omega) _) (gi_V wq_727 wq_729 wq_30 wq_61 wq_730) rfl hyX6_knownBid rfl rfl rfl hl.1 (Nat.le_of_ble_eq_true rfl) ⟨Nat.le_of_ble_eq_true rfl, Nat.le_of_ble_eq_true rfl⟩ ⟨by decide, by decide⟩ dX6_rival_2) (fun _ _ h => Or.inl h) (Nat.le_of_ble_eq_true rfl) (Nat.le_of_ble_eq_true rfl) (fun b w2 H locs hp hW => ?_)
  obtain ⟨hk2, hr0, hw2⟩ := hp
  subst hr0
  rw [hw2] at hW
  refine lv_astore_n (lv' := [(2, .ref (ba v.toNat)), (0, .ref (z 0)), (1, .int (zI v))]) hx hb dX6_rival_5 rfl hl (by decide) rfl (fun ls hl => ?_)
  refine lv_aload_n hx hb dX6_rival_6 rfl (lv_at hl 0 rfl) ?_
  obtain ⟨q0, hq0⟩ := List.mem_iff_getElem?.mp (cw_bid hc (b := v.toNat) (by omega))
  refine x_getN X hW q0 hq0 3 rfl rfl iwX0 (by decide) wq_699 rfl dX6_rival_7 ?_
  refine lv_bipush (v := nI 108) hx hb dX6_rival_10 (by decide) ?_
  refine n_icmp_ne hx hb rfl rfl (by have := hbst v.toNat; omega) (by omega) (tgt := 24) dX6_rival_12 (by decide) (fun c_12 => ?_) (fun c_12 => ?_)
  · exact x_thrS X hout hW hl9 (cls := "java/lang/IllegalStateException") 18 rfl pl_ISE fit_ISE names_ok wq_493 wq_72 at1_ISE at2_ISE good_ISE hl.1 dX6_rival_24 dX6_rival_27 dX6_rival_28 dX6_rival_30 dX6_rival_33 (Nat.le_of_ble_eq_true rfl) (Nat.le_of_ble_eq_true rfl) (Nat.le_of_ble_eq_true rfl) (Nat.le_of_ble_eq_true rfl) (Or.inr (⟨rfl, (by (repeat' apply And.intro) <;> first | assumption | omega), rfl⟩)) (Nat.le_of_ble_eq_true rfl) (Nat.le_of_ble_eq_true rfl)
  · refine lv_aload_n hx hb dX6_rival_15 rfl (lv_at hl 0 rfl) ?_
    obtain ⟨q0, hq0⟩ := List.mem_iff_getElem?.mp (cw_bid hc (b := v.toNat) (by omega))
    refine x_getN X hW q0 hq0 4 rfl rfl iwX0 (by decide) wq_701 rfl dX6_rival_16 ?_
    refine lv_bipush (v := nI 98) hx hb dX6_rival_19 (by decide) ?_
    refine n_icmp_eq hx hb rfl rfl (by have := hrea v.toNat; omega) (by omega) (tgt := 34) dX6_rival_21 (by decide) (fun c_21 => ?_) (fun c_21 => ?_)
    · refine lv_aload_n hx hb dX6_rival_34 rfl (lv_at hl 0 rfl) ?_
      obtain ⟨q0, hq0⟩ := List.mem_iff_getElem?.mp (cw_bid hc (b := v.toNat) (by omega))
      refine x_getN X hW q0 hq0 5 rfl rfl iwX0 (by decide) wq_703 rfl dX6_rival_35 ?_
      exact vx_ret (ret_i X hW (v := (zI (rvl v.toNat))) (⟨(by (repeat' apply And.intro) <;> first | assumption | omega), rfl, rfl⟩) rfl (by decide) (by decide) dX6_rival_38)
    · exact x_thrS X hout hW hl9 (cls := "java/lang/IllegalStateException") 18 rfl pl_ISE fit_ISE names_ok wq_493 wq_72 at1_ISE at2_ISE good_ISE hl.1 dX6_rival_24 dX6_rival_27 dX6_rival_28 dX6_rival_30 dX6_rival_33 (Nat.le_of_ble_eq_true rfl) (Nat.le_of_ble_eq_true rfl) (Nat.le_of_ble_eq_true rfl) (Nat.le_of_ble_eq_true rfl) (Or.inr (⟨rfl, (by (repeat' apply And.intro) <;> first | assumption | omega), rfl⟩)) (Nat.le_of_ble_eq_true rfl) (Nat.le_of_ble_eq_true rfl)

set_option maxRecDepth 100000 in
set_option maxHeartbeats 4000000 in
theorem c_X6_paid (l : Launch) (hl9 : l.stackTraces = false) (G : Gt) (z f h : Nat → Nat) (ol ob sc wc : Nat) (tk : Int) (lo bi ru : Nat) (fib gra res lst : Nat → Nat) (byr : Nat → Int) (rf ro rs bid pri bst rea : Nat → Nat) (rvl pad : Nat → Int) (itm akf akg : Nat → Nat) (gt : Nat → Int) (Y w : va_W) (v : Int) (hI : CIa lo bi ru ol ob fib gra res lst bst rea bid pri itm akf akg rf ro rs) (hR : CR G z f h ol ob sc wc tk lo bi ru fib gra res lst byr rf ro rs bid pri bst rea rvl pad itm akf akg gt Y w) (hv : iR v) : Xi l G yX6_paid (ww yX6_paid cX6_paid 3 (some FieldType.int)) (RM 6 3 18) [.ref (z 0), .int (zI v)] w (fun r w2 => ((0 ≤ v ∧ v < ((bi : Nat) : Int)) ∧ bst v.toNat = 119) ∧ r = zI (pad v.toNat) ∧ w2 = w) (fun E w2 => (E = "java/util/NoSuchElementException" ∧ (¬ (0 ≤ v ∧ v < ((bi : Nat) : Int))) ∧ w2 = w) ∨ (E = "java/lang/IllegalStateException" ∧ ((0 ≤ v ∧ v < ((bi : Nat) : Int)) ∧ bst v.toNat ≠ 119) ∧ w2 = w)) := by
  refine Xi.intro (by decide) (Nat.le_of_ble_eq_true rfl) ?_
  intro p e s m args below meth c A X hout hW ls hl
  have hx := X.exec
  have hb := X.bytes
  have hl : lv_has ls 3 [(0, .ref (z 0)), (1, .int (zI v))] := hl
  obtain ⟨e0, k0, m0, e1, k1, m1, e2, k2, m2, la, ra, ba, wo, we, wk, wm, ia, h0, h1, h2, h3, hc⟩ := hR
  obtain ⟨hlo, hbi, hru, hol, hob, hfib, hgra, hres, hlst, hbst, hrea, hbid, hpri, hitm, hakf, hakg, hrf, hro, hrs, hol2, hob2⟩ := hI
  refine lv_aload_n hx hb dX6_paid_0 rfl (lv_at hl 0 rfl) ?_
  refine lv_iload_n hx hb dX6_paid_1 rfl (lv_at hl 1 rfl) ?_
  obtain ⟨q0, hq0⟩ := List.mem_iff_getElem?.mp (cw_mk hc)
  refine go_xr X hout hW (run_XV X hW (As := [.int (zI v)]) (rest := []) 9 q0 hq0 (c_X6_knownBid l hl9 G _ _ _ _ _ _ _ _ _ _ _ _ _ _ _ _ _ _ _ _ _ _ _ _ _ _ _ _ _ _ _ _ _ _ _ _ _ _ _ _ _ _ _ _ _ _ _ _ v hc h1 hbi (by omega) _) (gi_V wq_727 wq_729 wq_30 wq_61 wq_730) rfl hyX6_knownBid rfl rfl rfl hl.1 (Nat.le_of_ble_eq_true rfl) ⟨Nat.le_of_ble_eq_true rfl, Nat.le_of_ble_eq_true rfl⟩ ⟨by decide, by decide⟩ dX6_paid_2) (fun _ _ h => Or.inl h) (Nat.le_of_ble_eq_true rfl) (Nat.le_of_ble_eq_true rfl) (fun b w2 H locs hp hW => ?_)
  obtain ⟨hk2, hr0, hw2⟩ := hp
  subst hr0
  rw [hw2] at hW
  refine lv_astore_n (lv' := [(2, .ref (ba v.toNat)), (0, .ref (z 0)), (1, .int (zI v))]) hx hb dX6_paid_5 rfl hl (by decide) rfl (fun ls hl => ?_)
  refine lv_aload_n hx hb dX6_paid_6 rfl (lv_at hl 0 rfl) ?_
  obtain ⟨q0, hq0⟩ := List.mem_iff_getElem?.mp (cw_bid hc (b := v.toNat) (by omega))
  refine x_getN X hW q0 hq0 3 rfl rfl iwX0 (by decide) wq_699 rfl dX6_paid_7 ?_
  refine lv_bipush (v := nI 119) hx hb dX6_paid_10 (by decide) ?_
  refine n_icmp_eq hx hb rfl rfl (by have := hbst v.toNat; omega) (by omega) (tgt := 25) dX6_paid_12 (by decide) (fun c_12 => ?_) (fun c_12 => ?_)
  · refine lv_aload_n hx hb dX6_paid_25 rfl (lv_at hl 0 rfl) ?_
    obtain ⟨q0, hq0⟩ := List.mem_iff_getElem?.mp (cw_bid hc (b := v.toNat) (by omega))
    refine x_getN X hW q0 hq0 6 rfl rfl iwX0 (by decide) wq_704 rfl dX6_paid_26 ?_
    exact vx_ret (ret_i X hW (v := (zI (pad v.toNat))) (⟨(by (repeat' apply And.intro) <;> first | assumption | omega), rfl, rfl⟩) rfl (by decide) (by decide) dX6_paid_29)
  · exact x_thrS X hout hW hl9 (cls := "java/lang/IllegalStateException") 19 rfl pl_ISE fit_ISE names_ok wq_493 wq_72 at1_ISE at2_ISE good_ISE hl.1 dX6_paid_15 dX6_paid_18 dX6_paid_19 dX6_paid_21 dX6_paid_24 (Nat.le_of_ble_eq_true rfl) (Nat.le_of_ble_eq_true rfl) (Nat.le_of_ble_eq_true rfl) (Nat.le_of_ble_eq_true rfl) (Or.inr (⟨rfl, (by (repeat' apply And.intro) <;> first | assumption | omega), rfl⟩)) (Nat.le_of_ble_eq_true rfl) (Nat.le_of_ble_eq_true rfl)

set_option maxRecDepth 100000 in
set_option maxHeartbeats 4000000 in
theorem c_X6_lotOf (l : Launch) (hl9 : l.stackTraces = false) (G : Gt) (z f h : Nat → Nat) (ol ob sc wc : Nat) (tk : Int) (lo bi ru : Nat) (fib gra res lst : Nat → Nat) (byr : Nat → Int) (rf ro rs bid pri bst rea : Nat → Nat) (rvl pad : Nat → Int) (itm akf akg : Nat → Nat) (gt : Nat → Int) (Y w : va_W) (v y : Int) (hI : CIa lo bi ru ol ob fib gra res lst bst rea bid pri itm akf akg rf ro rs) (hR : CR G z f h ol ob sc wc tk lo bi ru fib gra res lst byr rf ro rs bid pri bst rea rvl pad itm akf akg gt Y w) (hv : iR v) (hy : iR y) : Xi l G yX6_lotOf (ww yX6_lotOf cX6_lotOf 5 (some FieldType.int)) (RM 6 3 18) [.ref (z 0), .int (zI v), .int (zI y)] w (fun r w2 => ((0 ≤ v ∧ v < ((bi : Nat) : Int)) ∧ (0 ≤ y ∧ y < ((itm v.toNat : Nat) : Int)) ∧ bst v.toNat = 119) ∧ r = zI (gt (3 * v.toNat + y.toNat)) ∧ w2 = w) (fun E w2 => (E = "java/util/NoSuchElementException" ∧ (¬ (0 ≤ v ∧ v < ((bi : Nat) : Int))) ∧ w2 = w) ∨ (E = "java/lang/IndexOutOfBoundsException" ∧ ((0 ≤ v ∧ v < ((bi : Nat) : Int)) ∧ ¬ (0 ≤ y ∧ y < ((itm v.toNat : Nat) : Int))) ∧ w2 = w) ∨ (E = "java/lang/IllegalStateException" ∧ ((0 ≤ v ∧ v < ((bi : Nat) : Int)) ∧ (0 ≤ y ∧ y < ((itm v.toNat : Nat) : Int)) ∧ bst v.toNat ≠ 119) ∧ w2 = w)) := by
  refine Xi.intro (by decide) (Nat.le_of_ble_eq_true rfl) ?_
  intro p e s m args below meth c A X hout hW ls hl
  have hx := X.exec
  have hb := X.bytes
  have hl : lv_has ls 5 [(0, .ref (z 0)), (1, .int (zI v)), (2, .int (zI y))] := hl
  obtain ⟨e0, k0, m0, e1, k1, m1, e2, k2, m2, la, ra, ba, wo, we, wk, wm, ia, h0, h1, h2, h3, hc⟩ := hR
  obtain ⟨hlo, hbi, hru, hol, hob, hfib, hgra, hres, hlst, hbst, hrea, hbid, hpri, hitm, hakf, hakg, hrf, hro, hrs, hol2, hob2⟩ := hI
  have hi9 := hitm v.toNat
  refine lv_aload_n hx hb dX6_lotOf_0 rfl (lv_at hl 0 rfl) ?_
  refine lv_iload_n hx hb dX6_lotOf_1 rfl (lv_at hl 1 rfl) ?_
  obtain ⟨q0, hq0⟩ := List.mem_iff_getElem?.mp (cw_mk hc)
  refine go_xr X hout hW (run_XV X hW (As := [.int (zI v)]) (rest := []) 9 q0 hq0 (c_X6_knownBid l hl9 G _ _ _ _ _ _ _ _ _ _ _ _ _ _ _ _ _ _ _ _ _ _ _ _ _ _ _ _ _ _ _ _ _ _ _ _ _ _ _ _ _ _ _ _ _ _ _ _ v hc h1 hbi (by omega) _) (gi_V wq_727 wq_729 wq_30 wq_61 wq_730) rfl hyX6_knownBid rfl rfl rfl hl.1 (Nat.le_of_ble_eq_true rfl) ⟨Nat.le_of_ble_eq_true rfl, Nat.le_of_ble_eq_true rfl⟩ ⟨by decide, by decide⟩ dX6_lotOf_2) (fun _ _ h => Or.inl h) (Nat.le_of_ble_eq_true rfl) (Nat.le_of_ble_eq_true rfl) (fun b w2 H locs hp hW => ?_)
  obtain ⟨hk2, hr0, hw2⟩ := hp
  subst hr0
  rw [hw2] at hW
  refine lv_astore_n (lv' := [(3, .ref (ba v.toNat)), (0, .ref (z 0)), (1, .int (zI v)), (2, .int (zI y))]) hx hb dX6_lotOf_5 rfl hl (by decide) rfl (fun ls hl => ?_)
  refine lv_aload_n hx hb dX6_lotOf_6 rfl (lv_at hl 0 rfl) ?_
  refine lv_iload_n hx hb dX6_lotOf_7 rfl (lv_at hl 3 rfl) ?_
  refine go_xr X hout hW (run_XS X hW (As := [.ref (ba v.toNat), .int (zI y)]) (rest := []) (c_X6_knownItem l hl9 G _ _ _ _ _ _ _ _ _ _ _ _ _ _ _ _ _ _ _ _ _ _ _ _ _ _ _ _ _ _ _ _ _ _ _ _ _ _ _ _ _ _ _ _ _ _ _ _ v.toNat y hc h3 hitm (by omega) (by omega) _) (gi_S wq_900 wq_901 wq_61 wq_902) hyX6_knownItem rfl rfl hl.1 (Nat.le_of_ble_eq_true rfl) ⟨Nat.le_of_ble_eq_true rfl, Nat.le_of_ble_eq_true rfl⟩ ⟨by decide, by decide⟩ dX6_lotOf_8) (fun _ _ h => Or.inr (Or.inl (⟨h.1, ⟨by omega, h.2.1⟩, h.2.2⟩))) (Nat.le_of_ble_eq_true rfl) (Nat.le_of_ble_eq_true rfl) (fun b w2 H locs hp hW => ?_)
  obtain ⟨hk8, hr0, hw2⟩ := hp
  subst hr0
  rw [hw2] at hW
  refine lv_astore (lv' := [(4, .ref (ia (3 * v.toNat + y.toNat))), (3, .ref (ba v.toNat)), (0, .ref (z 0)), (1, .int (zI v)), (2, .int (zI y))]) hx hb dX6_lotOf_11 hl (by decide) rfl (fun ls hl => ?_)
  refine lv_aload_n hx hb dX6_lotOf_13 rfl (lv_at hl 1 rfl) ?_
  obtain ⟨q0, hq0⟩ := List.mem_iff_getElem?.mp (cw_bid hc (b := v.toNat) (by omega))
  refine x_getN X hW q0 hq0 3 rfl rfl iwX0 (by decide) wq_699 rfl dX6_lotOf_14 ?_
  refine lv_bipush (v := nI 119) hx hb dX6_lotOf_17 (by decide) ?_
  refine n_icmp_eq hx hb rfl rfl (by have := hbst v.toNat; omega) (by omega) (tgt := 32) dX6_lotOf_19 (by decide) (fun c_19 => ?_) (fun c_19 => ?_)
  · refine lv_aload hx hb dX6_lotOf_32 (lv_at hl 0 rfl) ?_
    obtain ⟨q0, hq0⟩ := List.mem_iff_getElem?.mp (cw_itm hc (b := v.toNat) (j := y.toNat) (by omega) (by omega))
    refine x_getN X hW q0 hq0 2 rfl rfl iwX2 (by decide) wq_748 rfl dX6_lotOf_34 ?_
    exact vx_ret (ret_i X hW (v := (zI (gt (3 * v.toNat + y.toNat)))) (⟨(by (repeat' apply And.intro) <;> first | assumption | omega), rfl, rfl⟩) rfl (by decide) (by decide) dX6_lotOf_37)
  · exact x_thrS X hout hW hl9 (cls := "java/lang/IllegalStateException") 19 rfl pl_ISE fit_ISE names_ok wq_493 wq_72 at1_ISE at2_ISE good_ISE hl.1 dX6_lotOf_22 dX6_lotOf_25 dX6_lotOf_26 dX6_lotOf_28 dX6_lotOf_31 (Nat.le_of_ble_eq_true rfl) (Nat.le_of_ble_eq_true rfl) (Nat.le_of_ble_eq_true rfl) (Nat.le_of_ble_eq_true rfl) (Or.inr (Or.inr (⟨rfl, (by (repeat' apply And.intro) <;> first | assumption | omega), rfl⟩))) (Nat.le_of_ble_eq_true rfl) (Nat.le_of_ble_eq_true rfl)

set_option maxRecDepth 100000 in
set_option maxHeartbeats 4000000 in
theorem c_X6_fits (l : Launch) (hl9 : l.stackTraces = false) (G : Gt) (z f h : Nat → Nat) (ol ob sc wc : Nat) (tk : Int) (lo bi ru : Nat) (fib gra res lst : Nat → Nat) (byr : Nat → Int) (rf ro rs bid pri bst rea : Nat → Nat) (rvl pad : Nat → Int) (itm akf akg : Nat → Nat) (gt : Nat → Int) (Y w : va_W) (v y x : Int) (hI : CIa lo bi ru ol ob fib gra res lst bst rea bid pri itm akf akg rf ro rs) (hR : CR G z f h ol ob sc wc tk lo bi ru fib gra res lst byr rf ro rs bid pri bst rea rvl pad itm akf akg gt Y w) (hv : iR v) (hy : iR y) (hxx : iR x) : Xi l G yX6_fits (ww yX6_fits cX6_fits 5 (some FieldType.boolean)) (RM 6 3 18) [.ref (z 0), .int (zI v), .int (zI y), .int (zI x)] w (fun r w2 => ((((0 ≤ v ∧ v < ((lo : Nat) : Int)) ∧ 0 ≤ y ∧ y < ((bi : Nat) : Int)) ∧ (0 ≤ x ∧ x < ((itm y.toNat : Nat) : Int)))) ∧ r = nI (if suiB fib gra rf ro rs ru akf akg v.toNat (3 * y.toNat + x.toNat) = true then 1 else 0) ∧ w2 = w) (fun E w2 => (E = "java/util/NoSuchElementException" ∧ (¬ ((0 ≤ v ∧ v < ((lo : Nat) : Int)) ∧ 0 ≤ y ∧ y < ((bi : Nat) : Int))) ∧ w2 = w) ∨ (E = "java/lang/IndexOutOfBoundsException" ∧ (((0 ≤ v ∧ v < ((lo : Nat) : Int)) ∧ 0 ≤ y ∧ y < ((bi : Nat) : Int)) ∧ ¬ (0 ≤ x ∧ x < ((itm y.toNat : Nat) : Int))) ∧ w2 = w)) := by
  refine Xi.intro (by decide) (Nat.le_of_ble_eq_true rfl) ?_
  intro p e s m args below meth c A X hout hW ls hl
  have hx := X.exec
  have hb := X.bytes
  have hl : lv_has ls 5 [(0, .ref (z 0)), (1, .int (zI v)), (2, .int (zI y)), (3, .int (zI x))] := hl
  obtain ⟨e0, k0, m0, e1, k1, m1, e2, k2, m2, la, ra, ba, wo, we, wk, wm, ia, h0, h1, h2, h3, hc⟩ := hR
  have hI9 := hI
  obtain ⟨hlo, hbi, hru, hol, hob, hfib, hgra, hres, hlst, hbst, hrea, hbid, hpri, hitm, hakf, hakg, hrf, hro, hrs, hol2, hob2⟩ := hI
  have hi9 := hitm y.toNat
  refine lv_aload_n hx hb dX6_fits_0 rfl (lv_at hl 0 rfl) ?_
  refine lv_iload_n hx hb dX6_fits_1 rfl (lv_at hl 1 rfl) ?_
  obtain ⟨q0, hq0⟩ := List.mem_iff_getElem?.mp (cw_mk hc)
  refine go_xr X hout hW (run_XV X hW (As := [.int (zI v)]) (rest := []) 9 q0 hq0 (c_X6_knownLot l hl9 G _ _ _ _ _ _ _ _ _ _ _ _ _ _ _ _ _ _ _ _ _ _ _ _ _ _ _ _ _ _ _ _ _ _ _ _ _ _ _ _ _ _ _ _ _ _ _ _ v hc h0 hlo (by omega) _) (gi_V wq_604 wq_606 wq_28 wq_61 wq_607) rfl hyX6_knownLot rfl rfl rfl hl.1 (Nat.le_of_ble_eq_true rfl) ⟨Nat.le_of_ble_eq_true rfl, Nat.le_of_ble_eq_true rfl⟩ ⟨by decide, by decide⟩ dX6_fits_2) (fun _ _ h => Or.inl ⟨h.1, (fun q => h.2.1 q.1), h.2.2⟩) (Nat.le_of_ble_eq_true rfl) (Nat.le_of_ble_eq_true rfl) (fun b w2 H locs hp hW => ?_)
  obtain ⟨hk2, hr0, hw2⟩ := hp
  subst hr0
  rw [hw2] at hW
  refine lv_astore (lv' := [(4, .ref (la v.toNat)), (0, .ref (z 0)), (1, .int (zI v)), (2, .int (zI y)), (3, .int (zI x))]) hx hb dX6_fits_5 hl (by decide) rfl (fun ls hl => ?_)
  refine lv_aload_n hx hb dX6_fits_7 rfl (lv_at hl 1 rfl) ?_
  refine lv_aload hx hb dX6_fits_8 (lv_at hl 0 rfl) ?_
  refine lv_aload_n hx hb dX6_fits_10 rfl (lv_at hl 1 rfl) ?_
  refine lv_iload_n hx hb dX6_fits_11 rfl (lv_at hl 3 rfl) ?_
  obtain ⟨q0, hq0⟩ := List.mem_iff_getElem?.mp (cw_mk hc)
  refine go_xr X hout hW (run_XV X hW (As := [.int (zI y)]) (rest := [.ref (la v.toNat), .ref (z 0)]) 9 q0 hq0 (c_X6_knownBid l hl9 G _ _ _ _ _ _ _ _ _ _ _ _ _ _ _ _ _ _ _ _ _ _ _ _ _ _ _ _ _ _ _ _ _ _ _ _ _ _ _ _ _ _ _ _ _ _ _ _ y hc h1 hbi (by omega) _) (gi_V wq_727 wq_729 wq_30 wq_61 wq_730) rfl hyX6_knownBid rfl rfl rfl hl.1 (Nat.le_of_ble_eq_true rfl) ⟨Nat.le_of_ble_eq_true rfl, Nat.le_of_ble_eq_true rfl⟩ ⟨by decide, by decide⟩ dX6_fits_12) (fun _ _ h => Or.inl ⟨h.1, (fun q => h.2.1 q.2), h.2.2⟩) (Nat.le_of_ble_eq_true rfl) (Nat.le_of_ble_eq_true rfl) (fun b w2 H locs hp hW => ?_)
  obtain ⟨hk12, hr0, hw2⟩ := hp
  subst hr0
  rw [hw2] at hW
  refine lv_iload_n hx hb dX6_fits_15 rfl (lv_at hl 4 rfl) ?_
  refine go_xr X hout hW (run_XS X hW (As := [.ref (ba y.toNat), .int (zI x)]) (rest := [.ref (la v.toNat), .ref (z 0)]) (c_X6_knownItem l hl9 G _ _ _ _ _ _ _ _ _ _ _ _ _ _ _ _ _ _ _ _ _ _ _ _ _ _ _ _ _ _ _ _ _ _ _ _ _ _ _ _ _ _ _ _ _ _ _ _ y.toNat x hc h3 hitm (by omega) (by omega) _) (gi_S wq_900 wq_901 wq_61 wq_902) hyX6_knownItem rfl rfl hl.1 (Nat.le_of_ble_eq_true rfl) ⟨Nat.le_of_ble_eq_true rfl, Nat.le_of_ble_eq_true rfl⟩ ⟨by decide, by decide⟩ dX6_fits_16) (fun _ _ h => Or.inr ⟨h.1, ⟨by (repeat' apply And.intro) <;> first | assumption | omega, h.2.1⟩, h.2.2⟩) (Nat.le_of_ble_eq_true rfl) (Nat.le_of_ble_eq_true rfl) (fun b w2 H locs hp hW => ?_)
  obtain ⟨hk16, hr0, hw2⟩ := hp
  subst hr0
  rw [hw2] at hW
  obtain ⟨q0, hq0⟩ := List.mem_iff_getElem?.mp (cw_mk hc)
  refine go_i X hW (run_V X hW (As := [.ref (la v.toNat), .ref (ia (3 * y.toNat + x.toNat))]) (rest := []) 9 q0 hq0 (c_X6_isFit l G _ _ _ _ _ _ _ _ _ _ _ _ _ _ _ _ _ _ _ _ _ _ _ _ _ _ _ _ _ _ _ _ _ _ _ _ _ _ _ _ _ _ _ _ _ _ _ _ v.toNat (3 * y.toNat + x.toNat) hc h2 hI9 (by omega) (cw_itm hc (b := y.toNat) (j := x.toNat) (by omega) (by omega)) _) (gi_V wq_310 wq_312 wq_7 wq_61 wq_313) rfl hyX6_isFit rfl rfl rfl hl.1 (Nat.le_of_ble_eq_true rfl) ⟨Nat.le_of_ble_eq_true rfl, Nat.le_of_ble_eq_true rfl⟩ ⟨by decide, by decide⟩ dX6_fits_19) (fun r w2 H locs hp hW => ?_)
  obtain ⟨hr0, hw2⟩ := hp
  subst hr0
  rw [hw2] at hW
  exact vx_ret (ret_z X hW (v := (nI (if suiB fib gra rf ro rs ru akf akg v.toNat (3 * y.toNat + x.toNat) = true then 1 else 0))) (⟨(by (repeat' apply And.intro) <;> first | assumption | omega), rfl, rfl⟩) rfl (nar_b _) (by decide) (by decide) dX6_fits_22)

set_option maxRecDepth 100000 in
set_option maxHeartbeats 4000000 in
theorem c_X6_fitting (l : Launch) (hl9 : l.stackTraces = false) (G : Gt) (z f h : Nat → Nat) (ol ob sc wc : Nat) (tk : Int) (lo bi ru : Nat) (fib gra res lst : Nat → Nat) (byr : Nat → Int) (rf ro rs bid pri bst rea : Nat → Nat) (rvl pad : Nat → Int) (itm akf akg : Nat → Nat) (gt : Nat → Int) (Y w : va_W) (v y : Int) (hI : CIa lo bi ru ol ob fib gra res lst bst rea bid pri itm akf akg rf ro rs) (hR : CR G z f h ol ob sc wc tk lo bi ru fib gra res lst byr rf ro rs bid pri bst rea rvl pad itm akf akg gt Y w) (hv : iR v) (hy : iR y) : Xi l G yX6_fitting (ww yX6_fitting cX6_fitting 7 (some FieldType.int)) (RM 6 3 18) [.ref (z 0), .int (zI v), .int (zI y)] w (fun r w2 => ((0 ≤ v ∧ v < ((bi : Nat) : Int)) ∧ (0 ≤ y ∧ y < ((itm v.toNat : Nat) : Int))) ∧ r = nI (cntB (fun k => decide (lst k = 111) && suiB fib gra rf ro rs ru akf akg k (3 * v.toNat + y.toNat)) lo) ∧ w2 = w) (fun E w2 => (E = "java/util/NoSuchElementException" ∧ (¬ (0 ≤ v ∧ v < ((bi : Nat) : Int))) ∧ w2 = w) ∨ (E = "java/lang/IndexOutOfBoundsException" ∧ ((0 ≤ v ∧ v < ((bi : Nat) : Int)) ∧ ¬ (0 ≤ y ∧ y < ((itm v.toNat : Nat) : Int))) ∧ w2 = w)) := by
  refine Xi.intro (by decide) (Nat.le_of_ble_eq_true rfl) ?_
  intro p e s m args below meth c A X hout hW ls hl
  have hx := X.exec
  have hb := X.bytes
  have hl : lv_has ls 7 [(0, .ref (z 0)), (1, .int (zI v)), (2, .int (zI y))] := hl
  obtain ⟨e0, k0, m0, e1, k1, m1, e2, k2, m2, la, ra, ba, wo, we, wk, wm, ia, h0, h1, h2, h3, hc⟩ := hR
  have hI9 := hI
  obtain ⟨hlo, hbi, hru, hol, hob, hfib, hgra, hres, hlst, hbst, hrea, hbid, hpri, hitm, hakf, hakg, hrf, hro, hrs, hol2, hob2⟩ := hI
  have hi9 := hitm v.toNat
  refine lv_aload_n hx hb dX6_fitting_0 rfl (lv_at hl 0 rfl) ?_
  refine lv_iload_n hx hb dX6_fitting_1 rfl (lv_at hl 1 rfl) ?_
  obtain ⟨q0, hq0⟩ := List.mem_iff_getElem?.mp (cw_mk hc)
  refine go_xr X hout hW (run_XV X hW (As := [.int (zI v)]) (rest := []) 9 q0 hq0 (c_X6_knownBid l hl9 G _ _ _ _ _ _ _ _ _ _ _ _ _ _ _ _ _ _ _ _ _ _ _ _ _ _ _ _ _ _ _ _ _ _ _ _ _ _ _ _ _ _ _ _ _ _ _ _ v hc h1 hbi (by omega) _) (gi_V wq_727 wq_729 wq_30 wq_61 wq_730) rfl hyX6_knownBid rfl rfl rfl hl.1 (Nat.le_of_ble_eq_true rfl) ⟨Nat.le_of_ble_eq_true rfl, Nat.le_of_ble_eq_true rfl⟩ ⟨by decide, by decide⟩ dX6_fitting_2) (fun _ _ h => Or.inl h) (Nat.le_of_ble_eq_true rfl) (Nat.le_of_ble_eq_true rfl) (fun b w2 H locs hp hW => ?_)
  obtain ⟨hk2, hr0, hw2⟩ := hp
  subst hr0
  rw [hw2] at hW
  refine lv_iload_n hx hb dX6_fitting_5 rfl (lv_at hl 2 rfl) ?_
  refine go_xr X hout hW (run_XS X hW (As := [.ref (ba v.toNat), .int (zI y)]) (rest := []) (c_X6_knownItem l hl9 G _ _ _ _ _ _ _ _ _ _ _ _ _ _ _ _ _ _ _ _ _ _ _ _ _ _ _ _ _ _ _ _ _ _ _ _ _ _ _ _ _ _ _ _ _ _ _ _ v.toNat y hc h3 hitm (by omega) (by omega) _) (gi_S wq_900 wq_901 wq_61 wq_902) hyX6_knownItem rfl rfl hl.1 (Nat.le_of_ble_eq_true rfl) ⟨Nat.le_of_ble_eq_true rfl, Nat.le_of_ble_eq_true rfl⟩ ⟨by decide, by decide⟩ dX6_fitting_6) (fun _ _ h => Or.inr ⟨h.1, ⟨by (repeat' apply And.intro) <;> first | assumption | omega, h.2.1⟩, h.2.2⟩) (Nat.le_of_ble_eq_true rfl) (Nat.le_of_ble_eq_true rfl) (fun b w2 H locs hp hW => ?_)
  obtain ⟨hk6, hr0, hw2⟩ := hp
  subst hr0
  rw [hw2] at hW
  refine lv_astore_n (lv' := [(3, .ref (ia (3 * v.toNat + y.toNat))), (0, .ref (z 0)), (1, .int (zI v)), (2, .int (zI y))]) hx hb dX6_fitting_9 rfl hl (by decide) rfl (fun ls hl => ?_)
  refine lv_iconst (v := nI 0) hx hb dX6_fitting_10 (by decide) ?_
  refine lv_istore (lv' := [(4, .int (nI 0)), (3, .ref (ia (3 * v.toNat + y.toNat))), (0, .ref (z 0)), (1, .int (zI v)), (2, .int (zI y))]) hx hb dX6_fitting_11 hl (by decide) rfl (fun ls hl => ?_)
  refine lv_iconst (v := nI 0) hx hb dX6_fitting_13 (by decide) ?_
  refine lv_istore (lv' := [(5, .int (nI 0)), (4, .int (nI 0)), (3, .ref (ia (3 * v.toNat + y.toNat))), (0, .ref (z 0)), (1, .int (zI v)), (2, .int (zI y))]) hx hb dX6_fitting_14 hl (by decide) rfl (fun ls hl => ?_)
  have loop : ∀ (n : Nat) (k : Nat), lo + 1 ≤ k + n → k ≤ lo → ∀ (H : Heap) (locs : List Loc) (ls : Array Slot), Wd G A s w H locs → lv_has ls 7 [(0, .ref (z 0)), (3, .ref (ia (3 * v.toNat + y.toNat))), (4, .int (nI (cntB (fun k => decide (lst k = 111) && suiB fib gra rf ro rs ru akf akg k (3 * v.toNat + y.toNat)) k))), (5, .int (nI k))] → W p l e (RM 6 3 18) s m args below meth c H locs 2 12 (vx_MQ below (Qi G A (fun r w2 => ((0 ≤ v ∧ v < ((bi : Nat) : Int)) ∧ (0 ≤ y ∧ y < ((itm v.toNat : Nat) : Int))) ∧ r = nI (cntB (fun k => decide (lst k = 111) && suiB fib gra rf ro rs ru akf akg k (3 * v.toNat + y.toNat)) lo) ∧ w2 = w)) (XX G A (fun E w2 => (E = "java/util/NoSuchElementException" ∧ (¬ (0 ≤ v ∧ v < ((bi : Nat) : Int))) ∧ w2 = w) ∨ (E = "java/lang/IndexOutOfBoundsException" ∧ ((0 ≤ v ∧ v < ((bi : Nat) : Int)) ∧ ¬ (0 ≤ y ∧ y < ((itm v.toNat : Nat) : Int))) ∧ w2 = w))) args s (RM 6 3 18).cells (RM 6 3 18).slots A) (F0 m 16 ls []) := by
    intro n
    induction n with
    | zero => intro k hk1 hk2; exact absurd h1 (by omega)
    | succ n ih =>
      intro k hk1 hk2 H locs ls hW hl
      have hcn := cntB_le (fun k => decide (lst k = 111) && suiB fib gra rf ro rs ru akf akg k (3 * v.toNat + y.toNat)) k
      refine lv_iload hx hb dX6_fitting_16 (lv_at hl 3 rfl) ?_
      refine lv_aload_n hx hb dX6_fitting_18 rfl (lv_at hl 0 rfl) ?_
      obtain ⟨q0, hq0⟩ := List.mem_iff_getElem?.mp (cw_mk hc)
      refine x_get X hW q0 hq0 0 rfl rfl iwX6 (by decide) wq_210 rfl dX6_fitting_19 ?_
      obtain ⟨r9, hL0⟩ := cw_l0 hc
      obtain ⟨q0, hq0⟩ := List.mem_iff_getElem?.mp (ls_mem hL0)
      refine go_i X hW (run_V X hW (As := []) (rest := [.int (nI k)]) 2 q0 hq0 (c_szP hL0 _) (gi_V wq_245 wq_246 wq_247 wq_64 wq_248) rfl hyJx4a65c_size_8abf5 rfl rfl rfl hl.1 (Nat.le_of_ble_eq_true rfl) ⟨Nat.le_of_ble_eq_true rfl, Nat.le_of_ble_eq_true rfl⟩ ⟨by decide, by decide⟩ dX6_fitting_22) (fun r w2 H locs hp hW => ?_)
      obtain ⟨hr0, hw2⟩ := hp
      subst hr0
      rw [hw2] at hW
      refine n_icmp_ge hx hb rfl rfl (by omega) (by omega) (tgt := 71) dX6_fitting_25 (by decide) (fun c_25 => ?_) (fun c_25 => ?_)
      · refine lv_iload hx hb dX6_fitting_71 (lv_at hl 2 rfl) ?_
        exact vx_ret (ret_i X hW (v := (nI (cntB (fun k => decide (lst k = 111) && suiB fib gra rf ro rs ru akf akg k (3 * v.toNat + y.toNat)) k))) (⟨(by (repeat' apply And.intro) <;> first | assumption | omega), by rw [show lo = k by omega], rfl⟩) rfl (by decide) (by decide) dX6_fitting_73)
      · refine lv_aload_n hx hb dX6_fitting_28 rfl (lv_at hl 0 rfl) ?_
        obtain ⟨q0, hq0⟩ := List.mem_iff_getElem?.mp (cw_mk hc)
        refine x_get X hW q0 hq0 0 rfl rfl iwX6 (by decide) wq_210 rfl dX6_fitting_29 ?_
        refine lv_iload hx hb dX6_fitting_32 (lv_at hl 3 rfl) ?_
        obtain ⟨r9, hL0⟩ := cw_l0 hc
        obtain ⟨q0, hq0⟩ := List.mem_iff_getElem?.mp (ls_mem hL0)
        refine go_r X hW (run_V X hW (As := [.int (nI k)]) (rest := []) 2 q0 hq0 (c_gtP hL0 h0 (by omega) _) (gi_V wq_273 wq_274 wq_275 wq_64 wq_276) rfl hyJx4a65c_get_915e3 rfl rfl rfl hl.1 (Nat.le_of_ble_eq_true rfl) ⟨Nat.le_of_ble_eq_true rfl, Nat.le_of_ble_eq_true rfl⟩ ⟨by decide, by decide⟩ dX6_fitting_34) (fun b w2 H locs hp hW => ?_)
        obtain ⟨hr0, hw2⟩ := hp
        subst hr0
        rw [hw2] at hW
        refine x_cast X hW (cw_lot hc (i := k) (by omega)) rfl wq_509 wq_287 dX6_fitting_37 ?_
        refine lv_astore (lv' := [(6, .ref (la k)), (0, .ref (z 0)), (3, .ref (ia (3 * v.toNat + y.toNat))), (4, .int (nI (cntB (fun k => decide (lst k = 111) && suiB fib gra rf ro rs ru akf akg k (3 * v.toNat + y.toNat)) k))), (5, .int (nI k))]) hx hb dX6_fitting_40 hl (by decide) rfl (fun ls hl => ?_)
        refine lv_aload hx hb dX6_fitting_42 (lv_at hl 0 rfl) ?_
        obtain ⟨q0, hq0⟩ := List.mem_iff_getElem?.mp (cw_lot hc (i := k) (by omega))
        refine x_getN X hW q0 hq0 3 rfl rfl iwX3 (by decide) wq_521 rfl dX6_fitting_44 ?_
        refine lv_bipush (v := nI 111) hx hb dX6_fitting_47 (by decide) ?_
        refine n_icmp_ne hx hb rfl rfl (by have := hlst k; omega) (by omega) (tgt := 65) dX6_fitting_49 (by decide) (fun c_49 => ?_) (fun c_49 => ?_)
        · refine lv_iinc (v := (nI (k + 1))) (lv' := [(5, .int (nI (k + 1))), (6, .ref (la k)), (0, .ref (z 0)), (3, .ref (ia (3 * v.toNat + y.toNat))), (4, .int (nI (cntB (fun k => decide (lst k = 111) && suiB fib gra rf ro rs ru akf akg k (3 * v.toNat + y.toNat)) k)))]) hx hb dX6_fitting_65 hl (k := 4) rfl (nI_add _ _) (by decide) rfl (fun ls hl => ?_)
          refine lv_goto (tgt := 16) hx hb dX6_fitting_68 (by decide) ?_
          exact ih (k + 1) (by omega) (by omega) _ _ _ hW (by rw [show cntB (fun k => decide (lst k = 111) && suiB fib gra rf ro rs ru akf akg k (3 * v.toNat + y.toNat)) (k + 1) = (cntB (fun k => decide (lst k = 111) && suiB fib gra rf ro rs ru akf akg k (3 * v.toNat + y.toNat)) k) from bsum_f (by show (_ && _) = false; rw [decide_eq_false c_49]; rfl)]; exact lv_sub hl [2, 3, 4, 0] rfl)
        · refine lv_aload_n hx hb dX6_fitting_52 rfl (lv_at hl 1 rfl) ?_
          refine lv_aload hx hb dX6_fitting_53 (lv_at hl 0 rfl) ?_
          refine lv_aload_n hx hb dX6_fitting_55 rfl (lv_at hl 2 rfl) ?_
          obtain ⟨q0, hq0⟩ := List.mem_iff_getElem?.mp (cw_mk hc)
          refine go_i X hW (run_V X hW (As := [.ref (la k), .ref (ia (3 * v.toNat + y.toNat))]) (rest := []) 9 q0 hq0 (c_X6_isFit l G _ _ _ _ _ _ _ _ _ _ _ _ _ _ _ _ _ _ _ _ _ _ _ _ _ _ _ _ _ _ _ _ _ _ _ _ _ _ _ _ _ _ _ _ _ _ _ _ k (3 * v.toNat + y.toNat) hc h2 hI9 (by omega) (cw_itm hc (b := v.toNat) (j := y.toNat) (by omega) (by omega)) _) (gi_V wq_310 wq_312 wq_7 wq_61 wq_313) rfl hyX6_isFit rfl rfl rfl hl.1 (Nat.le_of_ble_eq_true rfl) ⟨Nat.le_of_ble_eq_true rfl, Nat.le_of_ble_eq_true rfl⟩ ⟨by decide, by decide⟩ dX6_fitting_56) (fun r w2 H locs hp hW => ?_)
          obtain ⟨hr0, hw2⟩ := hp
          subst hr0
          rw [hw2] at hW
          refine p_if_eq hx hb (tgt := 65) dX6_fitting_59 (by decide) (fun c_59 => ?_) (fun c_59 => ?_)
          · refine lv_iinc (v := (nI (k + 1))) (lv' := [(5, .int (nI (k + 1))), (6, .ref (la k)), (0, .ref (z 0)), (3, .ref (ia (3 * v.toNat + y.toNat))), (4, .int (nI (cntB (fun k => decide (lst k = 111) && suiB fib gra rf ro rs ru akf akg k (3 * v.toNat + y.toNat)) k)))]) hx hb dX6_fitting_65 hl (k := 4) rfl (nI_add _ _) (by decide) rfl (fun ls hl => ?_)
            refine lv_goto (tgt := 16) hx hb dX6_fitting_68 (by decide) ?_
            exact ih (k + 1) (by omega) (by omega) _ _ _ hW (by rw [show cntB (fun k => decide (lst k = 111) && suiB fib gra rf ro rs ru akf akg k (3 * v.toNat + y.toNat)) (k + 1) = (cntB (fun k => decide (lst k = 111) && suiB fib gra rf ro rs ru akf akg k (3 * v.toNat + y.toNat)) k) from bsum_f (by show (_ && _) = false; rw [Bool.eq_false_iff.mpr c_59, Bool.and_false])]; exact lv_sub hl [2, 3, 4, 0] rfl)
          · refine lv_iinc (v := (nI ((cntB (fun k => decide (lst k = 111) && suiB fib gra rf ro rs ru akf akg k (3 * v.toNat + y.toNat)) k) + 1))) (lv' := [(4, .int (nI ((cntB (fun k => decide (lst k = 111) && suiB fib gra rf ro rs ru akf akg k (3 * v.toNat + y.toNat)) k) + 1))), (6, .ref (la k)), (0, .ref (z 0)), (3, .ref (ia (3 * v.toNat + y.toNat))), (5, .int (nI k))]) hx hb dX6_fitting_62 hl (k := 3) rfl (nI_add _ _) (by decide) rfl (fun ls hl => ?_)
            refine lv_iinc (v := (nI (k + 1))) (lv' := [(5, .int (nI (k + 1))), (4, .int (nI ((cntB (fun k => decide (lst k = 111) && suiB fib gra rf ro rs ru akf akg k (3 * v.toNat + y.toNat)) k) + 1))), (6, .ref (la k)), (0, .ref (z 0)), (3, .ref (ia (3 * v.toNat + y.toNat)))]) hx hb dX6_fitting_65 hl (k := 4) rfl (nI_add _ _) (by decide) rfl (fun ls hl => ?_)
            refine lv_goto (tgt := 16) hx hb dX6_fitting_68 (by decide) ?_
            exact ih (k + 1) (by omega) (by omega) _ _ _ hW (by rw [show cntB (fun k => decide (lst k = 111) && suiB fib gra rf ro rs ru akf akg k (3 * v.toNat + y.toNat)) (k + 1) = ((cntB (fun k => decide (lst k = 111) && suiB fib gra rf ro rs ru akf akg k (3 * v.toNat + y.toNat)) k) + 1) from bsum_t (by show (_ && _) = true; rw [decide_eq_true c_49, c_59]; rfl)]; exact lv_sub hl [3, 4, 1, 0] rfl)
  exact loop (lo + 1) 0 (by omega) (by omega) _ _ _ hW (lv_sub hl [3, 2, 1, 0] rfl)

set_option maxRecDepth 100000 in
set_option maxHeartbeats 4000000 in
theorem c_X6_countOf (l : Launch) (hl9 : l.stackTraces = false) (G : Gt) (z f h : Nat → Nat) (ol ob sc wc : Nat) (tk : Int) (lo bi ru : Nat) (fib gra res lst : Nat → Nat) (byr : Nat → Int) (rf ro rs bid pri bst rea : Nat → Nat) (rvl pad : Nat → Int) (itm akf akg : Nat → Nat) (gt : Nat → Int) (Y w : va_W) (v : Int) (g : Nat) (hI : CIa lo bi ru ol ob fib gra res lst bst rea bid pri itm akf akg rf ro rs) (hR : CR G z f h ol ob sc wc tk lo bi ru fib gra res lst byr rf ro rs bid pri bst rea rvl pad itm akf akg gt Y w) (hv : iR v) (hg : g < 65536) : Xi l G yX6_countOf (ww yX6_countOf cX6_countOf 6 (some FieldType.int)) (RM 6 3 18) [.ref (z 0), .int (zI v), .int (nI g)] w (fun r w2 => (0 ≤ v ∧ v ≤ 3 ∧ 97 ≤ g ∧ g ≤ 101) ∧ r = nI (cntB (fun k => (decide (lst k = 111) && decide (fib k = v.toNat)) && decide (gra k = g)) lo) ∧ w2 = w) (fun E w2 => (E = "java/lang/IllegalArgumentException" ∧ (¬ (0 ≤ v ∧ v ≤ 3 ∧ 97 ≤ g ∧ g ≤ 101)) ∧ w2 = w)) := by
  refine Xi.intro (by decide) (Nat.le_of_ble_eq_true rfl) ?_
  intro p e s m args below meth c A X hout hW ls hl
  have hx := X.exec
  have hb := X.bytes
  have hl : lv_has ls 6 [(0, .ref (z 0)), (1, .int (zI v)), (2, .int (nI g))] := hl
  obtain ⟨e0, k0, m0, e1, k1, m1, e2, k2, m2, la, ra, ba, wo, we, wk, wm, ia, h0, h1, h2, h3, hc⟩ := hR
  obtain ⟨hlo, hbi, hru, hol, hob, hfib, hgra, hres, hlst, hbst, hrea, hbid, hpri, hitm, hakf, hakg, hrf, hro, hrs, hol2, hob2⟩ := hI
  refine lv_iload_n hx hb dX6_countOf_0 rfl (lv_at hl 1 rfl) ?_
  refine go_i X hW (run_S X hW (As := [.int (zI v)]) (rest := []) (c_X6_isFibre l G v w (by omega) _) (gi_S wq_415 wq_416 wq_61 wq_417) hyX6_isFibre rfl rfl hl.1 (Nat.le_of_ble_eq_true rfl) ⟨Nat.le_of_ble_eq_true rfl, Nat.le_of_ble_eq_true rfl⟩ ⟨by decide, by decide⟩ dX6_countOf_1) (fun r w2 H locs hp hW => ?_)
  obtain ⟨hr0, hw2⟩ := hp
  subst hr0
  rw [hw2] at hW
  refine p_if_eq hx hb (tgt := 14) dX6_countOf_4 (by decide) (fun c_4 => ?_) (fun c_4 => ?_)
  · exact x_thrS X hout hW hl9 (cls := "java/lang/IllegalArgumentException") 10 rfl pl_IAE fit_IAE names_ok wq_421 wq_71 at1_IAE at2_IAE good_IAE hl.1 dX6_countOf_14 dX6_countOf_17 dX6_countOf_18 dX6_countOf_20 dX6_countOf_23 (Nat.le_of_ble_eq_true rfl) (Nat.le_of_ble_eq_true rfl) (Nat.le_of_ble_eq_true rfl) (Nat.le_of_ble_eq_true rfl) (⟨rfl, (by (repeat' apply And.intro) <;> first | assumption | omega), rfl⟩) (Nat.le_of_ble_eq_true rfl) (Nat.le_of_ble_eq_true rfl)
  · refine lv_iload_n hx hb dX6_countOf_7 rfl (lv_at hl 2 rfl) ?_
    refine go_i X hW (run_S X hW (As := [.int (nI g)]) (rest := []) (c_X6_isGrade l G g w (by omega) _) (gi_S wq_418 wq_419 wq_61 wq_420) hyX6_isGrade rfl rfl hl.1 (Nat.le_of_ble_eq_true rfl) ⟨Nat.le_of_ble_eq_true rfl, Nat.le_of_ble_eq_true rfl⟩ ⟨by decide, by decide⟩ dX6_countOf_8) (fun r w2 H locs hp hW => ?_)
    obtain ⟨hr0, hw2⟩ := hp
    subst hr0
    rw [hw2] at hW
    refine p_if_ne hx hb (tgt := 24) dX6_countOf_11 (by decide) (fun c_11 => ?_) (fun c_11 => ?_)
    · refine lv_iconst (v := nI 0) hx hb dX6_countOf_24 (by decide) ?_
      refine lv_istore_n (lv' := [(3, .int (nI 0)), (0, .ref (z 0)), (1, .int (zI v)), (2, .int (nI g))]) hx hb dX6_countOf_25 rfl hl (by decide) rfl (fun ls hl => ?_)
      refine lv_iconst (v := nI 0) hx hb dX6_countOf_26 (by decide) ?_
      refine lv_istore (lv' := [(4, .int (nI 0)), (3, .int (nI 0)), (0, .ref (z 0)), (1, .int (zI v)), (2, .int (nI g))]) hx hb dX6_countOf_27 hl (by decide) rfl (fun ls hl => ?_)
      have hq9 : 0 ≤ v ∧ v < 4 := by omega
      have loop : ∀ (n : Nat) (k : Nat), lo + 1 ≤ k + n → k ≤ lo → ∀ (H : Heap) (locs : List Loc) (ls : Array Slot), Wd G A s w H locs → lv_has ls 6 [(0, .ref (z 0)), (1, .int (zI v)), (2, .int (nI g)), (3, .int (nI (cntB (fun k => (decide (lst k = 111) && decide (fib k = v.toNat)) && decide (gra k = g)) k))), (4, .int (nI k))] → W p l e (RM 6 3 18) s m args below meth c H locs 0 0 (vx_MQ below (Qi G A (fun r w2 => (0 ≤ v ∧ v ≤ 3 ∧ 97 ≤ g ∧ g ≤ 101) ∧ r = nI (cntB (fun k => (decide (lst k = 111) && decide (fib k = v.toNat)) && decide (gra k = g)) lo) ∧ w2 = w)) (XX G A (fun E w2 => (E = "java/lang/IllegalArgumentException" ∧ (¬ (0 ≤ v ∧ v ≤ 3 ∧ 97 ≤ g ∧ g ≤ 101)) ∧ w2 = w))) args s (RM 6 3 18).cells (RM 6 3 18).slots A) (F0 m 29 ls []) := by
        intro n
        induction n with
        | zero => intro k hk1 hk2; exact absurd h1 (by omega)
        | succ n ih =>
          intro k hk1 hk2 H locs ls hW hl
          have hcn := cntB_le (fun k => (decide (lst k = 111) && decide (fib k = v.toNat)) && decide (gra k = g)) k
          refine lv_iload hx hb dX6_countOf_29 (lv_at hl 4 rfl) ?_
          refine lv_aload_n hx hb dX6_countOf_31 rfl (lv_at hl 0 rfl) ?_
          obtain ⟨q0, hq0⟩ := List.mem_iff_getElem?.mp (cw_mk hc)
          refine x_get X hW q0 hq0 0 rfl rfl iwX6 (by decide) wq_210 rfl dX6_countOf_32 ?_
          obtain ⟨r9, hL0⟩ := cw_l0 hc
          obtain ⟨q0, hq0⟩ := List.mem_iff_getElem?.mp (ls_mem hL0)
          refine go_i X hW (run_V X hW (As := []) (rest := [.int (nI k)]) 2 q0 hq0 (c_szP hL0 _) (gi_V wq_245 wq_246 wq_247 wq_64 wq_248) rfl hyJx4a65c_size_8abf5 rfl rfl rfl hl.1 (Nat.le_of_ble_eq_true rfl) ⟨Nat.le_of_ble_eq_true rfl, Nat.le_of_ble_eq_true rfl⟩ ⟨by decide, by decide⟩ dX6_countOf_35) (fun r w2 H locs hp hW => ?_)
          obtain ⟨hr0, hw2⟩ := hp
          subst hr0
          rw [hw2] at hW
          refine n_icmp_ge hx hb rfl rfl (by omega) (by omega) (tgt := 92) dX6_countOf_38 (by decide) (fun c_38 => ?_) (fun c_38 => ?_)
          · refine lv_iload_n hx hb dX6_countOf_92 rfl (lv_at hl 3 rfl) ?_
            exact vx_ret (ret_i X hW (v := (nI (cntB (fun k => (decide (lst k = 111) && decide (fib k = v.toNat)) && decide (gra k = g)) k))) (⟨(by (repeat' apply And.intro) <;> first | assumption | omega), by rw [show lo = k by omega], rfl⟩) rfl (by decide) (by decide) dX6_countOf_93)
          · refine lv_aload_n hx hb dX6_countOf_41 rfl (lv_at hl 0 rfl) ?_
            obtain ⟨q0, hq0⟩ := List.mem_iff_getElem?.mp (cw_mk hc)
            refine x_get X hW q0 hq0 0 rfl rfl iwX6 (by decide) wq_210 rfl dX6_countOf_42 ?_
            refine lv_iload hx hb dX6_countOf_45 (lv_at hl 4 rfl) ?_
            obtain ⟨r9, hL0⟩ := cw_l0 hc
            obtain ⟨q0, hq0⟩ := List.mem_iff_getElem?.mp (ls_mem hL0)
            refine go_r X hW (run_V X hW (As := [.int (nI k)]) (rest := []) 2 q0 hq0 (c_gtP hL0 h0 (by omega) _) (gi_V wq_273 wq_274 wq_275 wq_64 wq_276) rfl hyJx4a65c_get_915e3 rfl rfl rfl hl.1 (Nat.le_of_ble_eq_true rfl) ⟨Nat.le_of_ble_eq_true rfl, Nat.le_of_ble_eq_true rfl⟩ ⟨by decide, by decide⟩ dX6_countOf_47) (fun b w2 H locs hp hW => ?_)
            obtain ⟨hr0, hw2⟩ := hp
            subst hr0
            rw [hw2] at hW
            refine x_cast X hW (cw_lot hc (i := k) (by omega)) rfl wq_509 wq_287 dX6_countOf_50 ?_
            refine lv_astore (lv' := [(5, .ref (la k)), (0, .ref (z 0)), (1, .int (zI v)), (2, .int (nI g)), (3, .int (nI (cntB (fun k => (decide (lst k = 111) && decide (fib k = v.toNat)) && decide (gra k = g)) k))), (4, .int (nI k))]) hx hb dX6_countOf_53 hl (by decide) rfl (fun ls hl => ?_)
            refine lv_aload hx hb dX6_countOf_55 (lv_at hl 0 rfl) ?_
            obtain ⟨q0, hq0⟩ := List.mem_iff_getElem?.mp (cw_lot hc (i := k) (by omega))
            refine x_getN X hW q0 hq0 3 rfl rfl iwX3 (by decide) wq_521 rfl dX6_countOf_57 ?_
            refine lv_bipush (v := nI 111) hx hb dX6_countOf_60 (by decide) ?_
            refine n_icmp_ne hx hb rfl rfl (by have := hlst k; omega) (by omega) (tgt := 86) dX6_countOf_62 (by decide) (fun c_62 => ?_) (fun c_62 => ?_)
            · refine lv_iinc (v := (nI (k + 1))) (lv' := [(4, .int (nI (k + 1))), (5, .ref (la k)), (0, .ref (z 0)), (1, .int (zI v)), (2, .int (nI g)), (3, .int (nI (cntB (fun k => (decide (lst k = 111) && decide (fib k = v.toNat)) && decide (gra k = g)) k)))]) hx hb dX6_countOf_86 hl (k := 5) rfl (nI_add _ _) (by decide) rfl (fun ls hl => ?_)
              refine lv_goto (tgt := 29) hx hb dX6_countOf_89 (by decide) ?_
              exact ih (k + 1) (by omega) (by omega) _ _ _ hW (by rw [show cntB (fun k => (decide (lst k = 111) && decide (fib k = v.toNat)) && decide (gra k = g)) (k + 1) = (cntB (fun k => (decide (lst k = 111) && decide (fib k = v.toNat)) && decide (gra k = g)) k) from bsum_f (by show (_ && _) = false; rw [decide_eq_false c_62]; rfl)]; exact lv_sub hl [2, 3, 4, 5, 0] rfl)
            · refine lv_aload hx hb dX6_countOf_65 (lv_at hl 0 rfl) ?_
              obtain ⟨q0, hq0⟩ := List.mem_iff_getElem?.mp (cw_lot hc (i := k) (by omega))
              refine x_getN X hW q0 hq0 0 rfl rfl iwX3 (by decide) wq_515 rfl dX6_countOf_67 ?_
              refine lv_iload_n hx hb dX6_countOf_70 rfl (lv_at hl 2 rfl) ?_
              refine z_icmp_ne hx hb (nZ _) rfl (by have := hfib k; omega) (by omega) (tgt := 86) dX6_countOf_71 (by decide) (fun c_71 => ?_) (fun c_71 => ?_)
              · refine lv_iinc (v := (nI (k + 1))) (lv' := [(4, .int (nI (k + 1))), (5, .ref (la k)), (0, .ref (z 0)), (1, .int (zI v)), (2, .int (nI g)), (3, .int (nI (cntB (fun k => (decide (lst k = 111) && decide (fib k = v.toNat)) && decide (gra k = g)) k)))]) hx hb dX6_countOf_86 hl (k := 5) rfl (nI_add _ _) (by decide) rfl (fun ls hl => ?_)
                refine lv_goto (tgt := 29) hx hb dX6_countOf_89 (by decide) ?_
                exact ih (k + 1) (by omega) (by omega) _ _ _ hW (by rw [show cntB (fun k => (decide (lst k = 111) && decide (fib k = v.toNat)) && decide (gra k = g)) (k + 1) = (cntB (fun k => (decide (lst k = 111) && decide (fib k = v.toNat)) && decide (gra k = g)) k) from bsum_f (by show (_ && _) = false; rw [decide_eq_false (show ¬ fib k = v.toNat by omega), Bool.and_false]; rfl)]; exact lv_sub hl [2, 3, 4, 5, 0] rfl)
              · refine lv_aload hx hb dX6_countOf_74 (lv_at hl 0 rfl) ?_
                obtain ⟨q0, hq0⟩ := List.mem_iff_getElem?.mp (cw_lot hc (i := k) (by omega))
                refine x_getN X hW q0 hq0 1 rfl rfl iwX3 (by decide) wq_517 rfl dX6_countOf_76 ?_
                refine lv_iload_n hx hb dX6_countOf_79 rfl (lv_at hl 3 rfl) ?_
                refine n_icmp_ne hx hb rfl rfl (by have := hgra k; omega) (by omega) (tgt := 86) dX6_countOf_80 (by decide) (fun c_80 => ?_) (fun c_80 => ?_)
                · refine lv_iinc (v := (nI (k + 1))) (lv' := [(4, .int (nI (k + 1))), (5, .ref (la k)), (0, .ref (z 0)), (1, .int (zI v)), (2, .int (nI g)), (3, .int (nI (cntB (fun k => (decide (lst k = 111) && decide (fib k = v.toNat)) && decide (gra k = g)) k)))]) hx hb dX6_countOf_86 hl (k := 5) rfl (nI_add _ _) (by decide) rfl (fun ls hl => ?_)
                  refine lv_goto (tgt := 29) hx hb dX6_countOf_89 (by decide) ?_
                  exact ih (k + 1) (by omega) (by omega) _ _ _ hW (by rw [show cntB (fun k => (decide (lst k = 111) && decide (fib k = v.toNat)) && decide (gra k = g)) (k + 1) = (cntB (fun k => (decide (lst k = 111) && decide (fib k = v.toNat)) && decide (gra k = g)) k) from bsum_f (by show (_ && _) = false; rw [decide_eq_false c_80, Bool.and_false])]; exact lv_sub hl [2, 3, 4, 5, 0] rfl)
                · refine lv_iinc (v := (nI ((cntB (fun k => (decide (lst k = 111) && decide (fib k = v.toNat)) && decide (gra k = g)) k) + 1))) (lv' := [(3, .int (nI ((cntB (fun k => (decide (lst k = 111) && decide (fib k = v.toNat)) && decide (gra k = g)) k) + 1))), (5, .ref (la k)), (0, .ref (z 0)), (1, .int (zI v)), (2, .int (nI g)), (4, .int (nI k))]) hx hb dX6_countOf_83 hl (k := 4) rfl (nI_add _ _) (by decide) rfl (fun ls hl => ?_)
                  refine lv_iinc (v := (nI (k + 1))) (lv' := [(4, .int (nI (k + 1))), (3, .int (nI ((cntB (fun k => (decide (lst k = 111) && decide (fib k = v.toNat)) && decide (gra k = g)) k) + 1))), (5, .ref (la k)), (0, .ref (z 0)), (1, .int (zI v)), (2, .int (nI g))]) hx hb dX6_countOf_86 hl (k := 5) rfl (nI_add _ _) (by decide) rfl (fun ls hl => ?_)
                  refine lv_goto (tgt := 29) hx hb dX6_countOf_89 (by decide) ?_
                  exact ih (k + 1) (by omega) (by omega) _ _ _ hW (by rw [show cntB (fun k => (decide (lst k = 111) && decide (fib k = v.toNat)) && decide (gra k = g)) (k + 1) = ((cntB (fun k => (decide (lst k = 111) && decide (fib k = v.toNat)) && decide (gra k = g)) k) + 1) from bsum_t (by show (_ && _) = true; rw [decide_eq_true c_62, decide_eq_true (show fib k = v.toNat by omega), decide_eq_true c_80]; rfl)]; exact lv_sub hl [3, 4, 5, 1, 0] rfl)
      exact loop (lo + 1) 0 (by omega) (by omega) _ _ _ hW (lv_sub hl [2, 3, 4, 1, 0] rfl)
    · exact x_thrS X hout hW hl9 (cls := "java/lang/IllegalArgumentException") 10 rfl pl_IAE fit_IAE names_ok wq_421 wq_71 at1_IAE at2_IAE good_IAE hl.1 dX6_countOf_14 dX6_countOf_17 dX6_countOf_18 dX6_countOf_20 dX6_countOf_23 (Nat.le_of_ble_eq_true rfl) (Nat.le_of_ble_eq_true rfl) (Nat.le_of_ble_eq_true rfl) (Nat.le_of_ble_eq_true rfl) (⟨rfl, (by (repeat' apply And.intro) <;> first | assumption | omega), rfl⟩) (Nat.le_of_ble_eq_true rfl) (Nat.le_of_ble_eq_true rfl)

set_option maxRecDepth 100000 in
set_option maxHeartbeats 4000000 in
theorem c_X6_soldShare (l : Launch) (hl9 : l.stackTraces = false) (G : Gt) (z f h : Nat → Nat) (ol ob sc wc : Nat) (tk : Int) (lo bi ru : Nat) (fib gra res lst : Nat → Nat) (byr : Nat → Int) (rf ro rs bid pri bst rea : Nat → Nat) (rvl pad : Nat → Int) (itm akf akg : Nat → Nat) (gt : Nat → Int) (Y w : va_W) (hI : CIa lo bi ru ol ob fib gra res lst bst rea bid pri itm akf akg rf ro rs) (hR : CR G z f h ol ob sc wc tk lo bi ru fib gra res lst byr rf ro rs bid pri bst rea rvl pad itm akf akg gt Y w) : Xf l G yX6_soldShare (ww yX6_soldShare cX6_soldShare 1 (some FieldType.float)) (RM 6 3 18) [.ref (z 0)] w (fun r w2 => (0 < lo) ∧ r = (FP.fdiv (FP.i2f (nI sc)) (FP.i2f (nI lo))) ∧ w2 = w) (fun E w2 => (E = "java/lang/ArithmeticException" ∧ (lo = 0) ∧ w2 = w)) := by
  refine Xf.intro (by decide) (Nat.le_of_ble_eq_true rfl) ?_
  intro p e s m args below meth c A X hout hW ls hl
  have hx := X.exec
  have hb := X.bytes
  have hl : lv_has ls 1 [(0, .ref (z 0))] := hl
  obtain ⟨e0, k0, m0, e1, k1, m1, e2, k2, m2, la, ra, ba, wo, we, wk, wm, ia, h0, h1, h2, h3, hc⟩ := hR
  obtain ⟨hlo, hbi, hru, hol, hob, hfib, hgra, hres, hlst, hbst, hrea, hbid, hpri, hitm, hakf, hakg, hrf, hro, hrs, hol2, hob2⟩ := hI
  refine lv_aload_n hx hb dX6_soldShare_0 rfl (lv_at hl 0 rfl) ?_
  obtain ⟨q0, hq0⟩ := List.mem_iff_getElem?.mp (cw_mk hc)
  refine x_get X hW q0 hq0 0 rfl rfl iwX6 (by decide) wq_210 rfl dX6_soldShare_1 ?_
  obtain ⟨r9, hL0⟩ := cw_l0 hc
  obtain ⟨q0, hq0⟩ := List.mem_iff_getElem?.mp (ls_mem hL0)
  refine go_i X hW (run_V X hW (As := []) (rest := []) 2 q0 hq0 (c_emP hL0 (by omega) _) (gi_V wq_659 wq_660 wq_661 wq_64 wq_662) rfl hyJx4a65c_isEmpty_aae02 rfl rfl rfl hl.1 (Nat.le_of_ble_eq_true rfl) ⟨Nat.le_of_ble_eq_true rfl, Nat.le_of_ble_eq_true rfl⟩ ⟨by decide, by decide⟩ dX6_soldShare_4) (fun r w2 H locs hp hW => ?_)
  obtain ⟨hr0, hw2⟩ := hp
  subst hr0
  rw [hw2] at hW
  refine p_if_eq hx hb (tgt := 20) dX6_soldShare_7 (by decide) (fun c_7 => ?_) (fun c_7 => ?_)
  · refine lv_aload_n hx hb dX6_soldShare_20 rfl (lv_at hl 0 rfl) ?_
    obtain ⟨q0, hq0⟩ := List.mem_iff_getElem?.mp (cw_mk hc)
    refine x_get X hW q0 hq0 7 rfl rfl iwX6 (by decide) wq_217 rfl dX6_soldShare_21 ?_
    refine lv_i2f hx hb dX6_soldShare_24 ?_
    refine lv_aload_n hx hb dX6_soldShare_25 rfl (lv_at hl 0 rfl) ?_
    obtain ⟨q0, hq0⟩ := List.mem_iff_getElem?.mp (cw_mk hc)
    refine x_get X hW q0 hq0 0 rfl rfl iwX6 (by decide) wq_210 rfl dX6_soldShare_26 ?_
    obtain ⟨r9, hL0⟩ := cw_l0 hc
    obtain ⟨q0, hq0⟩ := List.mem_iff_getElem?.mp (ls_mem hL0)
    refine go_i X hW (run_V X hW (As := []) (rest := [.float (FP.i2f (nI sc))]) 2 q0 hq0 (c_szP hL0 _) (gi_V wq_245 wq_246 wq_247 wq_64 wq_248) rfl hyJx4a65c_size_8abf5 rfl rfl rfl hl.1 (Nat.le_of_ble_eq_true rfl) ⟨Nat.le_of_ble_eq_true rfl, Nat.le_of_ble_eq_true rfl⟩ ⟨by decide, by decide⟩ dX6_soldShare_29) (fun r w2 H locs hp hW => ?_)
    obtain ⟨hr0, hw2⟩ := hp
    subst hr0
    rw [hw2] at hW
    refine lv_i2f hx hb dX6_soldShare_32 ?_
    refine lv_fdiv hx hb dX6_soldShare_33 (fdiv_nI (by omega) (by omega)) ?_
    exact vx_ret (ret_f X hW (v := (FP.fdiv (FP.i2f (nI sc)) (FP.i2f (nI lo)))) (⟨(by (repeat' apply And.intro) <;> first | assumption | omega), rfl, rfl⟩) rfl (by decide) (by decide) dX6_soldShare_34)
  · exact x_thrS X hout hW hl9 (cls := "java/lang/ArithmeticException") 23 rfl pl_ARE fit_ARE names_ok wq_1063 wq_89 at1_ARE at2_ARE good_ARE hl.1 dX6_soldShare_10 dX6_soldShare_13 dX6_soldShare_14 dX6_soldShare_16 dX6_soldShare_19 (Nat.le_of_ble_eq_true rfl) (Nat.le_of_ble_eq_true rfl) (Nat.le_of_ble_eq_true rfl) (Nat.le_of_ble_eq_true rfl) (⟨rfl, (by (repeat' apply And.intro) <;> first | assumption | omega), rfl⟩) (Nat.le_of_ble_eq_true rfl) (Nat.le_of_ble_eq_true rfl)

set_option maxRecDepth 100000 in
set_option maxHeartbeats 4000000 in
theorem c_X6_meanPaid (l : Launch) (hl9 : l.stackTraces = false) (G : Gt) (z f h : Nat → Nat) (ol ob sc wc : Nat) (tk : Int) (lo bi ru : Nat) (fib gra res lst : Nat → Nat) (byr : Nat → Int) (rf ro rs bid pri bst rea : Nat → Nat) (rvl pad : Nat → Int) (itm akf akg : Nat → Nat) (gt : Nat → Int) (Y w : va_W) (hI : CIa lo bi ru ol ob fib gra res lst bst rea bid pri itm akf akg rf ro rs) (hR : CR G z f h ol ob sc wc tk lo bi ru fib gra res lst byr rf ro rs bid pri bst rea rvl pad itm akf akg gt Y w) (hwc : wc ≤ 40) : Xd l G yX6_meanPaid (ww yX6_meanPaid cX6_meanPaid 1 (some FieldType.double)) (RM 6 3 18) [.ref (z 0)] w (fun r w2 => (0 < wc) ∧ r = (FP.ddiv (FP.l2d (lZ tk)) (FP.i2d (nI wc))) ∧ w2 = w) (fun E w2 => (E = "java/lang/ArithmeticException" ∧ (wc = 0) ∧ w2 = w)) := by
  refine Xd.intro (by decide) (Nat.le_of_ble_eq_true rfl) ?_
  intro p e s m args below meth c A X hout hW ls hl
  have hx := X.exec
  have hb := X.bytes
  have hl : lv_has ls 1 [(0, .ref (z 0))] := hl
  obtain ⟨e0, k0, m0, e1, k1, m1, e2, k2, m2, la, ra, ba, wo, we, wk, wm, ia, h0, h1, h2, h3, hc⟩ := hR
  obtain ⟨hlo, hbi, hru, hol, hob, hfib, hgra, hres, hlst, hbst, hrea, hbid, hpri, hitm, hakf, hakg, hrf, hro, hrs, hol2, hob2⟩ := hI
  refine lv_aload_n hx hb dX6_meanPaid_0 rfl (lv_at hl 0 rfl) ?_
  obtain ⟨q0, hq0⟩ := List.mem_iff_getElem?.mp (cw_mk hc)
  refine x_get X hW q0 hq0 8 rfl rfl iwX6 (by decide) wq_218 rfl dX6_meanPaid_1 ?_
  refine n_if_gt hx hb rfl (by omega) (tgt := 18) dX6_meanPaid_4 (by decide) (fun c_4 => ?_) (fun c_4 => ?_)
  · refine lv_aload_n hx hb dX6_meanPaid_18 rfl (lv_at hl 0 rfl) ?_
    obtain ⟨q0, hq0⟩ := List.mem_iff_getElem?.mp (cw_mk hc)
    refine x_get X hW q0 hq0 9 rfl rfl iwX6 (by decide) wq_219 rfl dX6_meanPaid_19 ?_
    refine lv_l2d hx hb dX6_meanPaid_22 ?_
    refine lv_aload_n hx hb dX6_meanPaid_23 rfl (lv_at hl 0 rfl) ?_
    obtain ⟨q0, hq0⟩ := List.mem_iff_getElem?.mp (cw_mk hc)
    refine x_get X hW q0 hq0 8 rfl rfl iwX6 (by decide) wq_218 rfl dX6_meanPaid_24 ?_
    refine lv_i2d hx hb dX6_meanPaid_27 ?_
    refine lv_ddiv hx hb dX6_meanPaid_28 (ddiv_lZ (by omega) (by omega)) ?_
    exact vx_ret (ret_d X hW (v := (FP.ddiv (FP.l2d (lZ tk)) (FP.i2d (nI wc)))) (⟨(by (repeat' apply And.intro) <;> first | assumption | omega), rfl, rfl⟩) rfl (by decide) (by decide) dX6_meanPaid_29)
  · exact x_thrW X hout hW hl9 (cls := "java/lang/ArithmeticException") 24 rfl pl_ARE fit_ARE names_ok wq_1063 wq_89 at1_ARE at2_ARE good_ARE hl.1 dX6_meanPaid_7 dX6_meanPaid_10 dX6_meanPaid_11 dX6_meanPaid_14 dX6_meanPaid_17 (Nat.le_of_ble_eq_true rfl) (Nat.le_of_ble_eq_true rfl) (Nat.le_of_ble_eq_true rfl) (Nat.le_of_ble_eq_true rfl) (⟨rfl, (by (repeat' apply And.intro) <;> first | assumption | omega), rfl⟩) (Nat.le_of_ble_eq_true rfl) (Nat.le_of_ble_eq_true rfl)

