set_option maxRecDepth 100000 in
set_option maxHeartbeats 4000000 in
theorem c_X6_close (l : Launch) (hl9 : l.stackTraces = false) (G : Gt) (z f h : Nat → Nat) (ol ob sc wc : Nat) (tk : Int) (lo bi ru : Nat) (fib gra res lst : Nat → Nat) (byr : Nat → Int) (rf ro rs bid pri bst rea : Nat → Nat) (rvl pad : Nat → Int) (itm akf akg : Nat → Nat) (gt : Nat → Int) (Y w : va_W) (hI : CIa lo bi ru ol ob fib gra res lst bst rea bid pri itm akf akg rf ro rs) (hR : CF G z f h ol ob sc wc tk lo bi ru fib gra res lst byr rf ro rs bid pri bst rea rvl pad itm akf akg gt Y w) : Xi l G yX6_close (ww yX6_close cX6_close 4 (some FieldType.int)) (RM 17 1 6) [.ref (z 0)] w (fun r w2 => (0 < ob ∧ ∃ (sb : Nat) (P1 By Gy V1 : Nat → Int) (S1 Ly R1 S2 : Nat → Nat) (t1 : Int), BestIs lo bi ru ol ob fib gra res lst bst bid pri itm akf akg rf ro rs (-1) sb ∧ (∀ x, (∀ j, j < ob → sb.testBit j = true → BA bst bi j ≠ x) → P1 x = pad x ∧ S1 x = bst x) ∧ (∀ j, j < ob → sb.testBit j = true → P1 (BA bst bi j) = (PAYc lo bi ru ol ob fib gra res lst bst bid pri itm akf akg rf ro rs sb j) ∧ S1 (BA bst bi j) = 119) ∧ t1 = tk + isum sb.testBit (PAYc lo bi ru ol ob fib gra res lst bst bid pri itm akf akg rf ro rs sb) ob ∧ HO (UTc ob itm bst bi sb) (KTc lo bi ru ol ob fib gra res lst bst bid pri itm akf akg rf ro rs sb) gt byr lst Gy By Ly (bsum sb.testBit (fBD itm bst bi) ob) ∧ (∀ x, (∀ j, j < ob → sb.testBit j = false → BA bst bi j ≠ x) → R1 x = rea x ∧ V1 x = rvl x ∧ S2 x = S1 x) ∧ (∀ j, j < ob → sb.testBit j = false → R1 (BA bst bi j) = (whyN (itm (BA bst bi j)) (lcost (2 ^ j) ob ol (fBD bid bst bi) (fBD itm bst bi) (fFL fib gra rf ro rs ru akf akg lst lo bst bi ol) (fRS res lst lo)) (pri (BA bst bi j)) (WINc bid bst bi ob sb j)) ∧ V1 (BA bst bi j) = (WINc bid bst bi ob sb j) ∧ S2 (BA bst bi j) = 108) ∧ r = nI (bsum sb.testBit (fBD itm bst bi) ob) ∧ CF G z f h (ol - (bsum sb.testBit (fBD itm bst bi) ob)) 0 (sc + (bsum sb.testBit (fBD itm bst bi) ob)) (wc + cntB sb.testBit ob) t1 lo bi ru fib gra res Ly By rf ro rs bid pri S2 R1 V1 P1 itm akf akg Gy Y w2)) (fun E w2 => E = "java/lang/IllegalStateException" ∧ ob = 0 ∧ CF G z f h ol ob sc wc tk lo bi ru fib gra res lst byr rf ro rs bid pri bst rea rvl pad itm akf akg gt Y w2) := by
  refine Xi.intro (by decide) (Nat.le_of_ble_eq_true rfl) ?_
  intro p e s m args below meth c A X hout hW ls hl
  have hx := X.exec
  have hb := X.bytes
  have hl : lv_has ls 4 [(0, .ref (z 0))] := hl
  have hI9 := hI
  obtain ⟨hlo, hbi, hru, hol, hob, hfib, hgra, hres, hlst, hbst, hrea, hbid, hpri, hitm, hakf, hakg, hrf, hro, hrs, hol2, hob2⟩ := hI
  have hR9 := hR
  obtain ⟨lc, bc, ql, ln, rv, rm, bn, bd, pr, ic, fl, qu, rc, gp, bs, bv, cf, wt, ho, hF, e0, k0, m0, e1, k1, m1, e2, k2, m2, la, ra, ba, wo, we, wk, wm, ia, h0, h1, h2, h3, hc⟩ := hR
  obtain ⟨glc, gbc, gql, gln, grv, gRS, gbn, gbd, gpr, gic, gfl, gqu, grc, ggp, gcf, gwt⟩ := hF
  refine lv_aload_n hx hb dX6_close_0 rfl (lv_at hl 0 rfl) ?_
  obtain ⟨q0, hq0⟩ := List.mem_iff_getElem?.mp (cw_mk hc)
  refine x_get X hW q0 hq0 6 rfl rfl iwX6 (by decide) wq_216 rfl dX6_close_1 ?_
  refine n_if_gt hx hb rfl (by omega) (tgt := 17) dX6_close_4 (by decide) (fun c_4 => ?_) (fun c_4 => ?_)
  · refine lv_aload_n hx hb dX6_close_17 rfl (lv_at hl 0 rfl) ?_
    obtain ⟨q0, hq0⟩ := List.mem_iff_getElem?.mp (cw_mk hc)
    refine go_v X hW (run_V X hW (As := []) (rest := []) 9 q0 hq0 (c_X6_fillFloor l G _ _ _ _ _ _ _ _ _ _ _ _ _ _ _ _ _ _ _ _ _ _ _ _ _ _ _ _ _ _ _ _ _ _ _ _ _ _ _ _ _ _ _ _ _ _ _ _ _ _ _ _ _ _ _ _ _ _ _ _ _ _ _ _ _ _ _ hc h0 h1 h2 h3 hI9 ⟨glc, gbc, gql, gln, grv, gRS, gbn, gbd, gpr, gic, gfl, gqu, grc, ggp, gcf, gwt⟩ _) (gi_V wq_265 wq_267 wq_0 wq_61 wq_268) rfl hyX6_fillFloor rfl rfl rfl hl.1 (Nat.le_of_ble_eq_true rfl) ⟨Nat.le_of_ble_eq_true rfl, Nat.le_of_ble_eq_true rfl⟩ ⟨by decide, by decide⟩ dX6_close_18) (fun w2 H locs hp hW => ?_)
    obtain ⟨ln2, rv2, rm2, bn2, bd2, pr2, ic2, fl2, hF2, hG2, hc9⟩ := hp
    obtain ⟨glc, gbc, gql, gln, grv, gRS, gbn, gbd, gpr, gic, gfl, gqu, grc, ggp, gcf, gwt⟩ := hF2
    obtain ⟨-, -, kln, kbn, kAg⟩ := hG2
    obtain ⟨w, hW, hc⟩ : ∃ w9, Wd G A s w9 H locs ∧ w9.Perm (CW G z f h ol ob sc wc tk e0 k0 m0 e1 k1 m1 e2 k2 m2 lo bi ru la fib gra res lst byr ra rf ro rs ba bid wo pri bst rea rvl pad we wk wm itm ia akf akg gt (fW G f ol ob 0 ln2 rv2 rm2 bn2 bd2 pr2 ic2 fl2 qu rc gp ++ (sW G h bs bv cf wt ho ++ Y))) := ⟨_, hW, hc9⟩
    refine lv_aload_n hx hb dX6_close_21 rfl (lv_at hl 0 rfl) ?_
    obtain ⟨q0, hq0⟩ := List.mem_iff_getElem?.mp (cw_mk hc)
    refine x_get X hW q0 hq0 4 rfl rfl iwX6 (by decide) wq_214 rfl dX6_close_22 ?_
    refine lv_aload_n hx hb dX6_close_25 rfl (lv_at hl 0 rfl) ?_
    obtain ⟨q0, hq0⟩ := List.mem_iff_getElem?.mp (cw_mk hc)
    refine x_get X hW q0 hq0 3 rfl rfl iwX6 (by decide) wq_213 rfl dX6_close_26 ?_
    refine lv_iconst (v := zI (-1)) hx hb dX6_close_29 (by decide) ?_
    have hW : Wd G A s (fW G f ol ob 0 ln2 rv2 rm2 bn2 bd2 pr2 ic2 fl2 qu rc gp ++ (sW G h bs bv cf wt ho ++ CW G z f h ol ob sc wc tk e0 k0 m0 e1 k1 m1 e2 k2 m2 lo bi ru la fib gra res lst byr ra rf ro rs ba bid wo pri bst rea rvl pad we wk wm itm ia akf akg gt Y)) _ _ := hW.perm (hc.trans (cw_out2 _ _))
    refine go_v X hW (run_VN X hW (As := [.ref (f 0), .int (zI (-1))]) (rest := []) 8 12 rfl (c_X5_findBest l G f h ol ob 0 ln2 rv2 rm2 bn2 bd2 pr2 ic2 fl2 qu rc gp bs bv cf wt ho (CW G z f h ol ob sc wc tk e0 k0 m0 e1 k1 m1 e2 k2 m2 lo bi ru la fib gra res lst byr ra rf ro rs ba bid wo pri bst rea rvl pad we wk wm itm ia akf akg gt Y) (-1) glc gbc gql gbd gic gfl grv gqu grc gpr ⟨by omega, by first | omega | (have := hbid v.toNat; omega)⟩ gwt gcf (fun k hk => RS_lt gRS glc grv hk) (fun k => by have := gbn k; omega) _) wq_319 wq_321 wq_9 wq_66 wq_322 hyX5_findBest rfl rfl rfl hl.1 (Nat.le_of_ble_eq_true rfl) ⟨Nat.le_of_ble_eq_true rfl, Nat.le_of_ble_eq_true rfl⟩ ⟨by decide, by decide⟩ dX6_close_30) (fun w2 H locs hp hW => ?_)
    obtain ⟨q9, u9, v9, wx9, hh9, g9, a1, a2, a3, a4, a5, hw9⟩ := hp
    obtain ⟨hB, hS⟩ := fbS_best (rm := rm2) (bd := bd2) (ic := ic2) (fl := fl2) (rs := rv2) (pr := pr2) (-1) glc gbc grv gRS
    rw [hS] at hw9
    clear hS
    generalize (fbS ol ob rm2 bd2 pr2 ic2 fl2 rv2 (-1)).1 = b9 at hB hw9
    have hBb9 : BestIs lo bi ru ol ob fib gra res lst bst bid pri itm akf akg rf ro rs (-1) b9 := kAg.isb hB
    clear hB
    rw [show VS ol rv2 ic2 fl2 pr2 b9 ob = (Sur lo bi ru ol ob fib gra res lst bst pri itm akf akg rf ro rs b9) from kAg.vs b9] at hw9
    rw [hw9] at hW
    have gql := a1
    have gqu := a2
    have grc := a3
    have gwt := a4
    have gcf := a5
    have hb99 : b9 < 256 := Nat.lt_of_lt_of_le hBb9.1 (p2_256 hob)
    obtain ⟨w, hW, hc⟩ : ∃ w9, Wd G A s w9 H locs ∧ w9.Perm (CW G z f h ol ob sc wc tk e0 k0 m0 e1 k1 m1 e2 k2 m2 lo bi ru la fib gra res lst byr ra rf ro rs ba bid wo pri bst rea rvl pad we wk wm itm ia akf akg gt (fW G f ol ob q9 ln2 rv2 rm2 bn2 bd2 pr2 ic2 fl2 u9 v9 gp ++ (sW G h b9 (Sur lo bi ru ol ob fib gra res lst bst pri itm akf akg rf ro rs b9) g9 wx9 hh9 ++ Y))) := ⟨_, hW, (cw_out2 _ _).symm⟩
    refine lv_aload_n hx hb dX6_close_33 rfl (lv_at hl 0 rfl) ?_
    obtain ⟨q0, hq0⟩ := List.mem_iff_getElem?.mp (cw_mk hc)
    refine x_get X hW q0 hq0 4 rfl rfl iwX6 (by decide) wq_214 rfl dX6_close_34 ?_
    obtain ⟨q0, hq0⟩ := List.mem_iff_getElem?.mp (cw_in hc (List.mem_append_right _ (List.mem_append_left _ (List.mem_of_getElem? (i := 0) rfl))))
    refine x_getN X hW q0 hq0 3 rfl rfl iwX5 (by decide) wq_195 rfl dX6_close_37 ?_
    refine lv_istore_n (lv' := [(1, .int (nI b9)), (0, .ref (z 0))]) hx hb dX6_close_40 rfl hl (by decide) rfl (fun ls hl => ?_)
    refine lv_aload_n hx hb dX6_close_41 rfl (lv_at hl 1 rfl) ?_
    obtain ⟨q0, hq0⟩ := List.mem_iff_getElem?.mp (cw_mk hc)
    refine x_get X hW q0 hq0 4 rfl rfl iwX6 (by decide) wq_214 rfl dX6_close_42 ?_
    obtain ⟨q0, hq0⟩ := List.mem_iff_getElem?.mp (cw_in hc (List.mem_append_right _ (List.mem_append_left _ (List.mem_of_getElem? (i := 0) rfl))))
    refine x_getN X hW q0 hq0 4 rfl rfl iwX5 (by decide) wq_197 rfl dX6_close_45 ?_
    refine lv_istore_n (lv' := [(2, .int (zI (Sur lo bi ru ol ob fib gra res lst bst pri itm akf akg rf ro rs b9))), (1, .int (nI b9)), (0, .ref (z 0))]) hx hb dX6_close_48 rfl hl (by decide) rfl (fun ls hl => ?_)
    have hG9 : FFl lo bi ru ol ob fib gra res lst bst bid pri itm akf akg rf ro rs ol ob ln2 rv2 bn2 bd2 pr2 ic2 fl2 := ⟨rfl, rfl, kln, kbn, kAg⟩
    have hcl : cntB (isO lst) lo = ol := hol2
    obtain ⟨km1, -, -⟩ := kt_ok hol hres hcl hBb9
    refine lv_aload_n hx hb dX6_close_49 rfl (lv_at hl 2 rfl) ?_
    refine lv_iload_n hx hb dX6_close_50 rfl (lv_at hl 1 rfl) ?_
    refine lv_iload_n hx hb dX6_close_51 rfl (lv_at hl 0 rfl) ?_
    obtain ⟨q0, hq0⟩ := List.mem_iff_getElem?.mp (cw_mk hc)
    refine go_v X hW (run_V X hW (As := [.int (nI b9), .int (zI (Sur lo bi ru ol ob fib gra res lst bst pri itm akf akg rf ro rs b9))]) (rest := []) 9 q0 hq0 (c_X6_settlePayments l G z f h ol ob sc wc tk e0 k0 m0 e1 k1 m1 e2 k2 m2 lo bi ru la fib gra res lst byr ra rf ro rs ba bid wo pri bst rea rvl pad we wk wm itm ia akf akg gt ol ob q9 ln2 rv2 rm2 bn2 bd2 pr2 ic2 fl2 u9 v9 gp b9 (Sur lo bi ru ol ob fib gra res lst bst pri itm akf akg rf ro rs b9) g9 wx9 hh9 Y w b9 hc h0 h1 h2 h3 hI9 ⟨glc, gbc, gql, gln, grv, gRS, gbn, gbd, gpr, gic, gfl, gqu, grc, ggp, gcf, gwt⟩ hG9 hBb9 _) (gi_V wq_784 wq_786 wq_33 wq_61 wq_787) rfl hyX6_settlePayments rfl rfl rfl hl.1 (Nat.le_of_ble_eq_true rfl) ⟨Nat.le_of_ble_eq_true rfl, Nat.le_of_ble_eq_true rfl⟩ ⟨by decide, by decide⟩ dX6_close_52) (fun w2 H locs hp hW => ?_)
    obtain ⟨P1, S1, t1, qx, ux, vx, wxx, hhx, gx, bx, bvx, p1, p2, p3, hF3, hc9⟩ := hp
    obtain ⟨w, hW, hc⟩ : ∃ w9, Wd G A s w9 H locs ∧ w9.Perm (CW G z f h ol ob sc (wc + cntB b9.testBit ob) t1 e0 k0 m0 e1 k1 m1 e2 k2 m2 lo bi ru la fib gra res lst byr ra rf ro rs ba bid wo pri S1 rea rvl P1 we wk wm itm ia akf akg gt (fW G f ol ob qx ln2 rv2 rm2 bn2 bd2 pr2 ic2 fl2 ux vx gp ++ (sW G h bx bvx gx wxx hhx ++ Y))) := ⟨_, hW, hc9⟩
    refine lv_aload_n hx hb dX6_close_55 rfl (lv_at hl 2 rfl) ?_
    refine lv_iload_n hx hb dX6_close_56 rfl (lv_at hl 1 rfl) ?_
    obtain ⟨q0, hq0⟩ := List.mem_iff_getElem?.mp (cw_mk hc)
    refine go_i X hW (run_V X hW (As := [.int (nI b9)]) (rest := []) 9 q0 hq0 (c_X6_handOutLots l G z f h ol ob sc (wc + cntB b9.testBit ob) t1 e0 k0 m0 e1 k1 m1 e2 k2 m2 lo bi ru la fib gra res lst byr ra rf ro rs ba bid wo pri bst rea rvl pad we wk wm itm ia akf akg gt ol ob qx ln2 rv2 rm2 bn2 bd2 pr2 ic2 fl2 ux vx gp bx bvx gx wxx hhx Y w S1 rea P1 rvl b9 hc h0 h1 h3 hI9 hF3 hG9 hBb9 _) (gi_V wq_788 wq_790 wq_34 wq_61 wq_791) rfl hyX6_handOutLots rfl rfl rfl hl.1 (Nat.le_of_ble_eq_true rfl) ⟨Nat.le_of_ble_eq_true rfl, Nat.le_of_ble_eq_true rfl⟩ ⟨by decide, by decide⟩ dX6_close_57) (fun r w2 H locs hp hW => ?_)
    obtain ⟨hr0, Ly, uy, vy, By, Gy, gpy, hO, hF4, hc9⟩ := hp
    subst hr0
    obtain ⟨w, hW, hc⟩ : ∃ w9, Wd G A s w9 H locs ∧ w9.Perm (CW G z f h ol ob sc (wc + cntB b9.testBit ob) t1 e0 k0 m0 e1 k1 m1 e2 k2 m2 lo bi ru la fib gra res Ly By ra rf ro rs ba bid wo pri S1 rea rvl P1 we wk wm itm ia akf akg Gy (fW G f ol ob (bsum b9.testBit ic2 ob) ln2 rv2 rm2 bn2 bd2 pr2 ic2 fl2 uy vy gpy ++ (sW G h bx bvx gx wxx hhx ++ Y))) := ⟨_, hW, hc9⟩
    refine lv_istore_n (lv' := [(3, .int (nI (bsum b9.testBit (fBD itm bst bi) ob))), (2, .int (zI (Sur lo bi ru ol ob fib gra res lst bst pri itm akf akg rf ro rs b9))), (1, .int (nI b9)), (0, .ref (z 0))]) hx hb dX6_close_60 rfl hl (by decide) rfl (fun ls hl => ?_)
    refine lv_aload_n hx hb dX6_close_61 rfl (lv_at hl 3 rfl) ?_
    refine lv_iload_n hx hb dX6_close_62 rfl (lv_at hl 2 rfl) ?_
    obtain ⟨q0, hq0⟩ := List.mem_iff_getElem?.mp (cw_mk hc)
    refine go_v X hW (run_V X hW (As := [.int (nI b9)]) (rest := []) 9 q0 hq0 (c_X6_settleLosers l G z f h ol ob sc (wc + cntB b9.testBit ob) t1 e0 k0 m0 e1 k1 m1 e2 k2 m2 lo bi ru la fib gra res lst By ra rf ro rs ba bid wo pri bst rea rvl P1 we wk wm itm ia akf akg Gy ol ob (bsum b9.testBit ic2 ob) ln2 rv2 rm2 bn2 bd2 pr2 ic2 fl2 uy vy gpy bx bvx gx wxx hhx Y w Ly S1 b9 hc h1 hI9 hF4 hG9 hBb9 _) (gi_V wq_809 wq_811 wq_39 wq_61 wq_812) rfl hyX6_settleLosers rfl rfl rfl hl.1 (Nat.le_of_ble_eq_true rfl) ⟨Nat.le_of_ble_eq_true rfl, Nat.le_of_ble_eq_true rfl⟩ ⟨by decide, by decide⟩ dX6_close_63) (fun w2 H locs hp hW => ?_)
    obtain ⟨R1, S2, V1, qz, uz, vz, l1, l2, hF5, hc9⟩ := hp
    obtain ⟨w, hW, hc⟩ : ∃ w9, Wd G A s w9 H locs ∧ w9.Perm (CW G z f h ol ob sc (wc + cntB b9.testBit ob) t1 e0 k0 m0 e1 k1 m1 e2 k2 m2 lo bi ru la fib gra res Ly By ra rf ro rs ba bid wo pri S2 R1 V1 P1 we wk wm itm ia akf akg Gy (fW G f ol ob qz ln2 rv2 rm2 bn2 bd2 pr2 ic2 fl2 uz vz gpy ++ (sW G h bx bvx gx wxx hhx ++ Y))) := ⟨_, hW, hc9⟩
    obtain ⟨glc, gbc, gql, gln, grv, gRS, gbn, gbd, gpr, gic, gfl, gqu, grc, ggp, gcf, gwt⟩ := id hF5
    refine lv_aload_n hx hb dX6_close_66 rfl (lv_at hl 3 rfl) ?_
    refine lv_dup hx hb dX6_close_67 rfl ?_
    obtain ⟨q0, hq0⟩ := List.mem_iff_getElem?.mp (cw_mk hc)
    refine x_get X hW q0 hq0 5 rfl rfl iwX6 (by decide) wq_215 rfl dX6_close_68 ?_
    refine lv_iload_n hx hb dX6_close_71 rfl (lv_at hl 0 rfl) ?_
    refine n_isub hx hb (by omega) dX6_close_72 ?_
    obtain ⟨q0, hq0⟩ := List.mem_iff_getElem?.mp (cw_mk hc)
    refine x_put X hW q0 hq0 5 (w2 := _) rfl rfl iwX6 tyX6_ok nmX6 (by decide) wq_215 rfl rfl rfl rfl (Nat.le_of_ble_eq_true rfl) dX6_close_73 (fun H locs hW => ?_)
    obtain ⟨w, hW, hc⟩ : ∃ w9, Wd G A s w9 H locs ∧ w9.Perm (CW G z f h (ol - (bsum b9.testBit (fBD itm bst bi) ob)) ob sc (wc + cntB b9.testBit ob) t1 e0 k0 m0 e1 k1 m1 e2 k2 m2 lo bi ru la fib gra res Ly By ra rf ro rs ba bid wo pri S2 R1 V1 P1 we wk wm itm ia akf akg Gy (fW G f ol ob qz ln2 rv2 rm2 bn2 bd2 pr2 ic2 fl2 uz vz gpy ++ (sW G h bx bvx gx wxx hhx ++ Y))) := ⟨_, hW, Fc.set (cw_mkU hc (ol - (bsum b9.testBit (fBD itm bst bi) ob)) ob sc (wc + cntB b9.testBit ob) t1) hq0⟩
    refine lv_aload_n hx hb dX6_close_76 rfl (lv_at hl 3 rfl) ?_
    refine lv_dup hx hb dX6_close_77 rfl ?_
    obtain ⟨q0, hq0⟩ := List.mem_iff_getElem?.mp (cw_mk hc)
    refine x_get X hW q0 hq0 7 rfl rfl iwX6 (by decide) wq_217 rfl dX6_close_78 ?_
    refine lv_iload_n hx hb dX6_close_81 rfl (lv_at hl 0 rfl) ?_
    refine n_iadd hx hb dX6_close_82 ?_
    obtain ⟨q0, hq0⟩ := List.mem_iff_getElem?.mp (cw_mk hc)
    refine x_put X hW q0 hq0 7 (w2 := _) rfl rfl iwX6 tyX6_ok nmX6 (by decide) wq_217 rfl rfl rfl rfl (Nat.le_of_ble_eq_true rfl) dX6_close_83 (fun H locs hW => ?_)
    obtain ⟨w, hW, hc⟩ : ∃ w9, Wd G A s w9 H locs ∧ w9.Perm (CW G z f h (ol - (bsum b9.testBit (fBD itm bst bi) ob)) ob (sc + (bsum b9.testBit (fBD itm bst bi) ob)) (wc + cntB b9.testBit ob) t1 e0 k0 m0 e1 k1 m1 e2 k2 m2 lo bi ru la fib gra res Ly By ra rf ro rs ba bid wo pri S2 R1 V1 P1 we wk wm itm ia akf akg Gy (fW G f ol ob qz ln2 rv2 rm2 bn2 bd2 pr2 ic2 fl2 uz vz gpy ++ (sW G h bx bvx gx wxx hhx ++ Y))) := ⟨_, hW, Fc.set (cw_mkU hc (ol - (bsum b9.testBit (fBD itm bst bi) ob)) ob (sc + (bsum b9.testBit (fBD itm bst bi) ob)) (wc + cntB b9.testBit ob) t1) hq0⟩
    refine lv_aload_n hx hb dX6_close_86 rfl (lv_at hl 3 rfl) ?_
    refine lv_iconst (v := nI 0) hx hb dX6_close_87 (by decide) ?_
    obtain ⟨q0, hq0⟩ := List.mem_iff_getElem?.mp (cw_mk hc)
    refine x_put X hW q0 hq0 6 (w2 := _) rfl rfl iwX6 tyX6_ok nmX6 (by decide) wq_216 rfl rfl rfl rfl (Nat.le_of_ble_eq_true rfl) dX6_close_88 (fun H locs hW => ?_)
    obtain ⟨w, hW, hc⟩ : ∃ w9, Wd G A s w9 H locs ∧ w9.Perm (CW G z f h (ol - (bsum b9.testBit (fBD itm bst bi) ob)) 0 (sc + (bsum b9.testBit (fBD itm bst bi) ob)) (wc + cntB b9.testBit ob) t1 e0 k0 m0 e1 k1 m1 e2 k2 m2 lo bi ru la fib gra res Ly By ra rf ro rs ba bid wo pri S2 R1 V1 P1 we wk wm itm ia akf akg Gy (fW G f ol ob qz ln2 rv2 rm2 bn2 bd2 pr2 ic2 fl2 uz vz gpy ++ (sW G h bx bvx gx wxx hhx ++ Y))) := ⟨_, hW, Fc.set (cw_mkU hc (ol - (bsum b9.testBit (fBD itm bst bi) ob)) 0 (sc + (bsum b9.testBit (fBD itm bst bi) ob)) (wc + cntB b9.testBit ob) t1) hq0⟩
    refine lv_iload_n hx hb dX6_close_91 rfl (lv_at hl 0 rfl) ?_
    exact vx_ret (ret_i X hW (v := (nI (bsum b9.testBit (fBD itm bst bi) ob))) (⟨by omega, b9, P1, By, Gy, V1, S1, Ly, R1, S2, t1, hBb9, p1, p2, p3, hO, l1, l2, rfl, ⟨ol, ob, qz, ln2, rv2, rm2, bn2, bd2, pr2, ic2, fl2, uz, vz, gpy, bx, bvx, gx, wxx, hhx, ⟨glc, gbc, gql, gln, grv, gRS, gbn, gbd, gpr, gic, gfl, gqu, grc, ggp, gcf, gwt⟩, e0, k0, m0, e1, k1, m1, e2, k2, m2, la, ra, ba, wo, we, wk, wm, ia, h0, h1, h2, h3, hc⟩⟩) rfl (by decide) (by decide) dX6_close_92)
  · exact x_thrS X hout hW hl9 (cls := "java/lang/IllegalStateException") 14 rfl pl_ISE fit_ISE names_ok wq_493 wq_72 at1_ISE at2_ISE good_ISE hl.1 dX6_close_7 dX6_close_10 dX6_close_11 dX6_close_13 dX6_close_16 (Nat.le_of_ble_eq_true rfl) (Nat.le_of_ble_eq_true rfl) (Nat.le_of_ble_eq_true rfl) (Nat.le_of_ble_eq_true rfl) (⟨rfl, by omega, hR9⟩) (Nat.le_of_ble_eq_true rfl) (Nat.le_of_ble_eq_true rfl)

