set_option maxRecDepth 100000 in
set_option maxHeartbeats 4000000 in
theorem c_X6_isInBestSet (l : Launch) (G : Gt) (z f h : Nat → Nat) (ol ob sc wc : Nat) (tk : Int) (e0 k0 m0 e1 k1 m1 e2 k2 m2 lo bi ru : Nat) (la fib gra res lst : Nat → Nat) (byr : Nat → Int) (ra rf ro rs : Nat → Nat) (ba bid wo pri bst rea : Nat → Nat) (rvl pad : Nat → Int) (we wk wm itm ia akf akg : Nat → Nat) (gt : Nat → Int) (lc bc ql : Nat) (ln rv rm bn bd pr ic fl qu rc : Nat → Nat) (gp : Nat → Int) (bs : Nat) (bv : Int) (cf wt ho : Nat → Nat) (Y w : va_W) (v : Int) (hc : w.Perm (CW G z f h ol ob sc wc tk e0 k0 m0 e1 k1 m1 e2 k2 m2 lo bi ru la fib gra res lst byr ra rf ro rs ba bid wo pri bst rea rvl pad we wk wm itm ia akf akg gt (fW G f lc bc ql ln rv rm bn bd pr ic fl qu rc gp ++ (sW G h bs bv cf wt ho ++ Y)))) (h0 : LsOK G e0 k0 lo) (h1 : LsOK G e1 k1 bi) (h2 : LsOK G e2 k2 ru) (h3 : ∀ b, b < bi → LsOK G (we b) (wk b) (itm b)) (hI : CIa lo bi ru ol ob fib gra res lst bst rea bid pri itm akf akg rf ro rs) (hF : FI lc bc ql ln rv rm bn bd pr ic fl qu rc gp bs bv cf wt) (hv : iR v) (hv2 : ((0 ≤ v ∧ v < ((bi : Nat) : Int)) ∧ bst v.toNat = 111)) : Ci l G yX6_isInBestSet (ww yX6_isInBestSet cX6_isInBestSet 2 (some FieldType.boolean)) (RM 15 0 0) [.ref (z 0), .int (zI v)] w (fun r w2 => ∃ (ln2 rv2 rm2 bn2 bd2 pr2 ic2 fl2 : Nat → Nat) (q9 : Nat) (u9 v9 wx9 hh9 g9 : Nat → Nat) (b9 k : Nat), FI ol ob q9 ln2 rv2 rm2 bn2 bd2 pr2 ic2 fl2 u9 v9 gp b9 (Sur lo bi ru ol ob fib gra res lst bst pri itm akf akg rf ro rs b9) g9 wx9 ∧ FFl lo bi ru ol ob fib gra res lst bst bid pri itm akf akg rf ro rs ol ob ln2 rv2 bn2 bd2 pr2 ic2 fl2 ∧ BestIs lo bi ru ol ob fib gra res lst bst bid pri itm akf akg rf ro rs (-1) b9 ∧ k < ob ∧ BA bst bi k = v.toNat ∧ r = nI (if b9.testBit k = true then 1 else 0) ∧ w2.Perm (CW G z f h ol ob sc wc tk e0 k0 m0 e1 k1 m1 e2 k2 m2 lo bi ru la fib gra res lst byr ra rf ro rs ba bid wo pri bst rea rvl pad we wk wm itm ia akf akg gt (fW G f ol ob q9 ln2 rv2 rm2 bn2 bd2 pr2 ic2 fl2 u9 v9 gp ++ (sW G h b9 (Sur lo bi ru ol ob fib gra res lst bst pri itm akf akg rf ro rs b9) g9 wx9 hh9 ++ Y)))) := by
  refine Ci.intro (by decide) (Nat.le_of_ble_eq_true rfl) ?_
  intro p e s m args below meth c A X hW ls hl
  have hx := X.exec
  have hb := X.bytes
  have hl : lv_has ls 2 [(0, .ref (z 0)), (1, .int (zI v))] := hl
  have hI9 := hI
  obtain ⟨hlo, hbi, hru, hol, hob, hfib, hgra, hres, hlst, hbst, hrea, hbid, hpri, hitm, hakf, hakg, hrf, hro, hrs, hol2, hob2⟩ := hI
  obtain ⟨glc, gbc, gql, gln, grv, gRS, gbn, gbd, gpr, gic, gfl, gqu, grc, ggp, gcf, gwt⟩ := hF
  refine lv_aload_n hx hb dX6_isInBestSet_0 rfl (lv_at hl 0 rfl) ?_
  obtain ⟨q0, hq0⟩ := List.mem_iff_getElem?.mp (cw_mk hc)
  refine go_v X hW (run_V X hW (As := []) (rest := []) 9 q0 hq0 (c_X6_fillFloor l G _ _ _ _ _ _ _ _ _ _ _ _ _ _ _ _ _ _ _ _ _ _ _ _ _ _ _ _ _ _ _ _ _ _ _ _ _ _ _ _ _ _ _ _ _ _ _ _ _ _ _ _ _ _ _ _ _ _ _ _ _ _ _ _ _ _ _ hc h0 h1 h2 h3 hI9 ⟨glc, gbc, gql, gln, grv, gRS, gbn, gbd, gpr, gic, gfl, gqu, grc, ggp, gcf, gwt⟩ _) (gi_V wq_265 wq_267 wq_0 wq_61 wq_268) rfl hyX6_fillFloor rfl rfl rfl hl.1 (Nat.le_of_ble_eq_true rfl) ⟨Nat.le_of_ble_eq_true rfl, Nat.le_of_ble_eq_true rfl⟩ ⟨by decide, by decide⟩ dX6_isInBestSet_1) (fun w2 H locs hp hW => ?_)
  obtain ⟨ln2, rv2, rm2, bn2, bd2, pr2, ic2, fl2, hF2, hG2, hc9⟩ := hp
  obtain ⟨glc, gbc, gql, gln, grv, gRS, gbn, gbd, gpr, gic, gfl, gqu, grc, ggp, gcf, gwt⟩ := hF2
  obtain ⟨-, -, kln, kbn, kAg⟩ := hG2
  obtain ⟨w, hW, hc⟩ : ∃ w9, Wd G A s w9 H locs ∧ w9.Perm (CW G z f h ol ob sc wc tk e0 k0 m0 e1 k1 m1 e2 k2 m2 lo bi ru la fib gra res lst byr ra rf ro rs ba bid wo pri bst rea rvl pad we wk wm itm ia akf akg gt (fW G f ol ob 0 ln2 rv2 rm2 bn2 bd2 pr2 ic2 fl2 qu rc gp ++ (sW G h bs bv cf wt ho ++ Y))) := ⟨_, hW, hc9⟩
  refine lv_aload_n hx hb dX6_isInBestSet_4 rfl (lv_at hl 0 rfl) ?_
  obtain ⟨q0, hq0⟩ := List.mem_iff_getElem?.mp (cw_mk hc)
  refine x_get X hW q0 hq0 4 rfl rfl iwX6 (by decide) wq_214 rfl dX6_isInBestSet_5 ?_
  refine lv_aload_n hx hb dX6_isInBestSet_8 rfl (lv_at hl 0 rfl) ?_
  obtain ⟨q0, hq0⟩ := List.mem_iff_getElem?.mp (cw_mk hc)
  refine x_get X hW q0 hq0 3 rfl rfl iwX6 (by decide) wq_213 rfl dX6_isInBestSet_9 ?_
  refine lv_iconst (v := zI (-1)) hx hb dX6_isInBestSet_12 (by decide) ?_
  have hW : Wd G A s (fW G f ol ob 0 ln2 rv2 rm2 bn2 bd2 pr2 ic2 fl2 qu rc gp ++ (sW G h bs bv cf wt ho ++ CW G z f h ol ob sc wc tk e0 k0 m0 e1 k1 m1 e2 k2 m2 lo bi ru la fib gra res lst byr ra rf ro rs ba bid wo pri bst rea rvl pad we wk wm itm ia akf akg gt Y)) _ _ := hW.perm (hc.trans (cw_out2 _ _))
  refine go_v X hW (run_VN X hW (As := [.ref (f 0), .int (zI (-1))]) (rest := []) 8 12 rfl (c_X5_findBest l G f h ol ob 0 ln2 rv2 rm2 bn2 bd2 pr2 ic2 fl2 qu rc gp bs bv cf wt ho (CW G z f h ol ob sc wc tk e0 k0 m0 e1 k1 m1 e2 k2 m2 lo bi ru la fib gra res lst byr ra rf ro rs ba bid wo pri bst rea rvl pad we wk wm itm ia akf akg gt Y) (-1) glc gbc gql gbd gic gfl grv gqu grc gpr ⟨by omega, by first | omega | (have := hbid v.toNat; omega)⟩ gwt gcf (fun k hk => RS_lt gRS glc grv hk) (fun k => by have := gbn k; omega) _) wq_319 wq_321 wq_9 wq_66 wq_322 hyX5_findBest rfl rfl rfl hl.1 (Nat.le_of_ble_eq_true rfl) ⟨Nat.le_of_ble_eq_true rfl, Nat.le_of_ble_eq_true rfl⟩ ⟨by decide, by decide⟩ dX6_isInBestSet_13) (fun w2 H locs hp hW => ?_)
  obtain ⟨q9, u9, v9, wx9, hh9, g9, a1, a2, a3, a4, a5, hw9⟩ := hp
  obtain ⟨hB, hS⟩ := fbS_best (rm := rm2) (bd := bd2) (ic := ic2) (fl := fl2) (rs := rv2) (pr := pr2) (-1) glc gbc grv gRS
  rw [hS] at hw9
  clear hS
  generalize (fbS ol ob rm2 bd2 pr2 ic2 fl2 rv2 (-1)).1 = b9 at hB hw9
  have hBb9 : BestIs lo bi ru ol ob fib gra res lst bst bid pri itm akf akg rf ro rs (-1) b9 := kAg.isb hB
  clear hB
  rw [show VS ol rv2 ic2 fl2 pr2 b9 ob = (Sur lo bi ru ol ob fib gra res lst bst pri itm akf akg rf ro rs b9) from kAg.vs b9] at hw9
  rw [hw9] at hW
  have gql := a1
  have gqu := a2
  have grc := a3
  have gwt := a4
  have gcf := a5
  have hb99 : b9 < 256 := Nat.lt_of_lt_of_le hBb9.1 (p2_256 hob)
  obtain ⟨w, hW, hc⟩ : ∃ w9, Wd G A s w9 H locs ∧ w9.Perm (CW G z f h ol ob sc wc tk e0 k0 m0 e1 k1 m1 e2 k2 m2 lo bi ru la fib gra res lst byr ra rf ro rs ba bid wo pri bst rea rvl pad we wk wm itm ia akf akg gt (fW G f ol ob q9 ln2 rv2 rm2 bn2 bd2 pr2 ic2 fl2 u9 v9 gp ++ (sW G h b9 (Sur lo bi ru ol ob fib gra res lst bst pri itm akf akg rf ro rs b9) g9 wx9 hh9 ++ Y))) := ⟨_, hW, (cw_out2 _ _).symm⟩
  have hcb : cntB (isO bst) bi = ob := hob2
  obtain ⟨kp, hkp1, hkp2, hkp3, hkp4, hkp5⟩ := place_of (v := v.toNat) kbn hcb (by omega) (by omega)
  have hp2k := p2_le (show kp < 8 by omega)
  refine lv_aload_n hx hb dX6_isInBestSet_16 rfl (lv_at hl 0 rfl) ?_
  obtain ⟨q0, hq0⟩ := List.mem_iff_getElem?.mp (cw_mk hc)
  refine x_get X hW q0 hq0 4 rfl rfl iwX6 (by decide) wq_214 rfl dX6_isInBestSet_17 ?_
  obtain ⟨q0, hq0⟩ := List.mem_iff_getElem?.mp (cw_in hc (List.mem_append_right _ (List.mem_append_left _ (List.mem_of_getElem? (i := 0) rfl))))
  refine x_getN X hW q0 hq0 3 rfl rfl iwX5 (by decide) wq_195 rfl dX6_isInBestSet_20 ?_
  refine lv_aload_n hx hb dX6_isInBestSet_23 rfl (lv_at hl 0 rfl) ?_
  obtain ⟨q0, hq0⟩ := List.mem_iff_getElem?.mp (cw_mk hc)
  refine x_get X hW q0 hq0 3 rfl rfl iwX6 (by decide) wq_213 rfl dX6_isInBestSet_24 ?_
  refine lv_iload_n hx hb dX6_isInBestSet_27 rfl (lv_at hl 1 rfl) ?_
  refine r_zn (a := v.toNat) (by omega) ?_
  have hW : Wd G A s (fW G f ol ob q9 ln2 rv2 rm2 bn2 bd2 pr2 ic2 fl2 u9 v9 gp ++ (sW G h b9 (Sur lo bi ru ol ob fib gra res lst bst pri itm akf akg rf ro rs b9) g9 wx9 hh9 ++ CW G z f h ol ob sc wc tk e0 k0 m0 e1 k1 m1 e2 k2 m2 lo bi ru la fib gra res lst byr ra rf ro rs ba bid wo pri bst rea rvl pad we wk wm itm ia akf akg gt Y)) _ _ := hW.perm (hc.trans (cw_out2 _ _))
  refine go_i X hW (run_VN X hW (As := [.int (nI v.toNat)]) (rest := [.int (nI b9)]) 4 0 rfl (c_X1_setOf l G f ol ob q9 ln2 rv2 rm2 bn2 bd2 pr2 ic2 fl2 u9 v9 gp (sW G h b9 (Sur lo bi ru ol ob fib gra res lst bst pri itm akf akg rf ro rs b9) g9 wx9 hh9 ++ CW G z f h ol ob sc wc tk e0 k0 m0 e1 k1 m1 e2 k2 m2 lo bi ru la fib gra res lst byr ra rf ro rs ba bid wo pri bst rea rvl pad we wk wm itm ia akf akg gt Y) v.toNat (by omega) gbc (fun k => by have := gbn k; omega) _) wq_976 wq_978 wq_41 wq_65 wq_979 hyX1_setOf rfl rfl rfl hl.1 (Nat.le_of_ble_eq_true rfl) ⟨Nat.le_of_ble_eq_true rfl, Nat.le_of_ble_eq_true rfl⟩ ⟨by decide, by decide⟩ dX6_isInBestSet_28) (fun r w2 H locs hp hW => ?_)
  obtain ⟨hr0, hw2⟩ := hp
  subst hr0
  rw [hw2] at hW
  rw [hkp4]
  obtain ⟨w, hW, hc⟩ : ∃ w9, Wd G A s w9 H locs ∧ w9.Perm (CW G z f h ol ob sc wc tk e0 k0 m0 e1 k1 m1 e2 k2 m2 lo bi ru la fib gra res lst byr ra rf ro rs ba bid wo pri bst rea rvl pad we wk wm itm ia akf akg gt (fW G f ol ob q9 ln2 rv2 rm2 bn2 bd2 pr2 ic2 fl2 u9 v9 gp ++ (sW G h b9 (Sur lo bi ru ol ob fib gra res lst bst pri itm akf akg rf ro rs b9) g9 wx9 hh9 ++ Y))) := ⟨_, hW, (cw_out2 _ _).symm⟩
  refine n_iand hx hb dX6_isInBestSet_31 ?_
  refine n_if_eq hx hb rfl (by have := and_lt (b := 2 ^ kp) hb99; omega) (tgt := 39) dX6_isInBestSet_32 (by decide) (fun c_32 => ?_) (fun c_32 => ?_)
  · refine lv_iconst (v := nI 0) hx hb dX6_isInBestSet_39 (by decide) ?_
    exact ret_z X hW (v := (nI 0)) (⟨ln2, rv2, rm2, bn2, bd2, pr2, ic2, fl2, q9, u9, v9, wx9, hh9, g9, b9, kp, ⟨glc, gbc, gql, gln, grv, gRS, gbn, gbd, gpr, gic, gfl, gqu, grc, ggp, gcf, gwt⟩, ⟨rfl, rfl, kln, kbn, kAg⟩, hBb9, hkp1, hkp2, by rw [if_neg (by rw [bit_f c_32]; decide)], hc⟩) rfl (by first | rfl | exact (pk_charN (by omega)).1) (by decide) (by decide) dX6_isInBestSet_40
  · refine lv_iconst (v := nI 1) hx hb dX6_isInBestSet_35 (by decide) ?_
    refine lv_goto (tgt := 40) hx hb dX6_isInBestSet_36 (by decide) ?_
    exact ret_z X hW (v := (nI 1)) (⟨ln2, rv2, rm2, bn2, bd2, pr2, ic2, fl2, q9, u9, v9, wx9, hh9, g9, b9, kp, ⟨glc, gbc, gql, gln, grv, gRS, gbn, gbd, gpr, gic, gfl, gqu, grc, ggp, gcf, gwt⟩, ⟨rfl, rfl, kln, kbn, kAg⟩, hBb9, hkp1, hkp2, by rw [if_pos (bit_t c_32)], hc⟩) rfl (by first | rfl | exact (pk_charN (by omega)).1) (by decide) (by decide) dX6_isInBestSet_40

set_option maxRecDepth 100000 in
set_option maxHeartbeats 4000000 in
theorem c_X6_wouldWin (l : Launch) (hl9 : l.stackTraces = false) (G : Gt) (z f h : Nat → Nat) (ol ob sc wc : Nat) (tk : Int) (lo bi ru : Nat) (fib gra res lst : Nat → Nat) (byr : Nat → Int) (rf ro rs bid pri bst rea : Nat → Nat) (rvl pad : Nat → Int) (itm akf akg : Nat → Nat) (gt : Nat → Int) (Y w : va_W) (v : Int) (hI : CIa lo bi ru ol ob fib gra res lst bst rea bid pri itm akf akg rf ro rs) (hR : CF G z f h ol ob sc wc tk lo bi ru fib gra res lst byr rf ro rs bid pri bst rea rvl pad itm akf akg gt Y w) (hv : iR v) : Xi l G yX6_wouldWin (ww yX6_wouldWin cX6_wouldWin 2 (some FieldType.boolean)) (RM 16 6 36) [.ref (z 0), .int (zI v)] w (fun r w2 => (((0 ≤ v ∧ v < ((bi : Nat) : Int)) ∧ bst v.toNat = 111) ∧ ∃ b k, BestIs lo bi ru ol ob fib gra res lst bst bid pri itm akf akg rf ro rs (-1) b ∧ k < ob ∧ BA bst bi k = v.toNat ∧ r = nI (if b.testBit k = true then 1 else 0)) ∧ CF G z f h ol ob sc wc tk lo bi ru fib gra res lst byr rf ro rs bid pri bst rea rvl pad itm akf akg gt Y w2) (fun E w2 => (E = "java/util/NoSuchElementException" ∧ (¬ (0 ≤ v ∧ v < ((bi : Nat) : Int))) ∧ CF G z f h ol ob sc wc tk lo bi ru fib gra res lst byr rf ro rs bid pri bst rea rvl pad itm akf akg gt Y w2) ∨ (E = "java/lang/IllegalStateException" ∧ ((0 ≤ v ∧ v < ((bi : Nat) : Int)) ∧ bst v.toNat ≠ 111) ∧ CF G z f h ol ob sc wc tk lo bi ru fib gra res lst byr rf ro rs bid pri bst rea rvl pad itm akf akg gt Y w2)) := by
  refine Xi.intro (by decide) (Nat.le_of_ble_eq_true rfl) ?_
  intro p e s m args below meth c A X hout hW ls hl
  have hx := X.exec
  have hb := X.bytes
  have hl : lv_has ls 2 [(0, .ref (z 0)), (1, .int (zI v))] := hl
  have hI9 := hI
  obtain ⟨hlo, hbi, hru, hol, hob, hfib, hgra, hres, hlst, hbst, hrea, hbid, hpri, hitm, hakf, hakg, hrf, hro, hrs, hol2, hob2⟩ := hI
  have hR9 := hR
  obtain ⟨lc, bc, ql, ln, rv, rm, bn, bd, pr, ic, fl, qu, rc, gp, bs, bv, cf, wt, ho, hF, e0, k0, m0, e1, k1, m1, e2, k2, m2, la, ra, ba, wo, we, wk, wm, ia, h0, h1, h2, h3, hc⟩ := hR
  obtain ⟨glc, gbc, gql, gln, grv, gRS, gbn, gbd, gpr, gic, gfl, gqu, grc, ggp, gcf, gwt⟩ := hF
  refine lv_aload_n hx hb dX6_wouldWin_0 rfl (lv_at hl 0 rfl) ?_
  refine lv_iload_n hx hb dX6_wouldWin_1 rfl (lv_at hl 1 rfl) ?_
  obtain ⟨q0, hq0⟩ := List.mem_iff_getElem?.mp (cw_mk hc)
  refine go_xr X hout hW (run_XV X hW (As := [.int (zI v)]) (rest := []) 9 q0 hq0 (c_X6_knownOpenBid l hl9 G _ _ _ _ _ _ _ _ _ _ _ _ _ _ _ _ _ _ _ _ _ _ _ _ _ _ _ _ _ _ _ _ _ _ _ _ _ _ _ _ _ _ _ _ _ _ _ _ v hc h1 hbi hbst (by omega) _) (gi_V wq_763 wq_765 wq_32 wq_61 wq_766) rfl hyX6_knownOpenBid rfl rfl rfl hl.1 (Nat.le_of_ble_eq_true rfl) ⟨Nat.le_of_ble_eq_true rfl, Nat.le_of_ble_eq_true rfl⟩ ⟨by decide, by decide⟩ dX6_wouldWin_2) (fun E w2 h => by rcases h with h | h; exact Or.inl (⟨h.1, h.2.1, h.2.2 ▸ hR9⟩); exact Or.inr (⟨h.1, by (repeat' apply And.intro) <;> first | assumption | exact h.2.1.1 | exact h.2.1.2 | omega, h.2.2 ▸ hR9⟩)) (Nat.le_of_ble_eq_true rfl) (Nat.le_of_ble_eq_true rfl) (fun b w2 H locs hp hW => ?_)
  obtain ⟨hk2, hr0, hw2⟩ := hp
  subst hr0
  rw [hw2] at hW
  refine lv_pop hx hb dX6_wouldWin_5 rfl ?_
  refine lv_aload_n hx hb dX6_wouldWin_6 rfl (lv_at hl 0 rfl) ?_
  refine lv_iload_n hx hb dX6_wouldWin_7 rfl (lv_at hl 1 rfl) ?_
  obtain ⟨q0, hq0⟩ := List.mem_iff_getElem?.mp (cw_mk hc)
  refine go_i X hW (run_V X hW (As := [.int (zI v)]) (rest := []) 9 q0 hq0 (c_X6_isInBestSet l G _ _ _ _ _ _ _ _ _ _ _ _ _ _ _ _ _ _ _ _ _ _ _ _ _ _ _ _ _ _ _ _ _ _ _ _ _ _ _ _ _ _ _ _ _ _ _ _ _ _ _ _ _ _ _ _ _ _ _ _ _ _ _ _ _ _ _ v hc h0 h1 h2 h3 hI9 ⟨glc, gbc, gql, gln, grv, gRS, gbn, gbd, gpr, gic, gfl, gqu, grc, ggp, gcf, gwt⟩ (by omega) (by (repeat' apply And.intro) <;> first | assumption | omega) _) (gi_V wq_1015 wq_1017 wq_43 wq_61 wq_1018) rfl hyX6_isInBestSet rfl rfl rfl hl.1 (Nat.le_of_ble_eq_true rfl) ⟨Nat.le_of_ble_eq_true rfl, Nat.le_of_ble_eq_true rfl⟩ ⟨by decide, by decide⟩ dX6_wouldWin_8) (fun r w2 H locs hp hW => ?_)
  obtain ⟨ln2, rv2, rm2, bn2, bd2, pr2, ic2, fl2, q9, u9, v9, wx9, hh9, g9, b9, kp, hF2, hG2, hBb9, hkp1, hkp2, hr0, hc9⟩ := hp
  obtain ⟨glc, gbc, gql, gln, grv, gRS, gbn, gbd, gpr, gic, gfl, gqu, grc, ggp, gcf, gwt⟩ := hF2
  obtain ⟨-, -, kln, kbn, kAg⟩ := hG2
  subst hr0
  have hb99 : b9 < 256 := Nat.lt_of_lt_of_le hBb9.1 (p2_256 hob)
  obtain ⟨w, hW, hc⟩ : ∃ w9, Wd G A s w9 H locs ∧ w9.Perm (CW G z f h ol ob sc wc tk e0 k0 m0 e1 k1 m1 e2 k2 m2 lo bi ru la fib gra res lst byr ra rf ro rs ba bid wo pri bst rea rvl pad we wk wm itm ia akf akg gt (fW G f ol ob q9 ln2 rv2 rm2 bn2 bd2 pr2 ic2 fl2 u9 v9 gp ++ (sW G h b9 (Sur lo bi ru ol ob fib gra res lst bst pri itm akf akg rf ro rs b9) g9 wx9 hh9 ++ Y))) := ⟨_, hW, hc9⟩
  exact vx_ret (ret_z X hW (v := (nI (if b9.testBit kp = true then 1 else 0))) (⟨⟨by assumption, b9, kp, hBb9, hkp1, hkp2, rfl⟩, ⟨ol, ob, q9, ln2, rv2, rm2, bn2, bd2, pr2, ic2, fl2, u9, v9, gp, b9, (Sur lo bi ru ol ob fib gra res lst bst pri itm akf akg rf ro rs b9), g9, wx9, hh9, ⟨glc, gbc, gql, gln, grv, gRS, gbn, gbd, gpr, gic, gfl, gqu, grc, ggp, gcf, gwt⟩, e0, k0, m0, e1, k1, m1, e2, k2, m2, la, ra, ba, wo, we, wk, wm, ia, h0, h1, h2, h3, hc⟩⟩) rfl (nar_b _) (by decide) (by decide) dX6_wouldWin_11)

set_option maxRecDepth 100000 in
set_option maxHeartbeats 4000000 in
theorem c_X6_payment (l : Launch) (hl9 : l.stackTraces = false) (G : Gt) (z f h : Nat → Nat) (ol ob sc wc : Nat) (tk : Int) (lo bi ru : Nat) (fib gra res lst : Nat → Nat) (byr : Nat → Int) (rf ro rs bid pri bst rea : Nat → Nat) (rvl pad : Nat → Int) (itm akf akg : Nat → Nat) (gt : Nat → Int) (Y w : va_W) (v : Int) (hI : CIa lo bi ru ol ob fib gra res lst bst rea bid pri itm akf akg rf ro rs) (hR : CF G z f h ol ob sc wc tk lo bi ru fib gra res lst byr rf ro rs bid pri bst rea rvl pad itm akf akg gt Y w) (hv : iR v) : Xi l G yX6_payment (ww yX6_payment cX6_payment 4 (some FieldType.int)) (RM 17 6 36) [.ref (z 0), .int (zI v)] w (fun r w2 => (((0 ≤ v ∧ v < ((bi : Nat) : Int)) ∧ bst v.toNat = 111) ∧ ∃ b b2 k, BestIs lo bi ru ol ob fib gra res lst bst bid pri itm akf akg rf ro rs (-1) b ∧ BestIs lo bi ru ol ob fib gra res lst bst bid pri itm akf akg rf ro rs ((bid v.toNat : Nat) : Int) b2 ∧ k < ob ∧ BA bst bi k = v.toNat ∧ b.testBit k = true ∧ r = zI ((((pri v.toNat : Nat) : Int) - (Sur lo bi ru ol ob fib gra res lst bst pri itm akf akg rf ro rs b)) + (Sur lo bi ru ol ob fib gra res lst bst pri itm akf akg rf ro rs b2))) ∧ CF G z f h ol ob sc wc tk lo bi ru fib gra res lst byr rf ro rs bid pri bst rea rvl pad itm akf akg gt Y w2) (fun E w2 => (E = "java/util/NoSuchElementException" ∧ (¬ (0 ≤ v ∧ v < ((bi : Nat) : Int))) ∧ CF G z f h ol ob sc wc tk lo bi ru fib gra res lst byr rf ro rs bid pri bst rea rvl pad itm akf akg gt Y w2) ∨ (E = "java/lang/IllegalStateException" ∧ ((0 ≤ v ∧ v < ((bi : Nat) : Int)) ∧ bst v.toNat ≠ 111) ∧ CF G z f h ol ob sc wc tk lo bi ru fib gra res lst byr rf ro rs bid pri bst rea rvl pad itm akf akg gt Y w2) ∨ (E = "java/lang/UnsupportedOperationException" ∧ (((0 ≤ v ∧ v < ((bi : Nat) : Int)) ∧ bst v.toNat = 111) ∧ ∃ b k, BestIs lo bi ru ol ob fib gra res lst bst bid pri itm akf akg rf ro rs (-1) b ∧ k < ob ∧ BA bst bi k = v.toNat ∧ ¬ b.testBit k = true) ∧ CF G z f h ol ob sc wc tk lo bi ru fib gra res lst byr rf ro rs bid pri bst rea rvl pad itm akf akg gt Y w2)) := by
  refine Xi.intro (by decide) (Nat.le_of_ble_eq_true rfl) ?_
  intro p e s m args below meth c A X hout hW ls hl
  have hx := X.exec
  have hb := X.bytes
  have hl : lv_has ls 4 [(0, .ref (z 0)), (1, .int (zI v))] := hl
  have hI9 := hI
  obtain ⟨hlo, hbi, hru, hol, hob, hfib, hgra, hres, hlst, hbst, hrea, hbid, hpri, hitm, hakf, hakg, hrf, hro, hrs, hol2, hob2⟩ := hI
  have hR9 := hR
  obtain ⟨lc, bc, ql, ln, rv, rm, bn, bd, pr, ic, fl, qu, rc, gp, bs, bv, cf, wt, ho, hF, e0, k0, m0, e1, k1, m1, e2, k2, m2, la, ra, ba, wo, we, wk, wm, ia, h0, h1, h2, h3, hc⟩ := hR
  obtain ⟨glc, gbc, gql, gln, grv, gRS, gbn, gbd, gpr, gic, gfl, gqu, grc, ggp, gcf, gwt⟩ := hF
  refine lv_aload_n hx hb dX6_payment_0 rfl (lv_at hl 0 rfl) ?_
  refine lv_iload_n hx hb dX6_payment_1 rfl (lv_at hl 1 rfl) ?_
  obtain ⟨q0, hq0⟩ := List.mem_iff_getElem?.mp (cw_mk hc)
  refine go_xr X hout hW (run_XV X hW (As := [.int (zI v)]) (rest := []) 9 q0 hq0 (c_X6_knownOpenBid l hl9 G _ _ _ _ _ _ _ _ _ _ _ _ _ _ _ _ _ _ _ _ _ _ _ _ _ _ _ _ _ _ _ _ _ _ _ _ _ _ _ _ _ _ _ _ _ _ _ _ v hc h1 hbi hbst (by omega) _) (gi_V wq_763 wq_765 wq_32 wq_61 wq_766) rfl hyX6_knownOpenBid rfl rfl rfl hl.1 (Nat.le_of_ble_eq_true rfl) ⟨Nat.le_of_ble_eq_true rfl, Nat.le_of_ble_eq_true rfl⟩ ⟨by decide, by decide⟩ dX6_payment_2) (fun E w2 h => by rcases h with h | h; exact Or.inl (⟨h.1, h.2.1, h.2.2 ▸ hR9⟩); exact Or.inr (Or.inl (⟨h.1, by (repeat' apply And.intro) <;> first | assumption | exact h.2.1.1 | exact h.2.1.2 | omega, h.2.2 ▸ hR9⟩))) (Nat.le_of_ble_eq_true rfl) (Nat.le_of_ble_eq_true rfl) (fun b w2 H locs hp hW => ?_)
  obtain ⟨hk2, hr0, hw2⟩ := hp
  subst hr0
  rw [hw2] at hW
  refine lv_astore_n (lv' := [(2, .ref (ba v.toNat)), (0, .ref (z 0)), (1, .int (zI v))]) hx hb dX6_payment_5 rfl hl (by decide) rfl (fun ls hl => ?_)
  refine lv_aload_n hx hb dX6_payment_6 rfl (lv_at hl 1 rfl) ?_
  refine lv_iload_n hx hb dX6_payment_7 rfl (lv_at hl 2 rfl) ?_
  obtain ⟨q0, hq0⟩ := List.mem_iff_getElem?.mp (cw_mk hc)
  refine go_i X hW (run_V X hW (As := [.int (zI v)]) (rest := []) 9 q0 hq0 (c_X6_isInBestSet l G _ _ _ _ _ _ _ _ _ _ _ _ _ _ _ _ _ _ _ _ _ _ _ _ _ _ _ _ _ _ _ _ _ _ _ _ _ _ _ _ _ _ _ _ _ _ _ _ _ _ _ _ _ _ _ _ _ _ _ _ _ _ _ _ _ _ _ v hc h0 h1 h2 h3 hI9 ⟨glc, gbc, gql, gln, grv, gRS, gbn, gbd, gpr, gic, gfl, gqu, grc, ggp, gcf, gwt⟩ (by omega) (by (repeat' apply And.intro) <;> first | assumption | omega) _) (gi_V wq_1015 wq_1017 wq_43 wq_61 wq_1018) rfl hyX6_isInBestSet rfl rfl rfl hl.1 (Nat.le_of_ble_eq_true rfl) ⟨Nat.le_of_ble_eq_true rfl, Nat.le_of_ble_eq_true rfl⟩ ⟨by decide, by decide⟩ dX6_payment_8) (fun r w2 H locs hp hW => ?_)
  obtain ⟨ln2, rv2, rm2, bn2, bd2, pr2, ic2, fl2, q9, u9, v9, wx9, hh9, g9, b9, kp, hF2, hG2, hBb9, hkp1, hkp2, hr0, hc9⟩ := hp
  obtain ⟨glc, gbc, gql, gln, grv, gRS, gbn, gbd, gpr, gic, gfl, gqu, grc, ggp, gcf, gwt⟩ := hF2
  obtain ⟨-, -, kln, kbn, kAg⟩ := hG2
  subst hr0
  have hb99 : b9 < 256 := Nat.lt_of_lt_of_le hBb9.1 (p2_256 hob)
  obtain ⟨w, hW, hc⟩ : ∃ w9, Wd G A s w9 H locs ∧ w9.Perm (CW G z f h ol ob sc wc tk e0 k0 m0 e1 k1 m1 e2 k2 m2 lo bi ru la fib gra res lst byr ra rf ro rs ba bid wo pri bst rea rvl pad we wk wm itm ia akf akg gt (fW G f ol ob q9 ln2 rv2 rm2 bn2 bd2 pr2 ic2 fl2 u9 v9 gp ++ (sW G h b9 (Sur lo bi ru ol ob fib gra res lst bst pri itm akf akg rf ro rs b9) g9 wx9 hh9 ++ Y))) := ⟨_, hW, hc9⟩
  refine p_if_ne hx hb (tgt := 24) dX6_payment_11 (by decide) (fun c_11 => ?_) (fun c_11 => ?_)
  · refine lv_aload_n hx hb dX6_payment_24 rfl (lv_at hl 1 rfl) ?_
    obtain ⟨q0, hq0⟩ := List.mem_iff_getElem?.mp (cw_mk hc)
    refine x_get X hW q0 hq0 4 rfl rfl iwX6 (by decide) wq_214 rfl dX6_payment_25 ?_
    obtain ⟨q0, hq0⟩ := List.mem_iff_getElem?.mp (cw_in hc (List.mem_append_right _ (List.mem_append_left _ (List.mem_of_getElem? (i := 0) rfl))))
    refine x_getN X hW q0 hq0 4 rfl rfl iwX5 (by decide) wq_197 rfl dX6_payment_28 ?_
    refine lv_istore_n (lv' := [(3, .int (zI (Sur lo bi ru ol ob fib gra res lst bst pri itm akf akg rf ro rs b9))), (2, .ref (ba v.toNat)), (0, .ref (z 0)), (1, .int (zI v))]) hx hb dX6_payment_31 rfl hl (by decide) rfl (fun ls hl => ?_)
    refine lv_aload_n hx hb dX6_payment_32 rfl (lv_at hl 2 rfl) ?_
    obtain ⟨q0, hq0⟩ := List.mem_iff_getElem?.mp (cw_mk hc)
    refine x_get X hW q0 hq0 4 rfl rfl iwX6 (by decide) wq_214 rfl dX6_payment_33 ?_
    refine lv_aload_n hx hb dX6_payment_36 rfl (lv_at hl 2 rfl) ?_
    obtain ⟨q0, hq0⟩ := List.mem_iff_getElem?.mp (cw_mk hc)
    refine x_get X hW q0 hq0 3 rfl rfl iwX6 (by decide) wq_213 rfl dX6_payment_37 ?_
    refine lv_aload_n hx hb dX6_payment_40 rfl (lv_at hl 1 rfl) ?_
    obtain ⟨q0, hq0⟩ := List.mem_iff_getElem?.mp (cw_bid hc (b := v.toNat) (by omega))
    refine x_getN X hW q0 hq0 0 rfl rfl iwX0 (by decide) wq_693 rfl dX6_payment_41 ?_
    refine r_nz ?_
    have hW : Wd G A s (fW G f ol ob q9 ln2 rv2 rm2 bn2 bd2 pr2 ic2 fl2 u9 v9 gp ++ (sW G h b9 (Sur lo bi ru ol ob fib gra res lst bst pri itm akf akg rf ro rs b9) g9 wx9 hh9 ++ CW G z f h ol ob sc wc tk e0 k0 m0 e1 k1 m1 e2 k2 m2 lo bi ru la fib gra res lst byr ra rf ro rs ba bid wo pri bst rea rvl pad we wk wm itm ia akf akg gt Y)) _ _ := hW.perm (hc.trans (cw_out2 _ _))
    refine go_v X hW (run_VN X hW (As := [.ref (f 0), .int (zI (((bid v.toNat) : Nat) : Int))]) (rest := []) 8 12 rfl (c_X5_findBest l G f h ol ob q9 ln2 rv2 rm2 bn2 bd2 pr2 ic2 fl2 u9 v9 gp b9 (Sur lo bi ru ol ob fib gra res lst bst pri itm akf akg rf ro rs b9) g9 wx9 hh9 (CW G z f h ol ob sc wc tk e0 k0 m0 e1 k1 m1 e2 k2 m2 lo bi ru la fib gra res lst byr ra rf ro rs ba bid wo pri bst rea rvl pad we wk wm itm ia akf akg gt Y) (((bid v.toNat) : Nat) : Int) glc gbc gql gbd gic gfl grv gqu grc gpr ⟨by omega, by first | omega | (have := hbid v.toNat; omega)⟩ gwt gcf (fun k hk => RS_lt gRS glc grv hk) (fun k => by have := gbn k; omega) _) wq_319 wq_321 wq_9 wq_66 wq_322 hyX5_findBest rfl rfl rfl hl.1 (Nat.le_of_ble_eq_true rfl) ⟨Nat.le_of_ble_eq_true rfl, Nat.le_of_ble_eq_true rfl⟩ ⟨by decide, by decide⟩ dX6_payment_44) (fun w2 H locs hp hW => ?_)
    obtain ⟨q5, u5, v5, wx5, hh5, g5, a1, a2, a3, a4, a5, hw9⟩ := hp
    obtain ⟨hB, hS⟩ := fbS_best (rm := rm2) (bd := bd2) (ic := ic2) (fl := fl2) (rs := rv2) (pr := pr2) (((bid v.toNat) : Nat) : Int) glc gbc grv gRS
    rw [hS] at hw9
    clear hS
    generalize (fbS ol ob rm2 bd2 pr2 ic2 fl2 rv2 (((bid v.toNat) : Nat) : Int)).1 = b5 at hB hw9
    have hBb5 : BestIs lo bi ru ol ob fib gra res lst bst bid pri itm akf akg rf ro rs (((bid v.toNat) : Nat) : Int) b5 := kAg.isb hB
    clear hB
    rw [show VS ol rv2 ic2 fl2 pr2 b5 ob = (Sur lo bi ru ol ob fib gra res lst bst pri itm akf akg rf ro rs b5) from kAg.vs b5] at hw9
    rw [hw9] at hW
    have gql := a1
    have gqu := a2
    have grc := a3
    have gwt := a4
    have gcf := a5
    have hb95 : b5 < 256 := Nat.lt_of_lt_of_le hBb5.1 (p2_256 hob)
    obtain ⟨w, hW, hc⟩ : ∃ w9, Wd G A s w9 H locs ∧ w9.Perm (CW G z f h ol ob sc wc tk e0 k0 m0 e1 k1 m1 e2 k2 m2 lo bi ru la fib gra res lst byr ra rf ro rs ba bid wo pri bst rea rvl pad we wk wm itm ia akf akg gt (fW G f ol ob q5 ln2 rv2 rm2 bn2 bd2 pr2 ic2 fl2 u5 v5 gp ++ (sW G h b5 (Sur lo bi ru ol ob fib gra res lst bst pri itm akf akg rf ro rs b5) g5 wx5 hh5 ++ Y))) := ⟨_, hW, (cw_out2 _ _).symm⟩
    refine lv_aload_n hx hb dX6_payment_47 rfl (lv_at hl 1 rfl) ?_
    obtain ⟨q0, hq0⟩ := List.mem_iff_getElem?.mp (cw_bid hc (b := v.toNat) (by omega))
    refine x_getN X hW q0 hq0 2 rfl rfl iwX0 (by decide) wq_697 rfl dX6_payment_48 ?_
    refine lv_iload_n hx hb dX6_payment_51 rfl (lv_at hl 0 rfl) ?_
    refine z_isub hx hb (nZ _) rfl dX6_payment_52 ?_
    refine lv_aload_n hx hb dX6_payment_53 rfl (lv_at hl 2 rfl) ?_
    obtain ⟨q0, hq0⟩ := List.mem_iff_getElem?.mp (cw_mk hc)
    refine x_get X hW q0 hq0 4 rfl rfl iwX6 (by decide) wq_214 rfl dX6_payment_54 ?_
    obtain ⟨q0, hq0⟩ := List.mem_iff_getElem?.mp (cw_in hc (List.mem_append_right _ (List.mem_append_left _ (List.mem_of_getElem? (i := 0) rfl))))
    refine x_getN X hW q0 hq0 4 rfl rfl iwX5 (by decide) wq_197 rfl dX6_payment_57 ?_
    refine z_iadd hx hb rfl rfl dX6_payment_60 ?_
    exact vx_ret (ret_i X hW (v := (zI (((((pri v.toNat) : Nat) : Int) - ((Sur lo bi ru ol ob fib gra res lst bst pri itm akf akg rf ro rs b9) : Int)) + ((Sur lo bi ru ol ob fib gra res lst bst pri itm akf akg rf ro rs b5) : Int)))) (⟨⟨by assumption, b9, b5, kp, hBb9, hBb5, hkp1, hkp2, c_11, rfl⟩, ⟨ol, ob, q5, ln2, rv2, rm2, bn2, bd2, pr2, ic2, fl2, u5, v5, gp, b5, (Sur lo bi ru ol ob fib gra res lst bst pri itm akf akg rf ro rs b5), g5, wx5, hh5, ⟨glc, gbc, gql, gln, grv, gRS, gbn, gbd, gpr, gic, gfl, gqu, grc, ggp, gcf, gwt⟩, e0, k0, m0, e1, k1, m1, e2, k2, m2, la, ra, ba, wo, we, wk, wm, ia, h0, h1, h2, h3, hc⟩⟩) rfl (by decide) (by decide) dX6_payment_61)
  · exact x_thrS X hout hW hl9 (cls := "java/lang/UnsupportedOperationException") 22 rfl pl_UOE fit_UOE names_ok wq_984 wq_88 at1_UOE at2_UOE good_UOE hl.1 dX6_payment_14 dX6_payment_17 dX6_payment_18 dX6_payment_20 dX6_payment_23 (Nat.le_of_ble_eq_true rfl) (Nat.le_of_ble_eq_true rfl) (Nat.le_of_ble_eq_true rfl) (Nat.le_of_ble_eq_true rfl) (Or.inr (Or.inr (⟨rfl, ⟨by assumption, b9, kp, hBb9, hkp1, hkp2, c_11⟩, ⟨ol, ob, q9, ln2, rv2, rm2, bn2, bd2, pr2, ic2, fl2, u9, v9, gp, b9, (Sur lo bi ru ol ob fib gra res lst bst pri itm akf akg rf ro rs b9), g9, wx9, hh9, ⟨glc, gbc, gql, gln, grv, gRS, gbn, gbd, gpr, gic, gfl, gqu, grc, ggp, gcf, gwt⟩, e0, k0, m0, e1, k1, m1, e2, k2, m2, la, ra, ba, wo, we, wk, wm, ia, h0, h1, h2, h3, hc⟩⟩))) (Nat.le_of_ble_eq_true rfl) (Nat.le_of_ble_eq_true rfl)

theorem give_ok {lo bi ru ol ob b : Nat} {fib gra res lst bst bid pri itm akf akg rf ro rs rv bd ic fl pr : Nat → Nat} (hol : ol ≤ 8) (hr : ∀ k, rv k ≤ 999) (hA : Ag ol ob rv bd ic fl pr (fRS res lst lo) (fBD bid bst bi) (fBD itm bst bi) (fFL fib gra rf ro rs ru akf akg lst lo bst bi ol) (fBD pri bst bi)) (hB : BestIs lo bi ru ol ob fib gra res lst bst bid pri itm akf akg rf ro rs (-1) b) :
    PS ol bd ic fl b ob ∧ lcost b ob ol bd ic fl rv ≠ -1 ∧ (bsum b.testBit ic ob) ≤ ol ∧ (∀ x, x < bsum b.testBit ic ob → gvl (qf (its b.testBit ic fl ob)) (bsum b.testBit ic ob) ol rv x < ol ∧ gvl (qf (its b.testBit ic fl ob)) (bsum b.testBit ic ob) ol rv x = (gvl (qf (its b.testBit (fBD itm bst bi) (fFL fib gra rf ro rs ru akf akg lst lo bst bi ol) ob)) (bsum b.testBit (fBD itm bst bi) ob) ol (fRS res lst lo) x)) ∧ (∀ n, n ≤ ob → bsum b.testBit ic n = (bsum b.testBit (fBD itm bst bi) n)) := by
  have hP : PS ol bd ic fl b ob := (hA.ps b).mpr hB.2.1
  obtain ⟨q1, q2⟩ := PS_cost hol hr hP
  refine ⟨hP, ?_, q1, fun x hx => ⟨(gvl_ok hol q2 hx).1, hA.gvlE b.testBit hx⟩, fun n hn => hA.sum b.testBit hn⟩
  rw [(lcost_PS hol hr).1 hP]
  omega
set_option maxRecDepth 100000 in
set_option maxHeartbeats 4000000 in
theorem c_X6_lotFor (l : Launch) (hl9 : l.stackTraces = false) (G : Gt) (z f h : Nat → Nat) (ol ob sc wc : Nat) (tk : Int) (lo bi ru : Nat) (fib gra res lst : Nat → Nat) (byr : Nat → Int) (rf ro rs bid pri bst rea : Nat → Nat) (rvl pad : Nat → Int) (itm akf akg : Nat → Nat) (gt : Nat → Int) (Y w : va_W) (v y : Int) (hI : CIa lo bi ru ol ob fib gra res lst bst rea bid pri itm akf akg rf ro rs) (hR : CF G z f h ol ob sc wc tk lo bi ru fib gra res lst byr rf ro rs bid pri bst rea rvl pad itm akf akg gt Y w) (hv : iR v) (hy : iR y) : Xi l G yX6_lotFor (ww yX6_lotFor cX6_lotFor 4 (some FieldType.int)) (RM 17 8 60) [.ref (z 0), .int (zI v), .int (zI y)] w (fun r w2 => (((0 ≤ v ∧ v < ((bi : Nat) : Int)) ∧ (0 ≤ y ∧ y < ((itm v.toNat : Nat) : Int)) ∧ bst v.toNat = 111) ∧ ∃ b k, BestIs lo bi ru ol ob fib gra res lst bst bid pri itm akf akg rf ro rs (-1) b ∧ k < ob ∧ BA bst bi k = v.toNat ∧ b.testBit k = true ∧ r = nI (LA lst lo (gvl (qf (its b.testBit (fBD itm bst bi) (fFL fib gra rf ro rs ru akf akg lst lo bst bi ol) ob)) (bsum b.testBit (fBD itm bst bi) ob) ol (fRS res lst lo) (bsum b.testBit (fBD itm bst bi) k + y.toNat)))) ∧ CF G z f h ol ob sc wc tk lo bi ru fib gra res lst byr rf ro rs bid pri bst rea rvl pad itm akf akg gt Y w2) (fun E w2 => (E = "java/util/NoSuchElementException" ∧ (¬ (0 ≤ v ∧ v < ((bi : Nat) : Int))) ∧ CF G z f h ol ob sc wc tk lo bi ru fib gra res lst byr rf ro rs bid pri bst rea rvl pad itm akf akg gt Y w2) ∨ (E = "java/lang/IndexOutOfBoundsException" ∧ ((0 ≤ v ∧ v < ((bi : Nat) : Int)) ∧ ¬ (0 ≤ y ∧ y < ((itm v.toNat : Nat) : Int))) ∧ CF G z f h ol ob sc wc tk lo bi ru fib gra res lst byr rf ro rs bid pri bst rea rvl pad itm akf akg gt Y w2) ∨ (E = "java/lang/IllegalStateException" ∧ ((0 ≤ v ∧ v < ((bi : Nat) : Int)) ∧ (0 ≤ y ∧ y < ((itm v.toNat : Nat) : Int)) ∧ bst v.toNat ≠ 111) ∧ CF G z f h ol ob sc wc tk lo bi ru fib gra res lst byr rf ro rs bid pri bst rea rvl pad itm akf akg gt Y w2) ∨ (E = "java/lang/UnsupportedOperationException" ∧ (((0 ≤ v ∧ v < ((bi : Nat) : Int)) ∧ (0 ≤ y ∧ y < ((itm v.toNat : Nat) : Int)) ∧ bst v.toNat = 111) ∧ ∃ b k, BestIs lo bi ru ol ob fib gra res lst bst bid pri itm akf akg rf ro rs (-1) b ∧ k < ob ∧ BA bst bi k = v.toNat ∧ ¬ b.testBit k = true) ∧ CF G z f h ol ob sc wc tk lo bi ru fib gra res lst byr rf ro rs bid pri bst rea rvl pad itm akf akg gt Y w2)) := by
  refine Xi.intro (by decide) (Nat.le_of_ble_eq_true rfl) ?_
  intro p e s m args below meth c A X hout hW ls hl
  have hx := X.exec
  have hb := X.bytes
  have hl : lv_has ls 4 [(0, .ref (z 0)), (1, .int (zI v)), (2, .int (zI y))] := hl
  have hI9 := hI
  have hi9 := hI.2.2.2.2.2.2.2.2.2.2.2.2.2.1 v.toNat
  obtain ⟨hlo, hbi, hru, hol, hob, hfib, hgra, hres, hlst, hbst, hrea, hbid, hpri, hitm, hakf, hakg, hrf, hro, hrs, hol2, hob2⟩ := hI
  have hR9 := hR
  obtain ⟨lc, bc, ql, ln, rv, rm, bn, bd, pr, ic, fl, qu, rc, gp, bs, bv, cf, wt, ho, hF, e0, k0, m0, e1, k1, m1, e2, k2, m2, la, ra, ba, wo, we, wk, wm, ia, h0, h1, h2, h3, hc⟩ := hR
  obtain ⟨glc, gbc, gql, gln, grv, gRS, gbn, gbd, gpr, gic, gfl, gqu, grc, ggp, gcf, gwt⟩ := hF
  refine lv_aload_n hx hb dX6_lotFor_0 rfl (lv_at hl 0 rfl) ?_
  refine lv_iload_n hx hb dX6_lotFor_1 rfl (lv_at hl 1 rfl) ?_
  obtain ⟨q0, hq0⟩ := List.mem_iff_getElem?.mp (cw_mk hc)
  refine go_xr X hout hW (run_XV X hW (As := [.int (zI v)]) (rest := []) 9 q0 hq0 (c_X6_knownBid l hl9 G _ _ _ _ _ _ _ _ _ _ _ _ _ _ _ _ _ _ _ _ _ _ _ _ _ _ _ _ _ _ _ _ _ _ _ _ _ _ _ _ _ _ _ _ _ _ _ _ v hc h1 hbi (by omega) _) (gi_V wq_727 wq_729 wq_30 wq_61 wq_730) rfl hyX6_knownBid rfl rfl rfl hl.1 (Nat.le_of_ble_eq_true rfl) ⟨Nat.le_of_ble_eq_true rfl, Nat.le_of_ble_eq_true rfl⟩ ⟨by decide, by decide⟩ dX6_lotFor_2) (fun E w2 h => Or.inl (⟨h.1, h.2.1, h.2.2 ▸ hR9⟩)) (Nat.le_of_ble_eq_true rfl) (Nat.le_of_ble_eq_true rfl) (fun b w2 H locs hp hW => ?_)
  obtain ⟨hk2, hr0, hw2⟩ := hp
  subst hr0
  rw [hw2] at hW
  refine lv_iload_n hx hb dX6_lotFor_5 rfl (lv_at hl 2 rfl) ?_
  refine go_xr X hout hW (run_XS X hW (As := [.ref (ba v.toNat), .int (zI y)]) (rest := []) (c_X6_knownItem l hl9 G _ _ _ _ _ _ _ _ _ _ _ _ _ _ _ _ _ _ _ _ _ _ _ _ _ _ _ _ _ _ _ _ _ _ _ _ _ _ _ _ _ _ _ _ _ _ _ _ v.toNat y hc h3 hitm (by omega) (by omega) _) (gi_S wq_900 wq_901 wq_61 wq_902) hyX6_knownItem rfl rfl hl.1 (Nat.le_of_ble_eq_true rfl) ⟨Nat.le_of_ble_eq_true rfl, Nat.le_of_ble_eq_true rfl⟩ ⟨by decide, by decide⟩ dX6_lotFor_6) (fun E w2 h => Or.inr (Or.inl (⟨h.1, by (repeat' apply And.intro) <;> first | assumption | exact h.2.1 | omega, h.2.2 ▸ hR9⟩))) (Nat.le_of_ble_eq_true rfl) (Nat.le_of_ble_eq_true rfl) (fun b w2 H locs hp hW => ?_)
  obtain ⟨hk6, hr0, hw2⟩ := hp
  subst hr0
  rw [hw2] at hW
  refine lv_pop hx hb dX6_lotFor_9 rfl ?_
  refine lv_aload_n hx hb dX6_lotFor_10 rfl (lv_at hl 0 rfl) ?_
  refine lv_iload_n hx hb dX6_lotFor_11 rfl (lv_at hl 1 rfl) ?_
  obtain ⟨q0, hq0⟩ := List.mem_iff_getElem?.mp (cw_mk hc)
  refine go_xr X hout hW (run_XV X hW (As := [.int (zI v)]) (rest := []) 9 q0 hq0 (c_X6_knownOpenBid l hl9 G _ _ _ _ _ _ _ _ _ _ _ _ _ _ _ _ _ _ _ _ _ _ _ _ _ _ _ _ _ _ _ _ _ _ _ _ _ _ _ _ _ _ _ _ _ _ _ _ v hc h1 hbi hbst (by omega) _) (gi_V wq_763 wq_765 wq_32 wq_61 wq_766) rfl hyX6_knownOpenBid rfl rfl rfl hl.1 (Nat.le_of_ble_eq_true rfl) ⟨Nat.le_of_ble_eq_true rfl, Nat.le_of_ble_eq_true rfl⟩ ⟨by decide, by decide⟩ dX6_lotFor_12) (fun E w2 h => by rcases h with h | h; exact Or.inl (⟨h.1, h.2.1, h.2.2 ▸ hR9⟩); exact Or.inr (Or.inr (Or.inl (⟨h.1, by (repeat' apply And.intro) <;> first | assumption | exact h.2.1.1 | exact h.2.1.2 | omega, h.2.2 ▸ hR9⟩)))) (Nat.le_of_ble_eq_true rfl) (Nat.le_of_ble_eq_true rfl) (fun b w2 H locs hp hW => ?_)
  obtain ⟨hk12, hr0, hw2⟩ := hp
  subst hr0
  rw [hw2] at hW
  refine lv_pop hx hb dX6_lotFor_15 rfl ?_
  refine lv_aload_n hx hb dX6_lotFor_16 rfl (lv_at hl 0 rfl) ?_
  refine lv_iload_n hx hb dX6_lotFor_17 rfl (lv_at hl 1 rfl) ?_
  obtain ⟨q0, hq0⟩ := List.mem_iff_getElem?.mp (cw_mk hc)
  refine go_i X hW (run_V X hW (As := [.int (zI v)]) (rest := []) 9 q0 hq0 (c_X6_isInBestSet l G _ _ _ _ _ _ _ _ _ _ _ _ _ _ _ _ _ _ _ _ _ _ _ _ _ _ _ _ _ _ _ _ _ _ _ _ _ _ _ _ _ _ _ _ _ _ _ _ _ _ _ _ _ _ _ _ _ _ _ _ _ _ _ _ _ _ _ v hc h0 h1 h2 h3 hI9 ⟨glc, gbc, gql, gln, grv, gRS, gbn, gbd, gpr, gic, gfl, gqu, grc, ggp, gcf, gwt⟩ (by omega) (by (repeat' apply And.intro) <;> first | assumption | omega) _) (gi_V wq_1015 wq_1017 wq_43 wq_61 wq_1018) rfl hyX6_isInBestSet rfl rfl rfl hl.1 (Nat.le_of_ble_eq_true rfl) ⟨Nat.le_of_ble_eq_true rfl, Nat.le_of_ble_eq_true rfl⟩ ⟨by decide, by decide⟩ dX6_lotFor_18) (fun r w2 H locs hp hW => ?_)
  obtain ⟨ln2, rv2, rm2, bn2, bd2, pr2, ic2, fl2, q9, u9, v9, wx9, hh9, g9, b9, kp, hF2, hG2, hBb9, hkp1, hkp2, hr0, hc9⟩ := hp
  obtain ⟨glc, gbc, gql, gln, grv, gRS, gbn, gbd, gpr, gic, gfl, gqu, grc, ggp, gcf, gwt⟩ := hF2
  obtain ⟨-, -, kln, kbn, kAg⟩ := hG2
  subst hr0
  have hb99 : b9 < 256 := Nat.lt_of_lt_of_le hBb9.1 (p2_256 hob)
  obtain ⟨w, hW, hc⟩ : ∃ w9, Wd G A s w9 H locs ∧ w9.Perm (CW G z f h ol ob sc wc tk e0 k0 m0 e1 k1 m1 e2 k2 m2 lo bi ru la fib gra res lst byr ra rf ro rs ba bid wo pri bst rea rvl pad we wk wm itm ia akf akg gt (fW G f ol ob q9 ln2 rv2 rm2 bn2 bd2 pr2 ic2 fl2 u9 v9 gp ++ (sW G h b9 (Sur lo bi ru ol ob fib gra res lst bst pri itm akf akg rf ro rs b9) g9 wx9 hh9 ++ Y))) := ⟨_, hW, hc9⟩
  refine p_if_ne hx hb (tgt := 34) dX6_lotFor_21 (by decide) (fun c_21 => ?_) (fun c_21 => ?_)
  · obtain ⟨j1, j2, j3, j4, j5⟩ := give_ok hol grv kAg hBb9
    refine lv_aload_n hx hb dX6_lotFor_34 rfl (lv_at hl 0 rfl) ?_
    obtain ⟨q0, hq0⟩ := List.mem_iff_getElem?.mp (cw_mk hc)
    refine x_get X hW q0 hq0 4 rfl rfl iwX6 (by decide) wq_214 rfl dX6_lotFor_35 ?_
    obtain ⟨q0, hq0⟩ := List.mem_iff_getElem?.mp (cw_in hc (List.mem_append_right _ (List.mem_append_left _ (List.mem_of_getElem? (i := 0) rfl))))
    refine x_getN X hW q0 hq0 3 rfl rfl iwX5 (by decide) wq_195 rfl dX6_lotFor_38 ?_
    refine lv_istore_n (lv' := [(3, .int (nI b9)), (0, .ref (z 0)), (1, .int (zI v)), (2, .int (zI y))]) hx hb dX6_lotFor_41 rfl hl (by decide) rfl (fun ls hl => ?_)
    refine lv_aload_n hx hb dX6_lotFor_42 rfl (lv_at hl 1 rfl) ?_
    obtain ⟨q0, hq0⟩ := List.mem_iff_getElem?.mp (cw_mk hc)
    refine x_get X hW q0 hq0 3 rfl rfl iwX6 (by decide) wq_213 rfl dX6_lotFor_43 ?_
    refine lv_iload_n hx hb dX6_lotFor_46 rfl (lv_at hl 0 rfl) ?_
    have hW : Wd G A s (fW G f ol ob q9 ln2 rv2 rm2 bn2 bd2 pr2 ic2 fl2 u9 v9 gp ++ (sW G h b9 (Sur lo bi ru ol ob fib gra res lst bst pri itm akf akg rf ro rs b9) g9 wx9 hh9 ++ CW G z f h ol ob sc wc tk e0 k0 m0 e1 k1 m1 e2 k2 m2 lo bi ru la fib gra res lst byr ra rf ro rs ba bid wo pri bst rea rvl pad we wk wm itm ia akf akg gt Y)) _ _ := hW.perm (hc.trans (cw_out2 _ _))
    refine go_v X hW (run_VN X hW (As := [.int (nI b9)]) (rest := []) 4 0 rfl (c_X1_giveLots l G f ol ob q9 ln2 rv2 rm2 bn2 bd2 pr2 ic2 fl2 u9 v9 gp (sW G h b9 (Sur lo bi ru ol ob fib gra res lst bst pri itm akf akg rf ro rs b9) g9 wx9 hh9 ++ CW G z f h ol ob sc wc tk e0 k0 m0 e1 k1 m1 e2 k2 m2 lo bi ru la fib gra res lst byr ra rf ro rs ba bid wo pri bst rea rvl pad we wk wm itm ia akf akg gt Y) b9 hb99 glc gbc gql gbd gic gfl grv gqu grc ggp j2 _) wq_792 wq_794 wq_35 wq_65 wq_795 hyX1_giveLots rfl rfl rfl hl.1 (Nat.le_of_ble_eq_true rfl) ⟨Nat.le_of_ble_eq_true rfl, Nat.le_of_ble_eq_true rfl⟩ ⟨by decide, by decide⟩ dX6_lotFor_47) (fun w2 H locs hp hW => ?_)
    obtain ⟨u6, v6, gp6, a1, a2, a3, a4, hw9⟩ := hp
    rw [hw9] at hW
    have gqu := a1
    have grc := a2
    have ggp := a3
    have gql : (bsum b9.testBit ic2 ob) ≤ 8 := by omega
    obtain ⟨w, hW, hc⟩ : ∃ w9, Wd G A s w9 H locs ∧ w9.Perm (CW G z f h ol ob sc wc tk e0 k0 m0 e1 k1 m1 e2 k2 m2 lo bi ru la fib gra res lst byr ra rf ro rs ba bid wo pri bst rea rvl pad we wk wm itm ia akf akg gt (fW G f ol ob (bsum b9.testBit ic2 ob) ln2 rv2 rm2 bn2 bd2 pr2 ic2 fl2 u6 v6 gp6 ++ (sW G h b9 (Sur lo bi ru ol ob fib gra res lst bst pri itm akf akg rf ro rs b9) g9 wx9 hh9 ++ Y))) := ⟨_, hW, (cw_out2 _ _).symm⟩
    have hcb : cntB (isO bst) bi = ob := hob2
    obtain ⟨k7, hk71, hk72, hk73, hk74, hk75⟩ := place_of (v := v.toNat) kbn hcb (by omega) (by omega)
    have e7 : k7 = kp := opn_inj (p := isO bst) (n := bi) (by rw [hcb]; exact hk71) (by rw [hcb]; exact hkp1) (hk72.trans hkp2.symm)
    rw [e7] at hk75
    have hkp5 := hk75
    refine lv_aload_n hx hb dX6_lotFor_50 rfl (lv_at hl 1 rfl) ?_
    obtain ⟨q0, hq0⟩ := List.mem_iff_getElem?.mp (cw_mk hc)
    refine x_get X hW q0 hq0 3 rfl rfl iwX6 (by decide) wq_213 rfl dX6_lotFor_51 ?_
    refine lv_iload_n hx hb dX6_lotFor_54 rfl (lv_at hl 0 rfl) ?_
    refine lv_aload_n hx hb dX6_lotFor_55 rfl (lv_at hl 1 rfl) ?_
    obtain ⟨q0, hq0⟩ := List.mem_iff_getElem?.mp (cw_mk hc)
    refine x_get X hW q0 hq0 3 rfl rfl iwX6 (by decide) wq_213 rfl dX6_lotFor_56 ?_
    refine lv_iload_n hx hb dX6_lotFor_59 rfl (lv_at hl 2 rfl) ?_
    refine r_zn (a := v.toNat) (by omega) ?_
    have hW : Wd G A s (fW G f ol ob (bsum b9.testBit ic2 ob) ln2 rv2 rm2 bn2 bd2 pr2 ic2 fl2 u6 v6 gp6 ++ (sW G h b9 (Sur lo bi ru ol ob fib gra res lst bst pri itm akf akg rf ro rs b9) g9 wx9 hh9 ++ CW G z f h ol ob sc wc tk e0 k0 m0 e1 k1 m1 e2 k2 m2 lo bi ru la fib gra res lst byr ra rf ro rs ba bid wo pri bst rea rvl pad we wk wm itm ia akf akg gt Y)) _ _ := hW.perm (hc.trans (cw_out2 _ _))
    refine go_i X hW (run_VN X hW (As := [.int (nI v.toNat)]) (rest := [.int (nI b9), .ref (f 0)]) 4 0 rfl (c_X1_placeOf l G f ol ob (bsum b9.testBit ic2 ob) ln2 rv2 rm2 bn2 bd2 pr2 ic2 fl2 u6 v6 gp6 (sW G h b9 (Sur lo bi ru ol ob fib gra res lst bst pri itm akf akg rf ro rs b9) g9 wx9 hh9 ++ CW G z f h ol ob sc wc tk e0 k0 m0 e1 k1 m1 e2 k2 m2 lo bi ru la fib gra res lst byr ra rf ro rs ba bid wo pri bst rea rvl pad we wk wm itm ia akf akg gt Y) v.toNat (by omega) gbc (fun k => by have := gbn k; omega) _) wq_1034 wq_982 wq_42 wq_65 wq_983 hyX1_placeOf rfl rfl rfl hl.1 (Nat.le_of_ble_eq_true rfl) ⟨Nat.le_of_ble_eq_true rfl, Nat.le_of_ble_eq_true rfl⟩ ⟨by decide, by decide⟩ dX6_lotFor_60) (fun r w2 H locs hp hW => ?_)
    obtain ⟨hr0, hw2⟩ := hp
    subst hr0
    rw [hw2] at hW
    rw [hkp5, ← nZ]
    obtain ⟨w, hW, hc⟩ : ∃ w9, Wd G A s w9 H locs ∧ w9.Perm (CW G z f h ol ob sc wc tk e0 k0 m0 e1 k1 m1 e2 k2 m2 lo bi ru la fib gra res lst byr ra rf ro rs ba bid wo pri bst rea rvl pad we wk wm itm ia akf akg gt (fW G f ol ob (bsum b9.testBit ic2 ob) ln2 rv2 rm2 bn2 bd2 pr2 ic2 fl2 u6 v6 gp6 ++ (sW G h b9 (Sur lo bi ru ol ob fib gra res lst bst pri itm akf akg rf ro rs b9) g9 wx9 hh9 ++ Y))) := ⟨_, hW, (cw_out2 _ _).symm⟩
    refine lv_iload_n hx hb dX6_lotFor_63 rfl (lv_at hl 3 rfl) ?_
    refine r_zn (a := y.toNat) (by omega) ?_
    have hW : Wd G A s (fW G f ol ob (bsum b9.testBit ic2 ob) ln2 rv2 rm2 bn2 bd2 pr2 ic2 fl2 u6 v6 gp6 ++ (sW G h b9 (Sur lo bi ru ol ob fib gra res lst bst pri itm akf akg rf ro rs b9) g9 wx9 hh9 ++ CW G z f h ol ob sc wc tk e0 k0 m0 e1 k1 m1 e2 k2 m2 lo bi ru la fib gra res lst byr ra rf ro rs ba bid wo pri bst rea rvl pad we wk wm itm ia akf akg gt Y)) _ _ := hW.perm (hc.trans (cw_out2 _ _))
    refine go_i X hW (run_VN X hW (As := [.int (nI b9), .int (nI kp), .int (nI y.toNat)]) (rest := []) 4 0 rfl (c_X1_lotGiven l G f ol ob (bsum b9.testBit ic2 ob) ln2 rv2 rm2 bn2 bd2 pr2 ic2 fl2 u6 v6 gp6 (sW G h b9 (Sur lo bi ru ol ob fib gra res lst bst pri itm akf akg rf ro rs b9) g9 wx9 hh9 ++ CW G z f h ol ob sc wc tk e0 k0 m0 e1 k1 m1 e2 k2 m2 lo bi ru la fib gra res lst byr ra rf ro rs ba bid wo pri bst rea rvl pad we wk wm itm ia akf akg gt Y) b9 kp y.toNat hb99 (by omega) (by omega) gbc gql gic ggp _) wq_805 wq_807 wq_38 wq_65 wq_808 hyX1_lotGiven rfl rfl rfl hl.1 (Nat.le_of_ble_eq_true rfl) ⟨Nat.le_of_ble_eq_true rfl, Nat.le_of_ble_eq_true rfl⟩ ⟨by decide, by decide⟩ dX6_lotFor_64) (fun r w2 H locs hp hW => ?_)
    obtain ⟨hr0, hw2⟩ := hp
    rw [hw2] at hW
    have j6 : (y.toNat + bsum b9.testBit ic2 (min kp ob)) = (bsum b9.testBit (fBD itm bst bi) kp + y.toNat) := by rw [Nat.min_eq_left (Nat.le_of_lt hkp1), j5 kp (Nat.le_of_lt hkp1), Nat.add_comm]
    have j7 : (bsum b9.testBit (fBD itm bst bi) kp + y.toNat) < (bsum b9.testBit ic2 ob) := by have j8 := bsum_at (p := b9.testBit) (g := ic2) hkp1 c_21; have j9 : ic2 kp = itm v.toNat := (by rw [(kAg.2 kp hkp1).2.2.1]; show itm (BA bst bi kp) = _; rw [hkp2]); rw [← j5 kp (Nat.le_of_lt hkp1)]; omega
    obtain ⟨j10, j11⟩ := j4 _ j7
    rw [j6, a4 _ j7, if_pos ⟨j7, by omega⟩, Int.toNat_natCast, kln _ j10, j11] at hr0
    subst hr0
    obtain ⟨w, hW, hc⟩ : ∃ w9, Wd G A s w9 H locs ∧ w9.Perm (CW G z f h ol ob sc wc tk e0 k0 m0 e1 k1 m1 e2 k2 m2 lo bi ru la fib gra res lst byr ra rf ro rs ba bid wo pri bst rea rvl pad we wk wm itm ia akf akg gt (fW G f ol ob (bsum b9.testBit ic2 ob) ln2 rv2 rm2 bn2 bd2 pr2 ic2 fl2 u6 v6 gp6 ++ (sW G h b9 (Sur lo bi ru ol ob fib gra res lst bst pri itm akf akg rf ro rs b9) g9 wx9 hh9 ++ Y))) := ⟨_, hW, (cw_out2 _ _).symm⟩
    exact vx_ret (ret_i X hW (v := (nI (LA lst lo (gvl (qf (its b9.testBit (fBD itm bst bi) (fFL fib gra rf ro rs ru akf akg lst lo bst bi ol) ob)) (bsum b9.testBit (fBD itm bst bi) ob) ol (fRS res lst lo) (bsum b9.testBit (fBD itm bst bi) kp + y.toNat))))) (⟨⟨(by (repeat' apply And.intro) <;> first | assumption | omega), b9, kp, hBb9, hkp1, hkp2, c_21, rfl⟩, ⟨ol, ob, (bsum b9.testBit ic2 ob), ln2, rv2, rm2, bn2, bd2, pr2, ic2, fl2, u6, v6, gp6, b9, (Sur lo bi ru ol ob fib gra res lst bst pri itm akf akg rf ro rs b9), g9, wx9, hh9, ⟨glc, gbc, gql, gln, grv, gRS, gbn, gbd, gpr, gic, gfl, gqu, grc, ggp, gcf, gwt⟩, e0, k0, m0, e1, k1, m1, e2, k2, m2, la, ra, ba, wo, we, wk, wm, ia, h0, h1, h2, h3, hc⟩⟩) rfl (by decide) (by decide) dX6_lotFor_67)
  · exact x_thrS X hout hW hl9 (cls := "java/lang/UnsupportedOperationException") 22 rfl pl_UOE fit_UOE names_ok wq_984 wq_88 at1_UOE at2_UOE good_UOE hl.1 dX6_lotFor_24 dX6_lotFor_27 dX6_lotFor_28 dX6_lotFor_30 dX6_lotFor_33 (Nat.le_of_ble_eq_true rfl) (Nat.le_of_ble_eq_true rfl) (Nat.le_of_ble_eq_true rfl) (Nat.le_of_ble_eq_true rfl) (Or.inr (Or.inr (Or.inr (⟨rfl, ⟨(by (repeat' apply And.intro) <;> first | assumption | omega), b9, kp, hBb9, hkp1, hkp2, c_21⟩, ⟨ol, ob, q9, ln2, rv2, rm2, bn2, bd2, pr2, ic2, fl2, u9, v9, gp, b9, (Sur lo bi ru ol ob fib gra res lst bst pri itm akf akg rf ro rs b9), g9, wx9, hh9, ⟨glc, gbc, gql, gln, grv, gRS, gbn, gbd, gpr, gic, gfl, gqu, grc, ggp, gcf, gwt⟩, e0, k0, m0, e1, k1, m1, e2, k2, m2, la, ra, ba, wo, we, wk, wm, ia, h0, h1, h2, h3, hc⟩⟩)))) (Nat.le_of_ble_eq_true rfl) (Nat.le_of_ble_eq_true rfl)

