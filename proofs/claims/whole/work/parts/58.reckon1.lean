theorem bsum_p2 {g : Nat → Nat} {k n : Nat} (hk : k < n) : bsum (2 ^ k).testBit g n = g k := by
  induction n with
  | zero => omega
  | succ n ih =>
    by_cases q : k = n
    · subst q
      rw [bsum_t (Nat.testBit_two_pow_self), bsum_up (k := 0) (Nat.zero_le k) (fun j _ hj => Nat.testBit_two_pow_of_ne (by omega))]
      exact Nat.zero_add _
    · rw [bsum_f (Nat.testBit_two_pow_of_ne q), ih (by omega)]
theorem bsum_at {p : Nat → Bool} {g : Nat → Nat} {k n : Nat} (hk : k < n) (hp : p k = true) : bsum p g k + g k ≤ bsum p g n := by
  induction n with
  | zero => omega
  | succ n ih =>
    by_cases q : k = n
    · subst q; rw [bsum_t hp]; exact Nat.le_refl _
    · have := ih (by omega)
      rw [bsum]; omega
/-- the market with its floor and search -/
def CF (G : Gt) (z f h : Nat → Nat) (ol ob sc wc : Nat) (tk : Int) (lo bi ru : Nat) (fib gra res lst : Nat → Nat) (byr : Nat → Int) (rf ro rs bid pri bst rea : Nat → Nat) (rvl pad : Nat → Int) (itm akf akg : Nat → Nat) (gt : Nat → Int) (Y w : va_W) : Prop := ∃ (lc bc ql : Nat) (ln rv rm bn bd pr ic fl qu rc : Nat → Nat) (gp : Nat → Int) (bs : Nat) (bv : Int) (cf wt ho : Nat → Nat), FI lc bc ql ln rv rm bn bd pr ic fl qu rc gp bs bv cf wt ∧ CR G z f h ol ob sc wc tk lo bi ru fib gra res lst byr rf ro rs bid pri bst rea rvl pad itm akf akg gt (fW G f lc bc ql ln rv rm bn bd pr ic fl qu rc gp ++ (sW G h bs bv cf wt ho ++ Y)) w
theorem place_of {bst bn : Nat → Nat} {bi ob v : Nat} (h1 : ∀ x, x < ob → bn x = BA bst bi x) (h2 : cntB (isO bst) bi = ob) (hv : v < bi) (hs : bst v = 111) : ∃ k, k < ob ∧ BA bst bi k = v ∧ fst1 (fun k => decide (bn k = v)) ob = k ∧ inB bn ob v = 2 ^ k ∧ orNo (decide (fst1 (fun k => decide (bn k = v)) ob < ob)) (fst1 (fun k => decide (bn k = v)) ob) = ((k : Nat) : Int) := by
  obtain ⟨t, ht, h3⟩ := opn_surj (p := isO bst) hv (decide_eq_true hs)
  rw [h2] at ht
  have h4 : fst1 (fun k => decide (bn k = v)) ob = t := by
    refine fst1_at ht (fun j hj => decide_eq_false (fun q => ?_)) (decide_eq_true ?_)
    · rw [h1 j (by omega)] at q
      have := opn_inj (p := isO bst) (n := bi) (by rw [h2]; omega) (by rw [h2]; exact ht) (q.trans h3.symm)
      omega
    · rw [h1 t ht]; exact h3
  refine ⟨t, ht, h3, h4, ?_, ?_⟩
  · unfold inB; rw [h4, if_pos ht]
  · rw [h4, decide_eq_true ht]; rfl
theorem cost_at {lo bi ru ol ob k : Nat} {fib gra res lst bst bid pri itm akf akg rf ro rs rv bd ic fl pr : Nat → Nat} (hol : ol ≤ 8) (hr : ∀ k, rv k ≤ 999) (hA : Ag ol ob rv bd ic fl pr (fRS res lst lo) (fBD bid bst bi) (fBD itm bst bi) (fFL fib gra rf ro rs ru akf akg lst lo bst bi ol) (fBD pri bst bi)) (hk : k < ob) :
    (lcost (2 ^ k) ob ol bd ic fl rv = -1 → ¬ PS ol (fBD bid bst bi) (fBD itm bst bi) (fFL fib gra rf ro rs ru akf akg lst lo bst bi ol) (2 ^ k) ob) ∧ (lcost (2 ^ k) ob ol bd ic fl rv ≠ -1 → PS ol (fBD bid bst bi) (fBD itm bst bi) (fFL fib gra rf ro rs ru akf akg lst lo bst bi ol) (2 ^ k) ob ∧ lcost (2 ^ k) ob ol bd ic fl rv = (pri (BA bst bi k) : Int) - Sur lo bi ru ol ob fib gra res lst bst pri itm akf akg rf ro rs (2 ^ k)) := by
  obtain ⟨h1, h2⟩ := lcost_PS (set := 2 ^ k) (bc := ob) (bd := bd) (ic := ic) (fl := fl) hol hr
  refine ⟨fun q p => ?_, fun q => ?_⟩
  · have := h1 ((hA.ps _).mpr p)
    omega
  · by_cases p : PS ol bd ic fl (2 ^ k) ob
    · refine ⟨(hA.ps _).mp p, ?_⟩
      have e := hA.vs (2 ^ k)
      have e2 : VS ol rv ic fl pr (2 ^ k) ob = ((pr k : Nat) : Int) - (lmC ol rv (lmR (2 ^ k).testBit ic fl ob) : Int) := by unfold VS; rw [bsum_p2 hk]
      have e3 : pr k = pri (BA bst bi k) := (hA.2 k hk).2.1
      rw [h1 p]
      show _ = _ - VS ol (fRS res lst lo) (fBD itm bst bi) (fFL fib gra rf ro rs ru akf akg lst lo bst bi ol) (fBD pri bst bi) (2 ^ k) ob
      rw [← e, e2, e3]
      omega
    · exact absurd (h2 p) q
theorem RS_lt {rm rv : Nat → Nat} {lc k : Nat} (h : RS rm rv lc) (hlc : lc ≤ 8) (hr : ∀ k, rv k ≤ 999) (hk : k < 2 ^ lc) : rm k < 1000000 := by
  rw [h k hk]
  have := bsum_le (p := k.testBit) (g := rv) lc hr
  have h2 : lc * 999 ≤ 8 * 999 := Nat.mul_le_mul_right _ hlc
  omega
set_option maxRecDepth 100000 in
set_option maxHeartbeats 4000000 in
theorem c_X6_surplus (l : Launch) (G : Gt) (z f h : Nat → Nat) (ol ob sc wc : Nat) (tk : Int) (lo bi ru : Nat) (fib gra res lst : Nat → Nat) (byr : Nat → Int) (rf ro rs bid pri bst rea : Nat → Nat) (rvl pad : Nat → Int) (itm akf akg : Nat → Nat) (gt : Nat → Int) (Y w : va_W) (hI : CIa lo bi ru ol ob fib gra res lst bst rea bid pri itm akf akg rf ro rs) (hR : CF G z f h ol ob sc wc tk lo bi ru fib gra res lst byr rf ro rs bid pri bst rea rvl pad itm akf akg gt Y w) : Ci l G yX6_surplus (ww yX6_surplus cX6_surplus 1 (some FieldType.int)) (RM 15 0 0) [.ref (z 0)] w (fun r w2 => (∃ b, BestIs lo bi ru ol ob fib gra res lst bst bid pri itm akf akg rf ro rs (-1) b ∧ r = zI (Sur lo bi ru ol ob fib gra res lst bst pri itm akf akg rf ro rs b)) ∧ CF G z f h ol ob sc wc tk lo bi ru fib gra res lst byr rf ro rs bid pri bst rea rvl pad itm akf akg gt Y w2) := by
  refine Ci.intro (by decide) (Nat.le_of_ble_eq_true rfl) ?_
  intro p e s m args below meth c A X hW ls hl
  have hx := X.exec
  have hb := X.bytes
  have hl : lv_has ls 1 [(0, .ref (z 0))] := hl
  have hI9 := hI
  obtain ⟨hlo, hbi, hru, hol, hob, hfib, hgra, hres, hlst, hbst, hrea, hbid, hpri, hitm, hakf, hakg, hrf, hro, hrs, hol2, hob2⟩ := hI
  have hR9 := hR
  obtain ⟨lc, bc, ql, ln, rv, rm, bn, bd, pr, ic, fl, qu, rc, gp, bs, bv, cf, wt, ho, hF, e0, k0, m0, e1, k1, m1, e2, k2, m2, la, ra, ba, wo, we, wk, wm, ia, h0, h1, h2, h3, hc⟩ := hR
  obtain ⟨glc, gbc, gql, gln, grv, gRS, gbn, gbd, gpr, gic, gfl, gqu, grc, ggp, gcf, gwt⟩ := hF
  refine lv_aload_n hx hb dX6_surplus_0 rfl (lv_at hl 0 rfl) ?_
  obtain ⟨q0, hq0⟩ := List.mem_iff_getElem?.mp (cw_mk hc)
  refine go_v X hW (run_V X hW (As := []) (rest := []) 9 q0 hq0 (c_X6_fillFloor l G _ _ _ _ _ _ _ _ _ _ _ _ _ _ _ _ _ _ _ _ _ _ _ _ _ _ _ _ _ _ _ _ _ _ _ _ _ _ _ _ _ _ _ _ _ _ _ _ _ _ _ _ _ _ _ _ _ _ _ _ _ _ _ _ _ _ _ hc h0 h1 h2 h3 hI9 ⟨glc, gbc, gql, gln, grv, gRS, gbn, gbd, gpr, gic, gfl, gqu, grc, ggp, gcf, gwt⟩ _) (gi_V wq_265 wq_267 wq_0 wq_61 wq_268) rfl hyX6_fillFloor rfl rfl rfl hl.1 (Nat.le_of_ble_eq_true rfl) ⟨Nat.le_of_ble_eq_true rfl, Nat.le_of_ble_eq_true rfl⟩ ⟨by decide, by decide⟩ dX6_surplus_1) (fun w2 H locs hp hW => ?_)
  obtain ⟨ln2, rv2, rm2, bn2, bd2, pr2, ic2, fl2, hF2, hG2, hc9⟩ := hp
  obtain ⟨glc, gbc, gql, gln, grv, gRS, gbn, gbd, gpr, gic, gfl, gqu, grc, ggp, gcf, gwt⟩ := hF2
  obtain ⟨-, -, kln, kbn, kAg⟩ := hG2
  obtain ⟨w, hW, hc⟩ : ∃ w9, Wd G A s w9 H locs ∧ w9.Perm (CW G z f h ol ob sc wc tk e0 k0 m0 e1 k1 m1 e2 k2 m2 lo bi ru la fib gra res lst byr ra rf ro rs ba bid wo pri bst rea rvl pad we wk wm itm ia akf akg gt (fW G f ol ob 0 ln2 rv2 rm2 bn2 bd2 pr2 ic2 fl2 qu rc gp ++ (sW G h bs bv cf wt ho ++ Y))) := ⟨_, hW, hc9⟩
  refine lv_aload_n hx hb dX6_surplus_4 rfl (lv_at hl 0 rfl) ?_
  obtain ⟨q0, hq0⟩ := List.mem_iff_getElem?.mp (cw_mk hc)
  refine x_get X hW q0 hq0 4 rfl rfl iwX6 (by decide) wq_214 rfl dX6_surplus_5 ?_
  refine lv_aload_n hx hb dX6_surplus_8 rfl (lv_at hl 0 rfl) ?_
  obtain ⟨q0, hq0⟩ := List.mem_iff_getElem?.mp (cw_mk hc)
  refine x_get X hW q0 hq0 3 rfl rfl iwX6 (by decide) wq_213 rfl dX6_surplus_9 ?_
  refine lv_iconst (v := zI (-1)) hx hb dX6_surplus_12 (by decide) ?_
  have hW : Wd G A s (fW G f ol ob 0 ln2 rv2 rm2 bn2 bd2 pr2 ic2 fl2 qu rc gp ++ (sW G h bs bv cf wt ho ++ CW G z f h ol ob sc wc tk e0 k0 m0 e1 k1 m1 e2 k2 m2 lo bi ru la fib gra res lst byr ra rf ro rs ba bid wo pri bst rea rvl pad we wk wm itm ia akf akg gt Y)) _ _ := hW.perm (hc.trans (cw_out2 _ _))
  refine go_v X hW (run_VN X hW (As := [.ref (f 0), .int (zI (-1))]) (rest := []) 8 12 rfl (c_X5_findBest l G f h ol ob 0 ln2 rv2 rm2 bn2 bd2 pr2 ic2 fl2 qu rc gp bs bv cf wt ho (CW G z f h ol ob sc wc tk e0 k0 m0 e1 k1 m1 e2 k2 m2 lo bi ru la fib gra res lst byr ra rf ro rs ba bid wo pri bst rea rvl pad we wk wm itm ia akf akg gt Y) (-1) glc gbc gql gbd gic gfl grv gqu grc gpr ⟨by omega, by first | omega | (have := hbid v.toNat; omega)⟩ gwt gcf (fun k hk => RS_lt gRS glc grv hk) (fun k => by have := gbn k; omega) _) wq_319 wq_321 wq_9 wq_66 wq_322 hyX5_findBest rfl rfl rfl hl.1 (Nat.le_of_ble_eq_true rfl) ⟨Nat.le_of_ble_eq_true rfl, Nat.le_of_ble_eq_true rfl⟩ ⟨by decide, by decide⟩ dX6_surplus_13) (fun w2 H locs hp hW => ?_)
  obtain ⟨q9, u9, v9, wx9, hh9, g9, a1, a2, a3, a4, a5, hw9⟩ := hp
  obtain ⟨hB, hS⟩ := fbS_best (rm := rm2) (bd := bd2) (ic := ic2) (fl := fl2) (rs := rv2) (pr := pr2) (-1) glc gbc grv gRS
  rw [hS] at hw9
  clear hS
  generalize (fbS ol ob rm2 bd2 pr2 ic2 fl2 rv2 (-1)).1 = b9 at hB hw9
  have hBb9 : BestIs lo bi ru ol ob fib gra res lst bst bid pri itm akf akg rf ro rs (-1) b9 := kAg.isb hB
  clear hB
  rw [show VS ol rv2 ic2 fl2 pr2 b9 ob = (Sur lo bi ru ol ob fib gra res lst bst pri itm akf akg rf ro rs b9) from kAg.vs b9] at hw9
  rw [hw9] at hW
  have gql := a1
  have gqu := a2
  have grc := a3
  have gwt := a4
  have gcf := a5
  have hb99 : b9 < 256 := Nat.lt_of_lt_of_le hBb9.1 (p2_256 hob)
  obtain ⟨w, hW, hc⟩ : ∃ w9, Wd G A s w9 H locs ∧ w9.Perm (CW G z f h ol ob sc wc tk e0 k0 m0 e1 k1 m1 e2 k2 m2 lo bi ru la fib gra res lst byr ra rf ro rs ba bid wo pri bst rea rvl pad we wk wm itm ia akf akg gt (fW G f ol ob q9 ln2 rv2 rm2 bn2 bd2 pr2 ic2 fl2 u9 v9 gp ++ (sW G h b9 (Sur lo bi ru ol ob fib gra res lst bst pri itm akf akg rf ro rs b9) g9 wx9 hh9 ++ Y))) := ⟨_, hW, (cw_out2 _ _).symm⟩
  refine lv_aload_n hx hb dX6_surplus_16 rfl (lv_at hl 0 rfl) ?_
  obtain ⟨q0, hq0⟩ := List.mem_iff_getElem?.mp (cw_mk hc)
  refine x_get X hW q0 hq0 4 rfl rfl iwX6 (by decide) wq_214 rfl dX6_surplus_17 ?_
  obtain ⟨q0, hq0⟩ := List.mem_iff_getElem?.mp (cw_in hc (List.mem_append_right _ (List.mem_append_left _ (List.mem_of_getElem? (i := 0) rfl))))
  refine x_getN X hW q0 hq0 4 rfl rfl iwX5 (by decide) wq_197 rfl dX6_surplus_20 ?_
  exact ret_i X hW (v := (zI (Sur lo bi ru ol ob fib gra res lst bst pri itm akf akg rf ro rs b9))) (⟨⟨b9, hBb9, rfl⟩, ⟨ol, ob, q9, ln2, rv2, rm2, bn2, bd2, pr2, ic2, fl2, u9, v9, gp, b9, (Sur lo bi ru ol ob fib gra res lst bst pri itm akf akg rf ro rs b9), g9, wx9, hh9, ⟨glc, gbc, gql, gln, grv, gRS, gbn, gbd, gpr, gic, gfl, gqu, grc, ggp, gcf, gwt⟩, e0, k0, m0, e1, k1, m1, e2, k2, m2, la, ra, ba, wo, we, wk, wm, ia, h0, h1, h2, h3, hc⟩⟩) rfl (by decide) (by decide) dX6_surplus_23

set_option maxRecDepth 100000 in
set_option maxHeartbeats 4000000 in
theorem c_X6_surplusBySets (l : Launch) (G : Gt) (z f h : Nat → Nat) (ol ob sc wc : Nat) (tk : Int) (lo bi ru : Nat) (fib gra res lst : Nat → Nat) (byr : Nat → Int) (rf ro rs bid pri bst rea : Nat → Nat) (rvl pad : Nat → Int) (itm akf akg : Nat → Nat) (gt : Nat → Int) (Y w : va_W) (hI : CIa lo bi ru ol ob fib gra res lst bst rea bid pri itm akf akg rf ro rs) (hR : CF G z f h ol ob sc wc tk lo bi ru fib gra res lst byr rf ro rs bid pri bst rea rvl pad itm akf akg gt Y w) : Ci l G yX6_surplusBySets (ww yX6_surplusBySets cX6_surplusBySets 1 (some FieldType.int)) (RM 15 0 0) [.ref (z 0)] w (fun r w2 => (∃ b, BestIs lo bi ru ol ob fib gra res lst bst bid pri itm akf akg rf ro rs (-1) b ∧ r = zI (Sur lo bi ru ol ob fib gra res lst bst pri itm akf akg rf ro rs b)) ∧ CF G z f h ol ob sc wc tk lo bi ru fib gra res lst byr rf ro rs bid pri bst rea rvl pad itm akf akg gt Y w2) := by
  refine Ci.intro (by decide) (Nat.le_of_ble_eq_true rfl) ?_
  intro p e s m args below meth c A X hW ls hl
  have hx := X.exec
  have hb := X.bytes
  have hl : lv_has ls 1 [(0, .ref (z 0))] := hl
  have hI9 := hI
  obtain ⟨hlo, hbi, hru, hol, hob, hfib, hgra, hres, hlst, hbst, hrea, hbid, hpri, hitm, hakf, hakg, hrf, hro, hrs, hol2, hob2⟩ := hI
  have hR9 := hR
  obtain ⟨lc, bc, ql, ln, rv, rm, bn, bd, pr, ic, fl, qu, rc, gp, bs, bv, cf, wt, ho, hF, e0, k0, m0, e1, k1, m1, e2, k2, m2, la, ra, ba, wo, we, wk, wm, ia, h0, h1, h2, h3, hc⟩ := hR
  obtain ⟨glc, gbc, gql, gln, grv, gRS, gbn, gbd, gpr, gic, gfl, gqu, grc, ggp, gcf, gwt⟩ := hF
  refine lv_aload_n hx hb dX6_surplusBySets_0 rfl (lv_at hl 0 rfl) ?_
  obtain ⟨q0, hq0⟩ := List.mem_iff_getElem?.mp (cw_mk hc)
  refine go_v X hW (run_V X hW (As := []) (rest := []) 9 q0 hq0 (c_X6_fillFloor l G _ _ _ _ _ _ _ _ _ _ _ _ _ _ _ _ _ _ _ _ _ _ _ _ _ _ _ _ _ _ _ _ _ _ _ _ _ _ _ _ _ _ _ _ _ _ _ _ _ _ _ _ _ _ _ _ _ _ _ _ _ _ _ _ _ _ _ hc h0 h1 h2 h3 hI9 ⟨glc, gbc, gql, gln, grv, gRS, gbn, gbd, gpr, gic, gfl, gqu, grc, ggp, gcf, gwt⟩ _) (gi_V wq_265 wq_267 wq_0 wq_61 wq_268) rfl hyX6_fillFloor rfl rfl rfl hl.1 (Nat.le_of_ble_eq_true rfl) ⟨Nat.le_of_ble_eq_true rfl, Nat.le_of_ble_eq_true rfl⟩ ⟨by decide, by decide⟩ dX6_surplusBySets_1) (fun w2 H locs hp hW => ?_)
  obtain ⟨ln2, rv2, rm2, bn2, bd2, pr2, ic2, fl2, hF2, hG2, hc9⟩ := hp
  obtain ⟨glc, gbc, gql, gln, grv, gRS, gbn, gbd, gpr, gic, gfl, gqu, grc, ggp, gcf, gwt⟩ := hF2
  obtain ⟨-, -, kln, kbn, kAg⟩ := hG2
  obtain ⟨w, hW, hc⟩ : ∃ w9, Wd G A s w9 H locs ∧ w9.Perm (CW G z f h ol ob sc wc tk e0 k0 m0 e1 k1 m1 e2 k2 m2 lo bi ru la fib gra res lst byr ra rf ro rs ba bid wo pri bst rea rvl pad we wk wm itm ia akf akg gt (fW G f ol ob 0 ln2 rv2 rm2 bn2 bd2 pr2 ic2 fl2 qu rc gp ++ (sW G h bs bv cf wt ho ++ Y))) := ⟨_, hW, hc9⟩
  refine lv_aload_n hx hb dX6_surplusBySets_4 rfl (lv_at hl 0 rfl) ?_
  obtain ⟨q0, hq0⟩ := List.mem_iff_getElem?.mp (cw_mk hc)
  refine x_get X hW q0 hq0 4 rfl rfl iwX6 (by decide) wq_214 rfl dX6_surplusBySets_5 ?_
  refine lv_aload_n hx hb dX6_surplusBySets_8 rfl (lv_at hl 0 rfl) ?_
  obtain ⟨q0, hq0⟩ := List.mem_iff_getElem?.mp (cw_mk hc)
  refine x_get X hW q0 hq0 3 rfl rfl iwX6 (by decide) wq_213 rfl dX6_surplusBySets_9 ?_
  have hW : Wd G A s (fW G f ol ob 0 ln2 rv2 rm2 bn2 bd2 pr2 ic2 fl2 qu rc gp ++ (sW G h bs bv cf wt ho ++ CW G z f h ol ob sc wc tk e0 k0 m0 e1 k1 m1 e2 k2 m2 lo bi ru la fib gra res lst byr ra rf ro rs ba bid wo pri bst rea rvl pad we wk wm itm ia akf akg gt Y)) _ _ := hW.perm (hc.trans (cw_out2 _ _))
  refine go_v X hW (run_VN X hW (As := [.ref (f 0)]) (rest := []) 8 12 rfl (c_X5_goThroughSets l G f h ol ob 0 ln2 rv2 rm2 bn2 bd2 pr2 ic2 fl2 qu rc gp bs bv cf wt ho (CW G z f h ol ob sc wc tk e0 k0 m0 e1 k1 m1 e2 k2 m2 lo bi ru la fib gra res lst byr ra rf ro rs ba bid wo pri bst rea rvl pad we wk wm itm ia akf akg gt Y) glc gbc gql gbd gic gfl grv gqu grc gpr _) wq_387 wq_389 wq_21 wq_66 wq_390 hyX5_goThroughSets rfl rfl rfl hl.1 (Nat.le_of_ble_eq_true rfl) ⟨Nat.le_of_ble_eq_true rfl, Nat.le_of_ble_eq_true rfl⟩ ⟨by decide, by decide⟩ dX6_surplusBySets_12) (fun w2 H locs hp hW => ?_)
  obtain ⟨q9, u9, v9, a1, a2, a3, hw9⟩ := hp
  obtain ⟨hB, hS⟩ := gS_best (bd := bd2) (ic := ic2) (fl := fl2) (rs := rv2) (pr := pr2) glc gbc grv
  rw [hS] at hw9
  clear hS
  generalize (gS (fun t => lcost t ob ol bd2 ic2 fl2 rv2) (fun t => ((bsum t.testBit pr2 ob : Nat) : Int) - lcost t ob ol bd2 ic2 fl2 rv2) (2 ^ ob)).1 = b9 at hB hw9
  have hBb9 : BestIs lo bi ru ol ob fib gra res lst bst bid pri itm akf akg rf ro rs (-1) b9 := kAg.isb hB
  clear hB
  rw [show VS ol rv2 ic2 fl2 pr2 b9 ob = (Sur lo bi ru ol ob fib gra res lst bst pri itm akf akg rf ro rs b9) from kAg.vs b9] at hw9
  rw [hw9] at hW
  have gql := a1
  have gqu := a2
  have grc := a3
  have hb99 : b9 < 256 := Nat.lt_of_lt_of_le hBb9.1 (p2_256 hob)
  obtain ⟨w, hW, hc⟩ : ∃ w9, Wd G A s w9 H locs ∧ w9.Perm (CW G z f h ol ob sc wc tk e0 k0 m0 e1 k1 m1 e2 k2 m2 lo bi ru la fib gra res lst byr ra rf ro rs ba bid wo pri bst rea rvl pad we wk wm itm ia akf akg gt (fW G f ol ob q9 ln2 rv2 rm2 bn2 bd2 pr2 ic2 fl2 u9 v9 gp ++ (sW G h b9 (Sur lo bi ru ol ob fib gra res lst bst pri itm akf akg rf ro rs b9) cf wt ho ++ Y))) := ⟨_, hW, (cw_out2 _ _).symm⟩
  refine lv_aload_n hx hb dX6_surplusBySets_15 rfl (lv_at hl 0 rfl) ?_
  obtain ⟨q0, hq0⟩ := List.mem_iff_getElem?.mp (cw_mk hc)
  refine x_get X hW q0 hq0 4 rfl rfl iwX6 (by decide) wq_214 rfl dX6_surplusBySets_16 ?_
  obtain ⟨q0, hq0⟩ := List.mem_iff_getElem?.mp (cw_in hc (List.mem_append_right _ (List.mem_append_left _ (List.mem_of_getElem? (i := 0) rfl))))
  refine x_getN X hW q0 hq0 4 rfl rfl iwX5 (by decide) wq_197 rfl dX6_surplusBySets_19 ?_
  exact ret_i X hW (v := (zI (Sur lo bi ru ol ob fib gra res lst bst pri itm akf akg rf ro rs b9))) (⟨⟨b9, hBb9, rfl⟩, ⟨ol, ob, q9, ln2, rv2, rm2, bn2, bd2, pr2, ic2, fl2, u9, v9, gp, b9, (Sur lo bi ru ol ob fib gra res lst bst pri itm akf akg rf ro rs b9), cf, wt, ho, ⟨glc, gbc, gql, gln, grv, gRS, gbn, gbd, gpr, gic, gfl, gqu, grc, ggp, gcf, gwt⟩, e0, k0, m0, e1, k1, m1, e2, k2, m2, la, ra, ba, wo, we, wk, wm, ia, h0, h1, h2, h3, hc⟩⟩) rfl (by decide) (by decide) dX6_surplusBySets_22

set_option maxRecDepth 100000 in
set_option maxHeartbeats 4000000 in
theorem c_X6_surplusWithout (l : Launch) (hl9 : l.stackTraces = false) (G : Gt) (z f h : Nat → Nat) (ol ob sc wc : Nat) (tk : Int) (lo bi ru : Nat) (fib gra res lst : Nat → Nat) (byr : Nat → Int) (rf ro rs bid pri bst rea : Nat → Nat) (rvl pad : Nat → Int) (itm akf akg : Nat → Nat) (gt : Nat → Int) (Y w : va_W) (v : Int) (hI : CIa lo bi ru ol ob fib gra res lst bst rea bid pri itm akf akg rf ro rs) (hR : CF G z f h ol ob sc wc tk lo bi ru fib gra res lst byr rf ro rs bid pri bst rea rvl pad itm akf akg gt Y w) (hv : iR v) : Xi l G yX6_surplusWithout (ww yX6_surplusWithout cX6_surplusWithout 2 (some FieldType.int)) (RM 15 6 36) [.ref (z 0), .int (zI v)] w (fun r w2 => ((0 ≤ v ∧ v ≤ 7) ∧ ∃ b, BestIs lo bi ru ol ob fib gra res lst bst bid pri itm akf akg rf ro rs v b ∧ r = zI (Sur lo bi ru ol ob fib gra res lst bst pri itm akf akg rf ro rs b)) ∧ CF G z f h ol ob sc wc tk lo bi ru fib gra res lst byr rf ro rs bid pri bst rea rvl pad itm akf akg gt Y w2) (fun E w2 => (E = "java/lang/IllegalArgumentException" ∧ (¬ (0 ≤ v ∧ v ≤ 7)) ∧ CF G z f h ol ob sc wc tk lo bi ru fib gra res lst byr rf ro rs bid pri bst rea rvl pad itm akf akg gt Y w2)) := by
  refine Xi.intro (by decide) (Nat.le_of_ble_eq_true rfl) ?_
  intro p e s m args below meth c A X hout hW ls hl
  have hx := X.exec
  have hb := X.bytes
  have hl : lv_has ls 2 [(0, .ref (z 0)), (1, .int (zI v))] := hl
  have hI9 := hI
  obtain ⟨hlo, hbi, hru, hol, hob, hfib, hgra, hres, hlst, hbst, hrea, hbid, hpri, hitm, hakf, hakg, hrf, hro, hrs, hol2, hob2⟩ := hI
  have hR9 := hR
  obtain ⟨lc, bc, ql, ln, rv, rm, bn, bd, pr, ic, fl, qu, rc, gp, bs, bv, cf, wt, ho, hF, e0, k0, m0, e1, k1, m1, e2, k2, m2, la, ra, ba, wo, we, wk, wm, ia, h0, h1, h2, h3, hc⟩ := hR
  obtain ⟨glc, gbc, gql, gln, grv, gRS, gbn, gbd, gpr, gic, gfl, gqu, grc, ggp, gcf, gwt⟩ := hF
  refine lv_iload_n hx hb dX6_surplusWithout_0 rfl (lv_at hl 1 rfl) ?_
  refine go_i X hW (run_S X hW (As := [.int (zI v)]) (rest := []) (c_X6_isBidder l G v w (by omega) _) (gi_S wq_680 wq_681 wq_61 wq_682) hyX6_isBidder rfl rfl hl.1 (Nat.le_of_ble_eq_true rfl) ⟨Nat.le_of_ble_eq_true rfl, Nat.le_of_ble_eq_true rfl⟩ ⟨by decide, by decide⟩ dX6_surplusWithout_1) (fun r w2 H locs hp hW => ?_)
  obtain ⟨hr0, hw2⟩ := hp
  subst hr0
  rw [hw2] at hW
  refine p_if_ne hx hb (tgt := 17) dX6_surplusWithout_4 (by decide) (fun c_4 => ?_) (fun c_4 => ?_)
  · refine lv_aload_n hx hb dX6_surplusWithout_17 rfl (lv_at hl 0 rfl) ?_
    obtain ⟨q0, hq0⟩ := List.mem_iff_getElem?.mp (cw_mk hc)
    refine go_v X hW (run_V X hW (As := []) (rest := []) 9 q0 hq0 (c_X6_fillFloor l G _ _ _ _ _ _ _ _ _ _ _ _ _ _ _ _ _ _ _ _ _ _ _ _ _ _ _ _ _ _ _ _ _ _ _ _ _ _ _ _ _ _ _ _ _ _ _ _ _ _ _ _ _ _ _ _ _ _ _ _ _ _ _ _ _ _ _ hc h0 h1 h2 h3 hI9 ⟨glc, gbc, gql, gln, grv, gRS, gbn, gbd, gpr, gic, gfl, gqu, grc, ggp, gcf, gwt⟩ _) (gi_V wq_265 wq_267 wq_0 wq_61 wq_268) rfl hyX6_fillFloor rfl rfl rfl hl.1 (Nat.le_of_ble_eq_true rfl) ⟨Nat.le_of_ble_eq_true rfl, Nat.le_of_ble_eq_true rfl⟩ ⟨by decide, by decide⟩ dX6_surplusWithout_18) (fun w2 H locs hp hW => ?_)
    obtain ⟨ln2, rv2, rm2, bn2, bd2, pr2, ic2, fl2, hF2, hG2, hc9⟩ := hp
    obtain ⟨glc, gbc, gql, gln, grv, gRS, gbn, gbd, gpr, gic, gfl, gqu, grc, ggp, gcf, gwt⟩ := hF2
    obtain ⟨-, -, kln, kbn, kAg⟩ := hG2
    obtain ⟨w, hW, hc⟩ : ∃ w9, Wd G A s w9 H locs ∧ w9.Perm (CW G z f h ol ob sc wc tk e0 k0 m0 e1 k1 m1 e2 k2 m2 lo bi ru la fib gra res lst byr ra rf ro rs ba bid wo pri bst rea rvl pad we wk wm itm ia akf akg gt (fW G f ol ob 0 ln2 rv2 rm2 bn2 bd2 pr2 ic2 fl2 qu rc gp ++ (sW G h bs bv cf wt ho ++ Y))) := ⟨_, hW, hc9⟩
    refine lv_aload_n hx hb dX6_surplusWithout_21 rfl (lv_at hl 0 rfl) ?_
    obtain ⟨q0, hq0⟩ := List.mem_iff_getElem?.mp (cw_mk hc)
    refine x_get X hW q0 hq0 4 rfl rfl iwX6 (by decide) wq_214 rfl dX6_surplusWithout_22 ?_
    refine lv_aload_n hx hb dX6_surplusWithout_25 rfl (lv_at hl 0 rfl) ?_
    obtain ⟨q0, hq0⟩ := List.mem_iff_getElem?.mp (cw_mk hc)
    refine x_get X hW q0 hq0 3 rfl rfl iwX6 (by decide) wq_213 rfl dX6_surplusWithout_26 ?_
    refine lv_iload_n hx hb dX6_surplusWithout_29 rfl (lv_at hl 1 rfl) ?_
    refine r_zn (a := v.toNat) (by omega) ?_
    refine r_nz ?_
    have hW : Wd G A s (fW G f ol ob 0 ln2 rv2 rm2 bn2 bd2 pr2 ic2 fl2 qu rc gp ++ (sW G h bs bv cf wt ho ++ CW G z f h ol ob sc wc tk e0 k0 m0 e1 k1 m1 e2 k2 m2 lo bi ru la fib gra res lst byr ra rf ro rs ba bid wo pri bst rea rvl pad we wk wm itm ia akf akg gt Y)) _ _ := hW.perm (hc.trans (cw_out2 _ _))
    refine go_v X hW (run_VN X hW (As := [.ref (f 0), .int (zI ((v.toNat : Nat) : Int))]) (rest := []) 8 12 rfl (c_X5_findBest l G f h ol ob 0 ln2 rv2 rm2 bn2 bd2 pr2 ic2 fl2 qu rc gp bs bv cf wt ho (CW G z f h ol ob sc wc tk e0 k0 m0 e1 k1 m1 e2 k2 m2 lo bi ru la fib gra res lst byr ra rf ro rs ba bid wo pri bst rea rvl pad we wk wm itm ia akf akg gt Y) ((v.toNat : Nat) : Int) glc gbc gql gbd gic gfl grv gqu grc gpr ⟨by omega, by first | omega | (have := hbid v.toNat; omega)⟩ gwt gcf (fun k hk => RS_lt gRS glc grv hk) (fun k => by have := gbn k; omega) _) wq_319 wq_321 wq_9 wq_66 wq_322 hyX5_findBest rfl rfl rfl hl.1 (Nat.le_of_ble_eq_true rfl) ⟨Nat.le_of_ble_eq_true rfl, Nat.le_of_ble_eq_true rfl⟩ ⟨by decide, by decide⟩ dX6_surplusWithout_30) (fun w2 H locs hp hW => ?_)
    obtain ⟨q9, u9, v9, wx9, hh9, g9, a1, a2, a3, a4, a5, hw9⟩ := hp
    obtain ⟨hB, hS⟩ := fbS_best (rm := rm2) (bd := bd2) (ic := ic2) (fl := fl2) (rs := rv2) (pr := pr2) ((v.toNat : Nat) : Int) glc gbc grv gRS
    rw [hS] at hw9
    clear hS
    generalize (fbS ol ob rm2 bd2 pr2 ic2 fl2 rv2 ((v.toNat : Nat) : Int)).1 = b9 at hB hw9
    have hBb9 : BestIs lo bi ru ol ob fib gra res lst bst bid pri itm akf akg rf ro rs ((v.toNat : Nat) : Int) b9 := kAg.isb hB
    clear hB
    rw [show VS ol rv2 ic2 fl2 pr2 b9 ob = (Sur lo bi ru ol ob fib gra res lst bst pri itm akf akg rf ro rs b9) from kAg.vs b9] at hw9
    rw [hw9] at hW
    have gql := a1
    have gqu := a2
    have grc := a3
    have gwt := a4
    have gcf := a5
    have hb99 : b9 < 256 := Nat.lt_of_lt_of_le hBb9.1 (p2_256 hob)
    obtain ⟨w, hW, hc⟩ : ∃ w9, Wd G A s w9 H locs ∧ w9.Perm (CW G z f h ol ob sc wc tk e0 k0 m0 e1 k1 m1 e2 k2 m2 lo bi ru la fib gra res lst byr ra rf ro rs ba bid wo pri bst rea rvl pad we wk wm itm ia akf akg gt (fW G f ol ob q9 ln2 rv2 rm2 bn2 bd2 pr2 ic2 fl2 u9 v9 gp ++ (sW G h b9 (Sur lo bi ru ol ob fib gra res lst bst pri itm akf akg rf ro rs b9) g9 wx9 hh9 ++ Y))) := ⟨_, hW, (cw_out2 _ _).symm⟩
    refine lv_aload_n hx hb dX6_surplusWithout_33 rfl (lv_at hl 0 rfl) ?_
    obtain ⟨q0, hq0⟩ := List.mem_iff_getElem?.mp (cw_mk hc)
    refine x_get X hW q0 hq0 4 rfl rfl iwX6 (by decide) wq_214 rfl dX6_surplusWithout_34 ?_
    obtain ⟨q0, hq0⟩ := List.mem_iff_getElem?.mp (cw_in hc (List.mem_append_right _ (List.mem_append_left _ (List.mem_of_getElem? (i := 0) rfl))))
    refine x_getN X hW q0 hq0 4 rfl rfl iwX5 (by decide) wq_197 rfl dX6_surplusWithout_37 ?_
    exact vx_ret (ret_i X hW (v := (zI (Sur lo bi ru ol ob fib gra res lst bst pri itm akf akg rf ro rs b9))) (⟨⟨by omega, b9, (show ((v.toNat : Nat) : Int) = v by omega) ▸ hBb9, rfl⟩, ⟨ol, ob, q9, ln2, rv2, rm2, bn2, bd2, pr2, ic2, fl2, u9, v9, gp, b9, (Sur lo bi ru ol ob fib gra res lst bst pri itm akf akg rf ro rs b9), g9, wx9, hh9, ⟨glc, gbc, gql, gln, grv, gRS, gbn, gbd, gpr, gic, gfl, gqu, grc, ggp, gcf, gwt⟩, e0, k0, m0, e1, k1, m1, e2, k2, m2, la, ra, ba, wo, we, wk, wm, ia, h0, h1, h2, h3, hc⟩⟩) rfl (by decide) (by decide) dX6_surplusWithout_40)
  · exact x_thrS X hout hW hl9 (cls := "java/lang/IllegalArgumentException") 21 rfl pl_IAE fit_IAE names_ok wq_421 wq_71 at1_IAE at2_IAE good_IAE hl.1 dX6_surplusWithout_7 dX6_surplusWithout_10 dX6_surplusWithout_11 dX6_surplusWithout_13 dX6_surplusWithout_16 (Nat.le_of_ble_eq_true rfl) (Nat.le_of_ble_eq_true rfl) (Nat.le_of_ble_eq_true rfl) (Nat.le_of_ble_eq_true rfl) (⟨rfl, (by (repeat' apply And.intro) <;> first | assumption | omega), hR9⟩) (Nat.le_of_ble_eq_true rfl) (Nat.le_of_ble_eq_true rfl)

set_option maxRecDepth 100000 in
set_option maxHeartbeats 4000000 in
theorem c_X6_costOf (l : Launch) (hl9 : l.stackTraces = false) (G : Gt) (z f h : Nat → Nat) (ol ob sc wc : Nat) (tk : Int) (lo bi ru : Nat) (fib gra res lst : Nat → Nat) (byr : Nat → Int) (rf ro rs bid pri bst rea : Nat → Nat) (rvl pad : Nat → Int) (itm akf akg : Nat → Nat) (gt : Nat → Int) (Y w : va_W) (v : Int) (hI : CIa lo bi ru ol ob fib gra res lst bst rea bid pri itm akf akg rf ro rs) (hR : CF G z f h ol ob sc wc tk lo bi ru fib gra res lst byr rf ro rs bid pri bst rea rvl pad itm akf akg gt Y w) (hv : iR v) : Xi l G yX6_costOf (ww yX6_costOf cX6_costOf 3 (some FieldType.int)) (RM 9 6 36) [.ref (z 0), .int (zI v)] w (fun r w2 => (((0 ≤ v ∧ v < ((bi : Nat) : Int)) ∧ bst v.toNat = 111) ∧ ∃ k, k < ob ∧ BA bst bi k = v.toNat ∧ PS ol (fBD bid bst bi) (fBD itm bst bi) (fFL fib gra rf ro rs ru akf akg lst lo bst bi ol) (2 ^ k) ob ∧ r = zI ((pri v.toNat : Int) - (Sur lo bi ru ol ob fib gra res lst bst pri itm akf akg rf ro rs (2 ^ k)))) ∧ CF G z f h ol ob sc wc tk lo bi ru fib gra res lst byr rf ro rs bid pri bst rea rvl pad itm akf akg gt Y w2) (fun E w2 => (E = "java/util/NoSuchElementException" ∧ (¬ (0 ≤ v ∧ v < ((bi : Nat) : Int))) ∧ CF G z f h ol ob sc wc tk lo bi ru fib gra res lst byr rf ro rs bid pri bst rea rvl pad itm akf akg gt Y w2) ∨ (E = "java/lang/IllegalStateException" ∧ ((0 ≤ v ∧ v < ((bi : Nat) : Int)) ∧ bst v.toNat ≠ 111) ∧ CF G z f h ol ob sc wc tk lo bi ru fib gra res lst byr rf ro rs bid pri bst rea rvl pad itm akf akg gt Y w2) ∨ (E = "java/lang/UnsupportedOperationException" ∧ (((0 ≤ v ∧ v < ((bi : Nat) : Int)) ∧ bst v.toNat = 111) ∧ ∃ k, k < ob ∧ BA bst bi k = v.toNat ∧ ¬ PS ol (fBD bid bst bi) (fBD itm bst bi) (fFL fib gra rf ro rs ru akf akg lst lo bst bi ol) (2 ^ k) ob) ∧ CF G z f h ol ob sc wc tk lo bi ru fib gra res lst byr rf ro rs bid pri bst rea rvl pad itm akf akg gt Y w2)) := by
  refine Xi.intro (by decide) (Nat.le_of_ble_eq_true rfl) ?_
  intro p e s m args below meth c A X hout hW ls hl
  have hx := X.exec
  have hb := X.bytes
  have hl : lv_has ls 3 [(0, .ref (z 0)), (1, .int (zI v))] := hl
  have hI9 := hI
  obtain ⟨hlo, hbi, hru, hol, hob, hfib, hgra, hres, hlst, hbst, hrea, hbid, hpri, hitm, hakf, hakg, hrf, hro, hrs, hol2, hob2⟩ := hI
  have hR9 := hR
  obtain ⟨lc, bc, ql, ln, rv, rm, bn, bd, pr, ic, fl, qu, rc, gp, bs, bv, cf, wt, ho, hF, e0, k0, m0, e1, k1, m1, e2, k2, m2, la, ra, ba, wo, we, wk, wm, ia, h0, h1, h2, h3, hc⟩ := hR
  obtain ⟨glc, gbc, gql, gln, grv, gRS, gbn, gbd, gpr, gic, gfl, gqu, grc, ggp, gcf, gwt⟩ := hF
  refine lv_aload_n hx hb dX6_costOf_0 rfl (lv_at hl 0 rfl) ?_
  refine lv_iload_n hx hb dX6_costOf_1 rfl (lv_at hl 1 rfl) ?_
  obtain ⟨q0, hq0⟩ := List.mem_iff_getElem?.mp (cw_mk hc)
  refine go_xr X hout hW (run_XV X hW (As := [.int (zI v)]) (rest := []) 9 q0 hq0 (c_X6_knownOpenBid l hl9 G _ _ _ _ _ _ _ _ _ _ _ _ _ _ _ _ _ _ _ _ _ _ _ _ _ _ _ _ _ _ _ _ _ _ _ _ _ _ _ _ _ _ _ _ _ _ _ _ v hc h1 hbi hbst (by omega) _) (gi_V wq_763 wq_765 wq_32 wq_61 wq_766) rfl hyX6_knownOpenBid rfl rfl rfl hl.1 (Nat.le_of_ble_eq_true rfl) ⟨Nat.le_of_ble_eq_true rfl, Nat.le_of_ble_eq_true rfl⟩ ⟨by decide, by decide⟩ dX6_costOf_2) (fun E w2 h => by rcases h with h | h; exact Or.inl (⟨h.1, h.2.1, h.2.2 ▸ hR9⟩); exact Or.inr (Or.inl (⟨h.1, by (repeat' apply And.intro) <;> first | assumption | exact h.2.1.1 | exact h.2.1.2 | omega, h.2.2 ▸ hR9⟩))) (Nat.le_of_ble_eq_true rfl) (Nat.le_of_ble_eq_true rfl) (fun b w2 H locs hp hW => ?_)
  obtain ⟨hk2, hr0, hw2⟩ := hp
  subst hr0
  rw [hw2] at hW
  refine lv_pop hx hb dX6_costOf_5 rfl ?_
  refine lv_aload_n hx hb dX6_costOf_6 rfl (lv_at hl 0 rfl) ?_
  obtain ⟨q0, hq0⟩ := List.mem_iff_getElem?.mp (cw_mk hc)
  refine go_v X hW (run_V X hW (As := []) (rest := []) 9 q0 hq0 (c_X6_fillFloor l G _ _ _ _ _ _ _ _ _ _ _ _ _ _ _ _ _ _ _ _ _ _ _ _ _ _ _ _ _ _ _ _ _ _ _ _ _ _ _ _ _ _ _ _ _ _ _ _ _ _ _ _ _ _ _ _ _ _ _ _ _ _ _ _ _ _ _ hc h0 h1 h2 h3 hI9 ⟨glc, gbc, gql, gln, grv, gRS, gbn, gbd, gpr, gic, gfl, gqu, grc, ggp, gcf, gwt⟩ _) (gi_V wq_265 wq_267 wq_0 wq_61 wq_268) rfl hyX6_fillFloor rfl rfl rfl hl.1 (Nat.le_of_ble_eq_true rfl) ⟨Nat.le_of_ble_eq_true rfl, Nat.le_of_ble_eq_true rfl⟩ ⟨by decide, by decide⟩ dX6_costOf_7) (fun w2 H locs hp hW => ?_)
  obtain ⟨ln2, rv2, rm2, bn2, bd2, pr2, ic2, fl2, hF2, hG2, hc9⟩ := hp
  obtain ⟨glc, gbc, gql, gln, grv, gRS, gbn, gbd, gpr, gic, gfl, gqu, grc, ggp, gcf, gwt⟩ := hF2
  obtain ⟨-, -, kln, kbn, kAg⟩ := hG2
  obtain ⟨w, hW, hc⟩ : ∃ w9, Wd G A s w9 H locs ∧ w9.Perm (CW G z f h ol ob sc wc tk e0 k0 m0 e1 k1 m1 e2 k2 m2 lo bi ru la fib gra res lst byr ra rf ro rs ba bid wo pri bst rea rvl pad we wk wm itm ia akf akg gt (fW G f ol ob 0 ln2 rv2 rm2 bn2 bd2 pr2 ic2 fl2 qu rc gp ++ (sW G h bs bv cf wt ho ++ Y))) := ⟨_, hW, hc9⟩
  have hcb : cntB (isO bst) bi = ob := hob2
  obtain ⟨kp, hkp1, hkp2, hkp3, hkp4, hkp5⟩ := place_of (v := v.toNat) kbn hcb (by omega) (by omega)
  have hp2k := p2_le (show kp < 8 by omega)
  refine lv_aload_n hx hb dX6_costOf_10 rfl (lv_at hl 0 rfl) ?_
  obtain ⟨q0, hq0⟩ := List.mem_iff_getElem?.mp (cw_mk hc)
  refine x_get X hW q0 hq0 3 rfl rfl iwX6 (by decide) wq_213 rfl dX6_costOf_11 ?_
  refine lv_aload_n hx hb dX6_costOf_14 rfl (lv_at hl 0 rfl) ?_
  obtain ⟨q0, hq0⟩ := List.mem_iff_getElem?.mp (cw_mk hc)
  refine x_get X hW q0 hq0 3 rfl rfl iwX6 (by decide) wq_213 rfl dX6_costOf_15 ?_
  refine lv_iload_n hx hb dX6_costOf_18 rfl (lv_at hl 1 rfl) ?_
  refine r_zn (a := v.toNat) (by omega) ?_
  have hW : Wd G A s (fW G f ol ob 0 ln2 rv2 rm2 bn2 bd2 pr2 ic2 fl2 qu rc gp ++ (sW G h bs bv cf wt ho ++ CW G z f h ol ob sc wc tk e0 k0 m0 e1 k1 m1 e2 k2 m2 lo bi ru la fib gra res lst byr ra rf ro rs ba bid wo pri bst rea rvl pad we wk wm itm ia akf akg gt Y)) _ _ := hW.perm (hc.trans (cw_out2 _ _))
  refine go_i X hW (run_VN X hW (As := [.int (nI v.toNat)]) (rest := [.ref (f 0)]) 4 0 rfl (c_X1_setOf l G f ol ob 0 ln2 rv2 rm2 bn2 bd2 pr2 ic2 fl2 qu rc gp (sW G h bs bv cf wt ho ++ CW G z f h ol ob sc wc tk e0 k0 m0 e1 k1 m1 e2 k2 m2 lo bi ru la fib gra res lst byr ra rf ro rs ba bid wo pri bst rea rvl pad we wk wm itm ia akf akg gt Y) v.toNat (by omega) gbc (fun k => by have := gbn k; omega) _) wq_976 wq_978 wq_41 wq_65 wq_979 hyX1_setOf rfl rfl rfl hl.1 (Nat.le_of_ble_eq_true rfl) ⟨Nat.le_of_ble_eq_true rfl, Nat.le_of_ble_eq_true rfl⟩ ⟨by decide, by decide⟩ dX6_costOf_19) (fun r w2 H locs hp hW => ?_)
  obtain ⟨hr0, hw2⟩ := hp
  subst hr0
  rw [hw2] at hW
  rw [hkp4]
  obtain ⟨w, hW, hc⟩ : ∃ w9, Wd G A s w9 H locs ∧ w9.Perm (CW G z f h ol ob sc wc tk e0 k0 m0 e1 k1 m1 e2 k2 m2 lo bi ru la fib gra res lst byr ra rf ro rs ba bid wo pri bst rea rvl pad we wk wm itm ia akf akg gt (fW G f ol ob 0 ln2 rv2 rm2 bn2 bd2 pr2 ic2 fl2 qu rc gp ++ (sW G h bs bv cf wt ho ++ Y))) := ⟨_, hW, (cw_out2 _ _).symm⟩
  have hW : Wd G A s (fW G f ol ob 0 ln2 rv2 rm2 bn2 bd2 pr2 ic2 fl2 qu rc gp ++ (sW G h bs bv cf wt ho ++ CW G z f h ol ob sc wc tk e0 k0 m0 e1 k1 m1 e2 k2 m2 lo bi ru la fib gra res lst byr ra rf ro rs ba bid wo pri bst rea rvl pad we wk wm itm ia akf akg gt Y)) _ _ := hW.perm (hc.trans (cw_out2 _ _))
  refine go_i X hW (run_VN X hW (As := [.int (nI (2 ^ kp))]) (rest := []) 4 0 rfl (c_X1_leastCost l G f ol ob 0 ln2 rv2 rm2 bn2 bd2 pr2 ic2 fl2 qu rc gp (sW G h bs bv cf wt ho ++ CW G z f h ol ob sc wc tk e0 k0 m0 e1 k1 m1 e2 k2 m2 lo bi ru la fib gra res lst byr ra rf ro rs ba bid wo pri bst rea rvl pad we wk wm itm ia akf akg gt Y) (2 ^ kp) (by omega) glc gbc gql gbd gic gfl grv gqu grc _) wq_818 wq_333 wq_12 wq_65 wq_334 hyX1_leastCost rfl rfl rfl hl.1 (Nat.le_of_ble_eq_true rfl) ⟨Nat.le_of_ble_eq_true rfl, Nat.le_of_ble_eq_true rfl⟩ ⟨by decide, by decide⟩ dX6_costOf_22) (fun r w2 H locs hp hW => ?_)
  obtain ⟨q9, u9, v9, hr0, a1, a2, a3, a4, hw9⟩ := hp
  subst hr0
  rw [hw9] at hW
  have gql := a1
  have gqu := a2
  have grc := a3
  have hlr := lcost_rng (2 ^ kp) ob ol bd2 ic2 fl2 rv2
  obtain ⟨w, hW, hc⟩ : ∃ w9, Wd G A s w9 H locs ∧ w9.Perm (CW G z f h ol ob sc wc tk e0 k0 m0 e1 k1 m1 e2 k2 m2 lo bi ru la fib gra res lst byr ra rf ro rs ba bid wo pri bst rea rvl pad we wk wm itm ia akf akg gt (fW G f ol ob q9 ln2 rv2 rm2 bn2 bd2 pr2 ic2 fl2 u9 v9 gp ++ (sW G h bs bv cf wt ho ++ Y))) := ⟨_, hW, (cw_out2 _ _).symm⟩
  refine lv_istore_n (lv' := [(2, .int (zI (lcost (2 ^ kp) ob ol bd2 ic2 fl2 rv2))), (0, .ref (z 0)), (1, .int (zI v))]) hx hb dX6_costOf_25 rfl hl (by decide) rfl (fun ls hl => ?_)
  obtain ⟨hca1, hca2⟩ := cost_at hol grv kAg hkp1
  refine lv_iload_n hx hb dX6_costOf_26 rfl (lv_at hl 0 rfl) ?_
  refine lv_iconst (v := zI (-1)) hx hb dX6_costOf_27 (by decide) ?_
  refine z_icmp_ne hx hb rfl rfl (by omega) (by omega) (tgt := 41) dX6_costOf_28 (by decide) (fun c_28 => ?_) (fun c_28 => ?_)
  · refine lv_iload_n hx hb dX6_costOf_41 rfl (lv_at hl 0 rfl) ?_
    exact vx_ret (ret_i X hW (v := (zI (lcost (2 ^ kp) ob ol bd2 ic2 fl2 rv2))) (⟨⟨by assumption, kp, hkp1, hkp2, (hca2 c_28).1, by rw [(hca2 c_28).2, hkp2]⟩, ⟨ol, ob, q9, ln2, rv2, rm2, bn2, bd2, pr2, ic2, fl2, u9, v9, gp, bs, bv, cf, wt, ho, ⟨glc, gbc, gql, gln, grv, gRS, gbn, gbd, gpr, gic, gfl, gqu, grc, ggp, gcf, gwt⟩, e0, k0, m0, e1, k1, m1, e2, k2, m2, la, ra, ba, wo, we, wk, wm, ia, h0, h1, h2, h3, hc⟩⟩) rfl (by decide) (by decide) dX6_costOf_42)
  · exact x_thrS X hout hW hl9 (cls := "java/lang/UnsupportedOperationException") 20 rfl pl_UOE fit_UOE names_ok wq_984 wq_88 at1_UOE at2_UOE good_UOE hl.1 dX6_costOf_31 dX6_costOf_34 dX6_costOf_35 dX6_costOf_37 dX6_costOf_40 (Nat.le_of_ble_eq_true rfl) (Nat.le_of_ble_eq_true rfl) (Nat.le_of_ble_eq_true rfl) (Nat.le_of_ble_eq_true rfl) (Or.inr (Or.inr (⟨rfl, ⟨by assumption, kp, hkp1, hkp2, hca1 c_28⟩, ⟨ol, ob, q9, ln2, rv2, rm2, bn2, bd2, pr2, ic2, fl2, u9, v9, gp, bs, bv, cf, wt, ho, ⟨glc, gbc, gql, gln, grv, gRS, gbn, gbd, gpr, gic, gfl, gqu, grc, ggp, gcf, gwt⟩, e0, k0, m0, e1, k1, m1, e2, k2, m2, la, ra, ba, wo, we, wk, wm, ia, h0, h1, h2, h3, hc⟩⟩))) (Nat.le_of_ble_eq_true rfl) (Nat.le_of_ble_eq_true rfl)

set_option maxRecDepth 100000 in
set_option maxHeartbeats 4000000 in
theorem c_X6_wouldWinBySets (l : Launch) (hl9 : l.stackTraces = false) (G : Gt) (z f h : Nat → Nat) (ol ob sc wc : Nat) (tk : Int) (lo bi ru : Nat) (fib gra res lst : Nat → Nat) (byr : Nat → Int) (rf ro rs bid pri bst rea : Nat → Nat) (rvl pad : Nat → Int) (itm akf akg : Nat → Nat) (gt : Nat → Int) (Y w : va_W) (v : Int) (hI : CIa lo bi ru ol ob fib gra res lst bst rea bid pri itm akf akg rf ro rs) (hR : CF G z f h ol ob sc wc tk lo bi ru fib gra res lst byr rf ro rs bid pri bst rea rvl pad itm akf akg gt Y w) (hv : iR v) : Xi l G yX6_wouldWinBySets (ww yX6_wouldWinBySets cX6_wouldWinBySets 2 (some FieldType.boolean)) (RM 15 6 36) [.ref (z 0), .int (zI v)] w (fun r w2 => (((0 ≤ v ∧ v < ((bi : Nat) : Int)) ∧ bst v.toNat = 111) ∧ ∃ b k, BestIs lo bi ru ol ob fib gra res lst bst bid pri itm akf akg rf ro rs (-1) b ∧ k < ob ∧ BA bst bi k = v.toNat ∧ r = nI (if b.testBit k = true then 1 else 0)) ∧ CF G z f h ol ob sc wc tk lo bi ru fib gra res lst byr rf ro rs bid pri bst rea rvl pad itm akf akg gt Y w2) (fun E w2 => (E = "java/util/NoSuchElementException" ∧ (¬ (0 ≤ v ∧ v < ((bi : Nat) : Int))) ∧ CF G z f h ol ob sc wc tk lo bi ru fib gra res lst byr rf ro rs bid pri bst rea rvl pad itm akf akg gt Y w2) ∨ (E = "java/lang/IllegalStateException" ∧ ((0 ≤ v ∧ v < ((bi : Nat) : Int)) ∧ bst v.toNat ≠ 111) ∧ CF G z f h ol ob sc wc tk lo bi ru fib gra res lst byr rf ro rs bid pri bst rea rvl pad itm akf akg gt Y w2)) := by
  refine Xi.intro (by decide) (Nat.le_of_ble_eq_true rfl) ?_
  intro p e s m args below meth c A X hout hW ls hl
  have hx := X.exec
  have hb := X.bytes
  have hl : lv_has ls 2 [(0, .ref (z 0)), (1, .int (zI v))] := hl
  have hI9 := hI
  obtain ⟨hlo, hbi, hru, hol, hob, hfib, hgra, hres, hlst, hbst, hrea, hbid, hpri, hitm, hakf, hakg, hrf, hro, hrs, hol2, hob2⟩ := hI
  have hR9 := hR
  obtain ⟨lc, bc, ql, ln, rv, rm, bn, bd, pr, ic, fl, qu, rc, gp, bs, bv, cf, wt, ho, hF, e0, k0, m0, e1, k1, m1, e2, k2, m2, la, ra, ba, wo, we, wk, wm, ia, h0, h1, h2, h3, hc⟩ := hR
  obtain ⟨glc, gbc, gql, gln, grv, gRS, gbn, gbd, gpr, gic, gfl, gqu, grc, ggp, gcf, gwt⟩ := hF
  refine lv_aload_n hx hb dX6_wouldWinBySets_0 rfl (lv_at hl 0 rfl) ?_
  refine lv_iload_n hx hb dX6_wouldWinBySets_1 rfl (lv_at hl 1 rfl) ?_
  obtain ⟨q0, hq0⟩ := List.mem_iff_getElem?.mp (cw_mk hc)
  refine go_xr X hout hW (run_XV X hW (As := [.int (zI v)]) (rest := []) 9 q0 hq0 (c_X6_knownOpenBid l hl9 G _ _ _ _ _ _ _ _ _ _ _ _ _ _ _ _ _ _ _ _ _ _ _ _ _ _ _ _ _ _ _ _ _ _ _ _ _ _ _ _ _ _ _ _ _ _ _ _ v hc h1 hbi hbst (by omega) _) (gi_V wq_763 wq_765 wq_32 wq_61 wq_766) rfl hyX6_knownOpenBid rfl rfl rfl hl.1 (Nat.le_of_ble_eq_true rfl) ⟨Nat.le_of_ble_eq_true rfl, Nat.le_of_ble_eq_true rfl⟩ ⟨by decide, by decide⟩ dX6_wouldWinBySets_2) (fun E w2 h => by rcases h with h | h; exact Or.inl (⟨h.1, h.2.1, h.2.2 ▸ hR9⟩); exact Or.inr (⟨h.1, by (repeat' apply And.intro) <;> first | assumption | exact h.2.1.1 | exact h.2.1.2 | omega, h.2.2 ▸ hR9⟩)) (Nat.le_of_ble_eq_true rfl) (Nat.le_of_ble_eq_true rfl) (fun b w2 H locs hp hW => ?_)
  obtain ⟨hk2, hr0, hw2⟩ := hp
  subst hr0
  rw [hw2] at hW
  refine lv_pop hx hb dX6_wouldWinBySets_5 rfl ?_
  refine lv_aload_n hx hb dX6_wouldWinBySets_6 rfl (lv_at hl 0 rfl) ?_
  obtain ⟨q0, hq0⟩ := List.mem_iff_getElem?.mp (cw_mk hc)
  refine go_v X hW (run_V X hW (As := []) (rest := []) 9 q0 hq0 (c_X6_fillFloor l G _ _ _ _ _ _ _ _ _ _ _ _ _ _ _ _ _ _ _ _ _ _ _ _ _ _ _ _ _ _ _ _ _ _ _ _ _ _ _ _ _ _ _ _ _ _ _ _ _ _ _ _ _ _ _ _ _ _ _ _ _ _ _ _ _ _ _ hc h0 h1 h2 h3 hI9 ⟨glc, gbc, gql, gln, grv, gRS, gbn, gbd, gpr, gic, gfl, gqu, grc, ggp, gcf, gwt⟩ _) (gi_V wq_265 wq_267 wq_0 wq_61 wq_268) rfl hyX6_fillFloor rfl rfl rfl hl.1 (Nat.le_of_ble_eq_true rfl) ⟨Nat.le_of_ble_eq_true rfl, Nat.le_of_ble_eq_true rfl⟩ ⟨by decide, by decide⟩ dX6_wouldWinBySets_7) (fun w2 H locs hp hW => ?_)
  obtain ⟨ln2, rv2, rm2, bn2, bd2, pr2, ic2, fl2, hF2, hG2, hc9⟩ := hp
  obtain ⟨glc, gbc, gql, gln, grv, gRS, gbn, gbd, gpr, gic, gfl, gqu, grc, ggp, gcf, gwt⟩ := hF2
  obtain ⟨-, -, kln, kbn, kAg⟩ := hG2
  obtain ⟨w, hW, hc⟩ : ∃ w9, Wd G A s w9 H locs ∧ w9.Perm (CW G z f h ol ob sc wc tk e0 k0 m0 e1 k1 m1 e2 k2 m2 lo bi ru la fib gra res lst byr ra rf ro rs ba bid wo pri bst rea rvl pad we wk wm itm ia akf akg gt (fW G f ol ob 0 ln2 rv2 rm2 bn2 bd2 pr2 ic2 fl2 qu rc gp ++ (sW G h bs bv cf wt ho ++ Y))) := ⟨_, hW, hc9⟩
  refine lv_aload_n hx hb dX6_wouldWinBySets_10 rfl (lv_at hl 0 rfl) ?_
  obtain ⟨q0, hq0⟩ := List.mem_iff_getElem?.mp (cw_mk hc)
  refine x_get X hW q0 hq0 4 rfl rfl iwX6 (by decide) wq_214 rfl dX6_wouldWinBySets_11 ?_
  refine lv_aload_n hx hb dX6_wouldWinBySets_14 rfl (lv_at hl 0 rfl) ?_
  obtain ⟨q0, hq0⟩ := List.mem_iff_getElem?.mp (cw_mk hc)
  refine x_get X hW q0 hq0 3 rfl rfl iwX6 (by decide) wq_213 rfl dX6_wouldWinBySets_15 ?_
  have hW : Wd G A s (fW G f ol ob 0 ln2 rv2 rm2 bn2 bd2 pr2 ic2 fl2 qu rc gp ++ (sW G h bs bv cf wt ho ++ CW G z f h ol ob sc wc tk e0 k0 m0 e1 k1 m1 e2 k2 m2 lo bi ru la fib gra res lst byr ra rf ro rs ba bid wo pri bst rea rvl pad we wk wm itm ia akf akg gt Y)) _ _ := hW.perm (hc.trans (cw_out2 _ _))
  refine go_v X hW (run_VN X hW (As := [.ref (f 0)]) (rest := []) 8 12 rfl (c_X5_goThroughSets l G f h ol ob 0 ln2 rv2 rm2 bn2 bd2 pr2 ic2 fl2 qu rc gp bs bv cf wt ho (CW G z f h ol ob sc wc tk e0 k0 m0 e1 k1 m1 e2 k2 m2 lo bi ru la fib gra res lst byr ra rf ro rs ba bid wo pri bst rea rvl pad we wk wm itm ia akf akg gt Y) glc gbc gql gbd gic gfl grv gqu grc gpr _) wq_387 wq_389 wq_21 wq_66 wq_390 hyX5_goThroughSets rfl rfl rfl hl.1 (Nat.le_of_ble_eq_true rfl) ⟨Nat.le_of_ble_eq_true rfl, Nat.le_of_ble_eq_true rfl⟩ ⟨by decide, by decide⟩ dX6_wouldWinBySets_18) (fun w2 H locs hp hW => ?_)
  obtain ⟨q9, u9, v9, a1, a2, a3, hw9⟩ := hp
  obtain ⟨hB, hS⟩ := gS_best (bd := bd2) (ic := ic2) (fl := fl2) (rs := rv2) (pr := pr2) glc gbc grv
  rw [hS] at hw9
  clear hS
  generalize (gS (fun t => lcost t ob ol bd2 ic2 fl2 rv2) (fun t => ((bsum t.testBit pr2 ob : Nat) : Int) - lcost t ob ol bd2 ic2 fl2 rv2) (2 ^ ob)).1 = b9 at hB hw9
  have hBb9 : BestIs lo bi ru ol ob fib gra res lst bst bid pri itm akf akg rf ro rs (-1) b9 := kAg.isb hB
  clear hB
  rw [show VS ol rv2 ic2 fl2 pr2 b9 ob = (Sur lo bi ru ol ob fib gra res lst bst pri itm akf akg rf ro rs b9) from kAg.vs b9] at hw9
  rw [hw9] at hW
  have gql := a1
  have gqu := a2
  have grc := a3
  have hb99 : b9 < 256 := Nat.lt_of_lt_of_le hBb9.1 (p2_256 hob)
  obtain ⟨w, hW, hc⟩ : ∃ w9, Wd G A s w9 H locs ∧ w9.Perm (CW G z f h ol ob sc wc tk e0 k0 m0 e1 k1 m1 e2 k2 m2 lo bi ru la fib gra res lst byr ra rf ro rs ba bid wo pri bst rea rvl pad we wk wm itm ia akf akg gt (fW G f ol ob q9 ln2 rv2 rm2 bn2 bd2 pr2 ic2 fl2 u9 v9 gp ++ (sW G h b9 (Sur lo bi ru ol ob fib gra res lst bst pri itm akf akg rf ro rs b9) cf wt ho ++ Y))) := ⟨_, hW, (cw_out2 _ _).symm⟩
  have hcb : cntB (isO bst) bi = ob := hob2
  obtain ⟨kp, hkp1, hkp2, hkp3, hkp4, hkp5⟩ := place_of (v := v.toNat) kbn hcb (by omega) (by omega)
  have hp2k := p2_le (show kp < 8 by omega)
  refine lv_aload_n hx hb dX6_wouldWinBySets_21 rfl (lv_at hl 0 rfl) ?_
  obtain ⟨q0, hq0⟩ := List.mem_iff_getElem?.mp (cw_mk hc)
  refine x_get X hW q0 hq0 4 rfl rfl iwX6 (by decide) wq_214 rfl dX6_wouldWinBySets_22 ?_
  obtain ⟨q0, hq0⟩ := List.mem_iff_getElem?.mp (cw_in hc (List.mem_append_right _ (List.mem_append_left _ (List.mem_of_getElem? (i := 0) rfl))))
  refine x_getN X hW q0 hq0 3 rfl rfl iwX5 (by decide) wq_195 rfl dX6_wouldWinBySets_25 ?_
  refine lv_aload_n hx hb dX6_wouldWinBySets_28 rfl (lv_at hl 0 rfl) ?_
  obtain ⟨q0, hq0⟩ := List.mem_iff_getElem?.mp (cw_mk hc)
  refine x_get X hW q0 hq0 3 rfl rfl iwX6 (by decide) wq_213 rfl dX6_wouldWinBySets_29 ?_
  refine lv_iload_n hx hb dX6_wouldWinBySets_32 rfl (lv_at hl 1 rfl) ?_
  refine r_zn (a := v.toNat) (by omega) ?_
  have hW : Wd G A s (fW G f ol ob q9 ln2 rv2 rm2 bn2 bd2 pr2 ic2 fl2 u9 v9 gp ++ (sW G h b9 (Sur lo bi ru ol ob fib gra res lst bst pri itm akf akg rf ro rs b9) cf wt ho ++ CW G z f h ol ob sc wc tk e0 k0 m0 e1 k1 m1 e2 k2 m2 lo bi ru la fib gra res lst byr ra rf ro rs ba bid wo pri bst rea rvl pad we wk wm itm ia akf akg gt Y)) _ _ := hW.perm (hc.trans (cw_out2 _ _))
  refine go_i X hW (run_VN X hW (As := [.int (nI v.toNat)]) (rest := [.int (nI b9)]) 4 0 rfl (c_X1_setOf l G f ol ob q9 ln2 rv2 rm2 bn2 bd2 pr2 ic2 fl2 u9 v9 gp (sW G h b9 (Sur lo bi ru ol ob fib gra res lst bst pri itm akf akg rf ro rs b9) cf wt ho ++ CW G z f h ol ob sc wc tk e0 k0 m0 e1 k1 m1 e2 k2 m2 lo bi ru la fib gra res lst byr ra rf ro rs ba bid wo pri bst rea rvl pad we wk wm itm ia akf akg gt Y) v.toNat (by omega) gbc (fun k => by have := gbn k; omega) _) wq_976 wq_978 wq_41 wq_65 wq_979 hyX1_setOf rfl rfl rfl hl.1 (Nat.le_of_ble_eq_true rfl) ⟨Nat.le_of_ble_eq_true rfl, Nat.le_of_ble_eq_true rfl⟩ ⟨by decide, by decide⟩ dX6_wouldWinBySets_33) (fun r w2 H locs hp hW => ?_)
  obtain ⟨hr0, hw2⟩ := hp
  subst hr0
  rw [hw2] at hW
  rw [hkp4]
  obtain ⟨w, hW, hc⟩ : ∃ w9, Wd G A s w9 H locs ∧ w9.Perm (CW G z f h ol ob sc wc tk e0 k0 m0 e1 k1 m1 e2 k2 m2 lo bi ru la fib gra res lst byr ra rf ro rs ba bid wo pri bst rea rvl pad we wk wm itm ia akf akg gt (fW G f ol ob q9 ln2 rv2 rm2 bn2 bd2 pr2 ic2 fl2 u9 v9 gp ++ (sW G h b9 (Sur lo bi ru ol ob fib gra res lst bst pri itm akf akg rf ro rs b9) cf wt ho ++ Y))) := ⟨_, hW, (cw_out2 _ _).symm⟩
  refine n_iand hx hb dX6_wouldWinBySets_36 ?_
  refine n_if_eq hx hb rfl (by have := and_lt (b := 2 ^ kp) hb99; omega) (tgt := 44) dX6_wouldWinBySets_37 (by decide) (fun c_37 => ?_) (fun c_37 => ?_)
  · refine lv_iconst (v := nI 0) hx hb dX6_wouldWinBySets_44 (by decide) ?_
    exact vx_ret (ret_z X hW (v := (nI 0)) (⟨⟨by assumption, b9, kp, hBb9, hkp1, hkp2, by rw [if_neg (by rw [bit_f c_37]; decide)]⟩, ⟨ol, ob, q9, ln2, rv2, rm2, bn2, bd2, pr2, ic2, fl2, u9, v9, gp, b9, (Sur lo bi ru ol ob fib gra res lst bst pri itm akf akg rf ro rs b9), cf, wt, ho, ⟨glc, gbc, gql, gln, grv, gRS, gbn, gbd, gpr, gic, gfl, gqu, grc, ggp, gcf, gwt⟩, e0, k0, m0, e1, k1, m1, e2, k2, m2, la, ra, ba, wo, we, wk, wm, ia, h0, h1, h2, h3, hc⟩⟩) rfl (by first | rfl | exact (pk_charN (by omega)).1) (by decide) (by decide) dX6_wouldWinBySets_45)
  · refine lv_iconst (v := nI 1) hx hb dX6_wouldWinBySets_40 (by decide) ?_
    refine lv_goto (tgt := 45) hx hb dX6_wouldWinBySets_41 (by decide) ?_
    exact vx_ret (ret_z X hW (v := (nI 1)) (⟨⟨by assumption, b9, kp, hBb9, hkp1, hkp2, by rw [if_pos (bit_t c_37)]⟩, ⟨ol, ob, q9, ln2, rv2, rm2, bn2, bd2, pr2, ic2, fl2, u9, v9, gp, b9, (Sur lo bi ru ol ob fib gra res lst bst pri itm akf akg rf ro rs b9), cf, wt, ho, ⟨glc, gbc, gql, gln, grv, gRS, gbn, gbd, gpr, gic, gfl, gqu, grc, ggp, gcf, gwt⟩, e0, k0, m0, e1, k1, m1, e2, k2, m2, la, ra, ba, wo, we, wk, wm, ia, h0, h1, h2, h3, hc⟩⟩) rfl (by first | rfl | exact (pk_charN (by omega)).1) (by decide) (by decide) dX6_wouldWinBySets_45)

