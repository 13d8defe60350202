/-- why a bid loses: its items, its cost alone, its price, the winner of its bidder -/
def whyN (it : Nat) (c : Int) (p : Nat) (win : Int) : Nat := if it = 0 then 110 else if c = -1 then 108 else if (p : Int) < c then 112 else if win = -1 then 109 else 98
theorem whyN_lt (it : Nat) (c : Int) (p : Nat) (win : Int) : whyN it c p win < 65536 := by
  unfold whyN
  repeat' split
  all_goals decide
def WINc (bid bst : Nat → Nat) (bi ob sb k : Nat) : Int := orNo (decide (fst1 (fun o => sb.testBit o && decide (fBD bid bst bi o = bid (BA bst bi k))) ob < ob)) (BA bst bi (fst1 (fun o => sb.testBit o && decide (fBD bid bst bi o = bid (BA bst bi k))) ob))
theorem win_eq {bid bst bd bn : Nat → Nat} {bi ob sb k : Nat} (h1 : ∀ x, x < ob → bn x = BA bst bi x) (h2 : ∀ x, x < ob → bd x = fBD bid bst bi x) : orNo (decide (fst1 (fun o => sb.testBit o && decide (bd o = bid (BA bst bi k))) ob < ob)) (bn (fst1 (fun o => sb.testBit o && decide (bd o = bid (BA bst bi k))) ob)) = (WINc bid bst bi ob sb k) := by
  unfold WINc
  rw [fst1_congr (P := fun o => sb.testBit o && decide (bd o = bid (BA bst bi k))) (P2 := fun o => sb.testBit o && decide (fBD bid bst bi o = bid (BA bst bi k))) (fun x hx => by rw [h2 x hx])]
  by_cases q : fst1 (fun o => sb.testBit o && decide (fBD bid bst bi o = bid (BA bst bi k))) ob < ob
  · rw [h1 _ q]
  · rw [decide_eq_false q]; rfl
theorem win_rng {bid bst : Nat → Nat} {bi ob sb k : Nat} (hcb : cntB (isO bst) bi = ob) (hbi : bi ≤ 40) : -1 ≤ (WINc bid bst bi ob sb k) ∧ (WINc bid bst bi ob sb k) < 40 := by
  unfold WINc orNo
  split
  · rename_i q
    have h : BA bst bi (fst1 (fun o => sb.testBit o && decide (fBD bid bst bi o = bid (BA bst bi k))) ob) < bi := (opn_in (p := isO bst) (n := bi) (t := fst1 (fun o => sb.testBit o && decide (fBD bid bst bi o = bid (BA bst bi k))) ob) (by rw [hcb]; exact of_decide_eq_true q)).1
    constructor <;> omega
  · decide
theorem Ag.cost {ol ob : Nat} {rsv bd ic fl pr rsv2 bd2 ic2 fl2 pr2 : Nat → Nat} (hol : ol ≤ 8) (hr : ∀ k, rsv k ≤ 999) (hr2 : ∀ k, rsv2 k ≤ 999) (h : Ag ol ob rsv bd ic fl pr rsv2 bd2 ic2 fl2 pr2) (s : Nat) : lcost s ob ol bd ic fl rsv = lcost s ob ol bd2 ic2 fl2 rsv2 := by
  obtain ⟨a1, a2⟩ := lcost_PS (set := s) (bc := ob) (bd := bd) (ic := ic) (fl := fl) hol hr
  obtain ⟨b1, b2⟩ := lcost_PS (set := s) (bc := ob) (bd := bd2) (ic := ic2) (fl := fl2) hol hr2
  by_cases q : PS ol bd ic fl s ob
  · rw [a1 q, b1 ((h.ps s).mp q), h.lmRE, lmC_cg h.1]
  · rw [a2 q, b2 (fun k => q ((h.ps s).mpr k))]
set_option maxRecDepth 100000 in
set_option maxHeartbeats 4000000 in
theorem c_X6_reasonToLose (l : Launch) (G : Gt) (z f h : Nat → Nat) (ol ob sc wc : Nat) (tk : Int) (e0 k0 m0 e1 k1 m1 e2 k2 m2 lo bi ru : Nat) (la fib gra res lst : Nat → Nat) (byr : Nat → Int) (ra rf ro rs : Nat → Nat) (ba bid wo pri bst rea : Nat → Nat) (rvl pad : Nat → Int) (we wk wm itm ia akf akg : Nat → Nat) (gt : Nat → Int) (lc bc ql : Nat) (ln rv rm bn bd pr ic fl qu rc : Nat → Nat) (gp : Nat → Int) (bs : Nat) (bv : Int) (cf wt ho : Nat → Nat) (Y w : va_W) (b k : Nat) (hc : w.Perm (CW G z f h ol ob sc wc tk e0 k0 m0 e1 k1 m1 e2 k2 m2 lo bi ru la fib gra res lst byr ra rf ro rs ba bid wo pri bst rea rvl pad we wk wm itm ia akf akg gt (fW G f lc bc ql ln rv rm bn bd pr ic fl qu rc gp ++ (sW G h bs bv cf wt ho ++ Y)))) (hF : FI lc bc ql ln rv rm bn bd pr ic fl qu rc gp bs bv cf wt) (hb9 : b < bi) (hitm : ∀ k, itm k ≤ 3) (hpri : ∀ k, pri k ≤ 9999) (hk : k < 8) (hr9 : iR (rvl b)) : Ci l G yX6_reasonToLose (ww yX6_reasonToLose cX6_reasonToLose 4 (some FieldType.char)) (RM 4 0 0) [.ref (z 0), .ref (ba b), .int (nI k)] w (fun r w2 => r = nI (whyN (itm b) (lcost (2 ^ k) bc lc bd ic fl rv) (pri b) (rvl b)) ∧ ∃ (qx : Nat) (ux vx : Nat → Nat), FI lc bc qx ln rv rm bn bd pr ic fl ux vx gp bs bv cf wt ∧ w2.Perm (CW G z f h ol ob sc wc tk e0 k0 m0 e1 k1 m1 e2 k2 m2 lo bi ru la fib gra res lst byr ra rf ro rs ba bid wo pri bst rea rvl pad we wk wm itm ia akf akg gt (fW G f lc bc qx ln rv rm bn bd pr ic fl ux vx gp ++ (sW G h bs bv cf wt ho ++ Y)))) := by
  refine Ci.intro (by decide) (Nat.le_of_ble_eq_true rfl) ?_
  intro p e s m args below meth c A X hW ls hl
  have hx := X.exec
  have hb := X.bytes
  have hl : lv_has ls 4 [(0, .ref (z 0)), (1, .ref (ba b)), (2, .int (nI k))] := hl
  obtain ⟨glc, gbc, gql, gln, grv, gRS, gbn, gbd, gpr, gic, gfl, gqu, grc, ggp, gcf, gwt⟩ := id hF
  have hi9 := hitm b
  refine lv_aload_n hx hb dX6_reasonToLose_0 rfl (lv_at hl 1 rfl) ?_
  obtain ⟨q0, hq0⟩ := List.mem_iff_getElem?.mp (cw_bid hc (b := b) (by omega))
  refine x_getN X hW q0 hq0 1 rfl rfl iwX0 (by decide) wq_695 rfl dX6_reasonToLose_1 ?_
  obtain ⟨r9, hLw⟩ := cw_wl hc (b := b) (by omega)
  obtain ⟨q0, hq0⟩ := List.mem_iff_getElem?.mp (ls_mem hLw)
  refine go_i X hW (run_V X hW (As := []) (rest := []) 2 q0 hq0 (c_emP hLw (by have := hitm b; omega) _) (gi_V wq_659 wq_660 wq_661 wq_64 wq_662) rfl hyJx4a65c_isEmpty_aae02 rfl rfl rfl hl.1 (Nat.le_of_ble_eq_true rfl) ⟨Nat.le_of_ble_eq_true rfl, Nat.le_of_ble_eq_true rfl⟩ ⟨by decide, by decide⟩ dX6_reasonToLose_4) (fun r w2 H locs hp hW => ?_)
  obtain ⟨hr0, hw2⟩ := hp
  subst hr0
  rw [hw2] at hW
  refine p_if_eq hx hb (tgt := 13) dX6_reasonToLose_7 (by decide) (fun c_7 => ?_) (fun c_7 => ?_)
  · refine lv_aload_n hx hb dX6_reasonToLose_13 rfl (lv_at hl 0 rfl) ?_
    obtain ⟨q0, hq0⟩ := List.mem_iff_getElem?.mp (cw_mk hc)
    refine x_get X hW q0 hq0 3 rfl rfl iwX6 (by decide) wq_213 rfl dX6_reasonToLose_14 ?_
    refine lv_iconst (v := nI 1) hx hb dX6_reasonToLose_17 (by decide) ?_
    refine lv_iload_n hx hb dX6_reasonToLose_18 rfl (lv_at hl 2 rfl) ?_
    refine n_ishl1 hx hb (by omega) dX6_reasonToLose_19 ?_
    have hp2k := p2_le hk
    have hW : Wd G A s (fW G f lc bc ql ln rv rm bn bd pr ic fl qu rc gp ++ (sW G h bs bv cf wt ho ++ CW G z f h ol ob sc wc tk e0 k0 m0 e1 k1 m1 e2 k2 m2 lo bi ru la fib gra res lst byr ra rf ro rs ba bid wo pri bst rea rvl pad we wk wm itm ia akf akg gt Y)) _ _ := hW.perm (hc.trans (cw_out2 _ _))
    refine go_i X hW (run_VN X hW (As := [.int (nI (2 ^ k))]) (rest := []) 4 0 rfl (c_X1_leastCost l G f lc bc ql ln rv rm bn bd pr ic fl qu rc gp (sW G h bs bv cf wt ho ++ CW G z f h ol ob sc wc tk e0 k0 m0 e1 k1 m1 e2 k2 m2 lo bi ru la fib gra res lst byr ra rf ro rs ba bid wo pri bst rea rvl pad we wk wm itm ia akf akg gt Y) (2 ^ k) (by omega) glc gbc gql gbd gic gfl grv gqu grc _) wq_818 wq_333 wq_12 wq_65 wq_334 hyX1_leastCost rfl rfl rfl hl.1 (Nat.le_of_ble_eq_true rfl) ⟨Nat.le_of_ble_eq_true rfl, Nat.le_of_ble_eq_true rfl⟩ ⟨by decide, by decide⟩ dX6_reasonToLose_20) (fun r w2 H locs hp hW => ?_)
    obtain ⟨q9, u9, v9, hr0, a1, a2, a3, a4, hw9⟩ := hp
    subst hr0
    rw [hw9] at hW
    have gql := a1
    have gqu := a2
    have grc := a3
    have hlr := lcost_rng (2 ^ k) bc lc bd ic fl rv
    obtain ⟨w, hW, hc⟩ : ∃ w9, Wd G A s w9 H locs ∧ w9.Perm (CW G z f h ol ob sc wc tk e0 k0 m0 e1 k1 m1 e2 k2 m2 lo bi ru la fib gra res lst byr ra rf ro rs ba bid wo pri bst rea rvl pad we wk wm itm ia akf akg gt (fW G f lc bc q9 ln rv rm bn bd pr ic fl u9 v9 gp ++ (sW G h bs bv cf wt ho ++ Y))) := ⟨_, hW, (cw_out2 _ _).symm⟩
    refine lv_istore_n (lv' := [(3, .int (zI (lcost (2 ^ k) bc lc bd ic fl rv))), (0, .ref (z 0)), (1, .ref (ba b)), (2, .int (nI k))]) hx hb dX6_reasonToLose_23 rfl hl (by decide) rfl (fun ls hl => ?_)
    refine lv_iload_n hx hb dX6_reasonToLose_24 rfl (lv_at hl 0 rfl) ?_
    refine lv_iconst (v := zI (-1)) hx hb dX6_reasonToLose_25 (by decide) ?_
    refine z_icmp_ne hx hb rfl rfl (by omega) (by omega) (tgt := 32) dX6_reasonToLose_26 (by decide) (fun c_26 => ?_) (fun c_26 => ?_)
    · refine lv_aload_n hx hb dX6_reasonToLose_32 rfl (lv_at hl 2 rfl) ?_
      obtain ⟨q0, hq0⟩ := List.mem_iff_getElem?.mp (cw_bid hc (b := b) (by omega))
      refine x_getN X hW q0 hq0 2 rfl rfl iwX0 (by decide) wq_697 rfl dX6_reasonToLose_33 ?_
      refine lv_iload_n hx hb dX6_reasonToLose_36 rfl (lv_at hl 0 rfl) ?_
      refine z_icmp_ge hx hb (nZ _) rfl (by have := hpri b; omega) (by omega) (tgt := 43) dX6_reasonToLose_37 (by decide) (fun c_37 => ?_) (fun c_37 => ?_)
      · refine lv_aload_n hx hb dX6_reasonToLose_43 rfl (lv_at hl 2 rfl) ?_
        obtain ⟨q0, hq0⟩ := List.mem_iff_getElem?.mp (cw_bid hc (b := b) (by omega))
        refine x_getN X hW q0 hq0 5 rfl rfl iwX0 (by decide) wq_703 rfl dX6_reasonToLose_44 ?_
        refine lv_iconst (v := zI (-1)) hx hb dX6_reasonToLose_47 (by decide) ?_
        refine z_icmp_ne hx hb rfl rfl (by omega) (by omega) (tgt := 56) dX6_reasonToLose_48 (by decide) (fun c_48 => ?_) (fun c_48 => ?_)
        · refine lv_bipush (v := nI 98) hx hb dX6_reasonToLose_56 (by decide) ?_
          exact ret_z X hW (v := (nI 98)) (⟨by unfold whyN; rw [if_neg c_7, if_neg c_26, if_neg (by omega), if_neg c_48], q9, u9, v9, ⟨glc, gbc, gql, gln, grv, gRS, gbn, gbd, gpr, gic, gfl, gqu, grc, ggp, gcf, gwt⟩, hc⟩) rfl (by first | rfl | exact (pk_charN (by omega)).1) (by decide) (by decide) dX6_reasonToLose_58
        · refine lv_bipush (v := nI 109) hx hb dX6_reasonToLose_51 (by decide) ?_
          refine lv_goto (tgt := 58) hx hb dX6_reasonToLose_53 (by decide) ?_
          exact ret_z X hW (v := (nI 109)) (⟨by unfold whyN; rw [if_neg c_7, if_neg c_26, if_neg (by omega), if_pos c_48], q9, u9, v9, ⟨glc, gbc, gql, gln, grv, gRS, gbn, gbd, gpr, gic, gfl, gqu, grc, ggp, gcf, gwt⟩, hc⟩) rfl (by first | rfl | exact (pk_charN (by omega)).1) (by decide) (by decide) dX6_reasonToLose_58
      · refine lv_bipush (v := nI 112) hx hb dX6_reasonToLose_40 (by decide) ?_
        exact ret_z X hW (v := (nI 112)) (⟨by unfold whyN; rw [if_neg c_7, if_neg c_26, if_pos (by omega)], q9, u9, v9, ⟨glc, gbc, gql, gln, grv, gRS, gbn, gbd, gpr, gic, gfl, gqu, grc, ggp, gcf, gwt⟩, hc⟩) rfl (by first | rfl | exact (pk_charN (by omega)).1) (by decide) (by decide) dX6_reasonToLose_42
    · refine lv_bipush (v := nI 108) hx hb dX6_reasonToLose_29 (by decide) ?_
      exact ret_z X hW (v := (nI 108)) (⟨by unfold whyN; rw [if_neg c_7, if_pos c_26], q9, u9, v9, ⟨glc, gbc, gql, gln, grv, gRS, gbn, gbd, gpr, gic, gfl, gqu, grc, ggp, gcf, gwt⟩, hc⟩) rfl (by first | rfl | exact (pk_charN (by omega)).1) (by decide) (by decide) dX6_reasonToLose_31
  · refine lv_bipush (v := nI 110) hx hb dX6_reasonToLose_10 (by decide) ?_
    exact ret_z X hW (v := (nI 110)) (⟨by unfold whyN; rw [if_pos c_7], ql, qu, rc, ⟨glc, gbc, gql, gln, grv, gRS, gbn, gbd, gpr, gic, gfl, gqu, grc, ggp, gcf, gwt⟩, hc⟩) rfl (by first | rfl | exact (pk_charN (by omega)).1) (by decide) (by decide) dX6_reasonToLose_12

set_option maxRecDepth 100000 in
set_option maxHeartbeats 4000000 in
theorem c_X6_settleLosers (l : Launch) (G : Gt) (z f h : Nat → Nat) (ol ob sc wc : Nat) (tk : Int) (e0 k0 m0 e1 k1 m1 e2 k2 m2 lo bi ru : Nat) (la fib gra res lst : Nat → Nat) (byr : Nat → Int) (ra rf ro rs : Nat → Nat) (ba bid wo pri bst rea : Nat → Nat) (rvl pad : Nat → Int) (we wk wm itm ia akf akg : Nat → Nat) (gt : Nat → Int) (lc bc ql : Nat) (ln rv rm bn bd pr ic fl qu rc : Nat → Nat) (gp : Nat → Int) (bs : Nat) (bv : Int) (cf wt ho : Nat → Nat) (Y w : va_W) (Lx Sx : Nat → Nat) (sb : Nat) (hc : w.Perm (CW G z f h ol ob sc wc tk e0 k0 m0 e1 k1 m1 e2 k2 m2 lo bi ru la fib gra res Lx byr ra rf ro rs ba bid wo pri Sx rea rvl pad we wk wm itm ia akf akg gt (fW G f ol ob ql ln rv rm bn bd pr ic fl qu rc gp ++ (sW G h bs bv cf wt ho ++ Y)))) (h1 : LsOK G e1 k1 bi) (hI : CIa lo bi ru ol ob fib gra res lst bst rea bid pri itm akf akg rf ro rs) (hF : FI ol ob ql ln rv rm bn bd pr ic fl qu rc gp bs bv cf wt) (hG : FFl lo bi ru ol ob fib gra res lst bst bid pri itm akf akg rf ro rs ol ob ln rv bn bd pr ic fl) (hB : BestIs lo bi ru ol ob fib gra res lst bst bid pri itm akf akg rf ro rs (-1) sb) : Cv l G yX6_settleLosers (ww yX6_settleLosers cX6_settleLosers 5 (none : Option ClassFile.FieldType)) (RM 6 0 0) [.ref (z 0), .int (nI sb)] w (fun w2 => ∃ (R1 S2 : Nat → Nat) (V1 : Nat → Int) (qx : Nat) (ux vx : Nat → Nat), (∀ x, (∀ j, j < ob → sb.testBit j = false → BA bst bi j ≠ x) → R1 x = rea x ∧ V1 x = rvl x ∧ S2 x = Sx x) ∧ (∀ j, j < ob → sb.testBit j = false → R1 (BA bst bi j) = (whyN (itm (BA bst bi j)) (lcost (2 ^ j) ob ol (fBD bid bst bi) (fBD itm bst bi) (fFL fib gra rf ro rs ru akf akg lst lo bst bi ol) (fRS res lst lo)) (pri (BA bst bi j)) (WINc bid bst bi ob sb j)) ∧ V1 (BA bst bi j) = (WINc bid bst bi ob sb j) ∧ S2 (BA bst bi j) = 108) ∧ FI ol ob qx ln rv rm bn bd pr ic fl ux vx gp bs bv cf wt ∧ w2.Perm (CW G z f h ol ob sc wc tk e0 k0 m0 e1 k1 m1 e2 k2 m2 lo bi ru la fib gra res Lx byr ra rf ro rs ba bid wo pri S2 R1 V1 pad we wk wm itm ia akf akg gt (fW G f ol ob qx ln rv rm bn bd pr ic fl ux vx gp ++ (sW G h bs bv cf wt ho ++ Y)))) := by
  refine Cv.intro (by decide) (Nat.le_of_ble_eq_true rfl) ?_
  intro p e s m args below meth c A X hW ls hl
  have hx := X.exec
  have hb := X.bytes
  have hl : lv_has ls 5 [(0, .ref (z 0)), (1, .int (nI sb))] := hl
  have hI9 := hI
  obtain ⟨hlo, hbi, hru, hol, hob, hfib, hgra, hres, hlst, hbst, hrea, hbid, hpri, hitm, hakf, hakg, hrf, hro, hrs, hol2, hob2⟩ := hI
  obtain ⟨glc, gbc, gql, gln, grv, gRS, gbn, gbd, gpr, gic, gfl, gqu, grc, ggp, gcf, gwt⟩ := id hF
  obtain ⟨-, -, kln, kbn, kAg⟩ := hG
  have hcb : cntB (isO bst) bi = ob := hob2
  have hsb : sb < 256 := Nat.lt_of_lt_of_le hB.1 (p2_256 hob)
  refine lv_iconst (v := nI 0) hx hb dX6_settleLosers_0 (by decide) ?_
  refine lv_istore_n (lv' := [(2, .int (nI 0)), (0, .ref (z 0)), (1, .int (nI sb))]) hx hb dX6_settleLosers_1 rfl hl (by decide) rfl (fun ls hl => ?_)
  have loop : ∀ (n : Nat) (k : Nat) (R1 S2 : Nat → Nat) (V1 : Nat → Int) (qx : Nat) (ux vx : Nat → Nat) (w : va_W), ob + 1 ≤ k + n → k ≤ ob → (∀ x, (∀ j, j < k → sb.testBit j = false → BA bst bi j ≠ x) → R1 x = rea x ∧ V1 x = rvl x ∧ S2 x = Sx x) → (∀ j, j < k → sb.testBit j = false → R1 (BA bst bi j) = (whyN (itm (BA bst bi j)) (lcost (2 ^ j) ob ol (fBD bid bst bi) (fBD itm bst bi) (fFL fib gra rf ro rs ru akf akg lst lo bst bi ol) (fRS res lst lo)) (pri (BA bst bi j)) (WINc bid bst bi ob sb j)) ∧ V1 (BA bst bi j) = (WINc bid bst bi ob sb j) ∧ S2 (BA bst bi j) = 108) → FI ol ob qx ln rv rm bn bd pr ic fl ux vx gp bs bv cf wt → w.Perm (CW G z f h ol ob sc wc tk e0 k0 m0 e1 k1 m1 e2 k2 m2 lo bi ru la fib gra res Lx byr ra rf ro rs ba bid wo pri S2 R1 V1 pad we wk wm itm ia akf akg gt (fW G f ol ob qx ln rv rm bn bd pr ic fl ux vx gp ++ (sW G h bs bv cf wt ho ++ Y))) → ∀ (H : Heap) (locs : List Loc) (ls : Array Slot), Wd G A s w H locs → lv_has ls 5 [(0, .ref (z 0)), (1, .int (nI sb)), (2, .int (nI k))] → W p l e (RM 6 0 0) s m args below meth c H locs 0 0 (MQ below (Qv G A (fun w2 => ∃ (R1 S2 : Nat → Nat) (V1 : Nat → Int) (qx : Nat) (ux vx : Nat → Nat), (∀ x, (∀ j, j < ob → sb.testBit j = false → BA bst bi j ≠ x) → R1 x = rea x ∧ V1 x = rvl x ∧ S2 x = Sx x) ∧ (∀ j, j < ob → sb.testBit j = false → R1 (BA bst bi j) = (whyN (itm (BA bst bi j)) (lcost (2 ^ j) ob ol (fBD bid bst bi) (fBD itm bst bi) (fFL fib gra rf ro rs ru akf akg lst lo bst bi ol) (fRS res lst lo)) (pri (BA bst bi j)) (WINc bid bst bi ob sb j)) ∧ V1 (BA bst bi j) = (WINc bid bst bi ob sb j) ∧ S2 (BA bst bi j) = 108) ∧ FI ol ob qx ln rv rm bn bd pr ic fl ux vx gp bs bv cf wt ∧ w2.Perm (CW G z f h ol ob sc wc tk e0 k0 m0 e1 k1 m1 e2 k2 m2 lo bi ru la fib gra res Lx byr ra rf ro rs ba bid wo pri S2 R1 V1 pad we wk wm itm ia akf akg gt (fW G f ol ob qx ln rv rm bn bd pr ic fl ux vx gp ++ (sW G h bs bv cf wt ho ++ Y))))) args s (RM 6 0 0).cells (RM 6 0 0).slots A) (F0 m 2 ls []) := by
    intro n
    induction n with
    | zero => intro k R1 S2 V1 qx ux vx w hk1 hk2 g1 g2 hF2 hc; exact absurd hk1 (by omega)
    | succ n ih =>
      intro k R1 S2 V1 qx ux vx w hk1 hk2 g1 g2 hF2 hc H locs ls hW hl
      obtain ⟨glc, gbc, gql, gln, grv, gRS, gbn, gbd, gpr, gic, gfl, gqu, grc, ggp, gcf, gwt⟩ := id hF2
      refine lv_iload_n hx hb dX6_settleLosers_2 rfl (lv_at hl 2 rfl) ?_
      refine lv_aload_n hx hb dX6_settleLosers_3 rfl (lv_at hl 0 rfl) ?_
      obtain ⟨q0, hq0⟩ := List.mem_iff_getElem?.mp (cw_mk hc)
      refine x_get X hW q0 hq0 3 rfl rfl iwX6 (by decide) wq_213 rfl dX6_settleLosers_4 ?_
      obtain ⟨q0, hq0⟩ := List.mem_iff_getElem?.mp (cw_in hc (List.mem_append_left _ (List.mem_of_getElem? (i := 0) rfl)))
      refine x_getN X hW q0 hq0 12 rfl rfl iwX1 (by decide) wq_153 rfl dX6_settleLosers_7 ?_
      refine n_icmp_ge hx hb rfl rfl (by omega) (by omega) (tgt := 95) dX6_settleLosers_10 (by decide) (fun c_10 => ?_) (fun c_10 => ?_)
      · have hkb : k = ob := by omega
        rw [hkb] at g1 g2
        exact ret_v X hW (⟨R1, S2, V1, qx, ux, vx, g1, g2, hF2, hc⟩) rfl (by decide) (by decide) dX6_settleLosers_95
      · refine lv_aload_n hx hb dX6_settleLosers_13 rfl (lv_at hl 0 rfl) ?_
        obtain ⟨q0, hq0⟩ := List.mem_iff_getElem?.mp (cw_mk hc)
        refine x_get X hW q0 hq0 3 rfl rfl iwX6 (by decide) wq_213 rfl dX6_settleLosers_14 ?_
        obtain ⟨q0, hq0⟩ := List.mem_iff_getElem?.mp (cw_in hc (List.mem_append_left _ (List.mem_of_getElem? (i := 0) rfl)))
        refine x_getN X hW q0 hq0 3 rfl rfl iwX1 (by decide) wq_136 rfl dX6_settleLosers_17 ?_
        refine lv_iload_n hx hb dX6_settleLosers_20 rfl (lv_at hl 2 rfl) ?_
        obtain ⟨q0, hq0⟩ := List.mem_iff_getElem?.mp (cw_in hc (List.mem_append_left _ (List.mem_of_getElem? (i := 4) rfl)))
        refine n_iald X hW (n := 8) (f := bn) q0 hq0 (by omega) (by decide) dX6_settleLosers_21 ?_
        refine lv_istore_n (lv' := [(3, .int (nI (bn k))), (0, .ref (z 0)), (1, .int (nI sb)), (2, .int (nI k))]) hx hb dX6_settleLosers_22 rfl hl (by decide) rfl (fun ls hl => ?_)
        refine lv_iload_n hx hb dX6_settleLosers_23 rfl (lv_at hl 2 rfl) ?_
        refine lv_iconst (v := nI 1) hx hb dX6_settleLosers_24 (by decide) ?_
        refine lv_iload_n hx hb dX6_settleLosers_25 rfl (lv_at hl 3 rfl) ?_
        refine n_ishl1 hx hb (by omega) dX6_settleLosers_26 ?_
        refine n_iand hx hb dX6_settleLosers_27 ?_
        refine n_if_ne hx hb rfl (by have := and_lt (b := 2 ^ k) hsb; omega) (tgt := 89) dX6_settleLosers_28 (by decide) (fun c_28 => ?_) (fun c_28 => ?_)
        · refine lv_iinc (v := (nI (k + 1))) (lv' := [(2, .int (nI (k + 1))), (3, .int (nI (bn k))), (0, .ref (z 0)), (1, .int (nI sb))]) hx hb dX6_settleLosers_89 hl (k := 3) rfl (nI_add _ _) (by decide) rfl (fun ls hl => ?_)
          refine lv_goto (tgt := 2) hx hb dX6_settleLosers_92 (by decide) ?_
          have hbt := bit_t c_28
          exact ih (k + 1) R1 S2 V1 qx ux vx w (by omega) (by omega) (fun x hx => g1 x (fun j hj => hx j (by omega))) (fun j hj hb9 => g2 j (by rcases Nat.lt_or_ge j k with q | q; exact q; rw [show j = k by omega, hbt] at hb9; exact absurd hb9 (by decide)) hb9) hF2 hc _ _ _ hW (lv_sub hl [2, 3, 0] rfl)
        · have hbf := bit_f c_28
          have ebk := kbn k (by omega)
          have hbk9 := hbid (bn k)
          have hbl : bn k < bi := by rw [ebk]; exact (opn_in (p := isO bst) (n := bi) (t := k) (by rw [hcb]; omega)).1
          have hwr := win_rng (bid := bid) (sb := sb) (k := k) hcb hbi
          refine lv_aload_n hx hb dX6_settleLosers_31 rfl (lv_at hl 1 rfl) ?_
          refine lv_iload_n hx hb dX6_settleLosers_32 rfl (lv_at hl 0 rfl) ?_
          refine r_nz ?_
          obtain ⟨q0, hq0⟩ := List.mem_iff_getElem?.mp (cw_mk hc)
          refine go_i X hW (run_V X hW (As := [.int (zI (((bn k) : Nat) : Int))]) (rest := []) 9 q0 hq0 (c_X6_isBid l G _ _ _ _ _ _ _ _ _ _ _ _ _ _ _ _ _ _ _ _ _ _ _ _ _ _ _ _ _ _ _ _ _ _ _ _ _ _ _ _ _ _ _ _ _ _ _ _ (((bn k) : Nat) : Int) hc hbi (by omega) _) (gi_V wq_731 wq_733 wq_31 wq_61 wq_734) rfl hyX6_isBid rfl rfl rfl hl.1 (Nat.le_of_ble_eq_true rfl) ⟨Nat.le_of_ble_eq_true rfl, Nat.le_of_ble_eq_true rfl⟩ ⟨by decide, by decide⟩ dX6_settleLosers_33) (fun r w2 H locs hp hW => ?_)
          obtain ⟨hr0, hw2⟩ := hp
          subst hr0
          rw [hw2] at hW
          refine p_if_eq hx hb (tgt := 89) dX6_settleLosers_36 (by decide) (fun c_36 => absurd (show _ ∧ _ from ⟨by omega, by omega⟩) c_36) (fun c_36 => ?_)
          refine lv_aload_n hx hb dX6_settleLosers_39 rfl (lv_at hl 1 rfl) ?_
          obtain ⟨q0, hq0⟩ := List.mem_iff_getElem?.mp (cw_mk hc)
          refine x_get X hW q0 hq0 1 rfl rfl iwX6 (by decide) wq_211 rfl dX6_settleLosers_40 ?_
          refine lv_iload_n hx hb dX6_settleLosers_43 rfl (lv_at hl 0 rfl) ?_
          obtain ⟨r9, hL1⟩ := cw_l1 hc
          obtain ⟨q0, hq0⟩ := List.mem_iff_getElem?.mp (ls_mem hL1)
          refine go_r X hW (run_V X hW (As := [.int (nI (bn k))]) (rest := []) 2 q0 hq0 (c_gtP hL1 h1 (by omega) _) (gi_V wq_273 wq_274 wq_275 wq_64 wq_276) rfl hyJx4a65c_get_915e3 rfl rfl rfl hl.1 (Nat.le_of_ble_eq_true rfl) ⟨Nat.le_of_ble_eq_true rfl, Nat.le_of_ble_eq_true rfl⟩ ⟨by decide, by decide⟩ dX6_settleLosers_44) (fun b w2 H locs hp hW => ?_)
          obtain ⟨hr0, hw2⟩ := hp
          subst hr0
          rw [hw2] at hW
          refine x_cast X hW (cw_bid hc (b := (bn k)) (by omega)) rfl wq_685 wq_292 dX6_settleLosers_47 ?_
          refine lv_astore (lv' := [(4, .ref (ba (bn k))), (3, .int (nI (bn k))), (0, .ref (z 0)), (1, .int (nI sb)), (2, .int (nI k))]) hx hb dX6_settleLosers_50 hl (by decide) rfl (fun ls hl => ?_)
          refine lv_aload hx hb dX6_settleLosers_52 (lv_at hl 0 rfl) ?_
          refine lv_bipush (v := nI 108) hx hb dX6_settleLosers_54 (by decide) ?_
          obtain ⟨q0, hq0⟩ := List.mem_iff_getElem?.mp (cw_bid hc (b := (bn k)) (by omega))
          refine x_putN X hW q0 hq0 3 (w2 := _) rfl rfl iwX0 tyX0_ok nmX0 (by decide) wq_699 rfl rfl (pk_charN (by omega)).1 (pk_charN (by omega)).2 (Nat.le_of_ble_eq_true rfl) dX6_settleLosers_56 (fun H locs hW => ?_)
          obtain ⟨w, hW, hc⟩ : ∃ w9, Wd G A s w9 H locs ∧ w9.Perm (CW G z f h ol ob sc wc tk e0 k0 m0 e1 k1 m1 e2 k2 m2 lo bi ru la fib gra res Lx byr ra rf ro rs ba bid wo pri (va_up S2 (bn k) 108) R1 V1 pad we wk wm itm ia akf akg gt (fW G f ol ob qx ln rv rm bn bd pr ic fl ux vx gp ++ (sW G h bs bv cf wt ho ++ Y))) := ⟨_, hW, Fc.set (cw_bst hc (i := (bn k)) (by omega) 108) hq0⟩
          refine lv_aload hx hb dX6_settleLosers_59 (lv_at hl 0 rfl) ?_
          refine lv_aload_n hx hb dX6_settleLosers_61 rfl (lv_at hl 2 rfl) ?_
          obtain ⟨q0, hq0⟩ := List.mem_iff_getElem?.mp (cw_mk hc)
          refine x_get X hW q0 hq0 3 rfl rfl iwX6 (by decide) wq_213 rfl dX6_settleLosers_62 ?_
          refine lv_iload_n hx hb dX6_settleLosers_65 rfl (lv_at hl 3 rfl) ?_
          refine lv_aload hx hb dX6_settleLosers_66 (lv_at hl 0 rfl) ?_
          obtain ⟨q0, hq0⟩ := List.mem_iff_getElem?.mp (cw_bid hc (b := (bn k)) (by omega))
          refine x_getN X hW q0 hq0 0 rfl rfl iwX0 (by decide) wq_693 rfl dX6_settleLosers_68 ?_
          have hW : Wd G A s (fW G f ol ob qx ln rv rm bn bd pr ic fl ux vx gp ++ (sW G h bs bv cf wt ho ++ CW G z f h ol ob sc wc tk e0 k0 m0 e1 k1 m1 e2 k2 m2 lo bi ru la fib gra res Lx byr ra rf ro rs ba bid wo pri (va_up S2 (bn k) 108) R1 V1 pad we wk wm itm ia akf akg gt Y)) _ _ := hW.perm (hc.trans (cw_out2 _ _))
          refine go_i X hW (run_VN X hW (As := [.int (nI sb), .int (nI (bid (bn k)))]) (rest := [.ref (ba (bn k))]) 4 0 rfl (c_X1_bidOfBidderIn l G f ol ob qx ln rv rm bn bd pr ic fl ux vx gp (sW G h bs bv cf wt ho ++ CW G z f h ol ob sc wc tk e0 k0 m0 e1 k1 m1 e2 k2 m2 lo bi ru la fib gra res Lx byr ra rf ro rs ba bid wo pri (va_up S2 (bn k) 108) R1 V1 pad we wk wm itm ia akf akg gt Y) sb (bid (bn k)) hsb (by omega) gbc gbd _) wq_813 wq_362 wq_16 wq_65 wq_363 hyX1_bidOfBidderIn rfl rfl rfl hl.1 (Nat.le_of_ble_eq_true rfl) ⟨Nat.le_of_ble_eq_true rfl, Nat.le_of_ble_eq_true rfl⟩ ⟨by decide, by decide⟩ dX6_settleLosers_71) (fun r w2 H locs hp hW => ?_)
          obtain ⟨hr0, hw2⟩ := hp
          subst hr0
          rw [hw2] at hW
          rw [ebk, win_eq (bid := bid) (bst := bst) (bi := bi) kbn (fun x hx => (kAg.2 x hx).1), ← ebk]
          obtain ⟨w, hW, hc⟩ : ∃ w9, Wd G A s w9 H locs ∧ w9.Perm (CW G z f h ol ob sc wc tk e0 k0 m0 e1 k1 m1 e2 k2 m2 lo bi ru la fib gra res Lx byr ra rf ro rs ba bid wo pri (va_up S2 (bn k) 108) R1 V1 pad we wk wm itm ia akf akg gt (fW G f ol ob qx ln rv rm bn bd pr ic fl ux vx gp ++ (sW G h bs bv cf wt ho ++ Y))) := ⟨_, hW, (cw_out2 _ _).symm⟩
          obtain ⟨q0, hq0⟩ := List.mem_iff_getElem?.mp (cw_bid hc (b := (bn k)) (by omega))
          refine x_putN X hW q0 hq0 5 (w2 := _) rfl rfl iwX0 tyX0_ok nmX0 (by decide) wq_703 rfl rfl rfl rfl (Nat.le_of_ble_eq_true rfl) dX6_settleLosers_74 (fun H locs hW => ?_)
          obtain ⟨w, hW, hc⟩ : ∃ w9, Wd G A s w9 H locs ∧ w9.Perm (CW G z f h ol ob sc wc tk e0 k0 m0 e1 k1 m1 e2 k2 m2 lo bi ru la fib gra res Lx byr ra rf ro rs ba bid wo pri (va_up S2 (bn k) 108) R1 (va_up V1 (bn k) (WINc bid bst bi ob sb k)) pad we wk wm itm ia akf akg gt (fW G f ol ob qx ln rv rm bn bd pr ic fl ux vx gp ++ (sW G h bs bv cf wt ho ++ Y))) := ⟨_, hW, Fc.set (cw_rvl hc (i := (bn k)) (by omega) (WINc bid bst bi ob sb k)) hq0⟩
          refine lv_aload hx hb dX6_settleLosers_77 (lv_at hl 0 rfl) ?_
          refine lv_aload_n hx hb dX6_settleLosers_79 rfl (lv_at hl 2 rfl) ?_
          refine lv_aload hx hb dX6_settleLosers_80 (lv_at hl 0 rfl) ?_
          refine lv_iload_n hx hb dX6_settleLosers_82 rfl (lv_at hl 4 rfl) ?_
          obtain ⟨q0, hq0⟩ := List.mem_iff_getElem?.mp (cw_mk hc)
          refine go_i X hW (run_V X hW (As := [.ref (ba (bn k)), .int (nI k)]) (rest := [.ref (ba (bn k))]) 9 q0 hq0 (c_X6_reasonToLose l G z f h ol ob sc wc tk e0 k0 m0 e1 k1 m1 e2 k2 m2 lo bi ru la fib gra res Lx byr ra rf ro rs ba bid wo pri (va_up S2 (bn k) 108) R1 (va_up V1 (bn k) (WINc bid bst bi ob sb k)) pad we wk wm itm ia akf akg gt ol ob qx ln rv rm bn bd pr ic fl ux vx gp bs bv cf wt ho Y w (bn k) k hc hF2 (by omega) hitm hpri (by omega) (by rw [va_up_self]; constructor <;> omega) _) (gi_V wq_814 wq_816 wq_40 wq_61 wq_817) rfl hyX6_reasonToLose rfl rfl rfl hl.1 (Nat.le_of_ble_eq_true rfl) ⟨Nat.le_of_ble_eq_true rfl, Nat.le_of_ble_eq_true rfl⟩ ⟨by decide, by decide⟩ dX6_settleLosers_83) (fun r w2 H locs hp hW => ?_)
          obtain ⟨hr0, q9, u9, v9, hF9, hc9⟩ := hp
          subst hr0
          rw [show whyN (itm (bn k)) (lcost (2 ^ k) ob ol bd ic fl rv) (pri (bn k)) (va_up V1 (bn k) (WINc bid bst bi ob sb k) (bn k)) = (whyN (itm (BA bst bi k)) (lcost (2 ^ k) ob ol (fBD bid bst bi) (fBD itm bst bi) (fFL fib gra rf ro rs ru akf akg lst lo bst bi ol) (fRS res lst lo)) (pri (BA bst bi k)) (WINc bid bst bi ob sb k)) by rw [va_up_self, kAg.cost hol grv (fun k => hres _), ebk]]
          obtain ⟨w, hW, hc⟩ : ∃ w9, Wd G A s w9 H locs ∧ w9.Perm (CW G z f h ol ob sc wc tk e0 k0 m0 e1 k1 m1 e2 k2 m2 lo bi ru la fib gra res Lx byr ra rf ro rs ba bid wo pri (va_up S2 (bn k) 108) R1 (va_up V1 (bn k) (WINc bid bst bi ob sb k)) pad we wk wm itm ia akf akg gt (fW G f ol ob q9 ln rv rm bn bd pr ic fl u9 v9 gp ++ (sW G h bs bv cf wt ho ++ Y))) := ⟨_, hW, hc9⟩
          obtain ⟨q0, hq0⟩ := List.mem_iff_getElem?.mp (cw_bid hc (b := (bn k)) (by omega))
          refine x_putN X hW q0 hq0 4 (w2 := _) rfl rfl iwX0 tyX0_ok nmX0 (by decide) wq_701 rfl rfl (pk_charN (whyN_lt _ _ _ _)).1 (pk_charN (whyN_lt _ _ _ _)).2 (Nat.le_of_ble_eq_true rfl) dX6_settleLosers_86 (fun H locs hW => ?_)
          obtain ⟨w, hW, hc⟩ : ∃ w9, Wd G A s w9 H locs ∧ w9.Perm (CW G z f h ol ob sc wc tk e0 k0 m0 e1 k1 m1 e2 k2 m2 lo bi ru la fib gra res Lx byr ra rf ro rs ba bid wo pri (va_up S2 (bn k) 108) (va_up R1 (bn k) (whyN (itm (BA bst bi k)) (lcost (2 ^ k) ob ol (fBD bid bst bi) (fBD itm bst bi) (fFL fib gra rf ro rs ru akf akg lst lo bst bi ol) (fRS res lst lo)) (pri (BA bst bi k)) (WINc bid bst bi ob sb k))) (va_up V1 (bn k) (WINc bid bst bi ob sb k)) pad we wk wm itm ia akf akg gt (fW G f ol ob q9 ln rv rm bn bd pr ic fl u9 v9 gp ++ (sW G h bs bv cf wt ho ++ Y))) := ⟨_, hW, Fc.set (cw_rea hc (i := (bn k)) (by omega) (whyN (itm (BA bst bi k)) (lcost (2 ^ k) ob ol (fBD bid bst bi) (fBD itm bst bi) (fFL fib gra rf ro rs ru akf akg lst lo bst bi ol) (fRS res lst lo)) (pri (BA bst bi k)) (WINc bid bst bi ob sb k))) hq0⟩
          refine lv_iinc (v := (nI (k + 1))) (lv' := [(2, .int (nI (k + 1))), (4, .ref (ba (bn k))), (3, .int (nI (bn k))), (0, .ref (z 0)), (1, .int (nI sb))]) hx hb dX6_settleLosers_89 hl (k := 4) rfl (nI_add _ _) (by decide) rfl (fun ls hl => ?_)
          refine lv_goto (tgt := 2) hx hb dX6_settleLosers_92 (by decide) ?_
          exact ih (k + 1) (va_up R1 (bn k) (whyN (itm (BA bst bi k)) (lcost (2 ^ k) ob ol (fBD bid bst bi) (fBD itm bst bi) (fFL fib gra rf ro rs ru akf akg lst lo bst bi ol) (fRS res lst lo)) (pri (BA bst bi k)) (WINc bid bst bi ob sb k))) (va_up S2 (bn k) 108) (va_up V1 (bn k) (WINc bid bst bi ob sb k)) q9 u9 v9 w (by omega) (by omega) (fun x hx => by
            have hxk := hx k (by omega) hbf
            rw [ebk, va_up_ne _ _ (Ne.symm hxk), va_up_ne _ _ (Ne.symm hxk), va_up_ne _ _ (Ne.symm hxk)]; exact g1 x (fun j hj => hx j (by omega))) (fun j hj hb9 => by
            rw [ebk]
            by_cases hq : j = k
            · rw [hq, va_up_self, va_up_self, va_up_self]; exact ⟨rfl, rfl, rfl⟩
            · have hne : BA bst bi j ≠ BA bst bi k := fun q => hq (ba_inj hcb (by omega) (by omega) q)
              rw [va_up_ne _ _ hne, va_up_ne _ _ hne, va_up_ne _ _ hne]; exact g2 j (by omega) hb9) hF9 hc _ _ _ hW (lv_sub hl [3, 4, 0] rfl)
  exact loop (ob + 1) 0 rea Sx rvl ql qu rc w (by omega) (by omega) (fun _ _ => ⟨rfl, rfl, rfl⟩) (fun j hj => absurd hj (by omega)) hF hc _ _ _ hW (lv_sub hl [1, 2, 0] rfl)

