theorem best_ex {lo bi ru ol ob : Nat} {fib gra res lst bst bid pri itm akf akg rf ro rs : Nat → Nat} (hob : ob ≤ 8) (wo : Int) : ∃ b, BestIs lo bi ru ol ob fib gra res lst bst bid pri itm akf akg rf ro rs wo b := by
  classical
  refine ⟨_, bsM_best (v := fun s => if s < 2 ^ ob ∧ PS ol (fBD bid bst bi) (fBD itm bst bi) (fFL fib gra rf ro rs ru akf akg lst lo bst bi ol) s ob then (Sur lo bi ru ol ob fib gra res lst bst pri itm akf akg rf ro rs s) else -1000000) wo hob (fun s hs => ⟨fun h => ?_, fun h => ?_⟩)⟩
  · show (if _ then _ else _) = _
    rw [if_pos h]; rfl
  · show (if _ then _ else _) = _
    rw [if_neg h]
/-- a best set without a bidder, one and the same -/
noncomputable def FBc (lo bi ru ol ob : Nat) (fib gra res lst bst bid pri itm akf akg rf ro rs : Nat → Nat) (wo : Int) : Nat := by
  classical
  exact if h : ∃ b, BestIs lo bi ru ol ob fib gra res lst bst bid pri itm akf akg rf ro rs wo b then h.choose else 0
theorem FBc_is {lo bi ru ol ob : Nat} {fib gra res lst bst bid pri itm akf akg rf ro rs : Nat → Nat} (hob : ob ≤ 8) (wo : Int) : BestIs lo bi ru ol ob fib gra res lst bst bid pri itm akf akg rf ro rs wo (FBc lo bi ru ol ob fib gra res lst bst bid pri itm akf akg rf ro rs wo) := by
  unfold FBc
  rw [dif_pos (best_ex hob wo)]
  exact (best_ex hob wo).choose_spec
theorem best_uniq {lo bi ru ol ob : Nat} {fib gra res lst bst bid pri itm akf akg rf ro rs : Nat → Nat} {wo : Int} {x y : Nat} (h1 : BestIs lo bi ru ol ob fib gra res lst bst bid pri itm akf akg rf ro rs wo x) (h2 : BestIs lo bi ru ol ob fib gra res lst bst bid pri itm akf akg rf ro rs wo y) : x = y := IsB.uniq h1 h2
/-- what the bid at a place pays -/
noncomputable def PAYc (lo bi ru ol ob : Nat) (fib gra res lst bst bid pri itm akf akg rf ro rs : Nat → Nat) (sb k : Nat) : Int := (((pri (BA bst bi k) : Nat) : Int) - (Sur lo bi ru ol ob fib gra res lst bst pri itm akf akg rf ro rs sb)) + (Sur lo bi ru ol ob fib gra res lst bst pri itm akf akg rf ro rs (FBc lo bi ru ol ob fib gra res lst bst bid pri itm akf akg rf ro rs ((bid (BA bst bi k) : Nat) : Int)))
theorem sur_rng {lo bi ru ol ob : Nat} {fib gra res lst bst pri itm akf akg rf ro rs : Nat → Nat} (hob : ob ≤ 8) (hpri : ∀ k, pri k ≤ 9999) (s : Nat) : -1000000 ≤ (Sur lo bi ru ol ob fib gra res lst bst pri itm akf akg rf ro rs s) ∧ (Sur lo bi ru ol ob fib gra res lst bst pri itm akf akg rf ro rs s) ≤ 80000 := by
  have h1 := bsum_le (p := s.testBit) (g := fBD pri bst bi) (c := 9999) ob (fun k => hpri _)
  have h2 := lmn_le (fun m => if fil ol (lmR s.testBit (fBD itm bst bi) (fFL fib gra rf ro rs ru akf akg lst lo bst bi ol) ob) m = true then bsum m.testBit (fRS res lst lo) ol else 1000000) 256
  have h3 : ob * 9999 ≤ 8 * 9999 := Nat.mul_le_mul_right _ hob
  unfold Sur VS lmC
  constructor <;> omega
theorem ba_inj {bst : Nat → Nat} {bi ob x y : Nat} (hc : cntB (isO bst) bi = ob) (hx : x < ob) (hy : y < ob) (h : BA bst bi x = BA bst bi y) : x = y := opn_inj (p := isO bst) (n := bi) (by rw [hc]; exact hx) (by rw [hc]; exact hy) h
set_option maxRecDepth 100000 in
set_option maxHeartbeats 4000000 in
theorem c_X6_settlePayments (l : Launch) (G : Gt) (z f h : Nat → Nat) (ol ob sc wc : Nat) (tk : Int) (e0 k0 m0 e1 k1 m1 e2 k2 m2 lo bi ru : Nat) (la fib gra res lst : Nat → Nat) (byr : Nat → Int) (ra rf ro rs : Nat → Nat) (ba bid wo pri bst rea : Nat → Nat) (rvl pad : Nat → Int) (we wk wm itm ia akf akg : Nat → Nat) (gt : Nat → Int) (lc bc ql : Nat) (ln rv rm bn bd pr ic fl qu rc : Nat → Nat) (gp : Nat → Int) (bs : Nat) (bv : Int) (cf wt ho : Nat → Nat) (Y w : va_W) (sb : Nat) (hc : w.Perm (CW G z f h ol ob sc wc tk e0 k0 m0 e1 k1 m1 e2 k2 m2 lo bi ru la fib gra res lst byr ra rf ro rs ba bid wo pri bst rea rvl pad we wk wm itm ia akf akg gt (fW G f ol ob ql ln rv rm bn bd pr ic fl qu rc gp ++ (sW G h bs bv cf wt ho ++ Y)))) (h0 : LsOK G e0 k0 lo) (h1 : LsOK G e1 k1 bi) (h2 : LsOK G e2 k2 ru) (h3 : ∀ b, b < bi → LsOK G (we b) (wk b) (itm b)) (hI : CIa lo bi ru ol ob fib gra res lst bst rea bid pri itm akf akg rf ro rs) (hF : FI ol ob ql ln rv rm bn bd pr ic fl qu rc gp bs bv cf wt) (hG : FFl lo bi ru ol ob fib gra res lst bst bid pri itm akf akg rf ro rs ol ob ln rv bn bd pr ic fl) (hB : BestIs lo bi ru ol ob fib gra res lst bst bid pri itm akf akg rf ro rs (-1) sb) : Cv l G yX6_settlePayments (ww yX6_settlePayments cX6_settlePayments 6 (none : Option ClassFile.FieldType)) (RM 16 0 0) [.ref (z 0), .int (nI sb), .int (zI (Sur lo bi ru ol ob fib gra res lst bst pri itm akf akg rf ro rs sb))] w (fun w2 => ∃ (P1 : Nat → Int) (S1 : Nat → Nat) (t1 : Int) (qx : Nat) (ux vx wxx hhx gx : Nat → Nat) (bx : Nat) (bvx : Int), (∀ x, (∀ j, j < ob → sb.testBit j = true → BA bst bi j ≠ x) → P1 x = pad x ∧ S1 x = bst x) ∧ (∀ j, j < ob → sb.testBit j = true → P1 (BA bst bi j) = (PAYc lo bi ru ol ob fib gra res lst bst bid pri itm akf akg rf ro rs sb j) ∧ S1 (BA bst bi j) = 119) ∧ t1 = tk + isum sb.testBit (PAYc lo bi ru ol ob fib gra res lst bst bid pri itm akf akg rf ro rs sb) ob ∧ FI ol ob qx ln rv rm bn bd pr ic fl ux vx gp bx bvx gx wxx ∧ w2.Perm (CW G z f h ol ob sc (wc + cntB sb.testBit ob) t1 e0 k0 m0 e1 k1 m1 e2 k2 m2 lo bi ru la fib gra res lst byr ra rf ro rs ba bid wo pri S1 rea rvl P1 we wk wm itm ia akf akg gt (fW G f ol ob qx ln rv rm bn bd pr ic fl ux vx gp ++ (sW G h bx bvx gx wxx hhx ++ Y)))) := by
  refine Cv.intro (by decide) (Nat.le_of_ble_eq_true rfl) ?_
  intro p e s m args below meth c A X hW ls hl
  have hx := X.exec
  have hb := X.bytes
  have hl : lv_has ls 6 [(0, .ref (z 0)), (1, .int (nI sb)), (2, .int (zI (Sur lo bi ru ol ob fib gra res lst bst pri itm akf akg rf ro rs sb)))] := hl
  have hI9 := hI
  obtain ⟨hlo, hbi, hru, hol, hob, hfib, hgra, hres, hlst, hbst, hrea, hbid, hpri, hitm, hakf, hakg, hrf, hro, hrs, hol2, hob2⟩ := hI
  obtain ⟨glc, gbc, gql, gln, grv, gRS, gbn, gbd, gpr, gic, gfl, gqu, grc, ggp, gcf, gwt⟩ := id hF
  obtain ⟨-, -, kln, kbn, kAg⟩ := hG
  have hcb : cntB (isO bst) bi = ob := hob2
  have hsb : sb < 256 := Nat.lt_of_lt_of_le hB.1 (p2_256 hob)
  refine lv_iconst (v := nI 0) hx hb dX6_settlePayments_0 (by decide) ?_
  refine lv_istore_n (lv' := [(3, .int (nI 0)), (0, .ref (z 0)), (1, .int (nI sb)), (2, .int (zI (Sur lo bi ru ol ob fib gra res lst bst pri itm akf akg rf ro rs sb)))]) hx hb dX6_settlePayments_1 rfl hl (by decide) rfl (fun ls hl => ?_)
  have loop : ∀ (n : Nat) (k : Nat) (P1 : Nat → Int) (S1 : Nat → Nat) (t1 : Int) (qx : Nat) (ux vx wxx hhx gx : Nat → Nat) (bx : Nat) (bvx : Int) (w : va_W), ob + 1 ≤ k + n → k ≤ ob → (∀ x, (∀ j, j < k → sb.testBit j = true → BA bst bi j ≠ x) → P1 x = pad x ∧ S1 x = bst x) → (∀ j, j < k → sb.testBit j = true → P1 (BA bst bi j) = (PAYc lo bi ru ol ob fib gra res lst bst bid pri itm akf akg rf ro rs sb j) ∧ S1 (BA bst bi j) = 119) → t1 = tk + isum sb.testBit (PAYc lo bi ru ol ob fib gra res lst bst bid pri itm akf akg rf ro rs sb) k → FI ol ob qx ln rv rm bn bd pr ic fl ux vx gp bx bvx gx wxx → w.Perm (CW G z f h ol ob sc (wc + cntB sb.testBit k) t1 e0 k0 m0 e1 k1 m1 e2 k2 m2 lo bi ru la fib gra res lst byr ra rf ro rs ba bid wo pri S1 rea rvl P1 we wk wm itm ia akf akg gt (fW G f ol ob qx ln rv rm bn bd pr ic fl ux vx gp ++ (sW G h bx bvx gx wxx hhx ++ Y))) → ∀ (H : Heap) (locs : List Loc) (ls : Array Slot), Wd G A s w H locs → lv_has ls 6 [(0, .ref (z 0)), (1, .int (nI sb)), (2, .int (zI (Sur lo bi ru ol ob fib gra res lst bst pri itm akf akg rf ro rs sb))), (3, .int (nI k))] → W p l e (RM 16 0 0) s m args below meth c H locs 0 0 (MQ below (Qv G A (fun w2 => ∃ (P1 : Nat → Int) (S1 : Nat → Nat) (t1 : Int) (qx : Nat) (ux vx wxx hhx gx : Nat → Nat) (bx : Nat) (bvx : Int), (∀ x, (∀ j, j < ob → sb.testBit j = true → BA bst bi j ≠ x) → P1 x = pad x ∧ S1 x = bst x) ∧ (∀ j, j < ob → sb.testBit j = true → P1 (BA bst bi j) = (PAYc lo bi ru ol ob fib gra res lst bst bid pri itm akf akg rf ro rs sb j) ∧ S1 (BA bst bi j) = 119) ∧ t1 = tk + isum sb.testBit (PAYc lo bi ru ol ob fib gra res lst bst bid pri itm akf akg rf ro rs sb) ob ∧ FI ol ob qx ln rv rm bn bd pr ic fl ux vx gp bx bvx gx wxx ∧ w2.Perm (CW G z f h ol ob sc (wc + cntB sb.testBit ob) t1 e0 k0 m0 e1 k1 m1 e2 k2 m2 lo bi ru la fib gra res lst byr ra rf ro rs ba bid wo pri S1 rea rvl P1 we wk wm itm ia akf akg gt (fW G f ol ob qx ln rv rm bn bd pr ic fl ux vx gp ++ (sW G h bx bvx gx wxx hhx ++ Y))))) args s (RM 16 0 0).cells (RM 16 0 0).slots A) (F0 m 2 ls []) := by
    intro n
    induction n with
    | zero => intro k P1 S1 t1 qx ux vx wxx hhx gx bx bvx w hk1 hk2 g1 g2 g3 hF2 hc; exact absurd hk1 (by omega)
    | succ n ih =>
      intro k P1 S1 t1 qx ux vx wxx hhx gx bx bvx w hk1 hk2 g1 g2 g3 hF2 hc H locs ls hW hl
      obtain ⟨glc, gbc, gql, gln, grv, gRS, gbn, gbd, gpr, gic, gfl, gqu, grc, ggp, gcf, gwt⟩ := id hF2
      refine lv_iload_n hx hb dX6_settlePayments_2 rfl (lv_at hl 3 rfl) ?_
      refine lv_aload_n hx hb dX6_settlePayments_3 rfl (lv_at hl 0 rfl) ?_
      obtain ⟨q0, hq0⟩ := List.mem_iff_getElem?.mp (cw_mk hc)
      refine x_get X hW q0 hq0 3 rfl rfl iwX6 (by decide) wq_213 rfl dX6_settlePayments_4 ?_
      obtain ⟨q0, hq0⟩ := List.mem_iff_getElem?.mp (cw_in hc (List.mem_append_left _ (List.mem_of_getElem? (i := 0) rfl)))
      refine x_getN X hW q0 hq0 12 rfl rfl iwX1 (by decide) wq_153 rfl dX6_settlePayments_7 ?_
      refine n_icmp_ge hx hb rfl rfl (by omega) (by omega) (tgt := 129) dX6_settlePayments_10 (by decide) (fun c_10 => ?_) (fun c_10 => ?_)
      · have hkb : k = ob := by omega
        rw [hkb] at g1 g2 g3 hc
        exact ret_v X hW (⟨P1, S1, t1, qx, ux, vx, wxx, hhx, gx, bx, bvx, g1, g2, g3, hF2, hc⟩) rfl (by decide) (by decide) dX6_settlePayments_129
      · refine lv_aload_n hx hb dX6_settlePayments_13 rfl (lv_at hl 0 rfl) ?_
        obtain ⟨q0, hq0⟩ := List.mem_iff_getElem?.mp (cw_mk hc)
        refine x_get X hW q0 hq0 3 rfl rfl iwX6 (by decide) wq_213 rfl dX6_settlePayments_14 ?_
        obtain ⟨q0, hq0⟩ := List.mem_iff_getElem?.mp (cw_in hc (List.mem_append_left _ (List.mem_of_getElem? (i := 0) rfl)))
        refine x_getN X hW q0 hq0 3 rfl rfl iwX1 (by decide) wq_136 rfl dX6_settlePayments_17 ?_
        refine lv_iload_n hx hb dX6_settlePayments_20 rfl (lv_at hl 3 rfl) ?_
        obtain ⟨q0, hq0⟩ := List.mem_iff_getElem?.mp (cw_in hc (List.mem_append_left _ (List.mem_of_getElem? (i := 4) rfl)))
        refine n_iald X hW (n := 8) (f := bn) q0 hq0 (by omega) (by decide) dX6_settlePayments_21 ?_
        refine lv_istore (lv' := [(4, .int (nI (bn k))), (0, .ref (z 0)), (1, .int (nI sb)), (2, .int (zI (Sur lo bi ru ol ob fib gra res lst bst pri itm akf akg rf ro rs sb))), (3, .int (nI k))]) hx hb dX6_settlePayments_22 hl (by decide) rfl (fun ls hl => ?_)
        refine lv_iload_n hx hb dX6_settlePayments_24 rfl (lv_at hl 2 rfl) ?_
        refine lv_iconst (v := nI 1) hx hb dX6_settlePayments_25 (by decide) ?_
        refine lv_iload_n hx hb dX6_settlePayments_26 rfl (lv_at hl 4 rfl) ?_
        refine n_ishl1 hx hb (by omega) dX6_settlePayments_27 ?_
        refine n_iand hx hb dX6_settlePayments_28 ?_
        refine n_if_eq hx hb rfl (by have := and_lt (b := 2 ^ k) hsb; omega) (tgt := 123) dX6_settlePayments_29 (by decide) (fun c_29 => ?_) (fun c_29 => ?_)
        · refine lv_iinc (v := (nI (k + 1))) (lv' := [(3, .int (nI (k + 1))), (4, .int (nI (bn k))), (0, .ref (z 0)), (1, .int (nI sb)), (2, .int (zI (Sur lo bi ru ol ob fib gra res lst bst pri itm akf akg rf ro rs sb)))]) hx hb dX6_settlePayments_123 hl (k := 4) rfl (nI_add _ _) (by decide) rfl (fun ls hl => ?_)
          refine lv_goto (tgt := 2) hx hb dX6_settlePayments_126 (by decide) ?_
          have hbf := bit_f c_29
          exact ih (k + 1) P1 S1 t1 qx ux vx wxx hhx gx bx bvx w (by omega) (by omega) (fun x hx => g1 x (fun j hj => hx j (by omega))) (fun j hj hb9 => g2 j (by rcases Nat.lt_or_ge j k with q | q; exact q; rw [show j = k by omega, hbf] at hb9; exact absurd hb9 (by decide)) hb9) (by rw [isum_f hbf]; exact g3) hF2 (by rw [show cntB sb.testBit (k + 1) = cntB sb.testBit k from bsum_f hbf]; exact hc) _ _ _ hW (lv_sub hl [2, 3, 4, 0] rfl)
        · have hbt := bit_t c_29
          have ebk := kbn k (by omega)
          have hbk9 := hbid (bn k)
          have hbl : bn k < bi := by rw [ebk]; exact (opn_in (p := isO bst) (n := bi) (t := k) (by rw [hcb]; omega)).1
          refine lv_aload_n hx hb dX6_settlePayments_32 rfl (lv_at hl 1 rfl) ?_
          refine lv_iload hx hb dX6_settlePayments_33 (lv_at hl 0 rfl) ?_
          refine r_nz ?_
          obtain ⟨q0, hq0⟩ := List.mem_iff_getElem?.mp (cw_mk hc)
          refine go_i X hW (run_V X hW (As := [.int (zI (((bn k) : Nat) : Int))]) (rest := []) 9 q0 hq0 (c_X6_isBid l G _ _ _ _ _ _ _ _ _ _ _ _ _ _ _ _ _ _ _ _ _ _ _ _ _ _ _ _ _ _ _ _ _ _ _ _ _ _ _ _ _ _ _ _ _ _ _ _ (((bn k) : Nat) : Int) hc hbi (by omega) _) (gi_V wq_731 wq_733 wq_31 wq_61 wq_734) rfl hyX6_isBid rfl rfl rfl hl.1 (Nat.le_of_ble_eq_true rfl) ⟨Nat.le_of_ble_eq_true rfl, Nat.le_of_ble_eq_true rfl⟩ ⟨by decide, by decide⟩ dX6_settlePayments_35) (fun r w2 H locs hp hW => ?_)
          obtain ⟨hr0, hw2⟩ := hp
          subst hr0
          rw [hw2] at hW
          refine p_if_eq hx hb (tgt := 123) dX6_settlePayments_38 (by decide) (fun c_38 => absurd (show _ ∧ _ from ⟨by omega, by omega⟩) c_38) (fun c_38 => ?_)
          refine lv_aload_n hx hb dX6_settlePayments_41 rfl (lv_at hl 1 rfl) ?_
          obtain ⟨q0, hq0⟩ := List.mem_iff_getElem?.mp (cw_mk hc)
          refine x_get X hW q0 hq0 1 rfl rfl iwX6 (by decide) wq_211 rfl dX6_settlePayments_42 ?_
          refine lv_iload hx hb dX6_settlePayments_45 (lv_at hl 0 rfl) ?_
          obtain ⟨r9, hL1⟩ := cw_l1 hc
          obtain ⟨q0, hq0⟩ := List.mem_iff_getElem?.mp (ls_mem hL1)
          refine go_r X hW (run_V X hW (As := [.int (nI (bn k))]) (rest := []) 2 q0 hq0 (c_gtP hL1 h1 (by omega) _) (gi_V wq_273 wq_274 wq_275 wq_64 wq_276) rfl hyJx4a65c_get_915e3 rfl rfl rfl hl.1 (Nat.le_of_ble_eq_true rfl) ⟨Nat.le_of_ble_eq_true rfl, Nat.le_of_ble_eq_true rfl⟩ ⟨by decide, by decide⟩ dX6_settlePayments_47) (fun b w2 H locs hp hW => ?_)
          obtain ⟨hr0, hw2⟩ := hp
          subst hr0
          rw [hw2] at hW
          refine x_cast X hW (cw_bid hc (b := (bn k)) (by omega)) rfl wq_685 wq_292 dX6_settlePayments_50 ?_
          refine lv_astore (lv' := [(5, .ref (ba (bn k))), (4, .int (nI (bn k))), (0, .ref (z 0)), (1, .int (nI sb)), (2, .int (zI (Sur lo bi ru ol ob fib gra res lst bst pri itm akf akg rf ro rs sb))), (3, .int (nI k))]) hx hb dX6_settlePayments_53 hl (by decide) rfl (fun ls hl => ?_)
          refine lv_aload_n hx hb dX6_settlePayments_55 rfl (lv_at hl 2 rfl) ?_
          obtain ⟨q0, hq0⟩ := List.mem_iff_getElem?.mp (cw_mk hc)
          refine x_get X hW q0 hq0 4 rfl rfl iwX6 (by decide) wq_214 rfl dX6_settlePayments_56 ?_
          refine lv_aload_n hx hb dX6_settlePayments_59 rfl (lv_at hl 2 rfl) ?_
          obtain ⟨q0, hq0⟩ := List.mem_iff_getElem?.mp (cw_mk hc)
          refine x_get X hW q0 hq0 3 rfl rfl iwX6 (by decide) wq_213 rfl dX6_settlePayments_60 ?_
          refine lv_aload hx hb dX6_settlePayments_63 (lv_at hl 0 rfl) ?_
          obtain ⟨q0, hq0⟩ := List.mem_iff_getElem?.mp (cw_bid hc (b := (bn k)) (by omega))
          refine x_getN X hW q0 hq0 0 rfl rfl iwX0 (by decide) wq_693 rfl dX6_settlePayments_65 ?_
          refine r_nz ?_
          have hW : Wd G A s (fW G f ol ob qx ln rv rm bn bd pr ic fl ux vx gp ++ (sW G h bx bvx gx wxx hhx ++ CW G z f h ol ob sc (wc + cntB sb.testBit k) t1 e0 k0 m0 e1 k1 m1 e2 k2 m2 lo bi ru la fib gra res lst byr ra rf ro rs ba bid wo pri S1 rea rvl P1 we wk wm itm ia akf akg gt Y)) _ _ := hW.perm (hc.trans (cw_out2 _ _))
          refine go_v X hW (run_VN X hW (As := [.ref (f 0), .int (zI (((bid (bn k)) : Nat) : Int))]) (rest := []) 8 12 rfl (c_X5_findBest l G f h ol ob qx ln rv rm bn bd pr ic fl ux vx gp bx bvx gx wxx hhx (CW G z f h ol ob sc (wc + cntB sb.testBit k) t1 e0 k0 m0 e1 k1 m1 e2 k2 m2 lo bi ru la fib gra res lst byr ra rf ro rs ba bid wo pri S1 rea rvl P1 we wk wm itm ia akf akg gt Y) (((bid (bn k)) : Nat) : Int) glc gbc gql gbd gic gfl grv gqu grc gpr ⟨by omega, by first | omega | (have := hbid v.toNat; omega)⟩ gwt gcf (fun k hk => RS_lt gRS glc grv hk) (fun k => by have := gbn k; omega) _) wq_319 wq_321 wq_9 wq_66 wq_322 hyX5_findBest rfl rfl rfl hl.1 (Nat.le_of_ble_eq_true rfl) ⟨Nat.le_of_ble_eq_true rfl, Nat.le_of_ble_eq_true rfl⟩ ⟨by decide, by decide⟩ dX6_settlePayments_68) (fun w2 H locs hp hW => ?_)
          obtain ⟨q5, u5, v5, wx5, hh5, g5, a1, a2, a3, a4, a5, hw9⟩ := hp
          obtain ⟨hB, hS⟩ := fbS_best (rm := rm) (bd := bd) (ic := ic) (fl := fl) (rs := rv) (pr := pr) (((bid (bn k)) : Nat) : Int) glc gbc grv gRS
          rw [hS] at hw9
          clear hS
          generalize (fbS ol ob rm bd pr ic fl rv (((bid (bn k)) : Nat) : Int)).1 = b5 at hB hw9
          have hBb5 : BestIs lo bi ru ol ob fib gra res lst bst bid pri itm akf akg rf ro rs (((bid (bn k)) : Nat) : Int) b5 := kAg.isb hB
          clear hB
          rw [show VS ol rv ic fl pr b5 ob = (Sur lo bi ru ol ob fib gra res lst bst pri itm akf akg rf ro rs b5) from kAg.vs b5] at hw9
          rw [hw9] at hW
          have gql := a1
          have gqu := a2
          have grc := a3
          have gwt := a4
          have gcf := a5
          have hb95 : b5 < 256 := Nat.lt_of_lt_of_le hBb5.1 (p2_256 hob)
          obtain ⟨w, hW, hc⟩ : ∃ w9, Wd G A s w9 H locs ∧ w9.Perm (CW G z f h ol ob sc (wc + cntB sb.testBit k) t1 e0 k0 m0 e1 k1 m1 e2 k2 m2 lo bi ru la fib gra res lst byr ra rf ro rs ba bid wo pri S1 rea rvl P1 we wk wm itm ia akf akg gt (fW G f ol ob q5 ln rv rm bn bd pr ic fl u5 v5 gp ++ (sW G h b5 (Sur lo bi ru ol ob fib gra res lst bst pri itm akf akg rf ro rs b5) g5 wx5 hh5 ++ Y))) := ⟨_, hW, (cw_out2 _ _).symm⟩
          have e5 : b5 = (FBc lo bi ru ol ob fib gra res lst bst bid pri itm akf akg rf ro rs ((bid (BA bst bi k) : Nat) : Int)) := best_uniq (by rw [ebk] at hBb5; exact hBb5) (FBc_is hob _)
          refine lv_aload hx hb dX6_settlePayments_71 (lv_at hl 0 rfl) ?_
          refine lv_aload hx hb dX6_settlePayments_73 (lv_at hl 0 rfl) ?_
          obtain ⟨q0, hq0⟩ := List.mem_iff_getElem?.mp (cw_bid hc (b := (bn k)) (by omega))
          refine x_getN X hW q0 hq0 2 rfl rfl iwX0 (by decide) wq_697 rfl dX6_settlePayments_75 ?_
          refine lv_iload_n hx hb dX6_settlePayments_78 rfl (lv_at hl 4 rfl) ?_
          refine z_isub hx hb (nZ _) rfl dX6_settlePayments_79 ?_
          refine lv_aload_n hx hb dX6_settlePayments_80 rfl (lv_at hl 2 rfl) ?_
          obtain ⟨q0, hq0⟩ := List.mem_iff_getElem?.mp (cw_mk hc)
          refine x_get X hW q0 hq0 4 rfl rfl iwX6 (by decide) wq_214 rfl dX6_settlePayments_81 ?_
          obtain ⟨q0, hq0⟩ := List.mem_iff_getElem?.mp (cw_in hc (List.mem_append_right _ (List.mem_append_left _ (List.mem_of_getElem? (i := 0) rfl))))
          refine x_getN X hW q0 hq0 4 rfl rfl iwX5 (by decide) wq_197 rfl dX6_settlePayments_84 ?_
          refine z_iadd hx hb rfl rfl dX6_settlePayments_87 ?_
          have eV : (((((pri (bn k)) : Nat) : Int) - ((Sur lo bi ru ol ob fib gra res lst bst pri itm akf akg rf ro rs sb) : Int)) + ((Sur lo bi ru ol ob fib gra res lst bst pri itm akf akg rf ro rs b5) : Int)) = (PAYc lo bi ru ol ob fib gra res lst bst bid pri itm akf akg rf ro rs sb k) := by unfold PAYc; rw [ebk, e5]
          have hr1 := sur_rng (lo := lo) (bi := bi) (ru := ru) (ol := ol) (fib := fib) (gra := gra) (res := res) (lst := lst) (bst := bst) (itm := itm) (akf := akf) (akg := akg) (rf := rf) (ro := ro) (rs := rs) hob hpri sb
          have hr2 := sur_rng (lo := lo) (bi := bi) (ru := ru) (ol := ol) (fib := fib) (gra := gra) (res := res) (lst := lst) (bst := bst) (itm := itm) (akf := akf) (akg := akg) (rf := rf) (ro := ro) (rs := rs) hob hpri b5
          have hr3 := hpri (bn k)
          obtain ⟨q0, hq0⟩ := List.mem_iff_getElem?.mp (cw_bid hc (b := (bn k)) (by omega))
          refine x_putN X hW q0 hq0 6 (w2 := _) rfl rfl iwX0 tyX0_ok nmX0 (by decide) wq_704 rfl rfl rfl rfl (Nat.le_of_ble_eq_true rfl) dX6_settlePayments_88 (fun H locs hW => ?_)
          obtain ⟨w, hW, hc⟩ : ∃ w9, Wd G A s w9 H locs ∧ w9.Perm (CW G z f h ol ob sc (wc + cntB sb.testBit k) t1 e0 k0 m0 e1 k1 m1 e2 k2 m2 lo bi ru la fib gra res lst byr ra rf ro rs ba bid wo pri S1 rea rvl (va_up P1 (bn k) (((((pri (bn k)) : Nat) : Int) - ((Sur lo bi ru ol ob fib gra res lst bst pri itm akf akg rf ro rs sb) : Int)) + ((Sur lo bi ru ol ob fib gra res lst bst pri itm akf akg rf ro rs b5) : Int))) we wk wm itm ia akf akg gt (fW G f ol ob q5 ln rv rm bn bd pr ic fl u5 v5 gp ++ (sW G h b5 (Sur lo bi ru ol ob fib gra res lst bst pri itm akf akg rf ro rs b5) g5 wx5 hh5 ++ Y))) := ⟨_, hW, Fc.set (cw_pad hc (i := (bn k)) (by omega) (((((pri (bn k)) : Nat) : Int) - ((Sur lo bi ru ol ob fib gra res lst bst pri itm akf akg rf ro rs sb) : Int)) + ((Sur lo bi ru ol ob fib gra res lst bst pri itm akf akg rf ro rs b5) : Int))) hq0⟩
          refine lv_aload hx hb dX6_settlePayments_91 (lv_at hl 0 rfl) ?_
          refine lv_bipush (v := nI 119) hx hb dX6_settlePayments_93 (by decide) ?_
          obtain ⟨q0, hq0⟩ := List.mem_iff_getElem?.mp (cw_bid hc (b := (bn k)) (by omega))
          refine x_putN X hW q0 hq0 3 (w2 := _) rfl rfl iwX0 tyX0_ok nmX0 (by decide) wq_699 rfl rfl (pk_charN (by omega)).1 (pk_charN (by omega)).2 (Nat.le_of_ble_eq_true rfl) dX6_settlePayments_95 (fun H locs hW => ?_)
          obtain ⟨w, hW, hc⟩ : ∃ w9, Wd G A s w9 H locs ∧ w9.Perm (CW G z f h ol ob sc (wc + cntB sb.testBit k) t1 e0 k0 m0 e1 k1 m1 e2 k2 m2 lo bi ru la fib gra res lst byr ra rf ro rs ba bid wo pri (va_up S1 (bn k) 119) rea rvl (va_up P1 (bn k) (((((pri (bn k)) : Nat) : Int) - ((Sur lo bi ru ol ob fib gra res lst bst pri itm akf akg rf ro rs sb) : Int)) + ((Sur lo bi ru ol ob fib gra res lst bst pri itm akf akg rf ro rs b5) : Int))) we wk wm itm ia akf akg gt (fW G f ol ob q5 ln rv rm bn bd pr ic fl u5 v5 gp ++ (sW G h b5 (Sur lo bi ru ol ob fib gra res lst bst pri itm akf akg rf ro rs b5) g5 wx5 hh5 ++ Y))) := ⟨_, hW, Fc.set (cw_bst hc (i := (bn k)) (by omega) 119) hq0⟩
          refine lv_aload_n hx hb dX6_settlePayments_98 rfl (lv_at hl 2 rfl) ?_
          refine lv_dup hx hb dX6_settlePayments_99 rfl ?_
          obtain ⟨q0, hq0⟩ := List.mem_iff_getElem?.mp (cw_mk hc)
          refine x_get X hW q0 hq0 9 rfl rfl iwX6 (by decide) wq_219 rfl dX6_settlePayments_100 ?_
          refine lv_aload hx hb dX6_settlePayments_103 (lv_at hl 0 rfl) ?_
          obtain ⟨q0, hq0⟩ := List.mem_iff_getElem?.mp (cw_bid hc (b := (bn k)) (by omega))
          refine x_getN X hW q0 hq0 6 rfl rfl iwX0 (by decide) wq_704 rfl dX6_settlePayments_105 ?_
          rw [va_up_self]
          refine lv_i2l (v := lZ (((((pri (bn k)) : Nat) : Int) - ((Sur lo bi ru ol ob fib gra res lst bst pri itm akf akg rf ro rs sb) : Int)) + ((Sur lo bi ru ol ob fib gra res lst bst pri itm akf akg rf ro rs b5) : Int))) hx hb dX6_settlePayments_108 (i2l_z (by omega)) ?_
          refine lv_ladd hx hb dX6_settlePayments_109 ?_
          rw [lZ_add]
          obtain ⟨q0, hq0⟩ := List.mem_iff_getElem?.mp (cw_mk hc)
          refine x_put X hW q0 hq0 9 (w2 := _) rfl rfl iwX6 tyX6_ok nmX6 (by decide) wq_219 rfl rfl rfl rfl (Nat.le_of_ble_eq_true rfl) dX6_settlePayments_110 (fun H locs hW => ?_)
          obtain ⟨w, hW, hc⟩ : ∃ w9, Wd G A s w9 H locs ∧ w9.Perm (CW G z f h ol ob sc (wc + cntB sb.testBit k) (t1 + (((((pri (bn k)) : Nat) : Int) - ((Sur lo bi ru ol ob fib gra res lst bst pri itm akf akg rf ro rs sb) : Int)) + ((Sur lo bi ru ol ob fib gra res lst bst pri itm akf akg rf ro rs b5) : Int))) e0 k0 m0 e1 k1 m1 e2 k2 m2 lo bi ru la fib gra res lst byr ra rf ro rs ba bid wo pri (va_up S1 (bn k) 119) rea rvl (va_up P1 (bn k) (((((pri (bn k)) : Nat) : Int) - ((Sur lo bi ru ol ob fib gra res lst bst pri itm akf akg rf ro rs sb) : Int)) + ((Sur lo bi ru ol ob fib gra res lst bst pri itm akf akg rf ro rs b5) : Int))) we wk wm itm ia akf akg gt (fW G f ol ob q5 ln rv rm bn bd pr ic fl u5 v5 gp ++ (sW G h b5 (Sur lo bi ru ol ob fib gra res lst bst pri itm akf akg rf ro rs b5) g5 wx5 hh5 ++ Y))) := ⟨_, hW, Fc.set (cw_mkU hc ol ob sc (wc + cntB sb.testBit k) (t1 + (((((pri (bn k)) : Nat) : Int) - ((Sur lo bi ru ol ob fib gra res lst bst pri itm akf akg rf ro rs sb) : Int)) + ((Sur lo bi ru ol ob fib gra res lst bst pri itm akf akg rf ro rs b5) : Int)))) hq0⟩
          refine lv_aload_n hx hb dX6_settlePayments_113 rfl (lv_at hl 2 rfl) ?_
          refine lv_dup hx hb dX6_settlePayments_114 rfl ?_
          obtain ⟨q0, hq0⟩ := List.mem_iff_getElem?.mp (cw_mk hc)
          refine x_get X hW q0 hq0 8 rfl rfl iwX6 (by decide) wq_218 rfl dX6_settlePayments_115 ?_
          refine lv_iconst (v := nI 1) hx hb dX6_settlePayments_118 (by decide) ?_
          refine n_iadd hx hb dX6_settlePayments_119 ?_
          obtain ⟨q0, hq0⟩ := List.mem_iff_getElem?.mp (cw_mk hc)
          refine x_put X hW q0 hq0 8 (w2 := _) rfl rfl iwX6 tyX6_ok nmX6 (by decide) wq_218 rfl rfl rfl rfl (Nat.le_of_ble_eq_true rfl) dX6_settlePayments_120 (fun H locs hW => ?_)
          obtain ⟨w, hW, hc⟩ : ∃ w9, Wd G A s w9 H locs ∧ w9.Perm (CW G z f h ol ob sc ((wc + cntB sb.testBit k) + 1) (t1 + (((((pri (bn k)) : Nat) : Int) - ((Sur lo bi ru ol ob fib gra res lst bst pri itm akf akg rf ro rs sb) : Int)) + ((Sur lo bi ru ol ob fib gra res lst bst pri itm akf akg rf ro rs b5) : Int))) e0 k0 m0 e1 k1 m1 e2 k2 m2 lo bi ru la fib gra res lst byr ra rf ro rs ba bid wo pri (va_up S1 (bn k) 119) rea rvl (va_up P1 (bn k) (((((pri (bn k)) : Nat) : Int) - ((Sur lo bi ru ol ob fib gra res lst bst pri itm akf akg rf ro rs sb) : Int)) + ((Sur lo bi ru ol ob fib gra res lst bst pri itm akf akg rf ro rs b5) : Int))) we wk wm itm ia akf akg gt (fW G f ol ob q5 ln rv rm bn bd pr ic fl u5 v5 gp ++ (sW G h b5 (Sur lo bi ru ol ob fib gra res lst bst pri itm akf akg rf ro rs b5) g5 wx5 hh5 ++ Y))) := ⟨_, hW, Fc.set (cw_mkU hc ol ob sc ((wc + cntB sb.testBit k) + 1) (t1 + (((((pri (bn k)) : Nat) : Int) - ((Sur lo bi ru ol ob fib gra res lst bst pri itm akf akg rf ro rs sb) : Int)) + ((Sur lo bi ru ol ob fib gra res lst bst pri itm akf akg rf ro rs b5) : Int)))) hq0⟩
          refine lv_iinc (v := (nI (k + 1))) (lv' := [(3, .int (nI (k + 1))), (5, .ref (ba (bn k))), (4, .int (nI (bn k))), (0, .ref (z 0)), (1, .int (nI sb)), (2, .int (zI (Sur lo bi ru ol ob fib gra res lst bst pri itm akf akg rf ro rs sb)))]) hx hb dX6_settlePayments_123 hl (k := 5) rfl (nI_add _ _) (by decide) rfl (fun ls hl => ?_)
          refine lv_goto (tgt := 2) hx hb dX6_settlePayments_126 (by decide) ?_
          exact ih (k + 1) (va_up P1 (bn k) (((((pri (bn k)) : Nat) : Int) - ((Sur lo bi ru ol ob fib gra res lst bst pri itm akf akg rf ro rs sb) : Int)) + ((Sur lo bi ru ol ob fib gra res lst bst pri itm akf akg rf ro rs b5) : Int))) (va_up S1 (bn k) 119) (t1 + (((((pri (bn k)) : Nat) : Int) - ((Sur lo bi ru ol ob fib gra res lst bst pri itm akf akg rf ro rs sb) : Int)) + ((Sur lo bi ru ol ob fib gra res lst bst pri itm akf akg rf ro rs b5) : Int))) q5 u5 v5 wx5 hh5 g5 b5 (Sur lo bi ru ol ob fib gra res lst bst pri itm akf akg rf ro rs b5) w (by omega) (by omega) (fun x hx => by
            have hxk := hx k (by omega) hbt
            rw [ebk, va_up_ne _ _ (Ne.symm hxk), va_up_ne _ _ (Ne.symm hxk)]; exact g1 x (fun j hj => hx j (by omega))) (fun j hj hb9 => by
            rw [ebk]
            by_cases hq : j = k
            · rw [hq, va_up_self, va_up_self]; exact ⟨by rw [← ebk]; exact eV, rfl⟩
            · have hne : BA bst bi j ≠ BA bst bi k := fun q => hq (ba_inj hcb (by omega) (by omega) q)
              rw [va_up_ne _ _ hne, va_up_ne _ _ hne]; exact g2 j (by omega) hb9) (by rw [isum_t hbt, ← eV, g3, Int.add_assoc]) ⟨glc, gbc, gql, gln, grv, gRS, gbn, gbd, gpr, gic, gfl, gqu, grc, ggp, gcf, gwt⟩ (by rw [show cntB sb.testBit (k + 1) = cntB sb.testBit k + 1 from bsum_t hbt, ← Nat.add_assoc]; exact hc) _ _ _ hW (lv_sub hl [3, 4, 5, 0] rfl)
  exact loop (ob + 1) 0 pad bst tk ql qu rc wt ho cf bs bv w (by omega) (by omega) (fun _ _ => ⟨rfl, rfl⟩) (fun j hj => absurd hj (by omega)) (by show tk = tk + 0; omega) hF hc _ _ _ hW (lv_sub hl [1, 2, 3, 0] rfl)

