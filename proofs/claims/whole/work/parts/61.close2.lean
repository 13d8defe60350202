/-- the items of a set, in their order; the lot of each -/
def UTc (ob : Nat) (itm bst : Nat → Nat) (bi sb x : Nat) : Nat := qf (its sb.testBit (fBD itm bst bi) (fun q => 3 * BA bst bi (q / 3) + q % 3) ob) x
def KTc (lo bi ru ol ob : Nat) (fib gra res lst bst bid pri itm akf akg rf ro rs : Nat → Nat) (sb x : Nat) : Nat := LA lst lo (gvl (qf (its sb.testBit (fBD itm bst bi) (fFL fib gra rf ro rs ru akf akg lst lo bst bi ol) ob)) (bsum sb.testBit (fBD itm bst bi) ob) ol (fRS res lst lo) x)
/-- what is given after m items -/
def HO (UT KT : Nat → Nat) (gt byr : Nat → Int) (lst : Nat → Nat) (G B : Nat → Int) (L : Nat → Nat) (m : Nat) : Prop := (∀ x, x < m → G (UT x) = ((KT x : Nat) : Int) ∧ B (KT x) = ((UT x / 3 : Nat) : Int) ∧ L (KT x) = 115) ∧ (∀ y, (∀ x, x < m → UT x ≠ y) → G y = gt y) ∧ ∀ y, (∀ x, x < m → KT x ≠ y) → B y = byr y ∧ L y = lst y
theorem HO_0 {UT KT : Nat → Nat} {gt byr : Nat → Int} {lst : Nat → Nat} : HO UT KT gt byr lst gt byr lst 0 := ⟨fun x hx => absurd hx (Nat.not_lt_zero x), fun _ _ => rfl, fun _ _ => ⟨rfl, rfl⟩⟩
theorem HO_step {UT KT : Nat → Nat} {gt byr : Nat → Int} {lst : Nat → Nat} {G B : Nat → Int} {L : Nat → Nat} {m mn : Nat} (hm : m < mn) (hu : ∀ x y, x < mn → y < mn → UT x = UT y → x = y) (hk : ∀ x y, x < mn → y < mn → KT x = KT y → x = y) (h : HO UT KT gt byr lst G B L m) : HO UT KT gt byr lst (va_up G (UT m) ((KT m : Nat) : Int)) (va_up B (KT m) ((UT m / 3 : Nat) : Int)) (va_up L (KT m) 115) (m + 1) := by
  obtain ⟨h1, h2, h3⟩ := h
  refine ⟨fun x hx => ?_, fun y hy => ?_, fun y hy => ?_⟩
  · by_cases q : x = m
    · rw [q, va_up_self, va_up_self, va_up_self]; exact ⟨rfl, rfl, rfl⟩
    · rw [va_up_ne _ _ (fun e => q (hu x m (by omega) hm e)), va_up_ne _ _ (fun e => q (hk x m (by omega) hm e)), va_up_ne _ _ (fun e => q (hk x m (by omega) hm e))]
      exact h1 x (by omega)
  · rw [va_up_ne _ _ (Ne.symm (hy m (by omega)))]
    exact h2 y (fun x hx => hy x (by omega))
  · rw [va_up_ne _ _ (Ne.symm (hy m (by omega))), va_up_ne _ _ (Ne.symm (hy m (by omega)))]
    exact h3 y (fun x hx => hy x (by omega))
theorem ut_at {ob bi sb k i : Nat} {itm bst : Nat → Nat} (hi3 : ∀ k, itm k ≤ 3) (hk : k < ob) (hp : sb.testBit k = true) (hi : i < itm (BA bst bi k)) : bsum sb.testBit (fBD itm bst bi) k + i < bsum sb.testBit (fBD itm bst bi) ob ∧ UTc ob itm bst bi sb (bsum sb.testBit (fBD itm bst bi) k + i) = 3 * BA bst bi k + i := by
  obtain ⟨h1, h2⟩ := its_val (p := sb.testBit) (ic := fBD itm bst bi) (fl := fun q => 3 * BA bst bi (q / 3) + q % 3) hk hp hi
  refine ⟨h1, ?_⟩
  have h3 := Nat.lt_of_lt_of_le hi (hi3 _)
  unfold UTc
  rw [h2, show (k * 3 + i) / 3 = k by omega, show (k * 3 + i) % 3 = i by omega]
theorem ut_inj {ob bi sb : Nat} {itm bst : Nat → Nat} (hi3 : ∀ k, itm k ≤ 3) (hcb : cntB (isO bst) bi = ob) (x y : Nat) (hx : x < bsum sb.testBit (fBD itm bst bi) ob) (hy : y < bsum sb.testBit (fBD itm bst bi) ob) (e : UTc ob itm bst bi sb x = UTc ob itm bst bi sb y) : x = y := by
  obtain ⟨k, i, j1, j2, j3, j4⟩ := its_dec hy
  rw [j4]
  refine its_wf (ba := BA bst bi) (fun k => hi3 _) (fun a b ha hb q => ba_inj hcb ha hb q) hx j1 j2 j3 ?_
  show UTc ob itm bst bi sb x = _
  rw [e, j4]
  exact (ut_at hi3 j1 j2 j3).2
theorem kt_ok {lo bi ru ol ob sb : Nat} {fib gra res lst bst bid pri itm akf akg rf ro rs : Nat → Nat} (hol : ol ≤ 8) (hres : ∀ k, res k ≤ 999) (hcl : cntB (isO lst) lo = ol) (hB : BestIs lo bi ru ol ob fib gra res lst bst bid pri itm akf akg rf ro rs (-1) sb) :
    bsum sb.testBit (fBD itm bst bi) ob ≤ ol ∧ (∀ x, x < bsum sb.testBit (fBD itm bst bi) ob → (KTc lo bi ru ol ob fib gra res lst bst bid pri itm akf akg rf ro rs sb) x < lo ∧ lst ((KTc lo bi ru ol ob fib gra res lst bst bid pri itm akf akg rf ro rs sb) x) = 111) ∧ ∀ x y, x < bsum sb.testBit (fBD itm bst bi) ob → y < bsum sb.testBit (fBD itm bst bi) ob → (KTc lo bi ru ol ob fib gra res lst bst bid pri itm akf akg rf ro rs sb) x = (KTc lo bi ru ol ob fib gra res lst bst bid pri itm akf akg rf ro rs sb) y → x = y := by
  obtain ⟨q1, q2⟩ := PS_cost hol (fun k => hres _) hB.2.1
  refine ⟨q1, fun x hx => ?_, fun x y hx hy e => ?_⟩
  · have h := opn_in (p := isO lst) (n := lo) (t := (gvl (qf (its sb.testBit (fBD itm bst bi) (fFL fib gra rf ro rs ru akf akg lst lo bst bi ol) ob)) (bsum sb.testBit (fBD itm bst bi) ob) ol (fRS res lst lo) x)) (by rw [hcl]; exact (gvl_ok hol q2 hx).1)
    exact ⟨h.1, of_decide_eq_true h.2⟩
  · exact gvl_inj hol q2 hx hy (opn_inj (p := isO lst) (n := lo) (by rw [hcl]; exact (gvl_ok hol q2 hx).1) (by rw [hcl]; exact (gvl_ok hol q2 hy).1) e)
set_option maxRecDepth 100000 in
set_option maxHeartbeats 4000000 in
theorem c_X6_handOutLotsTo (l : Launch) (G : Gt) (z f h : Nat → Nat) (ol ob sc wc : Nat) (tk : Int) (e0 k0 m0 e1 k1 m1 e2 k2 m2 lo bi ru : Nat) (la fib gra res lst : Nat → Nat) (byr : Nat → Int) (ra rf ro rs : Nat → Nat) (ba bid wo pri bst rea : Nat → Nat) (rvl pad : Nat → Int) (we wk wm itm ia akf akg : Nat → Nat) (gt : Nat → Int) (lc bc ql : Nat) (ln rv rm bn bd pr ic fl qu rc : Nat → Nat) (gp : Nat → Int) (bs : Nat) (bv : Int) (cf wt ho : Nat → Nat) (Y w : va_W) (Lx S1 R1 : Nat → Nat) (Bx Gx P1 V1 : Nat → Int) (sb k : Nat) (hc : w.Perm (CW G z f h ol ob sc wc tk e0 k0 m0 e1 k1 m1 e2 k2 m2 lo bi ru la fib gra res Lx Bx ra rf ro rs ba bid wo pri S1 R1 V1 P1 we wk wm itm ia akf akg Gx (fW G f ol ob (bsum sb.testBit ic ob) ln rv rm bn bd pr ic fl qu rc gp ++ (sW G h bs bv cf wt ho ++ Y)))) (h0 : LsOK G e0 k0 lo) (h1 : LsOK G e1 k1 bi) (h3 : ∀ b, b < bi → LsOK G (we b) (wk b) (itm b)) (hI : CIa lo bi ru ol ob fib gra res lst bst rea bid pri itm akf akg rf ro rs) (hF : FI ol ob (bsum sb.testBit ic ob) ln rv rm bn bd pr ic fl qu rc gp bs bv cf wt) (hG : FFl lo bi ru ol ob fib gra res lst bst bid pri itm akf akg rf ro rs ol ob ln rv bn bd pr ic fl) (hB : BestIs lo bi ru ol ob fib gra res lst bst bid pri itm akf akg rf ro rs (-1) sb) (hgp : ∀ i, i < (bsum sb.testBit ic ob) → gp i = ((gvl (qf (its sb.testBit ic fl ob)) (bsum sb.testBit ic ob) ol rv i : Nat) : Int)) (hk : k < ob) (hbit : sb.testBit k = true) (hH : HO (UTc ob itm bst bi sb) (KTc lo bi ru ol ob fib gra res lst bst bid pri itm akf akg rf ro rs sb) gt byr lst Gx Bx Lx (bsum sb.testBit (fBD itm bst bi) k)) : Ci l G yX6_handOutLotsTo (ww yX6_handOutLotsTo cX6_handOutLotsTo 8 (some FieldType.int)) (RM 8 0 0) [.ref (z 0), .int (nI sb), .int (nI k)] w (fun r w2 => r = nI (itm (BA bst bi k)) ∧ ∃ (Ly : Nat → Nat) (By Gy : Nat → Int), HO (UTc ob itm bst bi sb) (KTc lo bi ru ol ob fib gra res lst bst bid pri itm akf akg rf ro rs sb) gt byr lst Gy By Ly ((bsum sb.testBit (fBD itm bst bi) k) + itm (BA bst bi k)) ∧ w2.Perm (CW G z f h ol ob sc wc tk e0 k0 m0 e1 k1 m1 e2 k2 m2 lo bi ru la fib gra res Ly By ra rf ro rs ba bid wo pri S1 R1 V1 P1 we wk wm itm ia akf akg Gy (fW G f ol ob (bsum sb.testBit ic ob) ln rv rm bn bd pr ic fl qu rc gp ++ (sW G h bs bv cf wt ho ++ Y)))) := by
  refine Ci.intro (by decide) (Nat.le_of_ble_eq_true rfl) ?_
  intro p e s m args below meth c A X hW ls hl
  have hx := X.exec
  have hb := X.bytes
  have hl : lv_has ls 8 [(0, .ref (z 0)), (1, .int (nI sb)), (2, .int (nI k))] := hl
  have hI9 := hI
  obtain ⟨hlo, hbi, hru, hol, hob, hfib, hgra, hres, hlst, hbst, hrea, hbid, hpri, hitm, hakf, hakg, hrf, hro, hrs, hol2, hob2⟩ := hI
  obtain ⟨glc, gbc, gql, gln, grv, gRS, gbn, gbd, gpr, gic, gfl, gqu, grc, ggp, gcf, gwt⟩ := id hF
  obtain ⟨-, -, kln, kbn, kAg⟩ := hG
  have hcb : cntB (isO bst) bi = ob := hob2
  have hcl : cntB (isO lst) lo = ol := hol2
  have hsb : sb < 256 := Nat.lt_of_lt_of_le hB.1 (p2_256 hob)
  have hkt := kt_ok hol hres hcl hB
  obtain ⟨j1, j2, j3, j4, j5⟩ := give_ok hol grv kAg hB
  have ebk := kbn k hk
  have hbl : bn k < bi := by rw [ebk]; exact (opn_in (p := isO bst) (n := bi) (t := k) (by rw [hcb]; omega)).1
  have hi9 := hitm (bn k)
  have hi7 := hitm (BA bst bi k)
  have eit : itm (bn k) = itm (BA bst bi k) := by rw [ebk]
  refine lv_aload_n hx hb dX6_handOutLotsTo_0 rfl (lv_at hl 0 rfl) ?_
  obtain ⟨q0, hq0⟩ := List.mem_iff_getElem?.mp (cw_mk hc)
  refine x_get X hW q0 hq0 3 rfl rfl iwX6 (by decide) wq_213 rfl dX6_handOutLotsTo_1 ?_
  obtain ⟨q0, hq0⟩ := List.mem_iff_getElem?.mp (cw_in hc (List.mem_append_left _ (List.mem_of_getElem? (i := 0) rfl)))
  refine x_getN X hW q0 hq0 3 rfl rfl iwX1 (by decide) wq_136 rfl dX6_handOutLotsTo_4 ?_
  refine lv_iload_n hx hb dX6_handOutLotsTo_7 rfl (lv_at hl 2 rfl) ?_
  obtain ⟨q0, hq0⟩ := List.mem_iff_getElem?.mp (cw_in hc (List.mem_append_left _ (List.mem_of_getElem? (i := 4) rfl)))
  refine n_iald X hW (n := 8) (f := bn) q0 hq0 (by omega) (by decide) dX6_handOutLotsTo_8 ?_
  refine lv_istore_n (lv' := [(3, .int (nI (bn k))), (0, .ref (z 0)), (1, .int (nI sb)), (2, .int (nI k))]) hx hb dX6_handOutLotsTo_9 rfl hl (by decide) rfl (fun ls hl => ?_)
  refine lv_aload_n hx hb dX6_handOutLotsTo_10 rfl (lv_at hl 1 rfl) ?_
  refine lv_iload_n hx hb dX6_handOutLotsTo_11 rfl (lv_at hl 0 rfl) ?_
  refine r_nz ?_
  obtain ⟨q0, hq0⟩ := List.mem_iff_getElem?.mp (cw_mk hc)
  refine go_i X hW (run_V X hW (As := [.int (zI (((bn k) : Nat) : Int))]) (rest := []) 9 q0 hq0 (c_X6_isBid l G _ _ _ _ _ _ _ _ _ _ _ _ _ _ _ _ _ _ _ _ _ _ _ _ _ _ _ _ _ _ _ _ _ _ _ _ _ _ _ _ _ _ _ _ _ _ _ _ (((bn k) : Nat) : Int) hc hbi (by omega) _) (gi_V wq_731 wq_733 wq_31 wq_61 wq_734) rfl hyX6_isBid rfl rfl rfl hl.1 (Nat.le_of_ble_eq_true rfl) ⟨Nat.le_of_ble_eq_true rfl, Nat.le_of_ble_eq_true rfl⟩ ⟨by decide, by decide⟩ dX6_handOutLotsTo_12) (fun r w2 H locs hp hW => ?_)
  obtain ⟨hr0, hw2⟩ := hp
  subst hr0
  rw [hw2] at hW
  refine p_if_ne hx hb (tgt := 20) dX6_handOutLotsTo_15 (by decide) (fun c_15 => ?_) (fun c_15 => absurd (show _ ∧ _ from ⟨by omega, by omega⟩) c_15)
  refine lv_aload_n hx hb dX6_handOutLotsTo_20 rfl (lv_at hl 1 rfl) ?_
  obtain ⟨q0, hq0⟩ := List.mem_iff_getElem?.mp (cw_mk hc)
  refine x_get X hW q0 hq0 1 rfl rfl iwX6 (by decide) wq_211 rfl dX6_handOutLotsTo_21 ?_
  refine lv_iload_n hx hb dX6_handOutLotsTo_24 rfl (lv_at hl 0 rfl) ?_
  obtain ⟨r9, hL1⟩ := cw_l1 hc
  obtain ⟨q0, hq0⟩ := List.mem_iff_getElem?.mp (ls_mem hL1)
  refine go_r X hW (run_V X hW (As := [.int (nI (bn k))]) (rest := []) 2 q0 hq0 (c_gtP hL1 h1 (by omega) _) (gi_V wq_273 wq_274 wq_275 wq_64 wq_276) rfl hyJx4a65c_get_915e3 rfl rfl rfl hl.1 (Nat.le_of_ble_eq_true rfl) ⟨Nat.le_of_ble_eq_true rfl, Nat.le_of_ble_eq_true rfl⟩ ⟨by decide, by decide⟩ dX6_handOutLotsTo_25) (fun b w2 H locs hp hW => ?_)
  obtain ⟨hr0, hw2⟩ := hp
  subst hr0
  rw [hw2] at hW
  refine x_cast X hW (cw_bid hc (b := (bn k)) (by omega)) rfl wq_685 wq_292 dX6_handOutLotsTo_28 ?_
  obtain ⟨q0, hq0⟩ := List.mem_iff_getElem?.mp (cw_bid hc (b := (bn k)) (by omega))
  refine x_getN X hW q0 hq0 1 rfl rfl iwX0 (by decide) wq_695 rfl dX6_handOutLotsTo_31 ?_
  refine lv_astore (lv' := [(4, .ref (wo (bn k))), (3, .int (nI (bn k))), (0, .ref (z 0)), (1, .int (nI sb)), (2, .int (nI k))]) hx hb dX6_handOutLotsTo_34 hl (by decide) rfl (fun ls hl => ?_)
  refine lv_iconst (v := nI 0) hx hb dX6_handOutLotsTo_36 (by decide) ?_
  refine lv_istore (lv' := [(5, .int (nI 0)), (4, .ref (wo (bn k))), (3, .int (nI (bn k))), (0, .ref (z 0)), (1, .int (nI sb)), (2, .int (nI k))]) hx hb dX6_handOutLotsTo_37 hl (by decide) rfl (fun ls hl => ?_)
  refine lv_iconst (v := nI 0) hx hb dX6_handOutLotsTo_39 (by decide) ?_
  refine lv_istore (lv' := [(6, .int (nI 0)), (5, .int (nI 0)), (4, .ref (wo (bn k))), (3, .int (nI (bn k))), (0, .ref (z 0)), (1, .int (nI sb)), (2, .int (nI k))]) hx hb dX6_handOutLotsTo_40 hl (by decide) rfl (fun ls hl => ?_)
  have loop : ∀ (n : Nat) (i : Nat) (Ly : Nat → Nat) (By Gy : Nat → Int) (w : va_W), itm (BA bst bi k) + 1 ≤ i + n → i ≤ itm (BA bst bi k) → HO (UTc ob itm bst bi sb) (KTc lo bi ru ol ob fib gra res lst bst bid pri itm akf akg rf ro rs sb) gt byr lst Gy By Ly ((bsum sb.testBit (fBD itm bst bi) k) + i) → w.Perm (CW G z f h ol ob sc wc tk e0 k0 m0 e1 k1 m1 e2 k2 m2 lo bi ru la fib gra res Ly By ra rf ro rs ba bid wo pri S1 R1 V1 P1 we wk wm itm ia akf akg Gy (fW G f ol ob (bsum sb.testBit ic ob) ln rv rm bn bd pr ic fl qu rc gp ++ (sW G h bs bv cf wt ho ++ Y))) → ∀ (H : Heap) (locs : List Loc) (ls : Array Slot), Wd G A s w H locs → lv_has ls 8 [(0, .ref (z 0)), (1, .int (nI sb)), (2, .int (nI k)), (3, .int (nI (bn k))), (4, .ref (wo (bn k))), (5, .int (nI i)), (6, .int (nI i))] → W p l e (RM 8 0 0) s m args below meth c H locs 0 0 (MQ below (Qi G A (fun r w2 => r = nI (itm (BA bst bi k)) ∧ ∃ (Ly : Nat → Nat) (By Gy : Nat → Int), HO (UTc ob itm bst bi sb) (KTc lo bi ru ol ob fib gra res lst bst bid pri itm akf akg rf ro rs sb) gt byr lst Gy By Ly ((bsum sb.testBit (fBD itm bst bi) k) + itm (BA bst bi k)) ∧ w2.Perm (CW G z f h ol ob sc wc tk e0 k0 m0 e1 k1 m1 e2 k2 m2 lo bi ru la fib gra res Ly By ra rf ro rs ba bid wo pri S1 R1 V1 P1 we wk wm itm ia akf akg Gy (fW G f ol ob (bsum sb.testBit ic ob) ln rv rm bn bd pr ic fl qu rc gp ++ (sW G h bs bv cf wt ho ++ Y))))) args s (RM 8 0 0).cells (RM 8 0 0).slots A) (F0 m 42 ls []) := by
    intro n
    induction n with
    | zero => intro i Ly By Gy w hk1 hk2 hO hc; exact absurd hk1 (by omega)
    | succ n ih =>
      intro i Ly By Gy w hk1 hk2 hO hc H locs ls hW hl
      have hi8 : i ≤ 3 := Nat.le_trans hk2 (hitm _)
      refine lv_iload hx hb dX6_handOutLotsTo_42 (lv_at hl 6 rfl) ?_
      refine lv_aload hx hb dX6_handOutLotsTo_44 (lv_at hl 4 rfl) ?_
      obtain ⟨r9, hLw⟩ := cw_wl hc (b := (bn k)) (by omega)
      obtain ⟨q0, hq0⟩ := List.mem_iff_getElem?.mp (ls_mem hLw)
      refine go_i X hW (run_V X hW (As := []) (rest := [.int (nI i)]) 2 q0 hq0 (c_szP hLw _) (gi_V wq_245 wq_246 wq_247 wq_64 wq_248) rfl hyJx4a65c_size_8abf5 rfl rfl rfl hl.1 (Nat.le_of_ble_eq_true rfl) ⟨Nat.le_of_ble_eq_true rfl, Nat.le_of_ble_eq_true rfl⟩ ⟨by decide, by decide⟩ dX6_handOutLotsTo_46) (fun r w2 H locs hp hW => ?_)
      obtain ⟨hr0, hw2⟩ := hp
      subst hr0
      rw [hw2] at hW
      refine n_icmp_ge hx hb rfl rfl (by omega) (by omega) (tgt := 131) dX6_handOutLotsTo_49 (by decide) (fun c_49 => ?_) (fun c_49 => ?_)
      · have hie : i = itm (BA bst bi k) := by rw [← ebk] at hk2 ⊢; omega
        refine lv_iload hx hb dX6_handOutLotsTo_131 (lv_at hl 5 rfl) ?_
        exact ret_i X hW (v := (nI i)) (⟨by rw [hie], Ly, By, Gy, by rw [← hie]; exact hO, hc⟩) rfl (by decide) (by decide) dX6_handOutLotsTo_133
      · have hut := ut_at (ob := ob) (bi := bi) (bst := bst) hitm hk hbit (show i < itm (BA bst bi k) by rw [← ebk]; omega)
        refine lv_aload_n hx hb dX6_handOutLotsTo_52 rfl (lv_at hl 0 rfl) ?_
        obtain ⟨q0, hq0⟩ := List.mem_iff_getElem?.mp (cw_mk hc)
        refine x_get X hW q0 hq0 3 rfl rfl iwX6 (by decide) wq_213 rfl dX6_handOutLotsTo_53 ?_
        refine lv_iload_n hx hb dX6_handOutLotsTo_56 rfl (lv_at hl 1 rfl) ?_
        refine lv_iload_n hx hb dX6_handOutLotsTo_57 rfl (lv_at hl 2 rfl) ?_
        refine lv_iload hx hb dX6_handOutLotsTo_58 (lv_at hl 6 rfl) ?_
        have hW : Wd G A s (fW G f ol ob (bsum sb.testBit ic ob) ln rv rm bn bd pr ic fl qu rc gp ++ (sW G h bs bv cf wt ho ++ CW G z f h ol ob sc wc tk e0 k0 m0 e1 k1 m1 e2 k2 m2 lo bi ru la fib gra res Ly By ra rf ro rs ba bid wo pri S1 R1 V1 P1 we wk wm itm ia akf akg Gy Y)) _ _ := hW.perm (hc.trans (cw_out2 _ _))
        refine go_i X hW (run_VN X hW (As := [.int (nI sb), .int (nI k), .int (nI i)]) (rest := []) 4 0 rfl (c_X1_lotGiven l G f ol ob (bsum sb.testBit ic ob) ln rv rm bn bd pr ic fl qu rc gp (sW G h bs bv cf wt ho ++ CW G z f h ol ob sc wc tk e0 k0 m0 e1 k1 m1 e2 k2 m2 lo bi ru la fib gra res Ly By ra rf ro rs ba bid wo pri S1 R1 V1 P1 we wk wm itm ia akf akg Gy Y) sb k i hsb (by omega) (by omega) gbc gql gic ggp _) wq_805 wq_807 wq_38 wq_65 wq_808 hyX1_lotGiven rfl rfl rfl hl.1 (Nat.le_of_ble_eq_true rfl) ⟨Nat.le_of_ble_eq_true rfl, Nat.le_of_ble_eq_true rfl⟩ ⟨by decide, by decide⟩ dX6_handOutLotsTo_60) (fun r w2 H locs hp hW => ?_)
        obtain ⟨hr0, hw2⟩ := hp
        rw [hw2] at hW
        have j6 : (i + bsum sb.testBit ic (min k ob)) = ((bsum sb.testBit (fBD itm bst bi) k) + i) := by rw [Nat.min_eq_left (Nat.le_of_lt hk), j5 k (Nat.le_of_lt hk), Nat.add_comm]
        have j7 : ((bsum sb.testBit (fBD itm bst bi) k) + i) < (bsum sb.testBit ic ob) := by rw [j5 ob (Nat.le_refl _)]; exact hut.1
        obtain ⟨j10, j11⟩ := j4 _ j7
        rw [j6, hgp _ j7, if_pos ⟨j7, by omega⟩, Int.toNat_natCast, kln _ j10, j11] at hr0
        have hr1 : r = nI ((KTc lo bi ru ol ob fib gra res lst bst bid pri itm akf akg rf ro rs sb) ((bsum sb.testBit (fBD itm bst bi) k) + i)) := hr0
        clear hr0
        have hlt9 := (hkt.2.1 _ hut.1).1
        obtain ⟨lt, hlt⟩ : ∃ x, x = (KTc lo bi ru ol ob fib gra res lst bst bid pri itm akf akg rf ro rs sb) ((bsum sb.testBit (fBD itm bst bi) k) + i) := ⟨_, rfl⟩
        rw [← hlt] at hr1 hlt9
        subst hr1
        obtain ⟨w, hW, hc⟩ : ∃ w9, Wd G A s w9 H locs ∧ w9.Perm (CW G z f h ol ob sc wc tk e0 k0 m0 e1 k1 m1 e2 k2 m2 lo bi ru la fib gra res Ly By ra rf ro rs ba bid wo pri S1 R1 V1 P1 we wk wm itm ia akf akg Gy (fW G f ol ob (bsum sb.testBit ic ob) ln rv rm bn bd pr ic fl qu rc gp ++ (sW G h bs bv cf wt ho ++ Y))) := ⟨_, hW, (cw_out2 _ _).symm⟩
        refine lv_istore (lv' := [(7, .int (nI lt)), (0, .ref (z 0)), (1, .int (nI sb)), (2, .int (nI k)), (3, .int (nI (bn k))), (4, .ref (wo (bn k))), (5, .int (nI i)), (6, .int (nI i))]) hx hb dX6_handOutLotsTo_63 hl (by decide) rfl (fun ls hl => ?_)
        refine lv_aload_n hx hb dX6_handOutLotsTo_65 rfl (lv_at hl 1 rfl) ?_
        refine lv_iload hx hb dX6_handOutLotsTo_66 (lv_at hl 0 rfl) ?_
        refine r_nz ?_
        obtain ⟨q0, hq0⟩ := List.mem_iff_getElem?.mp (cw_mk hc)
        refine go_i X hW (run_V X hW (As := [.int (zI ((lt : Nat) : Int))]) (rest := []) 9 q0 hq0 (c_X6_isLot l G _ _ _ _ _ _ _ _ _ _ _ _ _ _ _ _ _ _ _ _ _ _ _ _ _ _ _ _ _ _ _ _ _ _ _ _ _ _ _ _ _ _ _ _ _ _ _ _ ((lt : Nat) : Int) hc hlo (by omega) _) (gi_V wq_306 wq_308 wq_6 wq_61 wq_309) rfl hyX6_isLot rfl rfl rfl hl.1 (Nat.le_of_ble_eq_true rfl) ⟨Nat.le_of_ble_eq_true rfl, Nat.le_of_ble_eq_true rfl⟩ ⟨by decide, by decide⟩ dX6_handOutLotsTo_68) (fun r w2 H locs hp hW => ?_)
        obtain ⟨hr0, hw2⟩ := hp
        subst hr0
        rw [hw2] at hW
        refine p_if_eq hx hb (tgt := 125) dX6_handOutLotsTo_71 (by decide) (fun c_71 => absurd (show _ ∧ _ from ⟨by omega, by omega⟩) c_71) (fun c_71 => ?_)
        refine lv_aload hx hb dX6_handOutLotsTo_74 (lv_at hl 5 rfl) ?_
        refine lv_iload hx hb dX6_handOutLotsTo_76 (lv_at hl 7 rfl) ?_
        obtain ⟨r9, hLw⟩ := cw_wl hc (b := (bn k)) (by omega)
        obtain ⟨q0, hq0⟩ := List.mem_iff_getElem?.mp (ls_mem hLw)
        refine go_r X hW (run_V X hW (As := [.int (nI i)]) (rest := []) 2 q0 hq0 (c_gtP hLw (h3 (bn k) (by omega)) (by omega) _) (gi_V wq_273 wq_274 wq_275 wq_64 wq_276) rfl hyJx4a65c_get_915e3 rfl rfl rfl hl.1 (Nat.le_of_ble_eq_true rfl) ⟨Nat.le_of_ble_eq_true rfl, Nat.le_of_ble_eq_true rfl⟩ ⟨by decide, by decide⟩ dX6_handOutLotsTo_78) (fun b w2 H locs hp hW => ?_)
        obtain ⟨hr0, hw2⟩ := hp
        subst hr0
        rw [hw2] at hW
        refine x_cast X hW (cw_itm hc (b := (bn k)) (j := i) (by omega) (by omega)) rfl wq_738 wq_301 dX6_handOutLotsTo_81 ?_
        refine lv_iload hx hb dX6_handOutLotsTo_84 (lv_at hl 0 rfl) ?_
        refine r_nz ?_
        obtain ⟨q0, hq0⟩ := List.mem_iff_getElem?.mp (cw_itm hc (b := (bn k)) (j := i) (by omega) (by omega))
        refine x_putN X hW q0 hq0 2 (w2 := _) rfl rfl iwX2 tyX2_ok nmX2 (by decide) wq_748 rfl rfl rfl rfl (Nat.le_of_ble_eq_true rfl) dX6_handOutLotsTo_86 (fun H locs hW => ?_)
        obtain ⟨w, hW, hc⟩ : ∃ w9, Wd G A s w9 H locs ∧ w9.Perm (CW G z f h ol ob sc wc tk e0 k0 m0 e1 k1 m1 e2 k2 m2 lo bi ru la fib gra res Ly By ra rf ro rs ba bid wo pri S1 R1 V1 P1 we wk wm itm ia akf akg (va_up Gy (3 * (bn k) + i) ((lt : Nat) : Int)) (fW G f ol ob (bsum sb.testBit ic ob) ln rv rm bn bd pr ic fl qu rc gp ++ (sW G h bs bv cf wt ho ++ Y))) := ⟨_, hW, Fc.set (cw_gt hc (b := (bn k)) (j := i) (by omega) (by omega) hitm ((lt : Nat) : Int)) hq0⟩
        refine lv_aload_n hx hb dX6_handOutLotsTo_89 rfl (lv_at hl 1 rfl) ?_
        obtain ⟨q0, hq0⟩ := List.mem_iff_getElem?.mp (cw_mk hc)
        refine x_get X hW q0 hq0 0 rfl rfl iwX6 (by decide) wq_210 rfl dX6_handOutLotsTo_90 ?_
        refine lv_iload hx hb dX6_handOutLotsTo_93 (lv_at hl 0 rfl) ?_
        obtain ⟨r9, hL0⟩ := cw_l0 hc
        obtain ⟨q0, hq0⟩ := List.mem_iff_getElem?.mp (ls_mem hL0)
        refine go_r X hW (run_V X hW (As := [.int (nI lt)]) (rest := []) 2 q0 hq0 (c_gtP hL0 h0 (by omega) _) (gi_V wq_273 wq_274 wq_275 wq_64 wq_276) rfl hyJx4a65c_get_915e3 rfl rfl rfl hl.1 (Nat.le_of_ble_eq_true rfl) ⟨Nat.le_of_ble_eq_true rfl, Nat.le_of_ble_eq_true rfl⟩ ⟨by decide, by decide⟩ dX6_handOutLotsTo_95) (fun b w2 H locs hp hW => ?_)
        obtain ⟨hr0, hw2⟩ := hp
        subst hr0
        rw [hw2] at hW
        refine x_cast X hW (cw_lot hc (i := lt) (by omega)) rfl wq_509 wq_287 dX6_handOutLotsTo_98 ?_
        refine lv_bipush (v := nI 115) hx hb dX6_handOutLotsTo_101 (by decide) ?_
        obtain ⟨q0, hq0⟩ := List.mem_iff_getElem?.mp (cw_lot hc (i := lt) (by omega))
        refine x_putN X hW q0 hq0 3 (w2 := _) rfl rfl iwX3 tyX3_ok nmX3 (by decide) wq_521 rfl rfl (pk_charN (by omega)).1 (pk_charN (by omega)).2 (Nat.le_of_ble_eq_true rfl) dX6_handOutLotsTo_103 (fun H locs hW => ?_)
        obtain ⟨w, hW, hc⟩ : ∃ w9, Wd G A s w9 H locs ∧ w9.Perm (CW G z f h ol ob sc wc tk e0 k0 m0 e1 k1 m1 e2 k2 m2 lo bi ru la fib gra res (va_up Ly lt 115) By ra rf ro rs ba bid wo pri S1 R1 V1 P1 we wk wm itm ia akf akg (va_up Gy (3 * (bn k) + i) ((lt : Nat) : Int)) (fW G f ol ob (bsum sb.testBit ic ob) ln rv rm bn bd pr ic fl qu rc gp ++ (sW G h bs bv cf wt ho ++ Y))) := ⟨_, hW, Fc.set (cw_lst hc (i := lt) (by omega) 115) hq0⟩
        refine lv_aload_n hx hb dX6_handOutLotsTo_106 rfl (lv_at hl 1 rfl) ?_
        obtain ⟨q0, hq0⟩ := List.mem_iff_getElem?.mp (cw_mk hc)
        refine x_get X hW q0 hq0 0 rfl rfl iwX6 (by decide) wq_210 rfl dX6_handOutLotsTo_107 ?_
        refine lv_iload hx hb dX6_handOutLotsTo_110 (lv_at hl 0 rfl) ?_
        obtain ⟨r9, hL0⟩ := cw_l0 hc
        obtain ⟨q0, hq0⟩ := List.mem_iff_getElem?.mp (ls_mem hL0)
        refine go_r X hW (run_V X hW (As := [.int (nI lt)]) (rest := []) 2 q0 hq0 (c_gtP hL0 h0 (by omega) _) (gi_V wq_273 wq_274 wq_275 wq_64 wq_276) rfl hyJx4a65c_get_915e3 rfl rfl rfl hl.1 (Nat.le_of_ble_eq_true rfl) ⟨Nat.le_of_ble_eq_true rfl, Nat.le_of_ble_eq_true rfl⟩ ⟨by decide, by decide⟩ dX6_handOutLotsTo_112) (fun b w2 H locs hp hW => ?_)
        obtain ⟨hr0, hw2⟩ := hp
        subst hr0
        rw [hw2] at hW
        refine x_cast X hW (cw_lot hc (i := lt) (by omega)) rfl wq_509 wq_287 dX6_handOutLotsTo_115 ?_
        refine lv_iload_n hx hb dX6_handOutLotsTo_118 rfl (lv_at hl 4 rfl) ?_
        refine r_nz ?_
        obtain ⟨q0, hq0⟩ := List.mem_iff_getElem?.mp (cw_lot hc (i := lt) (by omega))
        refine x_putN X hW q0 hq0 4 (w2 := _) rfl rfl iwX3 tyX3_ok nmX3 (by decide) wq_523 rfl rfl rfl rfl (Nat.le_of_ble_eq_true rfl) dX6_handOutLotsTo_119 (fun H locs hW => ?_)
        obtain ⟨w, hW, hc⟩ : ∃ w9, Wd G A s w9 H locs ∧ w9.Perm (CW G z f h ol ob sc wc tk e0 k0 m0 e1 k1 m1 e2 k2 m2 lo bi ru la fib gra res (va_up Ly lt 115) (va_up By lt (((bn k) : Nat) : Int)) ra rf ro rs ba bid wo pri S1 R1 V1 P1 we wk wm itm ia akf akg (va_up Gy (3 * (bn k) + i) ((lt : Nat) : Int)) (fW G f ol ob (bsum sb.testBit ic ob) ln rv rm bn bd pr ic fl qu rc gp ++ (sW G h bs bv cf wt ho ++ Y))) := ⟨_, hW, Fc.set (cw_byr hc (i := lt) (by omega) (((bn k) : Nat) : Int)) hq0⟩
        refine lv_iinc (v := (nI (i + 1))) (lv' := [(5, .int (nI (i + 1))), (7, .int (nI lt)), (0, .ref (z 0)), (1, .int (nI sb)), (2, .int (nI k)), (3, .int (nI (bn k))), (4, .ref (wo (bn k))), (6, .int (nI i))]) hx hb dX6_handOutLotsTo_122 hl (k := 6) rfl (nI_add _ _) (by decide) rfl (fun ls hl => ?_)
        refine lv_iinc (v := (nI (i + 1))) (lv' := [(6, .int (nI (i + 1))), (5, .int (nI (i + 1))), (7, .int (nI lt)), (0, .ref (z 0)), (1, .int (nI sb)), (2, .int (nI k)), (3, .int (nI (bn k))), (4, .ref (wo (bn k)))]) hx hb dX6_handOutLotsTo_125 hl (k := 7) rfl (nI_add _ _) (by decide) rfl (fun ls hl => ?_)
        refine lv_goto (tgt := 42) hx hb dX6_handOutLotsTo_128 (by decide) ?_
        have hst := HO_step hut.1 (fun x y hx hy e => ut_inj hitm hcb x y hx hy e) hkt.2.2 hO
        rw [hut.2, ← hlt, show (3 * BA bst bi k + i) / 3 = BA bst bi k by omega, ← ebk] at hst
        exact ih (i + 1) (va_up Ly lt 115) (va_up By lt (((bn k) : Nat) : Int)) (va_up Gy (3 * (bn k) + i) ((lt : Nat) : Int)) w (by omega) (by omega) hst hc _ _ _ hW (lv_sub hl [3, 4, 5, 6, 7, 1, 0] rfl)
  exact loop (itm (BA bst bi k) + 1) 0 Lx Bx Gx w (by omega) (by omega) hH hc _ _ _ hW (lv_sub hl [4, 5, 6, 3, 2, 1, 0] rfl)

set_option maxRecDepth 100000 in
set_option maxHeartbeats 4000000 in
theorem c_X6_handOutLots (l : Launch) (G : Gt) (z f h : Nat → Nat) (ol ob sc wc : Nat) (tk : Int) (e0 k0 m0 e1 k1 m1 e2 k2 m2 lo bi ru : Nat) (la fib gra res lst : Nat → Nat) (byr : Nat → Int) (ra rf ro rs : Nat → Nat) (ba bid wo pri bst rea : Nat → Nat) (rvl pad : Nat → Int) (we wk wm itm ia akf akg : Nat → Nat) (gt : Nat → Int) (lc bc ql : Nat) (ln rv rm bn bd pr ic fl qu rc : Nat → Nat) (gp : Nat → Int) (bs : Nat) (bv : Int) (cf wt ho : Nat → Nat) (Y w : va_W) (S1 R1 : Nat → Nat) (P1 V1 : Nat → Int) (sb : Nat) (hc : w.Perm (CW G z f h ol ob sc wc tk e0 k0 m0 e1 k1 m1 e2 k2 m2 lo bi ru la fib gra res lst byr ra rf ro rs ba bid wo pri S1 R1 V1 P1 we wk wm itm ia akf akg gt (fW G f ol ob ql ln rv rm bn bd pr ic fl qu rc gp ++ (sW G h bs bv cf wt ho ++ Y)))) (h0 : LsOK G e0 k0 lo) (h1 : LsOK G e1 k1 bi) (h3 : ∀ b, b < bi → LsOK G (we b) (wk b) (itm b)) (hI : CIa lo bi ru ol ob fib gra res lst bst rea bid pri itm akf akg rf ro rs) (hF : FI ol ob ql ln rv rm bn bd pr ic fl qu rc gp bs bv cf wt) (hG : FFl lo bi ru ol ob fib gra res lst bst bid pri itm akf akg rf ro rs ol ob ln rv bn bd pr ic fl) (hB : BestIs lo bi ru ol ob fib gra res lst bst bid pri itm akf akg rf ro rs (-1) sb) : Ci l G yX6_handOutLots (ww yX6_handOutLots cX6_handOutLots 4 (some FieldType.int)) (RM 10 0 0) [.ref (z 0), .int (nI sb)] w (fun r w2 => r = nI (bsum sb.testBit (fBD itm bst bi) ob) ∧ ∃ (Ly ux vx : Nat → Nat) (By Gy gpx : Nat → Int), HO (UTc ob itm bst bi sb) (KTc lo bi ru ol ob fib gra res lst bst bid pri itm akf akg rf ro rs sb) gt byr lst Gy By Ly (bsum sb.testBit (fBD itm bst bi) ob) ∧ FI ol ob (bsum sb.testBit ic ob) ln rv rm bn bd pr ic fl ux vx gpx bs bv cf wt ∧ w2.Perm (CW G z f h ol ob sc wc tk e0 k0 m0 e1 k1 m1 e2 k2 m2 lo bi ru la fib gra res Ly By ra rf ro rs ba bid wo pri S1 R1 V1 P1 we wk wm itm ia akf akg Gy (fW G f ol ob (bsum sb.testBit ic ob) ln rv rm bn bd pr ic fl ux vx gpx ++ (sW G h bs bv cf wt ho ++ Y)))) := by
  refine Ci.intro (by decide) (Nat.le_of_ble_eq_true rfl) ?_
  intro p e s m args below meth c A X hW ls hl
  have hx := X.exec
  have hb := X.bytes
  have hl : lv_has ls 4 [(0, .ref (z 0)), (1, .int (nI sb))] := hl
  have hG9 := hG
  have hI9 := hI
  obtain ⟨hlo, hbi, hru, hol, hob, hfib, hgra, hres, hlst, hbst, hrea, hbid, hpri, hitm, hakf, hakg, hrf, hro, hrs, hol2, hob2⟩ := hI
  obtain ⟨glc, gbc, gql, gln, grv, gRS, gbn, gbd, gpr, gic, gfl, gqu, grc, ggp, gcf, gwt⟩ := id hF
  obtain ⟨-, -, kln, kbn, kAg⟩ := hG
  have hcb : cntB (isO bst) bi = ob := hob2
  have hcl : cntB (isO lst) lo = ol := hol2
  have hsb : sb < 256 := Nat.lt_of_lt_of_le hB.1 (p2_256 hob)
  have hkt := kt_ok hol hres hcl hB
  obtain ⟨j1, j2, j3, j4, j5⟩ := give_ok hol grv kAg hB
  refine lv_aload_n hx hb dX6_handOutLots_0 rfl (lv_at hl 0 rfl) ?_
  obtain ⟨q0, hq0⟩ := List.mem_iff_getElem?.mp (cw_mk hc)
  refine x_get X hW q0 hq0 3 rfl rfl iwX6 (by decide) wq_213 rfl dX6_handOutLots_1 ?_
  refine lv_iload_n hx hb dX6_handOutLots_4 rfl (lv_at hl 1 rfl) ?_
  have hW : Wd G A s (fW G f ol ob ql ln rv rm bn bd pr ic fl qu rc gp ++ (sW G h bs bv cf wt ho ++ CW G z f h ol ob sc wc tk e0 k0 m0 e1 k1 m1 e2 k2 m2 lo bi ru la fib gra res lst byr ra rf ro rs ba bid wo pri S1 R1 V1 P1 we wk wm itm ia akf akg gt Y)) _ _ := hW.perm (hc.trans (cw_out2 _ _))
  refine go_v X hW (run_VN X hW (As := [.int (nI sb)]) (rest := []) 4 0 rfl (c_X1_giveLots l G f ol ob ql ln rv rm bn bd pr ic fl qu rc gp (sW G h bs bv cf wt ho ++ CW G z f h ol ob sc wc tk e0 k0 m0 e1 k1 m1 e2 k2 m2 lo bi ru la fib gra res lst byr ra rf ro rs ba bid wo pri S1 R1 V1 P1 we wk wm itm ia akf akg gt Y) sb hsb glc gbc gql gbd gic gfl grv gqu grc ggp j2 _) wq_792 wq_794 wq_35 wq_65 wq_795 hyX1_giveLots rfl rfl rfl hl.1 (Nat.le_of_ble_eq_true rfl) ⟨Nat.le_of_ble_eq_true rfl, Nat.le_of_ble_eq_true rfl⟩ ⟨by decide, by decide⟩ dX6_handOutLots_5) (fun w2 H locs hp hW => ?_)
  obtain ⟨u6, v6, gp6, a1, a2, a3, a4, hw9⟩ := hp
  rw [hw9] at hW
  have gqu := a1
  have grc := a2
  have ggp := a3
  have gql : (bsum sb.testBit ic ob) ≤ 8 := by omega
  have hF6 : FI ol ob (bsum sb.testBit ic ob) ln rv rm bn bd pr ic fl u6 v6 gp6 bs bv cf wt := ⟨glc, gbc, gql, gln, grv, gRS, gbn, gbd, gpr, gic, gfl, gqu, grc, ggp, gcf, gwt⟩
  obtain ⟨w, hW, hc⟩ : ∃ w9, Wd G A s w9 H locs ∧ w9.Perm (CW G z f h ol ob sc wc tk e0 k0 m0 e1 k1 m1 e2 k2 m2 lo bi ru la fib gra res lst byr ra rf ro rs ba bid wo pri S1 R1 V1 P1 we wk wm itm ia akf akg gt (fW G f ol ob (bsum sb.testBit ic ob) ln rv rm bn bd pr ic fl u6 v6 gp6 ++ (sW G h bs bv cf wt ho ++ Y))) := ⟨_, hW, (cw_out2 _ _).symm⟩
  refine lv_iconst (v := nI 0) hx hb dX6_handOutLots_8 (by decide) ?_
  refine lv_istore_n (lv' := [(2, .int (nI 0)), (0, .ref (z 0)), (1, .int (nI sb))]) hx hb dX6_handOutLots_9 rfl hl (by decide) rfl (fun ls hl => ?_)
  refine lv_iconst (v := nI 0) hx hb dX6_handOutLots_10 (by decide) ?_
  refine lv_istore_n (lv' := [(3, .int (nI 0)), (2, .int (nI 0)), (0, .ref (z 0)), (1, .int (nI sb))]) hx hb dX6_handOutLots_11 rfl hl (by decide) rfl (fun ls hl => ?_)
  have loop : ∀ (n : Nat) (k : Nat) (Ly : Nat → Nat) (By Gy : Nat → Int) (w : va_W), ob + 1 ≤ k + n → k ≤ ob → HO (UTc ob itm bst bi sb) (KTc lo bi ru ol ob fib gra res lst bst bid pri itm akf akg rf ro rs sb) gt byr lst Gy By Ly (bsum sb.testBit (fBD itm bst bi) k) → w.Perm (CW G z f h ol ob sc wc tk e0 k0 m0 e1 k1 m1 e2 k2 m2 lo bi ru la fib gra res Ly By ra rf ro rs ba bid wo pri S1 R1 V1 P1 we wk wm itm ia akf akg Gy (fW G f ol ob (bsum sb.testBit ic ob) ln rv rm bn bd pr ic fl u6 v6 gp6 ++ (sW G h bs bv cf wt ho ++ Y))) → ∀ (H : Heap) (locs : List Loc) (ls : Array Slot), Wd G A s w H locs → lv_has ls 4 [(0, .ref (z 0)), (1, .int (nI sb)), (2, .int (nI (bsum sb.testBit (fBD itm bst bi) k))), (3, .int (nI k))] → W p l e (RM 10 0 0) s m args below meth c H locs 0 0 (MQ below (Qi G A (fun r w2 => r = nI (bsum sb.testBit (fBD itm bst bi) ob) ∧ ∃ (Ly ux vx : Nat → Nat) (By Gy gpx : Nat → Int), HO (UTc ob itm bst bi sb) (KTc lo bi ru ol ob fib gra res lst bst bid pri itm akf akg rf ro rs sb) gt byr lst Gy By Ly (bsum sb.testBit (fBD itm bst bi) ob) ∧ FI ol ob (bsum sb.testBit ic ob) ln rv rm bn bd pr ic fl ux vx gpx bs bv cf wt ∧ w2.Perm (CW G z f h ol ob sc wc tk e0 k0 m0 e1 k1 m1 e2 k2 m2 lo bi ru la fib gra res Ly By ra rf ro rs ba bid wo pri S1 R1 V1 P1 we wk wm itm ia akf akg Gy (fW G f ol ob (bsum sb.testBit ic ob) ln rv rm bn bd pr ic fl ux vx gpx ++ (sW G h bs bv cf wt ho ++ Y))))) args s (RM 10 0 0).cells (RM 10 0 0).slots A) (F0 m 12 ls []) := by
    intro n
    induction n with
    | zero => intro k Ly By Gy w hk1 hk2 hO hc; exact absurd hk1 (by omega)
    | succ n ih =>
      intro k Ly By Gy w hk1 hk2 hO hc H locs ls hW hl
      refine lv_iload_n hx hb dX6_handOutLots_12 rfl (lv_at hl 3 rfl) ?_
      refine lv_aload_n hx hb dX6_handOutLots_13 rfl (lv_at hl 0 rfl) ?_
      obtain ⟨q0, hq0⟩ := List.mem_iff_getElem?.mp (cw_mk hc)
      refine x_get X hW q0 hq0 3 rfl rfl iwX6 (by decide) wq_213 rfl dX6_handOutLots_14 ?_
      obtain ⟨q0, hq0⟩ := List.mem_iff_getElem?.mp (cw_in hc (List.mem_append_left _ (List.mem_of_getElem? (i := 0) rfl)))
      refine x_getN X hW q0 hq0 12 rfl rfl iwX1 (by decide) wq_153 rfl dX6_handOutLots_17 ?_
      refine n_icmp_ge hx hb rfl rfl (by omega) (by omega) (tgt := 46) dX6_handOutLots_20 (by decide) (fun c_20 => ?_) (fun c_20 => ?_)
      · refine lv_iload_n hx hb dX6_handOutLots_46 rfl (lv_at hl 2 rfl) ?_
        have hko : k = ob := by omega
        rw [hko] at hO
        exact ret_i X hW (v := (nI (bsum sb.testBit (fBD itm bst bi) k))) (⟨by rw [hko], Ly, u6, v6, By, Gy, gp6, hO, hF6, hc⟩) rfl (by decide) (by decide) dX6_handOutLots_47
      · refine lv_iload_n hx hb dX6_handOutLots_23 rfl (lv_at hl 1 rfl) ?_
        refine lv_iconst (v := nI 1) hx hb dX6_handOutLots_24 (by decide) ?_
        refine lv_iload_n hx hb dX6_handOutLots_25 rfl (lv_at hl 3 rfl) ?_
        refine n_ishl1 hx hb (by omega) dX6_handOutLots_26 ?_
        refine n_iand hx hb dX6_handOutLots_27 ?_
        refine n_if_eq hx hb rfl (by have := and_lt (b := 2 ^ k) hsb; omega) (tgt := 40) dX6_handOutLots_28 (by decide) (fun c_28 => ?_) (fun c_28 => ?_)
        · refine lv_iinc (v := (nI (k + 1))) (lv' := [(3, .int (nI (k + 1))), (0, .ref (z 0)), (1, .int (nI sb)), (2, .int (nI (bsum sb.testBit (fBD itm bst bi) k)))]) hx hb dX6_handOutLots_40 hl (k := 3) rfl (nI_add _ _) (by decide) rfl (fun ls hl => ?_)
          refine lv_goto (tgt := 12) hx hb dX6_handOutLots_43 (by decide) ?_
          have hbf := bit_f c_28
          have e9 : (bsum sb.testBit (fBD itm bst bi) (k + 1)) = (bsum sb.testBit (fBD itm bst bi) k) := bsum_f hbf
          exact ih (k + 1) Ly By Gy w (by omega) (by omega) (by rw [e9]; exact hO) hc _ _ _ hW (by rw [e9]; exact lv_sub hl [1, 2, 3, 0] rfl)
        · have hbt := bit_t c_28
          refine lv_iload_n hx hb dX6_handOutLots_31 rfl (lv_at hl 2 rfl) ?_
          refine lv_aload_n hx hb dX6_handOutLots_32 rfl (lv_at hl 0 rfl) ?_
          refine lv_iload_n hx hb dX6_handOutLots_33 rfl (lv_at hl 1 rfl) ?_
          refine lv_iload_n hx hb dX6_handOutLots_34 rfl (lv_at hl 3 rfl) ?_
          obtain ⟨q0, hq0⟩ := List.mem_iff_getElem?.mp (cw_mk hc)
          refine go_i X hW (run_V X hW (As := [.int (nI sb), .int (nI k)]) (rest := [.int (nI (bsum sb.testBit (fBD itm bst bi) k))]) 9 q0 hq0 (c_X6_handOutLotsTo l G z f h ol ob sc wc tk e0 k0 m0 e1 k1 m1 e2 k2 m2 lo bi ru la fib gra res lst byr ra rf ro rs ba bid wo pri bst rea rvl pad we wk wm itm ia akf akg gt lc bc ql ln rv rm bn bd pr ic fl u6 v6 gp6 bs bv cf wt ho Y w Ly S1 R1 By Gy P1 V1 sb k hc h0 h1 h3 hI9 hF6 hG9 hB a4 (by omega) hbt hO _) (gi_V wq_801 wq_803 wq_37 wq_61 wq_804) rfl hyX6_handOutLotsTo rfl rfl rfl hl.1 (Nat.le_of_ble_eq_true rfl) ⟨Nat.le_of_ble_eq_true rfl, Nat.le_of_ble_eq_true rfl⟩ ⟨by decide, by decide⟩ dX6_handOutLots_35) (fun r w2 H locs hp hW => ?_)
          obtain ⟨hr0, Lz, Bz, Gz, hO2, hc9⟩ := hp
          subst hr0
          obtain ⟨w, hW, hc⟩ : ∃ w9, Wd G A s w9 H locs ∧ w9.Perm (CW G z f h ol ob sc wc tk e0 k0 m0 e1 k1 m1 e2 k2 m2 lo bi ru la fib gra res Lz Bz ra rf ro rs ba bid wo pri S1 R1 V1 P1 we wk wm itm ia akf akg Gz (fW G f ol ob (bsum sb.testBit ic ob) ln rv rm bn bd pr ic fl u6 v6 gp6 ++ (sW G h bs bv cf wt ho ++ Y))) := ⟨_, hW, hc9⟩
          refine n_iadd hx hb dX6_handOutLots_38 ?_
          refine lv_istore_n (lv' := [(2, .int (nI ((bsum sb.testBit (fBD itm bst bi) k) + (itm (BA bst bi k))))), (0, .ref (z 0)), (1, .int (nI sb)), (3, .int (nI k))]) hx hb dX6_handOutLots_39 rfl hl (by decide) rfl (fun ls hl => ?_)
          refine lv_iinc (v := (nI (k + 1))) (lv' := [(3, .int (nI (k + 1))), (2, .int (nI ((bsum sb.testBit (fBD itm bst bi) k) + (itm (BA bst bi k))))), (0, .ref (z 0)), (1, .int (nI sb))]) hx hb dX6_handOutLots_40 hl (k := 3) rfl (nI_add _ _) (by decide) rfl (fun ls hl => ?_)
          refine lv_goto (tgt := 12) hx hb dX6_handOutLots_43 (by decide) ?_
          have e9 : (bsum sb.testBit (fBD itm bst bi) (k + 1)) = (bsum sb.testBit (fBD itm bst bi) k) + itm (BA bst bi k) := bsum_t hbt
          exact ih (k + 1) Lz Bz Gz w (by omega) (by omega) (by rw [e9]; exact hO2) hc _ _ _ hW (by rw [e9]; exact lv_sub hl [2, 3, 1, 0] rfl)
  exact loop (ob + 1) 0 lst byr gt w (by omega) (by omega) HO_0 hc _ _ _ hW (lv_sub hl [2, 3, 1, 0] rfl)

