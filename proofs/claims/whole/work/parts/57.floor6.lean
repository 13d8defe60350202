theorem cw_in {G : Gt} {z f h : Nat → Nat} {ol ob sc wc : Nat} {tk : Int} {e0 k0 m0 e1 k1 m1 e2 k2 m2 lo bi ru : Nat} {la fib gra res lst : Nat → Nat} {byr : Nat → Int} {ra rf ro rs : Nat → Nat} {ba bid wo pri bst rea : Nat → Nat} {rvl pad : Nat → Int} {we wk wm itm ia akf akg : Nat → Nat} {gt : Nat → Int} {Y w : va_W} (hc : w.Perm (CW G z f h ol ob sc wc tk e0 k0 m0 e1 k1 m1 e2 k2 m2 lo bi ru la fib gra res lst byr ra rf ro rs ba bid wo pri bst rea rvl pad we wk wm itm ia akf akg gt Y)) {x : Nat × va_E} (hx : x ∈ Y) : x ∈ w := hc.mem_iff.mpr (List.mem_append_right _ (List.mem_append_right _ (List.mem_append_right _ (List.mem_append_right _ (List.mem_append_right _ (List.mem_append_right _ (List.mem_append_right _ hx)))))))
/-- what holds of the floor and the search at any time -/
def FI (lc bc ql : Nat) (ln rv rm bn bd pr ic fl qu rc : Nat → Nat) (gp : Nat → Int) (bs : Nat) (bv : Int) (cf wt : Nat → Nat) : Prop := lc ≤ 8 ∧ bc ≤ 8 ∧ ql ≤ 8 ∧ (∀ k, ln k < 40) ∧ (∀ k, rv k ≤ 999) ∧ RS rm rv lc ∧ (∀ k, bn k < 40) ∧ (∀ k, bd k < 8) ∧ (∀ k, pr k ≤ 9999) ∧ (∀ k, ic k ≤ 3) ∧ (∀ k, fl k < 256) ∧ (∀ k, qu k < 256) ∧ (∀ k, rc k ≤ 1000000) ∧ (∀ k, -1 ≤ gp k ∧ gp k < 8) ∧ (∀ k, cf k < 2) ∧ (∀ k, wt k < 2)
/-- the floor shows what is open -/
def FFl (lo bi ru ol ob : Nat) (fib gra res lst bst bid pri itm akf akg rf ro rs : Nat → Nat) (lc bc : Nat) (ln rv bn bd pr ic fl : Nat → Nat) : Prop := lc = ol ∧ bc = ob ∧ (∀ x, x < ol → ln x = LA lst lo x) ∧ (∀ x, x < ob → bn x = BA bst bi x) ∧ Ag ol ob rv bd ic fl pr (fRS res lst lo) (fBD bid bst bi) (fBD itm bst bi) (fFL fib gra rf ro rs ru akf akg lst lo bst bi ol) (fBD pri bst bi)
set_option maxRecDepth 100000 in
set_option maxHeartbeats 4000000 in
theorem c_X6_fittingOnFloor (l : Launch) (G : Gt) (z f h : Nat → Nat) (ol ob sc wc : Nat) (tk : Int) (e0 k0 m0 e1 k1 m1 e2 k2 m2 lo bi ru : Nat) (la fib gra res lst : Nat → Nat) (byr : Nat → Int) (ra rf ro rs : Nat → Nat) (ba bid wo pri bst rea : Nat → Nat) (rvl pad : Nat → Int) (we wk wm itm ia akf akg : Nat → Nat) (gt : Nat → Int) (lc bc ql : Nat) (ln rv rm bn bd pr ic fl qu rc : Nat → Nat) (gp : Nat → Int) (bs : Nat) (bv : Int) (cf wt ho : Nat → Nat) (Y w : va_W) (q : Nat) (hc : w.Perm (CW G z f h ol ob sc wc tk e0 k0 m0 e1 k1 m1 e2 k2 m2 lo bi ru la fib gra res lst byr ra rf ro rs ba bid wo pri bst rea rvl pad we wk wm itm ia akf akg gt (fW G f lc bc ql ln rv rm bn bd pr ic fl qu rc gp ++ (sW G h bs bv cf wt ho ++ Y)))) (h0 : LsOK G e0 k0 lo) (h2 : LsOK G e2 k2 ru) (hI : CIa lo bi ru ol ob fib gra res lst bst rea bid pri itm akf akg rf ro rs) (hlc : lc ≤ 8) (hln : ∀ x, x < lc → ln x < lo) (hmi : itmC ia akf akg gt q ∈ w) : Ci l G yX6_fittingOnFloor (ww yX6_fittingOnFloor cX6_fittingOnFloor 5 (some FieldType.int)) (RM 5 0 0) [.ref (z 0), .ref (ia q)] w (fun r w2 => r = nI (mkm (fun x => suiB fib gra rf ro rs ru akf akg (ln x) q) lc) ∧ w2 = w) := by
  refine Ci.intro (by decide) (Nat.le_of_ble_eq_true rfl) ?_
  intro p e s m args below meth c A X hW ls hl
  have hx := X.exec
  have hb := X.bytes
  have hl : lv_has ls 5 [(0, .ref (z 0)), (1, .ref (ia q))] := hl
  have hI9 := hI
  obtain ⟨hlo, hbi, hru, hol, hob, hfib, hgra, hres, hlst, hbst, hrea, hbid, hpri, hitm, hakf, hakg, hrf, hro, hrs, hol2, hob2⟩ := hI
  refine lv_iconst (v := nI 0) hx hb dX6_fittingOnFloor_0 (by decide) ?_
  refine lv_istore_n (lv' := [(2, .int (nI 0)), (0, .ref (z 0)), (1, .ref (ia q))]) hx hb dX6_fittingOnFloor_1 rfl hl (by decide) rfl (fun ls hl => ?_)
  refine lv_iconst (v := nI 0) hx hb dX6_fittingOnFloor_2 (by decide) ?_
  refine lv_istore_n (lv' := [(3, .int (nI 0)), (2, .int (nI 0)), (0, .ref (z 0)), (1, .ref (ia q))]) hx hb dX6_fittingOnFloor_3 rfl hl (by decide) rfl (fun ls hl => ?_)
  have loop : ∀ (n : Nat) (k : Nat), lc + 1 ≤ k + n → k ≤ lc → ∀ (H : Heap) (locs : List Loc) (ls : Array Slot), Wd G A s w H locs → lv_has ls 5 [(0, .ref (z 0)), (1, .ref (ia q)), (2, .int (nI (mkm (fun x => suiB fib gra rf ro rs ru akf akg (ln x) q) k))), (3, .int (nI k))] → W p l e (RM 5 0 0) s m args below meth c H locs 0 0 (MQ below (Qi G A (fun r w2 => r = nI (mkm (fun x => suiB fib gra rf ro rs ru akf akg (ln x) q) lc) ∧ w2 = w)) args s (RM 5 0 0).cells (RM 5 0 0).slots A) (F0 m 4 ls []) := by
    intro n
    induction n with
    | zero => intro k hk1 hk2; exact absurd hk1 (by omega)
    | succ n ih =>
      intro k hk1 hk2 H locs ls hW hl
      refine lv_iload_n hx hb dX6_fittingOnFloor_4 rfl (lv_at hl 3 rfl) ?_
      refine lv_aload_n hx hb dX6_fittingOnFloor_5 rfl (lv_at hl 0 rfl) ?_
      obtain ⟨q0, hq0⟩ := List.mem_iff_getElem?.mp (cw_mk hc)
      refine x_get X hW q0 hq0 3 rfl rfl iwX6 (by decide) wq_213 rfl dX6_fittingOnFloor_6 ?_
      obtain ⟨q0, hq0⟩ := List.mem_iff_getElem?.mp (cw_in hc (List.mem_append_left _ (List.mem_of_getElem? (i := 0) rfl)))
      refine x_getN X hW q0 hq0 11 rfl rfl iwX1 (by decide) wq_150 rfl dX6_fittingOnFloor_9 ?_
      refine n_icmp_ge hx hb rfl rfl (by omega) (by omega) (tgt := 67) dX6_fittingOnFloor_12 (by decide) (fun c_12 => ?_) (fun c_12 => ?_)
      · refine lv_iload_n hx hb dX6_fittingOnFloor_67 rfl (lv_at hl 2 rfl) ?_
        exact ret_i X hW (v := (nI (mkm (fun x => suiB fib gra rf ro rs ru akf akg (ln x) q) k))) (⟨by rw [show lc = k by omega], rfl⟩) rfl (by decide) (by decide) dX6_fittingOnFloor_68
      · have hlk := hln k (by omega)
        refine lv_aload_n hx hb dX6_fittingOnFloor_15 rfl (lv_at hl 0 rfl) ?_
        obtain ⟨q0, hq0⟩ := List.mem_iff_getElem?.mp (cw_mk hc)
        refine x_get X hW q0 hq0 3 rfl rfl iwX6 (by decide) wq_213 rfl dX6_fittingOnFloor_16 ?_
        obtain ⟨q0, hq0⟩ := List.mem_iff_getElem?.mp (cw_in hc (List.mem_append_left _ (List.mem_of_getElem? (i := 0) rfl)))
        refine x_getN X hW q0 hq0 0 rfl rfl iwX1 (by decide) wq_131 rfl dX6_fittingOnFloor_19 ?_
        refine lv_iload_n hx hb dX6_fittingOnFloor_22 rfl (lv_at hl 3 rfl) ?_
        obtain ⟨q0, hq0⟩ := List.mem_iff_getElem?.mp (cw_in hc (List.mem_append_left _ (List.mem_of_getElem? (i := 1) rfl)))
        refine n_iald X hW (n := 8) (f := ln) q0 hq0 (by omega) (by decide) dX6_fittingOnFloor_23 ?_
        refine lv_istore (lv' := [(4, .int (nI (ln k))), (0, .ref (z 0)), (1, .ref (ia q)), (2, .int (nI (mkm (fun x => suiB fib gra rf ro rs ru akf akg (ln x) q) k))), (3, .int (nI k))]) hx hb dX6_fittingOnFloor_24 hl (by decide) rfl (fun ls hl => ?_)
        refine lv_aload_n hx hb dX6_fittingOnFloor_26 rfl (lv_at hl 1 rfl) ?_
        refine lv_iload hx hb dX6_fittingOnFloor_27 (lv_at hl 0 rfl) ?_
        refine r_nz ?_
        obtain ⟨q0, hq0⟩ := List.mem_iff_getElem?.mp (cw_mk hc)
        refine go_i X hW (run_V X hW (As := [.int (zI (((ln k) : Nat) : Int))]) (rest := []) 9 q0 hq0 (c_X6_isLot l G _ _ _ _ _ _ _ _ _ _ _ _ _ _ _ _ _ _ _ _ _ _ _ _ _ _ _ _ _ _ _ _ _ _ _ _ _ _ _ _ _ _ _ _ _ _ _ _ (((ln k) : Nat) : Int) hc hlo (by omega) _) (gi_V wq_306 wq_308 wq_6 wq_61 wq_309) rfl hyX6_isLot rfl rfl rfl hl.1 (Nat.le_of_ble_eq_true rfl) ⟨Nat.le_of_ble_eq_true rfl, Nat.le_of_ble_eq_true rfl⟩ ⟨by decide, by decide⟩ dX6_fittingOnFloor_29) (fun r w2 H locs hp hW => ?_)
        obtain ⟨hr0, hw2⟩ := hp
        subst hr0
        rw [hw2] at hW
        refine p_if_eq hx hb (tgt := 61) dX6_fittingOnFloor_32 (by decide) (fun c_32 => absurd (show _ ∧ _ from ⟨by omega, by omega⟩) c_32) (fun c_32 => ?_)
        refine lv_aload_n hx hb dX6_fittingOnFloor_35 rfl (lv_at hl 1 rfl) ?_
        refine lv_aload_n hx hb dX6_fittingOnFloor_36 rfl (lv_at hl 1 rfl) ?_
        obtain ⟨q0, hq0⟩ := List.mem_iff_getElem?.mp (cw_mk hc)
        refine x_get X hW q0 hq0 0 rfl rfl iwX6 (by decide) wq_210 rfl dX6_fittingOnFloor_37 ?_
        refine lv_iload hx hb dX6_fittingOnFloor_40 (lv_at hl 0 rfl) ?_
        obtain ⟨r9, hL0⟩ := cw_l0 hc
        obtain ⟨q0, hq0⟩ := List.mem_iff_getElem?.mp (ls_mem hL0)
        refine go_r X hW (run_V X hW (As := [.int (nI (ln k))]) (rest := [.ref (z 0)]) 2 q0 hq0 (c_gtP hL0 h0 (by omega) _) (gi_V wq_273 wq_274 wq_275 wq_64 wq_276) rfl hyJx4a65c_get_915e3 rfl rfl rfl hl.1 (Nat.le_of_ble_eq_true rfl) ⟨Nat.le_of_ble_eq_true rfl, Nat.le_of_ble_eq_true rfl⟩ ⟨by decide, by decide⟩ dX6_fittingOnFloor_42) (fun b w2 H locs hp hW => ?_)
        obtain ⟨hr0, hw2⟩ := hp
        subst hr0
        rw [hw2] at hW
        refine x_cast X hW (cw_lot hc (i := (ln k)) (by omega)) rfl wq_509 wq_287 dX6_fittingOnFloor_45 ?_
        refine lv_aload_n hx hb dX6_fittingOnFloor_48 rfl (lv_at hl 2 rfl) ?_
        obtain ⟨q0, hq0⟩ := List.mem_iff_getElem?.mp (cw_mk hc)
        refine go_i X hW (run_V X hW (As := [.ref (la (ln k)), .ref (ia q)]) (rest := []) 9 q0 hq0 (c_X6_isFit l G _ _ _ _ _ _ _ _ _ _ _ _ _ _ _ _ _ _ _ _ _ _ _ _ _ _ _ _ _ _ _ _ _ _ _ _ _ _ _ _ _ _ _ _ _ _ _ _ (ln k) q hc h2 hI9 (by omega) (hmi) _) (gi_V wq_310 wq_312 wq_7 wq_61 wq_313) rfl hyX6_isFit rfl rfl rfl hl.1 (Nat.le_of_ble_eq_true rfl) ⟨Nat.le_of_ble_eq_true rfl, Nat.le_of_ble_eq_true rfl⟩ ⟨by decide, by decide⟩ dX6_fittingOnFloor_49) (fun r w2 H locs hp hW => ?_)
        obtain ⟨hr0, hw2⟩ := hp
        subst hr0
        rw [hw2] at hW
        refine p_if_eq hx hb (tgt := 61) dX6_fittingOnFloor_52 (by decide) (fun c_52 => ?_) (fun c_52 => ?_)
        · refine lv_iinc (v := (nI (k + 1))) (lv' := [(3, .int (nI (k + 1))), (4, .int (nI (ln k))), (0, .ref (z 0)), (1, .ref (ia q)), (2, .int (nI (mkm (fun x => suiB fib gra rf ro rs ru akf akg (ln x) q) k)))]) hx hb dX6_fittingOnFloor_61 hl (k := 4) rfl (nI_add _ _) (by decide) rfl (fun ls hl => ?_)
          refine lv_goto (tgt := 4) hx hb dX6_fittingOnFloor_64 (by decide) ?_
          exact ih (k + 1) (by omega) (by omega) _ _ _ hW (by rw [show mkm (fun x => suiB fib gra rf ro rs ru akf akg (ln x) q) (k + 1) = (mkm (fun x => suiB fib gra rf ro rs ru akf akg (ln x) q) k) from by rw [mkm, if_neg c_52, Nat.or_zero]]; exact lv_sub hl [2, 3, 4, 0] rfl)
        · refine lv_iload_n hx hb dX6_fittingOnFloor_55 rfl (lv_at hl 3 rfl) ?_
          refine lv_iconst (v := nI 1) hx hb dX6_fittingOnFloor_56 (by decide) ?_
          refine lv_iload_n hx hb dX6_fittingOnFloor_57 rfl (lv_at hl 4 rfl) ?_
          refine n_ishl1 hx hb (by omega) dX6_fittingOnFloor_58 ?_
          refine n_ior hx hb dX6_fittingOnFloor_59 ?_
          refine lv_istore_n (lv' := [(2, .int (nI ((mkm (fun x => suiB fib gra rf ro rs ru akf akg (ln x) q) k) ||| (2 ^ k)))), (4, .int (nI (ln k))), (0, .ref (z 0)), (1, .ref (ia q)), (3, .int (nI k))]) hx hb dX6_fittingOnFloor_60 rfl hl (by decide) rfl (fun ls hl => ?_)
          refine lv_iinc (v := (nI (k + 1))) (lv' := [(3, .int (nI (k + 1))), (2, .int (nI ((mkm (fun x => suiB fib gra rf ro rs ru akf akg (ln x) q) k) ||| (2 ^ k)))), (4, .int (nI (ln k))), (0, .ref (z 0)), (1, .ref (ia q))]) hx hb dX6_fittingOnFloor_61 hl (k := 4) rfl (nI_add _ _) (by decide) rfl (fun ls hl => ?_)
          refine lv_goto (tgt := 4) hx hb dX6_fittingOnFloor_64 (by decide) ?_
          exact ih (k + 1) (by omega) (by omega) _ _ _ hW (by rw [show mkm (fun x => suiB fib gra rf ro rs ru akf akg (ln x) q) (k + 1) = ((mkm (fun x => suiB fib gra rf ro rs ru akf akg (ln x) q) k) ||| (2 ^ k)) from by rw [mkm, if_pos c_52]]; exact lv_sub hl [3, 4, 1, 0] rfl)
  exact loop (lc + 1) 0 (by omega) (by omega) _ _ _ hW (lv_sub hl [2, 3, 1, 0] rfl)

theorem mkm256 {P : Nat → Bool} {n : Nat} (h : n ≤ 8) : mkm P n < 256 := Nat.lt_of_lt_of_le (mkm_lt P n) (p2_256 h)
set_option maxRecDepth 100000 in
set_option maxHeartbeats 4000000 in
theorem c_X6_addItemsToFloor (l : Launch) (G : Gt) (z f h : Nat → Nat) (ol ob sc wc : Nat) (tk : Int) (e0 k0 m0 e1 k1 m1 e2 k2 m2 lo bi ru : Nat) (la fib gra res lst : Nat → Nat) (byr : Nat → Int) (ra rf ro rs : Nat → Nat) (ba bid wo pri bst rea : Nat → Nat) (rvl pad : Nat → Int) (we wk wm itm ia akf akg : Nat → Nat) (gt : Nat → Int) (lc bc ql : Nat) (ln rv rm bn bd pr ic fl qu rc : Nat → Nat) (gp : Nat → Int) (bs : Nat) (bv : Int) (cf wt ho : Nat → Nat) (Y w : va_W) (b : Nat) (hc : w.Perm (CW G z f h ol ob sc wc tk e0 k0 m0 e1 k1 m1 e2 k2 m2 lo bi ru la fib gra res lst byr ra rf ro rs ba bid wo pri bst rea rvl pad we wk wm itm ia akf akg gt (fW G f lc (bc + 1) ql ln rv rm bn bd pr ic fl qu rc gp ++ (sW G h bs bv cf wt ho ++ Y)))) (h0 : LsOK G e0 k0 lo) (h2 : LsOK G e2 k2 ru) (h3 : ∀ b, b < bi → LsOK G (we b) (wk b) (itm b)) (hI : CIa lo bi ru ol ob fib gra res lst bst rea bid pri itm akf akg rf ro rs) (hlc : lc ≤ 8) (hbc : bc < 8) (hln9 : ∀ x, x < lc → ln x < lo) (hb9 : b < bi) (hic : ∀ x, ic x ≤ 3) (hic0 : ic bc = 0) (hfl : ∀ x, fl x < 256) : Cv l G yX6_addItemsToFloor (ww yX6_addItemsToFloor cX6_addItemsToFloor 3 (none : Option ClassFile.FieldType)) (RM 6 0 0) [.ref (z 0), .ref (ba b)] w (fun w2 => ∃ ic2 fl2 : Nat → Nat, (∀ x, x ≠ bc → ic2 x = ic x) ∧ ic2 bc = itm b ∧ (∀ x, x < bc * 3 → fl2 x = fl x) ∧ (∀ j, j < itm b → fl2 (bc * 3 + j) = mkm (fun x => suiB fib gra rf ro rs ru akf akg (ln x) (3 * b + j)) lc) ∧ (∀ x, ic2 x ≤ 3) ∧ (∀ x, fl2 x < 256) ∧ w2.Perm (CW G z f h ol ob sc wc tk e0 k0 m0 e1 k1 m1 e2 k2 m2 lo bi ru la fib gra res lst byr ra rf ro rs ba bid wo pri bst rea rvl pad we wk wm itm ia akf akg gt (fW G f lc (bc + 1) ql ln rv rm bn bd pr ic2 fl2 qu rc gp ++ (sW G h bs bv cf wt ho ++ Y)))) := by
  refine Cv.intro (by decide) (Nat.le_of_ble_eq_true rfl) ?_
  intro p e s m args below meth c A X hW ls hl
  have hx := X.exec
  have hb := X.bytes
  have hl : lv_has ls 3 [(0, .ref (z 0)), (1, .ref (ba b))] := hl
  have hI9 := hI
  obtain ⟨hlo, hbi, hru, hol, hob, hfib, hgra, hres, hlst, hbst, hrea, hbid, hpri, hitm, hakf, hakg, hrf, hro, hrs, hol2, hob2⟩ := hI
  have hi9 := hitm b
  refine lv_iconst (v := nI 0) hx hb dX6_addItemsToFloor_0 (by decide) ?_
  refine lv_istore_n (lv' := [(2, .int (nI 0)), (0, .ref (z 0)), (1, .ref (ba b))]) hx hb dX6_addItemsToFloor_1 rfl hl (by decide) rfl (fun ls hl => ?_)
  have loop : ∀ (n : Nat) (k : Nat) (icx flx : Nat → Nat) (w : va_W), itm b + 1 ≤ k + n → k ≤ itm b → (∀ x, x ≠ bc → icx x = ic x) → icx bc = k → (∀ x, x < bc * 3 → flx x = fl x) → (∀ j, j < k → flx (bc * 3 + j) = mkm (fun x => suiB fib gra rf ro rs ru akf akg (ln x) (3 * b + j)) lc) → (∀ x, icx x ≤ 3) → (∀ x, flx x < 256) → w.Perm (CW G z f h ol ob sc wc tk e0 k0 m0 e1 k1 m1 e2 k2 m2 lo bi ru la fib gra res lst byr ra rf ro rs ba bid wo pri bst rea rvl pad we wk wm itm ia akf akg gt (fW G f lc (bc + 1) ql ln rv rm bn bd pr icx flx qu rc gp ++ (sW G h bs bv cf wt ho ++ Y))) → ∀ (H : Heap) (locs : List Loc) (ls : Array Slot), Wd G A s w H locs → lv_has ls 3 [(0, .ref (z 0)), (1, .ref (ba b)), (2, .int (nI k))] → W p l e (RM 6 0 0) s m args below meth c H locs 0 0 (MQ below (Qv G A (fun w2 => ∃ ic2 fl2 : Nat → Nat, (∀ x, x ≠ bc → ic2 x = ic x) ∧ ic2 bc = itm b ∧ (∀ x, x < bc * 3 → fl2 x = fl x) ∧ (∀ j, j < itm b → fl2 (bc * 3 + j) = mkm (fun x => suiB fib gra rf ro rs ru akf akg (ln x) (3 * b + j)) lc) ∧ (∀ x, ic2 x ≤ 3) ∧ (∀ x, fl2 x < 256) ∧ w2.Perm (CW G z f h ol ob sc wc tk e0 k0 m0 e1 k1 m1 e2 k2 m2 lo bi ru la fib gra res lst byr ra rf ro rs ba bid wo pri bst rea rvl pad we wk wm itm ia akf akg gt (fW G f lc (bc + 1) ql ln rv rm bn bd pr ic2 fl2 qu rc gp ++ (sW G h bs bv cf wt ho ++ Y))))) args s (RM 6 0 0).cells (RM 6 0 0).slots A) (F0 m 2 ls []) := by
    intro n
    induction n with
    | zero => intro k icx flx w hk1 hk2 g1 g2 g3 g4 g5 g6 hc; exact absurd hk1 (by omega)
    | succ n ih =>
      intro k icx flx w hk1 hk2 g1 g2 g3 g4 g5 g6 hc H locs ls hW hl
      have g26 : icx bc < 9 := by have := g5 bc; omega
      refine lv_iload_n hx hb dX6_addItemsToFloor_2 rfl (lv_at hl 2 rfl) ?_
      refine lv_aload_n hx hb dX6_addItemsToFloor_3 rfl (lv_at hl 1 rfl) ?_
      obtain ⟨q0, hq0⟩ := List.mem_iff_getElem?.mp (cw_bid hc (b := b) (by omega))
      refine x_getN X hW q0 hq0 1 rfl rfl iwX0 (by decide) wq_695 rfl dX6_addItemsToFloor_4 ?_
      obtain ⟨r9, hLw⟩ := cw_wl hc (b := b) (by omega)
      obtain ⟨q0, hq0⟩ := List.mem_iff_getElem?.mp (ls_mem hLw)
      refine go_i X hW (run_V X hW (As := []) (rest := [.int (nI k)]) 2 q0 hq0 (c_szP hLw _) (gi_V wq_245 wq_246 wq_247 wq_64 wq_248) rfl hyJx4a65c_size_8abf5 rfl rfl rfl hl.1 (Nat.le_of_ble_eq_true rfl) ⟨Nat.le_of_ble_eq_true rfl, Nat.le_of_ble_eq_true rfl⟩ ⟨by decide, by decide⟩ dX6_addItemsToFloor_7) (fun r w2 H locs hp hW => ?_)
      obtain ⟨hr0, hw2⟩ := hp
      subst hr0
      rw [hw2] at hW
      refine n_icmp_ge hx hb rfl rfl (by omega) (by omega) (tgt := 41) dX6_addItemsToFloor_10 (by decide) (fun c_10 => ?_) (fun c_10 => ?_)
      · exact ret_v X hW (⟨icx, flx, g1, by rw [g2]; omega, g3, (fun j hj => g4 j (by omega)), g5, g6, hc⟩) rfl (by decide) (by decide) dX6_addItemsToFloor_41
      · refine lv_aload_n hx hb dX6_addItemsToFloor_13 rfl (lv_at hl 0 rfl) ?_
        obtain ⟨q0, hq0⟩ := List.mem_iff_getElem?.mp (cw_mk hc)
        refine x_get X hW q0 hq0 3 rfl rfl iwX6 (by decide) wq_213 rfl dX6_addItemsToFloor_14 ?_
        refine lv_aload_n hx hb dX6_addItemsToFloor_17 rfl (lv_at hl 0 rfl) ?_
        refine lv_aload_n hx hb dX6_addItemsToFloor_18 rfl (lv_at hl 1 rfl) ?_
        obtain ⟨q0, hq0⟩ := List.mem_iff_getElem?.mp (cw_bid hc (b := b) (by omega))
        refine x_getN X hW q0 hq0 1 rfl rfl iwX0 (by decide) wq_695 rfl dX6_addItemsToFloor_19 ?_
        refine lv_iload_n hx hb dX6_addItemsToFloor_22 rfl (lv_at hl 2 rfl) ?_
        obtain ⟨r9, hLw⟩ := cw_wl hc (b := b) (by omega)
        obtain ⟨q0, hq0⟩ := List.mem_iff_getElem?.mp (ls_mem hLw)
        refine go_r X hW (run_V X hW (As := [.int (nI k)]) (rest := [.ref (z 0), .ref (f 0)]) 2 q0 hq0 (c_gtP hLw (h3 b (by omega)) (by omega) _) (gi_V wq_273 wq_274 wq_275 wq_64 wq_276) rfl hyJx4a65c_get_915e3 rfl rfl rfl hl.1 (Nat.le_of_ble_eq_true rfl) ⟨Nat.le_of_ble_eq_true rfl, Nat.le_of_ble_eq_true rfl⟩ ⟨by decide, by decide⟩ dX6_addItemsToFloor_23) (fun b w2 H locs hp hW => ?_)
        obtain ⟨hr0, hw2⟩ := hp
        subst hr0
        rw [hw2] at hW
        refine x_cast X hW (cw_itm hc (b := b) (j := k) (by omega) (by omega)) rfl wq_738 wq_301 dX6_addItemsToFloor_26 ?_
        obtain ⟨q0, hq0⟩ := List.mem_iff_getElem?.mp (cw_mk hc)
        refine go_i X hW (run_V X hW (As := [.ref (ia (3 * b + k))]) (rest := [.ref (f 0)]) 9 q0 hq0 (c_X6_fittingOnFloor l G _ _ _ _ _ _ _ _ _ _ _ _ _ _ _ _ _ _ _ _ _ _ _ _ _ _ _ _ _ _ _ _ _ _ _ _ _ _ _ _ _ _ _ _ _ _ _ _ _ _ _ _ _ _ _ _ _ _ _ _ _ _ _ _ _ _ _ (3 * b + k) hc h0 h2 hI9 (by omega) hln9 (cw_itm hc (b := b) (j := k) (by omega) (by omega)) _) (gi_V wq_302 wq_304 wq_5 wq_61 wq_305) rfl hyX6_fittingOnFloor rfl rfl rfl hl.1 (Nat.le_of_ble_eq_true rfl) ⟨Nat.le_of_ble_eq_true rfl, Nat.le_of_ble_eq_true rfl⟩ ⟨by decide, by decide⟩ dX6_addItemsToFloor_29) (fun r w2 H locs hp hW => ?_)
        obtain ⟨hr0, hw2⟩ := hp
        subst hr0
        rw [hw2] at hW
        have hW : Wd G A s (fW G f lc (bc + 1) ql ln rv rm bn bd pr icx flx qu rc gp ++ (sW G h bs bv cf wt ho ++ CW G z f h ol ob sc wc tk e0 k0 m0 e1 k1 m1 e2 k2 m2 lo bi ru la fib gra res lst byr ra rf ro rs ba bid wo pri bst rea rvl pad we wk wm itm ia akf akg gt Y)) _ _ := hW.perm (hc.trans (cw_out2 _ _))
        refine go_v X hW (run_VN X hW (As := [.int (nI (mkm (fun x => suiB fib gra rf ro rs ru akf akg (ln x) (3 * b + k)) lc))]) (rest := []) 4 0 rfl (c_X1_addItem l G f lc bc ql ln rv rm bn bd pr icx flx qu rc gp (sW G h bs bv cf wt ho ++ CW G z f h ol ob sc wc tk e0 k0 m0 e1 k1 m1 e2 k2 m2 lo bi ru la fib gra res lst byr ra rf ro rs ba bid wo pri bst rea rvl pad we wk wm itm ia akf akg gt Y) (mkm (fun x => suiB fib gra rf ro rs ru akf akg (ln x) (3 * b + k)) lc) (by omega) (by omega) _) wq_315 wq_317 wq_8 wq_65 wq_318 hyX1_addItem rfl rfl rfl hl.1 (Nat.le_of_ble_eq_true rfl) ⟨Nat.le_of_ble_eq_true rfl, Nat.le_of_ble_eq_true rfl⟩ ⟨by decide, by decide⟩ dX6_addItemsToFloor_32) (fun w2 H locs hp hW => ?_)
        subst hp
        obtain ⟨w, hW, hc⟩ : ∃ w9, Wd G A s w9 H locs ∧ w9.Perm (CW G z f h ol ob sc wc tk e0 k0 m0 e1 k1 m1 e2 k2 m2 lo bi ru la fib gra res lst byr ra rf ro rs ba bid wo pri bst rea rvl pad we wk wm itm ia akf akg gt (fW G f lc (bc + 1) ql ln rv rm bn bd pr (va_up icx bc (icx bc + 1)) (va_up flx (bc * 3 + icx bc) (mkm (fun x => suiB fib gra rf ro rs ru akf akg (ln x) (3 * b + k)) lc)) qu rc gp ++ (sW G h bs bv cf wt ho ++ Y))) := ⟨_, hW, (cw_out2 _ _).symm⟩
        refine lv_iinc (v := (nI (k + 1))) (lv' := [(2, .int (nI (k + 1))), (0, .ref (z 0)), (1, .ref (ba b))]) hx hb dX6_addItemsToFloor_35 hl (k := 2) rfl (nI_add _ _) (by decide) rfl (fun ls hl => ?_)
        refine lv_goto (tgt := 2) hx hb dX6_addItemsToFloor_38 (by decide) ?_
        exact ih (k + 1) (va_up icx bc (icx bc + 1)) (va_up flx (bc * 3 + icx bc) (mkm (fun x => suiB fib gra rf ro rs ru akf akg (ln x) (3 * b + k)) lc)) w (by omega) (by omega) (fun x hx => by rw [va_up_ne _ _ hx]; exact g1 x hx) (by rw [va_up_self]; omega) (fun x hx => by rw [va_up_ne _ _ (by omega)]; exact g3 x hx) (fun j hj => by rw [g2]; by_cases hq : j = k; rw [hq, va_up_self]; rw [va_up_ne _ _ (show bc * 3 + j ≠ bc * 3 + k by omega)]; exact g4 j (by omega)) (fun x => by by_cases hq : x = bc; rw [hq, va_up_self]; omega; rw [va_up_ne _ _ hq]; exact g5 x) (fun x => by by_cases hq : x = bc * 3 + icx bc; rw [hq, va_up_self]; exact mkm256 hlc; rw [va_up_ne _ _ hq]; exact g6 x) hc _ _ _ hW (lv_sub hl [1, 2, 0] rfl)
  exact loop (itm b + 1) 0 ic fl w (by omega) (by omega) (fun _ _ => rfl) hic0 (fun _ _ => rfl) (fun j hj => absurd hj (by omega)) hic hfl hc _ _ _ hW (lv_sub hl [1, 2, 0] rfl)

theorem ffl_ag {lo bi ru ol ob : Nat} {fib gra res lst bst bid pri itm akf akg rf ro rs ln rv bn bd pr ic fl : Nat → Nat} (h1 : ∀ x, x < ol → ln x = LA lst lo x ∧ rv x = res (ln x)) (h2 : ∀ x, x < ob → bn x = BA bst bi x ∧ bd x = bid (bn x) ∧ pr x = pri (bn x) ∧ ic x = itm (bn x) ∧ ∀ j, j < ic x → fl (x * 3 + j) = mkm (fun l => suiB fib gra rf ro rs ru akf akg (ln l) (3 * bn x + j)) ol) (hic : ∀ x, ic x ≤ 3) : Ag ol ob rv bd ic fl pr (fRS res lst lo) (fBD bid bst bi) (fBD itm bst bi) (fFL fib gra rf ro rs ru akf akg lst lo bst bi ol) (fBD pri bst bi) := by
  refine ⟨fun l hl => ?_, fun k hk => ?_⟩
  · obtain ⟨q1, q2⟩ := h1 l hl
    rw [q2, q1]
  · obtain ⟨q1, q2, q3, q4, q5⟩ := h2 k hk
    refine ⟨by rw [q2, q1], by rw [q3, q1], by rw [q4, q1], fun j hj => ?_⟩
    have h9 := hic k
    rw [q5 j hj]
    refine mkm_congr (fun l hl => ?_)
    rw [(h1 l hl).1, q1, show (k * 3 + j) / 3 = k by omega, show (k * 3 + j) % 3 = j by omega]
theorem RS0 {rm rv : Nat → Nat} (h : rm 0 = 0) (m : Nat) (hm : m < 2 ^ 0) : rm m = bsum m.testBit rv 0 := by
  obtain rfl : m = 0 := by have : m < 1 := hm; omega
  exact h
set_option maxRecDepth 100000 in
set_option maxHeartbeats 4000000 in
theorem c_X6_fillFloor (l : Launch) (G : Gt) (z f h : Nat → Nat) (ol ob sc wc : Nat) (tk : Int) (e0 k0 m0 e1 k1 m1 e2 k2 m2 lo bi ru : Nat) (la fib gra res lst : Nat → Nat) (byr : Nat → Int) (ra rf ro rs : Nat → Nat) (ba bid wo pri bst rea : Nat → Nat) (rvl pad : Nat → Int) (we wk wm itm ia akf akg : Nat → Nat) (gt : Nat → Int) (lc bc ql : Nat) (ln rv rm bn bd pr ic fl qu rc : Nat → Nat) (gp : Nat → Int) (bs : Nat) (bv : Int) (cf wt ho : Nat → Nat) (Y w : va_W) (hc : w.Perm (CW G z f h ol ob sc wc tk e0 k0 m0 e1 k1 m1 e2 k2 m2 lo bi ru la fib gra res lst byr ra rf ro rs ba bid wo pri bst rea rvl pad we wk wm itm ia akf akg gt (fW G f lc bc ql ln rv rm bn bd pr ic fl qu rc gp ++ (sW G h bs bv cf wt ho ++ Y)))) (h0 : LsOK G e0 k0 lo) (h1 : LsOK G e1 k1 bi) (h2 : LsOK G e2 k2 ru) (h3 : ∀ b, b < bi → LsOK G (we b) (wk b) (itm b)) (hI : CIa lo bi ru ol ob fib gra res lst bst rea bid pri itm akf akg rf ro rs) (hF : FI lc bc ql ln rv rm bn bd pr ic fl qu rc gp bs bv cf wt) : Cv l G yX6_fillFloor (ww yX6_fillFloor cX6_fillFloor 3 (none : Option ClassFile.FieldType)) (RM 7 0 0) [.ref (z 0)] w (fun w2 => ∃ ln2 rv2 rm2 bn2 bd2 pr2 ic2 fl2 : Nat → Nat, FI ol ob 0 ln2 rv2 rm2 bn2 bd2 pr2 ic2 fl2 qu rc gp bs bv cf wt ∧ FFl lo bi ru ol ob fib gra res lst bst bid pri itm akf akg rf ro rs ol ob ln2 rv2 bn2 bd2 pr2 ic2 fl2 ∧ w2.Perm (CW G z f h ol ob sc wc tk e0 k0 m0 e1 k1 m1 e2 k2 m2 lo bi ru la fib gra res lst byr ra rf ro rs ba bid wo pri bst rea rvl pad we wk wm itm ia akf akg gt (fW G f ol ob 0 ln2 rv2 rm2 bn2 bd2 pr2 ic2 fl2 qu rc gp ++ (sW G h bs bv cf wt ho ++ Y)))) := by
  refine Cv.intro (by decide) (Nat.le_of_ble_eq_true rfl) ?_
  intro p e s m args below meth c A X hW ls hl
  have hx := X.exec
  have hb := X.bytes
  have hl : lv_has ls 3 [(0, .ref (z 0))] := hl
  have hI9 := hI
  obtain ⟨hlo, hbi, hru, hol, hob, hfib, hgra, hres, hlst, hbst, hrea, hbid, hpri, hitm, hakf, hakg, hrf, hro, hrs, hol2, hob2⟩ := hI
  obtain ⟨glc, gbc, gql, gln, grv, gRS, gbn, gbd, gpr, gic, gfl, gqu, grc, ggp, gcf, gwt⟩ := hF
  have hRSz : rm 0 = 0 := by have := gRS 0 (Nat.two_pow_pos _); rw [this]; exact bsum_up (k := 0) (Nat.zero_le _) (fun j _ _ => Nat.zero_testBit j)
  refine lv_aload_n hx hb dX6_fillFloor_0 rfl (lv_at hl 0 rfl) ?_
  obtain ⟨q0, hq0⟩ := List.mem_iff_getElem?.mp (cw_mk hc)
  refine x_get X hW q0 hq0 3 rfl rfl iwX6 (by decide) wq_213 rfl dX6_fillFloor_1 ?_
  have hW : Wd G A s (fW G f lc bc ql ln rv rm bn bd pr ic fl qu rc gp ++ (sW G h bs bv cf wt ho ++ CW G z f h ol ob sc wc tk e0 k0 m0 e1 k1 m1 e2 k2 m2 lo bi ru la fib gra res lst byr ra rf ro rs ba bid wo pri bst rea rvl pad we wk wm itm ia akf akg gt Y)) _ _ := hW.perm (hc.trans (cw_out2 _ _))
  refine go_v X hW (run_VN X hW (As := []) (rest := []) 4 0 rfl (c_X1_clearAll l G f lc bc ql ln rv rm bn bd pr ic fl qu rc gp (sW G h bs bv cf wt ho ++ CW G z f h ol ob sc wc tk e0 k0 m0 e1 k1 m1 e2 k2 m2 lo bi ru la fib gra res lst byr ra rf ro rs ba bid wo pri bst rea rvl pad we wk wm itm ia akf akg gt Y) _) wq_269 wq_271 wq_1 wq_65 wq_272 hyX1_clearAll rfl rfl rfl hl.1 (Nat.le_of_ble_eq_true rfl) ⟨Nat.le_of_ble_eq_true rfl, Nat.le_of_ble_eq_true rfl⟩ ⟨by decide, by decide⟩ dX6_fillFloor_4) (fun w2 H locs hp hW => ?_)
  subst hp
  obtain ⟨w, hW, hc⟩ : ∃ w9, Wd G A s w9 H locs ∧ w9.Perm (CW G z f h ol ob sc wc tk e0 k0 m0 e1 k1 m1 e2 k2 m2 lo bi ru la fib gra res lst byr ra rf ro rs ba bid wo pri bst rea rvl pad we wk wm itm ia akf akg gt (fW G f 0 0 0 ln rv rm bn bd pr ic fl qu rc gp ++ (sW G h bs bv cf wt ho ++ Y))) := ⟨_, hW, (cw_out2 _ _).symm⟩
  refine lv_iconst (v := nI 0) hx hb dX6_fillFloor_7 (by decide) ?_
  refine lv_istore_n (lv' := [(1, .int (nI 0)), (0, .ref (z 0))]) hx hb dX6_fillFloor_8 rfl hl (by decide) rfl (fun ls hl => ?_)
  have loop : ∀ (n : Nat) (k : Nat) (lnx rvx rmx : Nat → Nat) (w : va_W), lo + 1 ≤ k + n → k ≤ lo → (∀ x, x < (cntB (isO lst) k) → lnx x = qf (opn (isO lst) k) x ∧ rvx x = res (lnx x)) → RS rmx rvx (cntB (isO lst) k) → (∀ x, lnx x < 40) → (∀ x, rvx x ≤ 999) → w.Perm (CW G z f h ol ob sc wc tk e0 k0 m0 e1 k1 m1 e2 k2 m2 lo bi ru la fib gra res lst byr ra rf ro rs ba bid wo pri bst rea rvl pad we wk wm itm ia akf akg gt (fW G f (cntB (isO lst) k) 0 0 lnx rvx rmx bn bd pr ic fl qu rc gp ++ (sW G h bs bv cf wt ho ++ Y))) → ∀ (H : Heap) (locs : List Loc) (ls : Array Slot), Wd G A s w H locs → lv_has ls 3 [(0, .ref (z 0)), (1, .int (nI k))] → W p l e (RM 7 0 0) s m args below meth c H locs 0 0 (MQ below (Qv G A (fun w2 => ∃ ln2 rv2 rm2 bn2 bd2 pr2 ic2 fl2 : Nat → Nat, FI ol ob 0 ln2 rv2 rm2 bn2 bd2 pr2 ic2 fl2 qu rc gp bs bv cf wt ∧ FFl lo bi ru ol ob fib gra res lst bst bid pri itm akf akg rf ro rs ol ob ln2 rv2 bn2 bd2 pr2 ic2 fl2 ∧ w2.Perm (CW G z f h ol ob sc wc tk e0 k0 m0 e1 k1 m1 e2 k2 m2 lo bi ru la fib gra res lst byr ra rf ro rs ba bid wo pri bst rea rvl pad we wk wm itm ia akf akg gt (fW G f ol ob 0 ln2 rv2 rm2 bn2 bd2 pr2 ic2 fl2 qu rc gp ++ (sW G h bs bv cf wt ho ++ Y))))) args s (RM 7 0 0).cells (RM 7 0 0).slots A) (F0 m 9 ls []) := by
    intro n
    induction n with
    | zero => intro k lnx rvx rmx w hk1 hk2 g1 gRS gln grv hc; exact absurd hk1 (by omega)
    | succ n ih =>
      intro k lnx rvx rmx w hk1 hk2 g1 gRS gln grv hc H locs ls hW hl
      have hcm := cntB_mono (p := isO lst) hk2
      have hcl9 : cntB (isO lst) lo = ol := hol2
      have hcs : k < lo → decide (lst k = 111) = true → (cntB (isO lst) k) < cntB (isO lst) lo := fun q1 q2 => by have q3 := cntB_mono (p := isO lst) (show k + 1 ≤ lo by omega); have q4 : cntB (isO lst) (k + 1) = (cntB (isO lst) k) + 1 := bsum_t q2; omega
      refine lv_iload_n hx hb dX6_fillFloor_9 rfl (lv_at hl 1 rfl) ?_
      refine lv_aload_n hx hb dX6_fillFloor_10 rfl (lv_at hl 0 rfl) ?_
      obtain ⟨q0, hq0⟩ := List.mem_iff_getElem?.mp (cw_mk hc)
      refine x_get X hW q0 hq0 0 rfl rfl iwX6 (by decide) wq_210 rfl dX6_fillFloor_11 ?_
      obtain ⟨r9, hL0⟩ := cw_l0 hc
      obtain ⟨q0, hq0⟩ := List.mem_iff_getElem?.mp (ls_mem hL0)
      refine go_i X hW (run_V X hW (As := []) (rest := [.int (nI k)]) 2 q0 hq0 (c_szP hL0 _) (gi_V wq_245 wq_246 wq_247 wq_64 wq_248) rfl hyJx4a65c_size_8abf5 rfl rfl rfl hl.1 (Nat.le_of_ble_eq_true rfl) ⟨Nat.le_of_ble_eq_true rfl, Nat.le_of_ble_eq_true rfl⟩ ⟨by decide, by decide⟩ dX6_fillFloor_14) (fun r w2 H locs hp hW => ?_)
      obtain ⟨hr0, hw2⟩ := hp
      subst hr0
      rw [hw2] at hW
      refine n_icmp_ge hx hb rfl rfl (by omega) (by omega) (tgt := 59) dX6_fillFloor_17 (by decide) (fun c_17 => ?_) (fun c_17 => ?_)
      · refine lv_iconst (v := nI 0) hx hb dX6_fillFloor_59 (by decide) ?_
        refine lv_istore_n (lv' := [(1, .int (nI 0)), (0, .ref (z 0))]) hx hb dX6_fillFloor_60 rfl hl (by decide) rfl (fun ls hl => ?_)
        have hkl : k = lo := by omega
        rw [hkl] at g1 gRS hc
        have hcl : (cntB (isO lst) lo) = ol := hol2
        have hln9 : ∀ x, x < (cntB (isO lst) lo) → lnx x < lo := fun x hx => by rw [(g1 x hx).1]; exact (opn_in hx).1
        have loop2 : ∀ (n : Nat) (k : Nat) (bnx bdx prx icx flx : Nat → Nat) (w : va_W), bi + 1 ≤ k + n → k ≤ bi → (∀ x, x < (cntB (isO bst) k) → bnx x = qf (opn (isO bst) k) x ∧ bdx x = bid (bnx x) ∧ prx x = pri (bnx x) ∧ icx x = itm (bnx x) ∧ ∀ j, j < icx x → flx (x * 3 + j) = mkm (fun l => suiB fib gra rf ro rs ru akf akg (lnx l) (3 * bnx x + j)) (cntB (isO lst) lo)) → (∀ x, bnx x < 40) → (∀ x, bdx x < 8) → (∀ x, prx x ≤ 9999) → (∀ x, icx x ≤ 3) → (∀ x, flx x < 256) → w.Perm (CW G z f h ol ob sc wc tk e0 k0 m0 e1 k1 m1 e2 k2 m2 lo bi ru la fib gra res lst byr ra rf ro rs ba bid wo pri bst rea rvl pad we wk wm itm ia akf akg gt (fW G f (cntB (isO lst) lo) (cntB (isO bst) k) 0 lnx rvx rmx bnx bdx prx icx flx qu rc gp ++ (sW G h bs bv cf wt ho ++ Y))) → ∀ (H : Heap) (locs : List Loc) (ls : Array Slot), Wd G A s w H locs → lv_has ls 3 [(0, .ref (z 0)), (1, .int (nI k))] → W p l e (RM 7 0 0) s m args below meth c H locs 0 0 (MQ below (Qv G A (fun w2 => ∃ ln2 rv2 rm2 bn2 bd2 pr2 ic2 fl2 : Nat → Nat, FI ol ob 0 ln2 rv2 rm2 bn2 bd2 pr2 ic2 fl2 qu rc gp bs bv cf wt ∧ FFl lo bi ru ol ob fib gra res lst bst bid pri itm akf akg rf ro rs ol ob ln2 rv2 bn2 bd2 pr2 ic2 fl2 ∧ w2.Perm (CW G z f h ol ob sc wc tk e0 k0 m0 e1 k1 m1 e2 k2 m2 lo bi ru la fib gra res lst byr ra rf ro rs ba bid wo pri bst rea rvl pad we wk wm itm ia akf akg gt (fW G f ol ob 0 ln2 rv2 rm2 bn2 bd2 pr2 ic2 fl2 qu rc gp ++ (sW G h bs bv cf wt ho ++ Y))))) args s (RM 7 0 0).cells (RM 7 0 0).slots A) (F0 m 61 ls []) := by
          intro n
          induction n with
          | zero => intro k bnx bdx prx icx flx w hk1 hk2 g2 gbn gbd gpr gic gfl hc; exact absurd hk1 (by omega)
          | succ n ih =>
            intro k bnx bdx prx icx flx w hk1 hk2 g2 gbn gbd gpr gic gfl hc H locs ls hW hl
            have hcm := cntB_mono (p := isO bst) hk2
            have hcb9 : cntB (isO bst) bi = ob := hob2
            have hcs : k < bi → decide (bst k = 111) = true → (cntB (isO bst) k) < cntB (isO bst) bi := fun q1 q2 => by have q3 := cntB_mono (p := isO bst) (show k + 1 ≤ bi by omega); have q4 : cntB (isO bst) (k + 1) = (cntB (isO bst) k) + 1 := bsum_t q2; omega
            refine lv_iload_n hx hb dX6_fillFloor_61 rfl (lv_at hl 1 rfl) ?_
            refine lv_aload_n hx hb dX6_fillFloor_62 rfl (lv_at hl 0 rfl) ?_
            obtain ⟨q0, hq0⟩ := List.mem_iff_getElem?.mp (cw_mk hc)
            refine x_get X hW q0 hq0 1 rfl rfl iwX6 (by decide) wq_211 rfl dX6_fillFloor_63 ?_
            obtain ⟨r9, hL1⟩ := cw_l1 hc
            obtain ⟨q0, hq0⟩ := List.mem_iff_getElem?.mp (ls_mem hL1)
            refine go_i X hW (run_V X hW (As := []) (rest := [.int (nI k)]) 2 q0 hq0 (c_szP hL1 _) (gi_V wq_245 wq_246 wq_247 wq_64 wq_248) rfl hyJx4a65c_size_8abf5 rfl rfl rfl hl.1 (Nat.le_of_ble_eq_true rfl) ⟨Nat.le_of_ble_eq_true rfl, Nat.le_of_ble_eq_true rfl⟩ ⟨by decide, by decide⟩ dX6_fillFloor_66) (fun r w2 H locs hp hW => ?_)
            obtain ⟨hr0, hw2⟩ := hp
            subst hr0
            rw [hw2] at hW
            refine n_icmp_ge hx hb rfl rfl (by omega) (by omega) (tgt := 120) dX6_fillFloor_69 (by decide) (fun c_69 => ?_) (fun c_69 => ?_)
            · have hkb : k = bi := by omega
              rw [hkb] at g2 hc
              have hcb : cntB (isO bst) bi = ob := hob2
              rw [hcb] at g2 hc
              rw [hcl] at g1 g2 gRS hc
              exact ret_v X hW (⟨lnx, rvx, rmx, bnx, bdx, prx, icx, flx, ⟨hol, hob, Nat.zero_le _, gln, grv, gRS, gbn, gbd, gpr, gic, gfl, gqu, grc, ggp, gcf, gwt⟩, ⟨rfl, rfl, (fun x hx => (g1 x hx).1), (fun x hx => (g2 x hx).1), ffl_ag (fun x hx => g1 x hx) (fun x hx => g2 x hx) gic⟩, hc⟩) rfl (by decide) (by decide) dX6_fillFloor_120
            · refine lv_aload_n hx hb dX6_fillFloor_72 rfl (lv_at hl 0 rfl) ?_
              obtain ⟨q0, hq0⟩ := List.mem_iff_getElem?.mp (cw_mk hc)
              refine x_get X hW q0 hq0 1 rfl rfl iwX6 (by decide) wq_211 rfl dX6_fillFloor_73 ?_
              refine lv_iload_n hx hb dX6_fillFloor_76 rfl (lv_at hl 1 rfl) ?_
              obtain ⟨r9, hL1⟩ := cw_l1 hc
              obtain ⟨q0, hq0⟩ := List.mem_iff_getElem?.mp (ls_mem hL1)
              refine go_r X hW (run_V X hW (As := [.int (nI k)]) (rest := []) 2 q0 hq0 (c_gtP hL1 h1 (by omega) _) (gi_V wq_273 wq_274 wq_275 wq_64 wq_276) rfl hyJx4a65c_get_915e3 rfl rfl rfl hl.1 (Nat.le_of_ble_eq_true rfl) ⟨Nat.le_of_ble_eq_true rfl, Nat.le_of_ble_eq_true rfl⟩ ⟨by decide, by decide⟩ dX6_fillFloor_77) (fun b w2 H locs hp hW => ?_)
              obtain ⟨hr0, hw2⟩ := hp
              subst hr0
              rw [hw2] at hW
              refine x_cast X hW (cw_bid hc (b := k) (by omega)) rfl wq_685 wq_292 dX6_fillFloor_80 ?_
              refine lv_astore_n (lv' := [(2, .ref (ba k)), (0, .ref (z 0)), (1, .int (nI k))]) hx hb dX6_fillFloor_83 rfl hl (by decide) rfl (fun ls hl => ?_)
              refine lv_aload_n hx hb dX6_fillFloor_84 rfl (lv_at hl 0 rfl) ?_
              obtain ⟨q0, hq0⟩ := List.mem_iff_getElem?.mp (cw_bid hc (b := k) (by omega))
              refine x_getN X hW q0 hq0 3 rfl rfl iwX0 (by decide) wq_699 rfl dX6_fillFloor_85 ?_
              refine lv_bipush (v := nI 111) hx hb dX6_fillFloor_88 (by decide) ?_
              refine n_icmp_ne hx hb rfl rfl (by have := hbst k; omega) (by omega) (tgt := 114) dX6_fillFloor_90 (by decide) (fun c_90 => ?_) (fun c_90 => ?_)
              · refine lv_iinc (v := (nI (k + 1))) (lv' := [(1, .int (nI (k + 1))), (2, .ref (ba k)), (0, .ref (z 0))]) hx hb dX6_fillFloor_114 hl (k := 2) rfl (nI_add _ _) (by decide) rfl (fun ls hl => ?_)
                refine lv_goto (tgt := 61) hx hb dX6_fillFloor_117 (by decide) ?_
                have hcn : cntB (isO bst) (k + 1) = (cntB (isO bst) k) := bsum_f (decide_eq_false c_90)
                exact ih (k + 1) bnx bdx prx icx flx w (by omega) (by omega) (fun x hx => by rw [hcn] at hx; rw [opn_old hx]; exact g2 x hx) gbn gbd gpr gic gfl (by rw [hcn]; exact hc) _ _ _ hW (lv_sub hl [2, 0] rfl)
              · have hcs2 := hcs (by omega) (decide_eq_true c_90)
                refine lv_aload_n hx hb dX6_fillFloor_93 rfl (lv_at hl 1 rfl) ?_
                obtain ⟨q0, hq0⟩ := List.mem_iff_getElem?.mp (cw_mk hc)
                refine x_get X hW q0 hq0 3 rfl rfl iwX6 (by decide) wq_213 rfl dX6_fillFloor_94 ?_
                refine lv_iload_n hx hb dX6_fillFloor_97 rfl (lv_at hl 2 rfl) ?_
                refine lv_aload_n hx hb dX6_fillFloor_98 rfl (lv_at hl 0 rfl) ?_
                obtain ⟨q0, hq0⟩ := List.mem_iff_getElem?.mp (cw_bid hc (b := k) (by omega))
                refine x_getN X hW q0 hq0 0 rfl rfl iwX0 (by decide) wq_693 rfl dX6_fillFloor_99 ?_
                refine lv_aload_n hx hb dX6_fillFloor_102 rfl (lv_at hl 0 rfl) ?_
                obtain ⟨q0, hq0⟩ := List.mem_iff_getElem?.mp (cw_bid hc (b := k) (by omega))
                refine x_getN X hW q0 hq0 2 rfl rfl iwX0 (by decide) wq_697 rfl dX6_fillFloor_103 ?_
                have hW : Wd G A s (fW G f (cntB (isO lst) lo) (cntB (isO bst) k) 0 lnx rvx rmx bnx bdx prx icx flx qu rc gp ++ (sW G h bs bv cf wt ho ++ CW G z f h ol ob sc wc tk e0 k0 m0 e1 k1 m1 e2 k2 m2 lo bi ru la fib gra res lst byr ra rf ro rs ba bid wo pri bst rea rvl pad we wk wm itm ia akf akg gt Y)) _ _ := hW.perm (hc.trans (cw_out2 _ _))
                refine go_v X hW (run_VN X hW (As := [.int (nI k), .int (nI (bid k)), .int (nI (pri k))]) (rest := []) 4 0 rfl (c_X1_addBid l G f (cntB (isO lst) lo) (cntB (isO bst) k) 0 lnx rvx rmx bnx bdx prx icx flx qu rc gp (sW G h bs bv cf wt ho ++ CW G z f h ol ob sc wc tk e0 k0 m0 e1 k1 m1 e2 k2 m2 lo bi ru la fib gra res lst byr ra rf ro rs ba bid wo pri bst rea rvl pad we wk wm itm ia akf akg gt Y) k (bid k) (pri k) (by omega) _) wq_293 wq_295 wq_3 wq_65 wq_296 hyX1_addBid rfl rfl rfl hl.1 (Nat.le_of_ble_eq_true rfl) ⟨Nat.le_of_ble_eq_true rfl, Nat.le_of_ble_eq_true rfl⟩ ⟨by decide, by decide⟩ dX6_fillFloor_106) (fun w2 H locs hp hW => ?_)
                subst hp
                obtain ⟨w, hW, hc⟩ : ∃ w9, Wd G A s w9 H locs ∧ w9.Perm (CW G z f h ol ob sc wc tk e0 k0 m0 e1 k1 m1 e2 k2 m2 lo bi ru la fib gra res lst byr ra rf ro rs ba bid wo pri bst rea rvl pad we wk wm itm ia akf akg gt (fW G f (cntB (isO lst) lo) ((cntB (isO bst) k) + 1) 0 lnx rvx rmx (va_up bnx (cntB (isO bst) k) k) (va_up bdx (cntB (isO bst) k) (bid k)) (va_up prx (cntB (isO bst) k) (pri k)) (va_up icx (cntB (isO bst) k) 0) flx qu rc gp ++ (sW G h bs bv cf wt ho ++ Y))) := ⟨_, hW, (cw_out2 _ _).symm⟩
                refine lv_aload_n hx hb dX6_fillFloor_109 rfl (lv_at hl 1 rfl) ?_
                refine lv_aload_n hx hb dX6_fillFloor_110 rfl (lv_at hl 0 rfl) ?_
                obtain ⟨q0, hq0⟩ := List.mem_iff_getElem?.mp (cw_mk hc)
                refine go_v X hW (run_V X hW (As := [.ref (ba k)]) (rest := []) 9 q0 hq0 (c_X6_addItemsToFloor l G _ _ _ _ _ _ _ _ _ _ _ _ _ _ _ _ _ _ _ _ _ _ _ _ _ _ _ _ _ _ _ _ _ _ _ _ _ _ _ _ _ _ _ _ _ _ _ _ _ _ _ _ _ _ _ _ _ _ _ _ _ _ _ _ _ _ _ k hc h0 h2 h3 hI9 (by omega) (by omega) hln9 (by omega) (fun x => by by_cases hq : x = (cntB (isO bst) k); rw [hq, va_up_self]; omega; rw [va_up_ne _ _ hq]; exact gic x) (va_up_self _ _ _) gfl _) (gi_V wq_297 wq_299 wq_4 wq_61 wq_300) rfl hyX6_addItemsToFloor rfl rfl rfl hl.1 (Nat.le_of_ble_eq_true rfl) ⟨Nat.le_of_ble_eq_true rfl, Nat.le_of_ble_eq_true rfl⟩ ⟨by decide, by decide⟩ dX6_fillFloor_111) (fun w2 H locs hp hW => ?_)
                obtain ⟨ic9, fl9, a1, a2, a3, a4, a5, a6, hc9⟩ := hp
                obtain ⟨w, hW, hc⟩ : ∃ w9, Wd G A s w9 H locs ∧ w9.Perm (CW G z f h ol ob sc wc tk e0 k0 m0 e1 k1 m1 e2 k2 m2 lo bi ru la fib gra res lst byr ra rf ro rs ba bid wo pri bst rea rvl pad we wk wm itm ia akf akg gt (fW G f (cntB (isO lst) lo) ((cntB (isO bst) k) + 1) 0 lnx rvx rmx (va_up bnx (cntB (isO bst) k) k) (va_up bdx (cntB (isO bst) k) (bid k)) (va_up prx (cntB (isO bst) k) (pri k)) ic9 fl9 qu rc gp ++ (sW G h bs bv cf wt ho ++ Y))) := ⟨_, hW, hc9⟩
                refine lv_iinc (v := (nI (k + 1))) (lv' := [(1, .int (nI (k + 1))), (2, .ref (ba k)), (0, .ref (z 0))]) hx hb dX6_fillFloor_114 hl (k := 2) rfl (nI_add _ _) (by decide) rfl (fun ls hl => ?_)
                refine lv_goto (tgt := 61) hx hb dX6_fillFloor_117 (by decide) ?_
                have hcn : cntB (isO bst) (k + 1) = (cntB (isO bst) k) + 1 := bsum_t (decide_eq_true c_90)
                exact ih (k + 1) (va_up bnx (cntB (isO bst) k) k) (va_up bdx (cntB (isO bst) k) (bid k)) (va_up prx (cntB (isO bst) k) (pri k)) ic9 fl9 w (by omega) (by omega) (fun x hx => by
                  rw [hcn] at hx
                  by_cases hq : x = (cntB (isO bst) k)
                  · rw [hq, va_up_self, va_up_self, va_up_self, opn_new (decide_eq_true c_90), a2]; exact ⟨rfl, rfl, rfl, rfl, fun j hj => a4 j hj⟩
                  · rw [va_up_ne _ _ hq, va_up_ne _ _ hq, va_up_ne _ _ hq, opn_old (show x < (cntB (isO bst) k) by omega), a1 x hq, va_up_ne _ _ hq]
                    obtain ⟨b1, b2, b3, b4, b5⟩ := g2 x (by omega)
                    have hi9 := gic x
                    exact ⟨b1, b2, b3, b4, fun j hj => by rw [a3 _ (by omega)]; exact b5 j hj⟩) (fun x => by by_cases hq : x = (cntB (isO bst) k); rw [hq, va_up_self]; omega; rw [va_up_ne _ _ hq]; exact gbn x) (fun x => by by_cases hq : x = (cntB (isO bst) k); rw [hq, va_up_self]; exact hbid k; rw [va_up_ne _ _ hq]; exact gbd x) (fun x => by by_cases hq : x = (cntB (isO bst) k); rw [hq, va_up_self]; exact hpri k; rw [va_up_ne _ _ hq]; exact gpr x) a5 a6 (by rw [hcn]; exact hc) _ _ _ hW (lv_sub hl [2, 0] rfl)
        exact loop2 (bi + 1) 0 bn bd pr ic fl w (by omega) (by omega) (fun x hx => absurd hx (Nat.not_lt_zero x)) gbn gbd gpr gic gfl hc _ _ _ hW (lv_sub hl [1, 0] rfl)
      · refine lv_aload_n hx hb dX6_fillFloor_20 rfl (lv_at hl 0 rfl) ?_
        obtain ⟨q0, hq0⟩ := List.mem_iff_getElem?.mp (cw_mk hc)
        refine x_get X hW q0 hq0 0 rfl rfl iwX6 (by decide) wq_210 rfl dX6_fillFloor_21 ?_
        refine lv_iload_n hx hb dX6_fillFloor_24 rfl (lv_at hl 1 rfl) ?_
        obtain ⟨r9, hL0⟩ := cw_l0 hc
        obtain ⟨q0, hq0⟩ := List.mem_iff_getElem?.mp (ls_mem hL0)
        refine go_r X hW (run_V X hW (As := [.int (nI k)]) (rest := []) 2 q0 hq0 (c_gtP hL0 h0 (by omega) _) (gi_V wq_273 wq_274 wq_275 wq_64 wq_276) rfl hyJx4a65c_get_915e3 rfl rfl rfl hl.1 (Nat.le_of_ble_eq_true rfl) ⟨Nat.le_of_ble_eq_true rfl, Nat.le_of_ble_eq_true rfl⟩ ⟨by decide, by decide⟩ dX6_fillFloor_25) (fun b w2 H locs hp hW => ?_)
        obtain ⟨hr0, hw2⟩ := hp
        subst hr0
        rw [hw2] at hW
        refine x_cast X hW (cw_lot hc (i := k) (by omega)) rfl wq_509 wq_287 dX6_fillFloor_28 ?_
        refine lv_astore_n (lv' := [(2, .ref (la k)), (0, .ref (z 0)), (1, .int (nI k))]) hx hb dX6_fillFloor_31 rfl hl (by decide) rfl (fun ls hl => ?_)
        refine lv_aload_n hx hb dX6_fillFloor_32 rfl (lv_at hl 0 rfl) ?_
        obtain ⟨q0, hq0⟩ := List.mem_iff_getElem?.mp (cw_lot hc (i := k) (by omega))
        refine x_getN X hW q0 hq0 3 rfl rfl iwX3 (by decide) wq_521 rfl dX6_fillFloor_33 ?_
        refine lv_bipush (v := nI 111) hx hb dX6_fillFloor_36 (by decide) ?_
        refine n_icmp_ne hx hb rfl rfl (by have := hlst k; omega) (by omega) (tgt := 53) dX6_fillFloor_38 (by decide) (fun c_38 => ?_) (fun c_38 => ?_)
        · refine lv_iinc (v := (nI (k + 1))) (lv' := [(1, .int (nI (k + 1))), (2, .ref (la k)), (0, .ref (z 0))]) hx hb dX6_fillFloor_53 hl (k := 2) rfl (nI_add _ _) (by decide) rfl (fun ls hl => ?_)
          refine lv_goto (tgt := 9) hx hb dX6_fillFloor_56 (by decide) ?_
          have hcn : cntB (isO lst) (k + 1) = (cntB (isO lst) k) := bsum_f (decide_eq_false c_38)
          exact ih (k + 1) lnx rvx rmx w (by omega) (by omega) (fun x hx => by rw [hcn] at hx; rw [opn_old hx]; exact g1 x hx) (by rw [hcn]; exact gRS) gln grv (by rw [hcn]; exact hc) _ _ _ hW (lv_sub hl [2, 0] rfl)
        · have hcs1 := hcs (by omega) (decide_eq_true c_38)
          refine lv_aload_n hx hb dX6_fillFloor_41 rfl (lv_at hl 1 rfl) ?_
          obtain ⟨q0, hq0⟩ := List.mem_iff_getElem?.mp (cw_mk hc)
          refine x_get X hW q0 hq0 3 rfl rfl iwX6 (by decide) wq_213 rfl dX6_fillFloor_42 ?_
          refine lv_iload_n hx hb dX6_fillFloor_45 rfl (lv_at hl 2 rfl) ?_
          refine lv_aload_n hx hb dX6_fillFloor_46 rfl (lv_at hl 0 rfl) ?_
          obtain ⟨q0, hq0⟩ := List.mem_iff_getElem?.mp (cw_lot hc (i := k) (by omega))
          refine x_getN X hW q0 hq0 2 rfl rfl iwX3 (by decide) wq_519 rfl dX6_fillFloor_47 ?_
          have hW : Wd G A s (fW G f (cntB (isO lst) k) 0 0 lnx rvx rmx bn bd pr ic fl qu rc gp ++ (sW G h bs bv cf wt ho ++ CW G z f h ol ob sc wc tk e0 k0 m0 e1 k1 m1 e2 k2 m2 lo bi ru la fib gra res lst byr ra rf ro rs ba bid wo pri bst rea rvl pad we wk wm itm ia akf akg gt Y)) _ _ := hW.perm (hc.trans (cw_out2 _ _))
          refine go_v X hW (run_VN X hW (As := [.int (nI k), .int (nI (res k))]) (rest := []) 4 0 rfl (c_X1_addLot l G f (cntB (isO lst) k) 0 0 lnx rvx rmx bn bd pr ic fl qu rc gp (sW G h bs bv cf wt ho ++ CW G z f h ol ob sc wc tk e0 k0 m0 e1 k1 m1 e2 k2 m2 lo bi ru la fib gra res lst byr ra rf ro rs ba bid wo pri bst rea rvl pad we wk wm itm ia akf akg gt Y) k (res k) (by omega) gRS _) wq_288 wq_290 wq_2 wq_65 wq_291 hyX1_addLot rfl rfl rfl hl.1 (Nat.le_of_ble_eq_true rfl) ⟨Nat.le_of_ble_eq_true rfl, Nat.le_of_ble_eq_true rfl⟩ ⟨by decide, by decide⟩ dX6_fillFloor_50) (fun w2 H locs hp hW => ?_)
          obtain ⟨rm9, hRS9, hw9⟩ := hp
          rw [hw9] at hW
          obtain ⟨w, hW, hc⟩ : ∃ w9, Wd G A s w9 H locs ∧ w9.Perm (CW G z f h ol ob sc wc tk e0 k0 m0 e1 k1 m1 e2 k2 m2 lo bi ru la fib gra res lst byr ra rf ro rs ba bid wo pri bst rea rvl pad we wk wm itm ia akf akg gt (fW G f ((cntB (isO lst) k) + 1) 0 0 (va_up lnx (cntB (isO lst) k) k) (va_up rvx (cntB (isO lst) k) (res k)) rm9 bn bd pr ic fl qu rc gp ++ (sW G h bs bv cf wt ho ++ Y))) := ⟨_, hW, (cw_out2 _ _).symm⟩
          refine lv_iinc (v := (nI (k + 1))) (lv' := [(1, .int (nI (k + 1))), (2, .ref (la k)), (0, .ref (z 0))]) hx hb dX6_fillFloor_53 hl (k := 2) rfl (nI_add _ _) (by decide) rfl (fun ls hl => ?_)
          refine lv_goto (tgt := 9) hx hb dX6_fillFloor_56 (by decide) ?_
          have hcn : cntB (isO lst) (k + 1) = (cntB (isO lst) k) + 1 := bsum_t (decide_eq_true c_38)
          exact ih (k + 1) (va_up lnx (cntB (isO lst) k) k) (va_up rvx (cntB (isO lst) k) (res k)) rm9 w (by omega) (by omega) (fun x hx => by
            rw [hcn] at hx
            by_cases hq : x = (cntB (isO lst) k)
            · rw [hq, va_up_self, va_up_self, opn_new (decide_eq_true c_38)]; exact ⟨rfl, rfl⟩
            · rw [va_up_ne _ _ hq, va_up_ne _ _ hq, opn_old (show x < (cntB (isO lst) k) by omega)]; exact g1 x (by omega)) (by rw [hcn]; exact hRS9) (fun x => by by_cases hq : x = (cntB (isO lst) k); rw [hq, va_up_self]; omega; rw [va_up_ne _ _ hq]; exact gln x) (fun x => by by_cases hq : x = (cntB (isO lst) k); rw [hq, va_up_self]; exact hres k; rw [va_up_ne _ _ hq]; exact grv x) (by rw [hcn]; exact hc) _ _ _ hW (lv_sub hl [2, 0] rfl)
  exact loop (lo + 1) 0 ln rv rm w (by omega) (by omega) (fun x hx => absurd hx (Nat.not_lt_zero x)) (fun m hm => RS0 hRSz m hm) gln grv hc _ _ _ hW (lv_sub hl [1, 0] rfl)

