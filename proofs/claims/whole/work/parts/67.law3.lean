theorem up_all {P : Nat → Prop} {f : Nat → Nat} {i x : Nat} (h : ∀ k, P (f k)) (hx : P x) : ∀ k, P (va_up f i x k) := fun k => by
  by_cases e : k = i
  · subst e
    rw [va_up_self]
    exact hx
  · rw [va_up_ne _ _ e]
    exact h k
theorem cnt_keep {st : Nat → Nat} {i x v n : Nat} (h : st i ≠ v) (hx : x ≠ v) : cntB (isV (va_up st i x) v) n = cntB (isV st v) n := bsum_congr (fun k _ => ⟨by
  show decide (va_up st i x k = v) = decide (st k = v)
  by_cases e : k = i
  · subst e
    rw [va_up_self, decide_eq_false hx, decide_eq_false h]
  · rw [va_up_ne _ _ e], rfl⟩)
theorem cnt_out {st : Nat → Nat} {i x v n : Nat} (hi : i < n) (h : st i = v) (hx : x ≠ v) : cntB (isV (va_up st i x) v) n = cntB (isV st v) n - 1 := by
  have := cntB_off (p := isV st v) (q := isV (va_up st i x) v) hi (decide_eq_true h) (by show decide (va_up st i x i = v) = false; rw [va_up_self]; exact decide_eq_false hx) (fun k hk => by show decide (va_up st i x k = v) = decide (st k = v); rw [va_up_ne _ _ hk])
  omega
theorem cnt_low {st : Nat → Nat} {x v n : Nat} : cntB (isV (va_up st n x) v) n = cntB (isV st v) n := bsum_congr (fun k hk => ⟨by show decide (va_up st n x k = v) = decide (st k = v); rw [va_up_ne _ _ (by omega : k ≠ n)], rfl⟩)
theorem cnt_in {st : Nat → Nat} {n : Nat} (v : Nat) : cntB (isV (va_up st n v) v) (n + 1) = cntB (isV st v) n + 1 := by
  unfold cntB
  rw [bsum_t (by show decide (va_up st n v n = v) = true; rw [va_up_self]; exact decide_eq_true rfl)]
  exact congrArg (· + 1) cnt_low
theorem cnt_new {st : Nat → Nat} {x v n : Nat} (hx : x ≠ v) : cntB (isV (va_up st n x) v) (n + 1) = cntB (isV st v) n := by
  unfold cntB
  rw [bsum_f (by show decide (va_up st n x n = v) = false; rw [va_up_self]; exact decide_eq_false hx)]
  exact cnt_low
theorem mo_offer {lo bi ru ol ob : Nat} {fib gra res buy lst bst rea bid pri itm akf akg got : Nat → Nat} {pai : Nat → Int} {riv rf ro rs : Nat → Nat} {sc wc : Nat} {byr : Nat → Int} {reaC : Nat → Nat} {rvl pad gt : Nat → Int} {V1 V3 : Int} {G2 : Nat} (hM : MIa lo bi ru ol ob fib gra res buy lst bst rea bid pri itm akf akg got pai riv rf ro rs) (hRel : RelL lo bi lst bst itm rea buy got riv pai sc wc byr reaC rvl pad gt) (hc : ((0 ≤ V1 ∧ V1 ≤ 3 ∧ 97 ≤ G2 ∧ G2 ≤ 101 ∧ 0 ≤ V3 ∧ V3 ≤ 999) ∧ ol < 8 ∧ lo < 40)) : MIa (lo + 1) bi ru (ol + 1) ob (va_up fib lo V1.toNat) (va_up gra lo G2) (va_up res lo V3.toNat) buy (va_up lst lo 111) bst rea bid pri itm akf akg got pai riv rf ro rs ∧ RelL (lo + 1) bi (va_up lst lo 111) bst itm rea buy got riv pai sc wc (va_up byr lo (-1)) reaC rvl pad gt := by
  obtain ⟨hlo, hbi, hru, hol, hob, hfib, hgra, hres, hbuy, hlst, hbst, hrea, hbid, hpri, hitm, hakf, hakg, hgot, hriv, hrf, hro, hrs, hpai, hcl9, hcb9⟩ := hM
  obtain ⟨hrC, hrB, hrR, hrV, hrP, hsc, hwc⟩ := hRel
  exact ⟨⟨(by omega), hbi, hru, (by omega), hob, (up_all (P := fun q => q ≤ 3) hfib (by omega)), (up_all (P := fun q => q ≤ 101) hgra (by omega)), (up_all (P := fun q => q ≤ 999) hres (by omega)), hbuy, (up_all (P := fun q => q < 65536) hlst (by omega)), hbst, hrea, hbid, hpri, hitm, hakf, hakg, hgot, hriv, hrf, hro, hrs, hpai, ((cnt_in 111).trans (congrArg (· + 1) hcl9)), hcb9⟩, ⟨hrC, (fun q hq hs => by
    have hn : q ≠ lo := fun e => by subst e; rw [va_up_self] at hs; omega
    rw [va_up_ne _ _ hn] at hs
    rw [va_up_ne _ _ hn]
    exact hrB q (by omega) hs), hrR, hrV, hrP, (hsc.trans (cnt_new (by decide)).symm), hwc⟩⟩
theorem mo_withdraw {lo bi ru ol ob : Nat} {fib gra res buy lst bst rea bid pri itm akf akg got : Nat → Nat} {pai : Nat → Int} {riv rf ro rs : Nat → Nat} {sc wc : Nat} {byr : Nat → Int} {reaC : Nat → Nat} {rvl pad gt : Nat → Int} {V1 : Int} (hM : MIa lo bi ru ol ob fib gra res buy lst bst rea bid pri itm akf akg got pai riv rf ro rs) (hRel : RelL lo bi lst bst itm rea buy got riv pai sc wc byr reaC rvl pad gt) (hc : ((0 ≤ V1 ∧ V1 < ((lo : Nat) : Int)) ∧ lst V1.toNat = 111)) : MIa lo bi ru (ol - 1) ob fib gra res buy (va_up lst V1.toNat 119) bst rea bid pri itm akf akg got pai riv rf ro rs ∧ RelL lo bi (va_up lst V1.toNat 119) bst itm rea buy got riv pai sc wc byr reaC rvl pad gt := by
  obtain ⟨hlo, hbi, hru, hol, hob, hfib, hgra, hres, hbuy, hlst, hbst, hrea, hbid, hpri, hitm, hakf, hakg, hgot, hriv, hrf, hro, hrs, hpai, hcl9, hcb9⟩ := hM
  obtain ⟨hrC, hrB, hrR, hrV, hrP, hsc, hwc⟩ := hRel
  exact ⟨⟨hlo, hbi, hru, (by omega), hob, hfib, hgra, hres, hbuy, (up_all (P := fun q => q < 65536) hlst (by omega)), hbst, hrea, hbid, hpri, hitm, hakf, hakg, hgot, hriv, hrf, hro, hrs, hpai, ((cnt_out (by omega) hc.2 (by decide)).trans (congrArg (· - 1) hcl9)), hcb9⟩, ⟨hrC, (fun q hq hs => by
    have hn : q ≠ V1.toNat := fun e => by subst e; rw [va_up_self] at hs; omega
    rw [va_up_ne _ _ hn] at hs
    exact hrB q hq hs), hrR, hrV, hrP, (hsc.trans (cnt_keep (by omega) (by decide)).symm), hwc⟩⟩
theorem mo_allow {lo bi ru ol ob : Nat} {fib gra res buy lst bst rea bid pri itm akf akg got : Nat → Nat} {pai : Nat → Int} {riv rf ro rs : Nat → Nat} {sc wc : Nat} {byr : Nat → Int} {reaC : Nat → Nat} {rvl pad gt : Nat → Int} {V1 V2 V3 : Int} (hM : MIa lo bi ru ol ob fib gra res buy lst bst rea bid pri itm akf akg got pai riv rf ro rs) (hRel : RelL lo bi lst bst itm rea buy got riv pai sc wc byr reaC rvl pad gt) (hc : ((0 ≤ V1 ∧ V1 ≤ 3 ∧ 0 ≤ V2 ∧ V2 ≤ 3 ∧ 0 ≤ V3 ∧ V3 ≤ 4) ∧ ru < 6)) : MIa lo bi (ru + 1) ol ob fib gra res buy lst bst rea bid pri itm akf akg got pai riv (va_up rf ru V1.toNat) (va_up ro ru V2.toNat) (va_up rs ru V3.toNat) ∧ RelL lo bi lst bst itm rea buy got riv pai sc wc byr reaC rvl pad gt := by
  obtain ⟨hlo, hbi, hru, hol, hob, hfib, hgra, hres, hbuy, hlst, hbst, hrea, hbid, hpri, hitm, hakf, hakg, hgot, hriv, hrf, hro, hrs, hpai, hcl9, hcb9⟩ := hM
  obtain ⟨hrC, hrB, hrR, hrV, hrP, hsc, hwc⟩ := hRel
  exact ⟨⟨hlo, hbi, (by omega), hol, hob, hfib, hgra, hres, hbuy, hlst, hbst, hrea, hbid, hpri, hitm, hakf, hakg, hgot, hriv, (up_all (P := fun q => q ≤ 3) hrf (by omega)), (up_all (P := fun q => q ≤ 3) hro (by omega)), (up_all (P := fun q => q ≤ 4) hrs (by omega)), hpai, hcl9, hcb9⟩, ⟨hrC, hrB, hrR, hrV, hrP, hsc, hwc⟩⟩
theorem mo_forbid {lo bi ru ol ob : Nat} {fib gra res buy lst bst rea bid pri itm akf akg got : Nat → Nat} {pai : Nat → Int} {riv rf ro rs : Nat → Nat} {sc wc : Nat} {byr : Nat → Int} {reaC : Nat → Nat} {rvl pad gt : Nat → Int} (hM : MIa lo bi ru ol ob fib gra res buy lst bst rea bid pri itm akf akg got pai riv rf ro rs) (hRel : RelL lo bi lst bst itm rea buy got riv pai sc wc byr reaC rvl pad gt) (hc : (0 < ru)) : MIa lo bi (ru - 1) ol ob fib gra res buy lst bst rea bid pri itm akf akg got pai riv rf ro rs ∧ RelL lo bi lst bst itm rea buy got riv pai sc wc byr reaC rvl pad gt := by
  obtain ⟨hlo, hbi, hru, hol, hob, hfib, hgra, hres, hbuy, hlst, hbst, hrea, hbid, hpri, hitm, hakf, hakg, hgot, hriv, hrf, hro, hrs, hpai, hcl9, hcb9⟩ := hM
  obtain ⟨hrC, hrB, hrR, hrV, hrP, hsc, hwc⟩ := hRel
  exact ⟨⟨hlo, hbi, (by omega), hol, hob, hfib, hgra, hres, hbuy, hlst, hbst, hrea, hbid, hpri, hitm, hakf, hakg, hgot, hriv, hrf, hro, hrs, hpai, hcl9, hcb9⟩, ⟨hrC, hrB, hrR, hrV, hrP, hsc, hwc⟩⟩
theorem mo_bid {lo bi ru ol ob : Nat} {fib gra res buy lst bst rea bid pri itm akf akg got : Nat → Nat} {pai : Nat → Int} {riv rf ro rs : Nat → Nat} {sc wc : Nat} {byr : Nat → Int} {reaC : Nat → Nat} {rvl pad gt : Nat → Int} {V1 V2 : Int} (hM : MIa lo bi ru ol ob fib gra res buy lst bst rea bid pri itm akf akg got pai riv rf ro rs) (hRel : RelL lo bi lst bst itm rea buy got riv pai sc wc byr reaC rvl pad gt) (hc : ((0 ≤ V1 ∧ V1 ≤ 7 ∧ 0 ≤ V2 ∧ V2 ≤ 9999) ∧ ob < 8 ∧ bi < 40)) : MIa lo (bi + 1) ru ol (ob + 1) fib gra res buy lst (va_up bst bi 111) rea (va_up bid bi V1.toNat) (va_up pri bi V2.toNat) (va_up itm bi 0) akf akg got pai riv rf ro rs ∧ RelL lo (bi + 1) lst (va_up bst bi 111) (va_up itm bi 0) rea buy got riv pai sc wc byr (va_up reaC bi 109) (va_up rvl bi (-1)) (va_up pad bi 0) gt := by
  obtain ⟨hlo, hbi, hru, hol, hob, hfib, hgra, hres, hbuy, hlst, hbst, hrea, hbid, hpri, hitm, hakf, hakg, hgot, hriv, hrf, hro, hrs, hpai, hcl9, hcb9⟩ := hM
  obtain ⟨hrC, hrB, hrR, hrV, hrP, hsc, hwc⟩ := hRel
  exact ⟨⟨hlo, (by omega), hru, hol, (by omega), hfib, hgra, hres, hbuy, hlst, (up_all (P := fun q => q < 65536) hbst (by omega)), hrea, (up_all (P := fun q => q < 8) hbid (by omega)), (up_all (P := fun q => q ≤ 9999) hpri (by omega)), (up_all (P := fun q => q ≤ 3) hitm (by omega)), hakf, hakg, hgot, hriv, hrf, hro, hrs, hpai, hcl9, ((cnt_in 111).trans (congrArg (· + 1) hcb9))⟩, ⟨(up_all (P := fun q => q < 65536) hrC (by omega)), hrB, (fun q hq hs => by
    have hn : q ≠ bi := fun e => by subst e; rw [va_up_self] at hs; omega
    rw [va_up_ne _ _ hn] at hs
    rw [va_up_ne _ _ hn]
    exact hrR q (by omega) hs), (fun q hq hs hs2 => by
    have hn : q ≠ bi := fun e => by subst e; rw [va_up_self] at hs; omega
    rw [va_up_ne _ _ hn] at hs
    rw [va_up_ne _ _ hn]
    exact hrV q (by omega) hs hs2), (fun q hq hs => by
    have hn : q ≠ bi := fun e => by subst e; rw [va_up_self] at hs; omega
    rw [va_up_ne _ _ hn] at hs
    rw [va_up_ne _ _ hn, va_up_ne _ _ hn]
    exact hrP q (by omega) hs), hsc, (hwc.trans (cnt_new (by decide)).symm)⟩⟩
theorem mo_ask {lo bi ru ol ob : Nat} {fib gra res buy lst bst rea bid pri itm akf akg got : Nat → Nat} {pai : Nat → Int} {riv rf ro rs : Nat → Nat} {sc wc : Nat} {byr : Nat → Int} {reaC : Nat → Nat} {rvl pad gt : Nat → Int} {V1 V2 : Int} {G3 : Nat} (hM : MIa lo bi ru ol ob fib gra res buy lst bst rea bid pri itm akf akg got pai riv rf ro rs) (hRel : RelL lo bi lst bst itm rea buy got riv pai sc wc byr reaC rvl pad gt) (hc : ((0 ≤ V1 ∧ V1 < ((bi : Nat) : Int)) ∧ (0 ≤ V2 ∧ V2 ≤ 3 ∧ 97 ≤ G3 ∧ G3 ≤ 101) ∧ bst V1.toNat = 111 ∧ itm V1.toNat < 3)) : MIa lo bi ru ol ob fib gra res buy lst bst rea bid pri (va_up itm V1.toNat (itm V1.toNat + 1)) (va_up akf (3 * V1.toNat + itm V1.toNat) V2.toNat) (va_up akg (3 * V1.toNat + itm V1.toNat) G3) got pai riv rf ro rs ∧ RelL lo bi lst bst (va_up itm V1.toNat (itm V1.toNat + 1)) rea buy got riv pai sc wc byr reaC rvl pad (va_up gt (3 * V1.toNat + itm V1.toNat) (-1)) := by
  obtain ⟨hlo, hbi, hru, hol, hob, hfib, hgra, hres, hbuy, hlst, hbst, hrea, hbid, hpri, hitm, hakf, hakg, hgot, hriv, hrf, hro, hrs, hpai, hcl9, hcb9⟩ := hM
  obtain ⟨hrC, hrB, hrR, hrV, hrP, hsc, hwc⟩ := hRel
  exact ⟨⟨hlo, hbi, hru, hol, hob, hfib, hgra, hres, hbuy, hlst, hbst, hrea, hbid, hpri, (up_all (P := fun q => q ≤ 3) hitm (by omega)), (up_all (P := fun q => q ≤ 3) hakf (by omega)), (up_all (P := fun q => q ≤ 101) hakg (by omega)), hgot, hriv, hrf, hro, hrs, hpai, hcl9, hcb9⟩, ⟨hrC, hrB, hrR, hrV, (fun q hq hs => by
    have hn : q ≠ V1.toNat := fun e => by subst e; omega
    rw [va_up_ne _ _ hn]
    refine ⟨(hrP q hq hs).1, fun j hj => ?_⟩
    have h3 := hitm q
    rw [va_up_ne _ _ (by omega : 3 * q + j ≠ 3 * V1.toNat + itm V1.toNat)]
    exact (hrP q hq hs).2 j hj), hsc, hwc⟩⟩
theorem mo_raise {lo bi ru ol ob : Nat} {fib gra res buy lst bst rea bid pri itm akf akg got : Nat → Nat} {pai : Nat → Int} {riv rf ro rs : Nat → Nat} {sc wc : Nat} {byr : Nat → Int} {reaC : Nat → Nat} {rvl pad gt : Nat → Int} {V1 V2 : Int} (hM : MIa lo bi ru ol ob fib gra res buy lst bst rea bid pri itm akf akg got pai riv rf ro rs) (hRel : RelL lo bi lst bst itm rea buy got riv pai sc wc byr reaC rvl pad gt) (hc : ((0 ≤ V1 ∧ V1 < ((bi : Nat) : Int)) ∧ bst V1.toNat = 111 ∧ (pri V1.toNat : Int) < V2 ∧ V2 ≤ 9999)) : MIa lo bi ru ol ob fib gra res buy lst bst rea bid (va_up pri V1.toNat V2.toNat) itm akf akg got pai riv rf ro rs ∧ RelL lo bi lst bst itm rea buy got riv pai sc wc byr reaC rvl pad gt := by
  obtain ⟨hlo, hbi, hru, hol, hob, hfib, hgra, hres, hbuy, hlst, hbst, hrea, hbid, hpri, hitm, hakf, hakg, hgot, hriv, hrf, hro, hrs, hpai, hcl9, hcb9⟩ := hM
  obtain ⟨hrC, hrB, hrR, hrV, hrP, hsc, hwc⟩ := hRel
  exact ⟨⟨hlo, hbi, hru, hol, hob, hfib, hgra, hres, hbuy, hlst, hbst, hrea, hbid, (up_all (P := fun q => q ≤ 9999) hpri (by omega)), hitm, hakf, hakg, hgot, hriv, hrf, hro, hrs, hpai, hcl9, hcb9⟩, ⟨hrC, hrB, hrR, hrV, hrP, hsc, hwc⟩⟩
theorem mo_cancel {lo bi ru ol ob : Nat} {fib gra res buy lst bst rea bid pri itm akf akg got : Nat → Nat} {pai : Nat → Int} {riv rf ro rs : Nat → Nat} {sc wc : Nat} {byr : Nat → Int} {reaC : Nat → Nat} {rvl pad gt : Nat → Int} {V1 : Int} (hM : MIa lo bi ru ol ob fib gra res buy lst bst rea bid pri itm akf akg got pai riv rf ro rs) (hRel : RelL lo bi lst bst itm rea buy got riv pai sc wc byr reaC rvl pad gt) (hc : ((0 ≤ V1 ∧ V1 < ((bi : Nat) : Int)) ∧ bst V1.toNat = 111)) : MIa lo bi ru ol (ob - 1) fib gra res buy lst (va_up bst V1.toNat 99) rea bid pri itm akf akg got pai riv rf ro rs ∧ RelL lo bi lst (va_up bst V1.toNat 99) itm rea buy got riv pai sc wc byr reaC rvl pad gt := by
  obtain ⟨hlo, hbi, hru, hol, hob, hfib, hgra, hres, hbuy, hlst, hbst, hrea, hbid, hpri, hitm, hakf, hakg, hgot, hriv, hrf, hro, hrs, hpai, hcl9, hcb9⟩ := hM
  obtain ⟨hrC, hrB, hrR, hrV, hrP, hsc, hwc⟩ := hRel
  exact ⟨⟨hlo, hbi, hru, hol, (by omega), hfib, hgra, hres, hbuy, hlst, (up_all (P := fun q => q < 65536) hbst (by omega)), hrea, hbid, hpri, hitm, hakf, hakg, hgot, hriv, hrf, hro, hrs, hpai, hcl9, ((cnt_out (by omega) hc.2 (by decide)).trans (congrArg (· - 1) hcb9))⟩, ⟨hrC, hrB, (fun q hq hs => by
    have hn : q ≠ V1.toNat := fun e => by subst e; rw [va_up_self] at hs; omega
    rw [va_up_ne _ _ hn] at hs
    exact hrR q hq hs), (fun q hq hs hs2 => by
    have hn : q ≠ V1.toNat := fun e => by subst e; rw [va_up_self] at hs; omega
    rw [va_up_ne _ _ hn] at hs
    exact hrV q hq hs hs2), (fun q hq hs => by
    have hn : q ≠ V1.toNat := fun e => by subst e; rw [va_up_self] at hs; omega
    rw [va_up_ne _ _ hn] at hs
    exact hrP q hq hs), hsc, (hwc.trans (cnt_keep (by omega) (by decide)).symm)⟩⟩
section KCH
variable {p : Program} {l : Launch} {e : Env} {s : State} {m : MethodId} {args : Array Value} {below : List Frame} {meth : Method} {c : Code} {H : Heap} {locs : List Loc} {cells slots : Nat} {Q : State → Prop}
variable {ls : Array Slot} {rt : Option FieldType} {G : Gt} {A : Nat → Prop} {w : va_W} {b L i o1 o2 : Nat} {xs : Nat → Int32} {z f h a : Nat → Nat} {fl : Nat → Int64} {fd : Nat → UInt64} {k : Nat}
set_option maxRecDepth 100000 in
set_option maxHeartbeats 4000000 in
theorem k_offer (hl9 : l.stackTraces = false) (X : Cx p s m args meth c cL_law 9 RL rt G A) (hX : va_X b L xs s s.heap) (hbl : b < s.heap.size) (hbA : ¬ A b) (hL : L ≤ 2048) (hi : i + 4 ≤ L) (hcl : cells + 30 ≤ 603072) (hsl : slots + 400 ≤ 7215210) (hLI : LI G z f h a o1 o2 w) (hW : Wd G A s w H locs) (hl : lv_has ls 9 (LV6 b (z 0) (a 0) o1 o2 i)) (kk : ∀ (w : va_W) (H : Heap) (locs : List Loc) (ls : Array Slot), LI G z f h a o1 o2 w → Wd G A s w H locs → lv_has ls 9 (LV6 b (z 0) (a 0) o1 o2 i) → W p l e room_1 s m args below meth c H locs (cells + 30) (slots + 400) Q (F0 m 2290 ls [])) : W p l e room_1 s m args below meth c H locs cells slots Q (F0 m 216 ls []) := by
  have hx := X.exec
  have hb := X.bytes
  obtain ⟨th, fl, fd, lo, bi, ru, ol, ob, tk, fib, gra, res, buy, lst, bst, rea, bid, pri, itm, akf, akg, got, pai, riv, rf, ro, rs, lat, bat, val, cos, row, ahe, wan, giv, sc, wc, byr, reaC, rvl, pad, gt, X1, hM, hSB, hRel, hC0, hp1⟩ := hLI
  have hC1 := cf_inn hC0 hp1
  have hm1 : outL G o1 fl ∈ w := cf_mem hC1 (List.mem_append_right _ List.mem_cons_self)
  have hCI := cia_of hM hRel.1
  obtain ⟨fs, hz0⟩ := cf_z hC1
  obtain ⟨hlo, hbi, hru, hol, hob, hfib, hgra, hres, hbuy, hlst, hbst, hrea, hbid, hpri, hitm, hakf, hakg, hgot, hriv, hrf, hro, hrs, hpai, hcl9, hcb9⟩ := id hM
  obtain ⟨hlat, hbat, hcos, hrow, hahe, hwan, hgiv⟩ := id hSB
  obtain ⟨hrC, hrB, hrR, hrV, hrP, hsc, hwc⟩ := id hRel
  obtain ⟨lc, bc, ql, ln, rv, rm, bn, bd, pr, ic, flx, qu, rc, gp, bs, bv, cf, wt, ho, hFI, hCR⟩ := id hC1
  obtain ⟨v1, hv1, hv1e⟩ := z_ex (xs (i + 1))
  obtain ⟨g2, hg2, hg2e⟩ := g_ex (xs (i + 2))
  obtain ⟨v3, hv3, hv3e⟩ := z_ex (xs (i + 3))
  refine lv_aload_n hx hb dL_law_216 rfl (lv_at hl 1 rfl) ?_
  refine law_arg X hX hbl hbA hW (lv_at hl 0 rfl) (lv_at hl 5 rfl) 1 (by decide) hi hL (v := zI v1) hv1e (by decide) dL_law_217 dL_law_218 dL_law_220 dL_law_221 dL_law_222 ?_
  refine law_arg X hX hbl hbA hW (lv_at hl 0 rfl) (lv_at hl 5 rfl) 2 (by decide) hi hL (v := _) rfl (by decide) dL_law_223 dL_law_224 dL_law_226 dL_law_227 dL_law_228 ?_
  refine lv_i2c (v := nI g2) hx hb dL_law_229 hg2e ?_
  refine law_arg X hX hbl hbA hW (lv_at hl 0 rfl) (lv_at hl 5 rfl) 3 (by decide) hi hL (v := zI v3) hv3e (by decide) dL_law_230 dL_law_231 dL_law_233 dL_law_234 dL_law_235 ?_
  refine lv_aload_n hx hb dL_law_236 rfl (lv_at hl 3 rfl) ?_
  refine go_i X hW (rest := []) (run_SW X hW (As := [.ref (z 0), .int (zI v1), .int (nI g2), .int (zI v3), .ref o1]) (rest := []) (h_offer l G w (z 0) o1 fs fl _ _ _ (c_X6_offer l hl9 G _ _ _ _ _ _ _ _ _ _ _ _ _ _ _ _ _ _ _ _ _ _ _ _ _ _ _ _ _ _ _ _ _ _ hCI hCR hv1 hv3 hg2) hz0 (fun r w2 q => cr_mem q.2.2 (List.mem_append_right _ (List.mem_append_right _ (List.mem_append_right _ List.mem_cons_self)))) (fun E w2 q => by rcases q with ⟨q, -⟩ | ⟨q, -⟩ <;> simp [q]) H.size) wq_406 wq_407 wq_408 rfl hyL_offer rfl rfl hl.1 (Nat.le_of_ble_eq_true rfl) ⟨Nat.le_of_ble_eq_true rfl, Nat.le_of_ble_eq_true rfl⟩ ⟨by show cells + 3 ≤ 603072; omega, by show slots + 112 ≤ 7215210; omega⟩ dL_law_237) (fun r6 w2 H locs hP hW => ?_)
  have hz1 := hz0
  rcases hP with ⟨h6, v0, w3, hpp, hF⟩ | ⟨h6, hxx⟩ | ⟨h6, hxx⟩
  · obtain ⟨hc, hr, hC2⟩ := hpp
    obtain ⟨X2, hC3, hp2⟩ := cf_out (cf_upd ⟨lc, bc, ql, ln, rv, rm, bn, bd, pr, ic, flx, qu, rc, gp, bs, bv, cf, wt, ho, hFI, hC2⟩ hF)
    have hW := hW.perm hp2
    refine lv_istore (lv' := (6, .int r6) :: LV6 b (z 0) (a 0) o1 o2 i) hx hb dL_law_240 hl (by decide) rfl (fun ls hl => ?_)
    refine lv_aload_n hx hb dL_law_242 rfl (lv_at hl 3 rfl) ?_
    refine law_arg X hX hbl hbA hW (lv_at hl 1 rfl) (lv_at hl 6 rfl) 1 (by decide) hi hL (v := zI v1) hv1e (by decide) dL_law_243 dL_law_244 dL_law_246 dL_law_247 dL_law_248 ?_
    refine law_arg X hX hbl hbA hW (lv_at hl 1 rfl) (lv_at hl 6 rfl) 2 (by decide) hi hL (v := _) rfl (by decide) dL_law_249 dL_law_250 dL_law_252 dL_law_253 dL_law_254 ?_
    refine lv_i2c (v := nI g2) hx hb dL_law_255 hg2e ?_
    refine law_arg X hX hbl hbA hW (lv_at hl 1 rfl) (lv_at hl 6 rfl) 3 (by decide) hi hL (v := zI v3) hv3e (by decide) dL_law_256 dL_law_257 dL_law_259 dL_law_260 dL_law_261 ?_
    refine go_i X hW (rest := []) (run_V X hW (As := [.int (zI v1), .int (nI g2), .int (zI v3)]) (rest := []) 10 0 rfl (c_X7_offer l G a _ _ _ _ _ _ _ _ _ _ _ _ _ _ _ _ _ _ _ _ _ _ _ _ _ _ _ _ _ _ _ _ _ _ _ _ _ hM hv1 hg2 hv3 H.size) (gi_V wq_1185 wq_1186 wq_1187 wq_67 wq_1188) rfl hyX7_offer rfl rfl rfl hl.1 (Nat.le_of_ble_eq_true rfl) ⟨Nat.le_of_ble_eq_true rfl, Nat.le_of_ble_eq_true rfl⟩ ⟨by show cells + 3 + 0 ≤ 603072; omega, by show slots + 112 + 0 ≤ 7215210; omega⟩ dL_law_262) (fun r7 w7 H locs hp7 hW => ?_)
    refine lv_istore (lv' := (7, .int r7) :: (6, .int r6) :: LV6 b (z 0) (a 0) o1 o2 i) hx hb dL_law_265 hl (by decide) rfl (fun ls hl => ?_)
    rcases hp7 with ⟨hd, hr7, hw7⟩ | ⟨hd, hr7, hw7⟩ | ⟨hd, hr7, hw7⟩
    · exfalso; clear hM hSB hRel hCI hC1; omega
    · exfalso; clear hM hSB hRel hCI hC1; omega
    · rw [hw7] at hW
      exact law_tailI X (k := 0) ⟨(lo + 1), bi, ru, (ol + 1), ob, tk, (va_up fib lo v1.toNat), (va_up gra lo g2), (va_up res lo v3.toNat), buy, (va_up lst lo 111), bst, rea, bid, pri, itm, akf, akg, got, pai, riv, rf, ro, rs, lat, bat, val, cos, row, ahe, wan, giv, sc, wc, (va_up byr lo (-1)), reaC, rvl, pad, gt, X2, (mo_offer hM hRel hc).1, hSB, (mo_offer hM hRel hc).2, hC3, List.Perm.refl _⟩ hW hl h6 (fun _ => (if_pos rfl).trans (congrArg Int32.toInt64 (hr.trans hr7.symm))) ⟨by show cells + 3 + 0 + 0 ≤ 603072; omega, by show slots + 112 + 0 + 0 ≤ 7215210; omega⟩ 267 dL_law_267 dL_law_268 dL_law_271 dL_law_273 dL_law_278 dL_law_280 dL_law_283 dL_law_284 dL_law_285 dL_law_286 dL_law_288 dL_law_289 dL_law_290 dL_law_295 rfl (fun w H1 locs1 q1 q2 q3 => W.widen (by show cells + 3 + 0 ≤ _; omega) (by show slots + 112 + 0 ≤ _; omega) (kk w H1 locs1 ls q1 q2 q3))
  · obtain ⟨hc, hC2⟩ : _ ∧ _ := by
      rcases hxx with ⟨hE, hc, hC2⟩ | ⟨hE, hc, hC2⟩
      · exact ⟨hc, hC2⟩
      · exact absurd hE (by decide)
    rw [hC2] at hW
    obtain ⟨X2, hC3, hp2⟩ := cf_out hC1
    have hW := hW.perm hp2
    refine lv_istore (lv' := (6, .int r6) :: LV6 b (z 0) (a 0) o1 o2 i) hx hb dL_law_240 hl (by decide) rfl (fun ls hl => ?_)
    refine lv_aload_n hx hb dL_law_242 rfl (lv_at hl 3 rfl) ?_
    refine law_arg X hX hbl hbA hW (lv_at hl 1 rfl) (lv_at hl 6 rfl) 1 (by decide) hi hL (v := zI v1) hv1e (by decide) dL_law_243 dL_law_244 dL_law_246 dL_law_247 dL_law_248 ?_
    refine law_arg X hX hbl hbA hW (lv_at hl 1 rfl) (lv_at hl 6 rfl) 2 (by decide) hi hL (v := _) rfl (by decide) dL_law_249 dL_law_250 dL_law_252 dL_law_253 dL_law_254 ?_
    refine lv_i2c (v := nI g2) hx hb dL_law_255 hg2e ?_
    refine law_arg X hX hbl hbA hW (lv_at hl 1 rfl) (lv_at hl 6 rfl) 3 (by decide) hi hL (v := zI v3) hv3e (by decide) dL_law_256 dL_law_257 dL_law_259 dL_law_260 dL_law_261 ?_
    refine go_i X hW (rest := []) (run_V X hW (As := [.int (zI v1), .int (nI g2), .int (zI v3)]) (rest := []) 10 0 rfl (c_X7_offer l G a _ _ _ _ _ _ _ _ _ _ _ _ _ _ _ _ _ _ _ _ _ _ _ _ _ _ _ _ _ _ _ _ _ _ _ _ _ hM hv1 hg2 hv3 H.size) (gi_V wq_1185 wq_1186 wq_1187 wq_67 wq_1188) rfl hyX7_offer rfl rfl rfl hl.1 (Nat.le_of_ble_eq_true rfl) ⟨Nat.le_of_ble_eq_true rfl, Nat.le_of_ble_eq_true rfl⟩ ⟨by show cells + 3 + 0 ≤ 603072; omega, by show slots + 112 + 0 ≤ 7215210; omega⟩ dL_law_262) (fun r7 w7 H locs hp7 hW => ?_)
    refine lv_istore (lv' := (7, .int r7) :: (6, .int r6) :: LV6 b (z 0) (a 0) o1 o2 i) hx hb dL_law_265 hl (by decide) rfl (fun ls hl => ?_)
    rcases hp7 with ⟨hd, hr7, hw7⟩ | ⟨hd, hr7, hw7⟩ | ⟨hd, hr7, hw7⟩
    · rw [hw7] at hW
      exact law_tailI X (k := 1) ⟨lo, bi, ru, ol, ob, tk, fib, gra, res, buy, lst, bst, rea, bid, pri, itm, akf, akg, got, pai, riv, rf, ro, rs, lat, bat, val, cos, row, ahe, wan, giv, sc, wc, byr, reaC, rvl, pad, gt, X2, hM, hSB, hRel, hC3, List.Perm.refl _⟩ hW hl h6 (fun q => absurd (h6.symm.trans q) (by decide)) ⟨by show cells + 3 + 0 + 0 ≤ 603072; omega, by show slots + 112 + 0 + 0 ≤ 7215210; omega⟩ 267 dL_law_267 dL_law_268 dL_law_271 dL_law_273 dL_law_278 dL_law_280 dL_law_283 dL_law_284 dL_law_285 dL_law_286 dL_law_288 dL_law_289 dL_law_290 dL_law_295 rfl (fun w H1 locs1 q1 q2 q3 => W.widen (by show cells + 3 + 0 ≤ _; omega) (by show slots + 112 + 0 ≤ _; omega) (kk w H1 locs1 ls q1 q2 q3))
    · exfalso; clear hM hSB hRel hCI hC1; omega
    · exfalso; clear hM hSB hRel hCI hC1; omega
  · obtain ⟨hc, hC2⟩ : _ ∧ _ := by
      rcases hxx with ⟨hE, hc, hC2⟩ | ⟨hE, hc, hC2⟩
      · exact absurd hE (by decide)
      · exact ⟨hc, hC2⟩
    rw [hC2] at hW
    obtain ⟨X2, hC3, hp2⟩ := cf_out hC1
    have hW := hW.perm hp2
    refine lv_istore (lv' := (6, .int r6) :: LV6 b (z 0) (a 0) o1 o2 i) hx hb dL_law_240 hl (by decide) rfl (fun ls hl => ?_)
    refine lv_aload_n hx hb dL_law_242 rfl (lv_at hl 3 rfl) ?_
    refine law_arg X hX hbl hbA hW (lv_at hl 1 rfl) (lv_at hl 6 rfl) 1 (by decide) hi hL (v := zI v1) hv1e (by decide) dL_law_243 dL_law_244 dL_law_246 dL_law_247 dL_law_248 ?_
    refine law_arg X hX hbl hbA hW (lv_at hl 1 rfl) (lv_at hl 6 rfl) 2 (by decide) hi hL (v := _) rfl (by decide) dL_law_249 dL_law_250 dL_law_252 dL_law_253 dL_law_254 ?_
    refine lv_i2c (v := nI g2) hx hb dL_law_255 hg2e ?_
    refine law_arg X hX hbl hbA hW (lv_at hl 1 rfl) (lv_at hl 6 rfl) 3 (by decide) hi hL (v := zI v3) hv3e (by decide) dL_law_256 dL_law_257 dL_law_259 dL_law_260 dL_law_261 ?_
    refine go_i X hW (rest := []) (run_V X hW (As := [.int (zI v1), .int (nI g2), .int (zI v3)]) (rest := []) 10 0 rfl (c_X7_offer l G a _ _ _ _ _ _ _ _ _ _ _ _ _ _ _ _ _ _ _ _ _ _ _ _ _ _ _ _ _ _ _ _ _ _ _ _ _ hM hv1 hg2 hv3 H.size) (gi_V wq_1185 wq_1186 wq_1187 wq_67 wq_1188) rfl hyX7_offer rfl rfl rfl hl.1 (Nat.le_of_ble_eq_true rfl) ⟨Nat.le_of_ble_eq_true rfl, Nat.le_of_ble_eq_true rfl⟩ ⟨by show cells + 3 + 0 ≤ 603072; omega, by show slots + 112 + 0 ≤ 7215210; omega⟩ dL_law_262) (fun r7 w7 H locs hp7 hW => ?_)
    refine lv_istore (lv' := (7, .int r7) :: (6, .int r6) :: LV6 b (z 0) (a 0) o1 o2 i) hx hb dL_law_265 hl (by decide) rfl (fun ls hl => ?_)
    rcases hp7 with ⟨hd, hr7, hw7⟩ | ⟨hd, hr7, hw7⟩ | ⟨hd, hr7, hw7⟩
    · exfalso; clear hM hSB hRel hCI hC1; omega
    · rw [hw7] at hW
      exact law_tailI X (k := 2) ⟨lo, bi, ru, ol, ob, tk, fib, gra, res, buy, lst, bst, rea, bid, pri, itm, akf, akg, got, pai, riv, rf, ro, rs, lat, bat, val, cos, row, ahe, wan, giv, sc, wc, byr, reaC, rvl, pad, gt, X2, hM, hSB, hRel, hC3, List.Perm.refl _⟩ hW hl h6 (fun q => absurd (h6.symm.trans q) (by decide)) ⟨by show cells + 3 + 0 + 0 ≤ 603072; omega, by show slots + 112 + 0 + 0 ≤ 7215210; omega⟩ 267 dL_law_267 dL_law_268 dL_law_271 dL_law_273 dL_law_278 dL_law_280 dL_law_283 dL_law_284 dL_law_285 dL_law_286 dL_law_288 dL_law_289 dL_law_290 dL_law_295 rfl (fun w H1 locs1 q1 q2 q3 => W.widen (by show cells + 3 + 0 ≤ _; omega) (by show slots + 112 + 0 ≤ _; omega) (kk w H1 locs1 ls q1 q2 q3))
    · exfalso; clear hM hSB hRel hCI hC1; omega
set_option maxRecDepth 100000 in
set_option maxHeartbeats 4000000 in
theorem k_withdraw (hl9 : l.stackTraces = false) (X : Cx p s m args meth c cL_law 9 RL rt G A) (hX : va_X b L xs s s.heap) (hbl : b < s.heap.size) (hbA : ¬ A b) (hL : L ≤ 2048) (hi : i + 4 ≤ L) (hcl : cells + 30 ≤ 603072) (hsl : slots + 400 ≤ 7215210) (hLI : LI G z f h a o1 o2 w) (hW : Wd G A s w H locs) (hl : lv_has ls 9 (LV6 b (z 0) (a 0) o1 o2 i)) (kk : ∀ (w : va_W) (H : Heap) (locs : List Loc) (ls : Array Slot), LI G z f h a o1 o2 w → Wd G A s w H locs → lv_has ls 9 (LV6 b (z 0) (a 0) o1 o2 i) → W p l e room_1 s m args below meth c H locs (cells + 30) (slots + 400) Q (F0 m 2290 ls [])) : W p l e room_1 s m args below meth c H locs cells slots Q (F0 m 298 ls []) := by
  have hx := X.exec
  have hb := X.bytes
  obtain ⟨th, fl, fd, lo, bi, ru, ol, ob, tk, fib, gra, res, buy, lst, bst, rea, bid, pri, itm, akf, akg, got, pai, riv, rf, ro, rs, lat, bat, val, cos, row, ahe, wan, giv, sc, wc, byr, reaC, rvl, pad, gt, X1, hM, hSB, hRel, hC0, hp1⟩ := hLI
  have hC1 := cf_inn hC0 hp1
  have hm1 : outL G o1 fl ∈ w := cf_mem hC1 (List.mem_append_right _ List.mem_cons_self)
  have hCI := cia_of hM hRel.1
  obtain ⟨fs, hz0⟩ := cf_z hC1
  obtain ⟨hlo, hbi, hru, hol, hob, hfib, hgra, hres, hbuy, hlst, hbst, hrea, hbid, hpri, hitm, hakf, hakg, hgot, hriv, hrf, hro, hrs, hpai, hcl9, hcb9⟩ := id hM
  obtain ⟨hlat, hbat, hcos, hrow, hahe, hwan, hgiv⟩ := id hSB
  obtain ⟨hrC, hrB, hrR, hrV, hrP, hsc, hwc⟩ := id hRel
  obtain ⟨lc, bc, ql, ln, rv, rm, bn, bd, pr, ic, flx, qu, rc, gp, bs, bv, cf, wt, ho, hFI, hCR⟩ := id hC1
  obtain ⟨v1, hv1, hv1e⟩ := z_ex (xs (i + 1))
  refine lv_aload_n hx hb dL_law_298 rfl (lv_at hl 1 rfl) ?_
  refine law_arg X hX hbl hbA hW (lv_at hl 0 rfl) (lv_at hl 5 rfl) 1 (by decide) hi hL (v := zI v1) hv1e (by decide) dL_law_299 dL_law_300 dL_law_302 dL_law_303 dL_law_304 ?_
  refine lv_aload_n hx hb dL_law_305 rfl (lv_at hl 3 rfl) ?_
  refine go_i X hW (rest := []) (run_SW X hW (As := [.ref (z 0), .int (zI v1), .ref o1]) (rest := []) (h_withdraw l G w (z 0) o1 fs fl _ (c_X6_withdraw l hl9 G _ _ _ _ _ _ _ _ _ _ _ _ _ _ _ _ _ _ _ _ _ _ _ _ _ _ _ _ _ _ _ _ hCI hCR hv1) hz0 (fun r w2 q => cr_mem q.2.2 (List.mem_append_right _ (List.mem_append_right _ (List.mem_append_right _ List.mem_cons_self)))) (fun E w2 q => by rcases q with ⟨q, -⟩ | ⟨q, -⟩ <;> simp [q]) H.size) wq_596 wq_597 wq_598 rfl hyL_withdraw rfl rfl hl.1 (Nat.le_of_ble_eq_true rfl) ⟨Nat.le_of_ble_eq_true rfl, Nat.le_of_ble_eq_true rfl⟩ ⟨by show cells + 3 ≤ 603072; omega, by show slots + 18 ≤ 7215210; omega⟩ dL_law_306) (fun r6 w2 H locs hP hW => ?_)
  have hz1 := hz0
  rcases hP with ⟨h6, v0, w3, hpp, hF⟩ | ⟨h6, hxx⟩ | ⟨h6, hxx⟩
  · obtain ⟨hc, hr, hC2⟩ := hpp
    obtain ⟨X2, hC3, hp2⟩ := cf_out (cf_upd ⟨lc, bc, ql, ln, rv, rm, bn, bd, pr, ic, flx, qu, rc, gp, bs, bv, cf, wt, ho, hFI, hC2⟩ hF)
    have hW := hW.perm hp2
    refine lv_istore (lv' := (6, .int r6) :: LV6 b (z 0) (a 0) o1 o2 i) hx hb dL_law_309 hl (by decide) rfl (fun ls hl => ?_)
    refine lv_aload_n hx hb dL_law_311 rfl (lv_at hl 3 rfl) ?_
    refine law_arg X hX hbl hbA hW (lv_at hl 1 rfl) (lv_at hl 6 rfl) 1 (by decide) hi hL (v := zI v1) hv1e (by decide) dL_law_312 dL_law_313 dL_law_315 dL_law_316 dL_law_317 ?_
    refine go_i X hW (rest := []) (run_V X hW (As := [.int (zI v1)]) (rest := []) 10 0 rfl (c_X7_withdraw l G a _ _ _ _ _ _ _ _ _ _ _ _ _ _ _ _ _ _ _ _ _ _ _ _ _ _ _ _ _ _ _ _ _ _ _ hM hv1 H.size) (gi_V wq_1199 wq_1200 wq_1201 wq_67 wq_1202) rfl hyX7_withdraw rfl rfl rfl hl.1 (Nat.le_of_ble_eq_true rfl) ⟨Nat.le_of_ble_eq_true rfl, Nat.le_of_ble_eq_true rfl⟩ ⟨by show cells + 3 + 0 ≤ 603072; omega, by show slots + 18 + 0 ≤ 7215210; omega⟩ dL_law_318) (fun r7 w7 H locs hp7 hW => ?_)
    refine lv_istore (lv' := (7, .int r7) :: (6, .int r6) :: LV6 b (z 0) (a 0) o1 o2 i) hx hb dL_law_321 hl (by decide) rfl (fun ls hl => ?_)
    rcases hp7 with ⟨hd, hr7, hw7⟩ | ⟨hd, hr7, hw7⟩ | ⟨hd, hr7, hw7⟩
    · exfalso; clear hM hSB hRel hCI hC1; omega
    · exfalso; clear hM hSB hRel hCI hC1; omega
    · rw [hw7] at hW
      exact law_tailI X (k := 0) ⟨lo, bi, ru, (ol - 1), ob, tk, fib, gra, res, buy, (va_up lst v1.toNat 119), bst, rea, bid, pri, itm, akf, akg, got, pai, riv, rf, ro, rs, lat, bat, val, cos, row, ahe, wan, giv, sc, wc, byr, reaC, rvl, pad, gt, X2, (mo_withdraw hM hRel hc).1, hSB, (mo_withdraw hM hRel hc).2, hC3, List.Perm.refl _⟩ hW hl h6 (fun _ => (if_pos rfl).trans (congrArg Int32.toInt64 (hr.trans hr7.symm))) ⟨by show cells + 3 + 0 + 0 ≤ 603072; omega, by show slots + 18 + 0 + 0 ≤ 7215210; omega⟩ 323 dL_law_323 dL_law_324 dL_law_327 dL_law_329 dL_law_334 dL_law_336 dL_law_339 dL_law_340 dL_law_341 dL_law_342 dL_law_344 dL_law_345 dL_law_346 dL_law_351 rfl (fun w H1 locs1 q1 q2 q3 => W.widen (by show cells + 3 + 0 ≤ _; omega) (by show slots + 18 + 0 ≤ _; omega) (kk w H1 locs1 ls q1 q2 q3))
  · obtain ⟨hc, hC2⟩ : _ ∧ _ := by
      rcases hxx with ⟨hE, hc, hC2⟩ | ⟨hE, hc, hC2⟩
      · exact ⟨hc, hC2⟩
      · exact absurd hE (by decide)
    rw [hC2] at hW
    obtain ⟨X2, hC3, hp2⟩ := cf_out hC1
    have hW := hW.perm hp2
    refine lv_istore (lv' := (6, .int r6) :: LV6 b (z 0) (a 0) o1 o2 i) hx hb dL_law_309 hl (by decide) rfl (fun ls hl => ?_)
    refine lv_aload_n hx hb dL_law_311 rfl (lv_at hl 3 rfl) ?_
    refine law_arg X hX hbl hbA hW (lv_at hl 1 rfl) (lv_at hl 6 rfl) 1 (by decide) hi hL (v := zI v1) hv1e (by decide) dL_law_312 dL_law_313 dL_law_315 dL_law_316 dL_law_317 ?_
    refine go_i X hW (rest := []) (run_V X hW (As := [.int (zI v1)]) (rest := []) 10 0 rfl (c_X7_withdraw l G a _ _ _ _ _ _ _ _ _ _ _ _ _ _ _ _ _ _ _ _ _ _ _ _ _ _ _ _ _ _ _ _ _ _ _ hM hv1 H.size) (gi_V wq_1199 wq_1200 wq_1201 wq_67 wq_1202) rfl hyX7_withdraw rfl rfl rfl hl.1 (Nat.le_of_ble_eq_true rfl) ⟨Nat.le_of_ble_eq_true rfl, Nat.le_of_ble_eq_true rfl⟩ ⟨by show cells + 3 + 0 ≤ 603072; omega, by show slots + 18 + 0 ≤ 7215210; omega⟩ dL_law_318) (fun r7 w7 H locs hp7 hW => ?_)
    refine lv_istore (lv' := (7, .int r7) :: (6, .int r6) :: LV6 b (z 0) (a 0) o1 o2 i) hx hb dL_law_321 hl (by decide) rfl (fun ls hl => ?_)
    rcases hp7 with ⟨hd, hr7, hw7⟩ | ⟨hd, hr7, hw7⟩ | ⟨hd, hr7, hw7⟩
    · rw [hw7] at hW
      exact law_tailI X (k := 1) ⟨lo, bi, ru, ol, ob, tk, fib, gra, res, buy, lst, bst, rea, bid, pri, itm, akf, akg, got, pai, riv, rf, ro, rs, lat, bat, val, cos, row, ahe, wan, giv, sc, wc, byr, reaC, rvl, pad, gt, X2, hM, hSB, hRel, hC3, List.Perm.refl _⟩ hW hl h6 (fun q => absurd (h6.symm.trans q) (by decide)) ⟨by show cells + 3 + 0 + 0 ≤ 603072; omega, by show slots + 18 + 0 + 0 ≤ 7215210; omega⟩ 323 dL_law_323 dL_law_324 dL_law_327 dL_law_329 dL_law_334 dL_law_336 dL_law_339 dL_law_340 dL_law_341 dL_law_342 dL_law_344 dL_law_345 dL_law_346 dL_law_351 rfl (fun w H1 locs1 q1 q2 q3 => W.widen (by show cells + 3 + 0 ≤ _; omega) (by show slots + 18 + 0 ≤ _; omega) (kk w H1 locs1 ls q1 q2 q3))
    · exfalso; clear hM hSB hRel hCI hC1; omega
    · exfalso; clear hM hSB hRel hCI hC1; omega
  · obtain ⟨hc, hC2⟩ : _ ∧ _ := by
      rcases hxx with ⟨hE, hc, hC2⟩ | ⟨hE, hc, hC2⟩
      · exact absurd hE (by decide)
      · exact ⟨hc, hC2⟩
    rw [hC2] at hW
    obtain ⟨X2, hC3, hp2⟩ := cf_out hC1
    have hW := hW.perm hp2
    refine lv_istore (lv' := (6, .int r6) :: LV6 b (z 0) (a 0) o1 o2 i) hx hb dL_law_309 hl (by decide) rfl (fun ls hl => ?_)
    refine lv_aload_n hx hb dL_law_311 rfl (lv_at hl 3 rfl) ?_
    refine law_arg X hX hbl hbA hW (lv_at hl 1 rfl) (lv_at hl 6 rfl) 1 (by decide) hi hL (v := zI v1) hv1e (by decide) dL_law_312 dL_law_313 dL_law_315 dL_law_316 dL_law_317 ?_
    refine go_i X hW (rest := []) (run_V X hW (As := [.int (zI v1)]) (rest := []) 10 0 rfl (c_X7_withdraw l G a _ _ _ _ _ _ _ _ _ _ _ _ _ _ _ _ _ _ _ _ _ _ _ _ _ _ _ _ _ _ _ _ _ _ _ hM hv1 H.size) (gi_V wq_1199 wq_1200 wq_1201 wq_67 wq_1202) rfl hyX7_withdraw rfl rfl rfl hl.1 (Nat.le_of_ble_eq_true rfl) ⟨Nat.le_of_ble_eq_true rfl, Nat.le_of_ble_eq_true rfl⟩ ⟨by show cells + 3 + 0 ≤ 603072; omega, by show slots + 18 + 0 ≤ 7215210; omega⟩ dL_law_318) (fun r7 w7 H locs hp7 hW => ?_)
    refine lv_istore (lv' := (7, .int r7) :: (6, .int r6) :: LV6 b (z 0) (a 0) o1 o2 i) hx hb dL_law_321 hl (by decide) rfl (fun ls hl => ?_)
    rcases hp7 with ⟨hd, hr7, hw7⟩ | ⟨hd, hr7, hw7⟩ | ⟨hd, hr7, hw7⟩
    · exfalso; clear hM hSB hRel hCI hC1; omega
    · rw [hw7] at hW
      exact law_tailI X (k := 2) ⟨lo, bi, ru, ol, ob, tk, fib, gra, res, buy, lst, bst, rea, bid, pri, itm, akf, akg, got, pai, riv, rf, ro, rs, lat, bat, val, cos, row, ahe, wan, giv, sc, wc, byr, reaC, rvl, pad, gt, X2, hM, hSB, hRel, hC3, List.Perm.refl _⟩ hW hl h6 (fun q => absurd (h6.symm.trans q) (by decide)) ⟨by show cells + 3 + 0 + 0 ≤ 603072; omega, by show slots + 18 + 0 + 0 ≤ 7215210; omega⟩ 323 dL_law_323 dL_law_324 dL_law_327 dL_law_329 dL_law_334 dL_law_336 dL_law_339 dL_law_340 dL_law_341 dL_law_342 dL_law_344 dL_law_345 dL_law_346 dL_law_351 rfl (fun w H1 locs1 q1 q2 q3 => W.widen (by show cells + 3 + 0 ≤ _; omega) (by show slots + 18 + 0 ≤ _; omega) (kk w H1 locs1 ls q1 q2 q3))
    · exfalso; clear hM hSB hRel hCI hC1; omega
set_option maxRecDepth 100000 in
set_option maxHeartbeats 4000000 in
theorem k_allow (hl9 : l.stackTraces = false) (X : Cx p s m args meth c cL_law 9 RL rt G A) (hX : va_X b L xs s s.heap) (hbl : b < s.heap.size) (hbA : ¬ A b) (hL : L ≤ 2048) (hi : i + 4 ≤ L) (hcl : cells + 30 ≤ 603072) (hsl : slots + 400 ≤ 7215210) (hLI : LI G z f h a o1 o2 w) (hW : Wd G A s w H locs) (hl : lv_has ls 9 (LV6 b (z 0) (a 0) o1 o2 i)) (kk : ∀ (w : va_W) (H : Heap) (locs : List Loc) (ls : Array Slot), LI G z f h a o1 o2 w → Wd G A s w H locs → lv_has ls 9 (LV6 b (z 0) (a 0) o1 o2 i) → W p l e room_1 s m args below meth c H locs (cells + 30) (slots + 400) Q (F0 m 2290 ls [])) : W p l e room_1 s m args below meth c H locs cells slots Q (F0 m 354 ls []) := by
  have hx := X.exec
  have hb := X.bytes
  obtain ⟨th, fl, fd, lo, bi, ru, ol, ob, tk, fib, gra, res, buy, lst, bst, rea, bid, pri, itm, akf, akg, got, pai, riv, rf, ro, rs, lat, bat, val, cos, row, ahe, wan, giv, sc, wc, byr, reaC, rvl, pad, gt, X1, hM, hSB, hRel, hC0, hp1⟩ := hLI
  have hC1 := cf_inn hC0 hp1
  have hm1 : outL G o1 fl ∈ w := cf_mem hC1 (List.mem_append_right _ List.mem_cons_self)
  have hCI := cia_of hM hRel.1
  obtain ⟨fs, hz0⟩ := cf_z hC1
  obtain ⟨hlo, hbi, hru, hol, hob, hfib, hgra, hres, hbuy, hlst, hbst, hrea, hbid, hpri, hitm, hakf, hakg, hgot, hriv, hrf, hro, hrs, hpai, hcl9, hcb9⟩ := id hM
  obtain ⟨hlat, hbat, hcos, hrow, hahe, hwan, hgiv⟩ := id hSB
  obtain ⟨hrC, hrB, hrR, hrV, hrP, hsc, hwc⟩ := id hRel
  obtain ⟨lc, bc, ql, ln, rv, rm, bn, bd, pr, ic, flx, qu, rc, gp, bs, bv, cf, wt, ho, hFI, hCR⟩ := id hC1
  obtain ⟨v1, hv1, hv1e⟩ := z_ex (xs (i + 1))
  obtain ⟨v2, hv2, hv2e⟩ := z_ex (xs (i + 2))
  obtain ⟨v3, hv3, hv3e⟩ := z_ex (xs (i + 3))
  refine lv_aload_n hx hb dL_law_354 rfl (lv_at hl 1 rfl) ?_
  refine law_arg X hX hbl hbA hW (lv_at hl 0 rfl) (lv_at hl 5 rfl) 1 (by decide) hi hL (v := zI v1) hv1e (by decide) dL_law_355 dL_law_356 dL_law_358 dL_law_359 dL_law_360 ?_
  refine law_arg X hX hbl hbA hW (lv_at hl 0 rfl) (lv_at hl 5 rfl) 2 (by decide) hi hL (v := zI v2) hv2e (by decide) dL_law_361 dL_law_362 dL_law_364 dL_law_365 dL_law_366 ?_
  refine law_arg X hX hbl hbA hW (lv_at hl 0 rfl) (lv_at hl 5 rfl) 3 (by decide) hi hL (v := zI v3) hv3e (by decide) dL_law_367 dL_law_368 dL_law_370 dL_law_371 dL_law_372 ?_
  refine lv_aload_n hx hb dL_law_373 rfl (lv_at hl 3 rfl) ?_
  refine go_i X hW (rest := []) (run_SW X hW (As := [.ref (z 0), .int (zI v1), .int (zI v2), .int (zI v3), .ref o1]) (rest := []) (h_allow l G w (z 0) o1 fs fl _ _ _ (c_X6_allow l hl9 G _ _ _ _ _ _ _ _ _ _ _ _ _ _ _ _ _ _ _ _ _ _ _ _ _ _ _ _ _ _ _ _ _ _ hCI hCR hv1 hv2 hv3) hz0 (fun r w2 q => cr_mem q.2.2 (List.mem_append_right _ (List.mem_append_right _ (List.mem_append_right _ List.mem_cons_self)))) (fun E w2 q => by rcases q with ⟨q, -⟩ | ⟨q, -⟩ <;> simp [q]) H.size) wq_625 wq_626 wq_627 rfl hyL_allow rfl rfl hl.1 (Nat.le_of_ble_eq_true rfl) ⟨Nat.le_of_ble_eq_true rfl, Nat.le_of_ble_eq_true rfl⟩ ⟨by show cells + 3 ≤ 603072; omega, by show slots + 112 ≤ 7215210; omega⟩ dL_law_374) (fun r6 w2 H locs hP hW => ?_)
  have hz1 := hz0
  rcases hP with ⟨h6, v0, w3, hpp, hF⟩ | ⟨h6, hxx⟩ | ⟨h6, hxx⟩
  · obtain ⟨hc, hr, hC2⟩ := hpp
    obtain ⟨X2, hC3, hp2⟩ := cf_out (cf_upd ⟨lc, bc, ql, ln, rv, rm, bn, bd, pr, ic, flx, qu, rc, gp, bs, bv, cf, wt, ho, hFI, hC2⟩ hF)
    have hW := hW.perm hp2
    refine lv_istore (lv' := (6, .int r6) :: LV6 b (z 0) (a 0) o1 o2 i) hx hb dL_law_377 hl (by decide) rfl (fun ls hl => ?_)
    refine lv_aload_n hx hb dL_law_379 rfl (lv_at hl 3 rfl) ?_
    refine law_arg X hX hbl hbA hW (lv_at hl 1 rfl) (lv_at hl 6 rfl) 1 (by decide) hi hL (v := zI v1) hv1e (by decide) dL_law_380 dL_law_381 dL_law_383 dL_law_384 dL_law_385 ?_
    refine law_arg X hX hbl hbA hW (lv_at hl 1 rfl) (lv_at hl 6 rfl) 2 (by decide) hi hL (v := zI v2) hv2e (by decide) dL_law_386 dL_law_387 dL_law_389 dL_law_390 dL_law_391 ?_
    refine law_arg X hX hbl hbA hW (lv_at hl 1 rfl) (lv_at hl 6 rfl) 3 (by decide) hi hL (v := zI v3) hv3e (by decide) dL_law_392 dL_law_393 dL_law_395 dL_law_396 dL_law_397 ?_
    refine go_i X hW (rest := []) (run_V X hW (As := [.int (zI v1), .int (zI v2), .int (zI v3)]) (rest := []) 10 0 rfl (c_X7_allow l G a _ _ _ _ _ _ _ _ _ _ _ _ _ _ _ _ _ _ _ _ _ _ _ _ _ _ _ _ _ _ _ _ _ _ _ _ _ hM hv1 hv2 hv3 H.size) (gi_V wq_1207 wq_1208 wq_1209 wq_67 wq_1210) rfl hyX7_allow rfl rfl rfl hl.1 (Nat.le_of_ble_eq_true rfl) ⟨Nat.le_of_ble_eq_true rfl, Nat.le_of_ble_eq_true rfl⟩ ⟨by show cells + 3 + 0 ≤ 603072; omega, by show slots + 112 + 0 ≤ 7215210; omega⟩ dL_law_398) (fun r7 w7 H locs hp7 hW => ?_)
    refine lv_istore (lv' := (7, .int r7) :: (6, .int r6) :: LV6 b (z 0) (a 0) o1 o2 i) hx hb dL_law_401 hl (by decide) rfl (fun ls hl => ?_)
    rcases hp7 with ⟨hd, hr7, hw7⟩ | ⟨hd, hr7, hw7⟩ | ⟨hd, hr7, hw7⟩
    · exfalso; clear hM hSB hRel hCI hC1; omega
    · exfalso; clear hM hSB hRel hCI hC1; omega
    · rw [hw7] at hW
      exact law_tailI X (k := 0) ⟨lo, bi, (ru + 1), ol, ob, tk, fib, gra, res, buy, lst, bst, rea, bid, pri, itm, akf, akg, got, pai, riv, (va_up rf ru v1.toNat), (va_up ro ru v2.toNat), (va_up rs ru v3.toNat), lat, bat, val, cos, row, ahe, wan, giv, sc, wc, byr, reaC, rvl, pad, gt, X2, (mo_allow hM hRel hc).1, hSB, (mo_allow hM hRel hc).2, hC3, List.Perm.refl _⟩ hW hl h6 (fun _ => (if_pos rfl).trans (congrArg Int32.toInt64 (hr.trans hr7.symm))) ⟨by show cells + 3 + 0 + 0 ≤ 603072; omega, by show slots + 112 + 0 + 0 ≤ 7215210; omega⟩ 403 dL_law_403 dL_law_404 dL_law_407 dL_law_409 dL_law_414 dL_law_416 dL_law_419 dL_law_420 dL_law_421 dL_law_422 dL_law_424 dL_law_425 dL_law_426 dL_law_431 rfl (fun w H1 locs1 q1 q2 q3 => W.widen (by show cells + 3 + 0 ≤ _; omega) (by show slots + 112 + 0 ≤ _; omega) (kk w H1 locs1 ls q1 q2 q3))
  · obtain ⟨hc, hC2⟩ : _ ∧ _ := by
      rcases hxx with ⟨hE, hc, hC2⟩ | ⟨hE, hc, hC2⟩
      · exact ⟨hc, hC2⟩
      · exact absurd hE (by decide)
    rw [hC2] at hW
    obtain ⟨X2, hC3, hp2⟩ := cf_out hC1
    have hW := hW.perm hp2
    refine lv_istore (lv' := (6, .int r6) :: LV6 b (z 0) (a 0) o1 o2 i) hx hb dL_law_377 hl (by decide) rfl (fun ls hl => ?_)
    refine lv_aload_n hx hb dL_law_379 rfl (lv_at hl 3 rfl) ?_
    refine law_arg X hX hbl hbA hW (lv_at hl 1 rfl) (lv_at hl 6 rfl) 1 (by decide) hi hL (v := zI v1) hv1e (by decide) dL_law_380 dL_law_381 dL_law_383 dL_law_384 dL_law_385 ?_
    refine law_arg X hX hbl hbA hW (lv_at hl 1 rfl) (lv_at hl 6 rfl) 2 (by decide) hi hL (v := zI v2) hv2e (by decide) dL_law_386 dL_law_387 dL_law_389 dL_law_390 dL_law_391 ?_
    refine law_arg X hX hbl hbA hW (lv_at hl 1 rfl) (lv_at hl 6 rfl) 3 (by decide) hi hL (v := zI v3) hv3e (by decide) dL_law_392 dL_law_393 dL_law_395 dL_law_396 dL_law_397 ?_
    refine go_i X hW (rest := []) (run_V X hW (As := [.int (zI v1), .int (zI v2), .int (zI v3)]) (rest := []) 10 0 rfl (c_X7_allow l G a _ _ _ _ _ _ _ _ _ _ _ _ _ _ _ _ _ _ _ _ _ _ _ _ _ _ _ _ _ _ _ _ _ _ _ _ _ hM hv1 hv2 hv3 H.size) (gi_V wq_1207 wq_1208 wq_1209 wq_67 wq_1210) rfl hyX7_allow rfl rfl rfl hl.1 (Nat.le_of_ble_eq_true rfl) ⟨Nat.le_of_ble_eq_true rfl, Nat.le_of_ble_eq_true rfl⟩ ⟨by show cells + 3 + 0 ≤ 603072; omega, by show slots + 112 + 0 ≤ 7215210; omega⟩ dL_law_398) (fun r7 w7 H locs hp7 hW => ?_)
    refine lv_istore (lv' := (7, .int r7) :: (6, .int r6) :: LV6 b (z 0) (a 0) o1 o2 i) hx hb dL_law_401 hl (by decide) rfl (fun ls hl => ?_)
    rcases hp7 with ⟨hd, hr7, hw7⟩ | ⟨hd, hr7, hw7⟩ | ⟨hd, hr7, hw7⟩
    · rw [hw7] at hW
      exact law_tailI X (k := 1) ⟨lo, bi, ru, ol, ob, tk, fib, gra, res, buy, lst, bst, rea, bid, pri, itm, akf, akg, got, pai, riv, rf, ro, rs, lat, bat, val, cos, row, ahe, wan, giv, sc, wc, byr, reaC, rvl, pad, gt, X2, hM, hSB, hRel, hC3, List.Perm.refl _⟩ hW hl h6 (fun q => absurd (h6.symm.trans q) (by decide)) ⟨by show cells + 3 + 0 + 0 ≤ 603072; omega, by show slots + 112 + 0 + 0 ≤ 7215210; omega⟩ 403 dL_law_403 dL_law_404 dL_law_407 dL_law_409 dL_law_414 dL_law_416 dL_law_419 dL_law_420 dL_law_421 dL_law_422 dL_law_424 dL_law_425 dL_law_426 dL_law_431 rfl (fun w H1 locs1 q1 q2 q3 => W.widen (by show cells + 3 + 0 ≤ _; omega) (by show slots + 112 + 0 ≤ _; omega) (kk w H1 locs1 ls q1 q2 q3))
    · exfalso; clear hM hSB hRel hCI hC1; omega
    · exfalso; clear hM hSB hRel hCI hC1; omega
  · obtain ⟨hc, hC2⟩ : _ ∧ _ := by
      rcases hxx with ⟨hE, hc, hC2⟩ | ⟨hE, hc, hC2⟩
      · exact absurd hE (by decide)
      · exact ⟨hc, hC2⟩
    rw [hC2] at hW
    obtain ⟨X2, hC3, hp2⟩ := cf_out hC1
    have hW := hW.perm hp2
    refine lv_istore (lv' := (6, .int r6) :: LV6 b (z 0) (a 0) o1 o2 i) hx hb dL_law_377 hl (by decide) rfl (fun ls hl => ?_)
    refine lv_aload_n hx hb dL_law_379 rfl (lv_at hl 3 rfl) ?_
    refine law_arg X hX hbl hbA hW (lv_at hl 1 rfl) (lv_at hl 6 rfl) 1 (by decide) hi hL (v := zI v1) hv1e (by decide) dL_law_380 dL_law_381 dL_law_383 dL_law_384 dL_law_385 ?_
    refine law_arg X hX hbl hbA hW (lv_at hl 1 rfl) (lv_at hl 6 rfl) 2 (by decide) hi hL (v := zI v2) hv2e (by decide) dL_law_386 dL_law_387 dL_law_389 dL_law_390 dL_law_391 ?_
    refine law_arg X hX hbl hbA hW (lv_at hl 1 rfl) (lv_at hl 6 rfl) 3 (by decide) hi hL (v := zI v3) hv3e (by decide) dL_law_392 dL_law_393 dL_law_395 dL_law_396 dL_law_397 ?_
    refine go_i X hW (rest := []) (run_V X hW (As := [.int (zI v1), .int (zI v2), .int (zI v3)]) (rest := []) 10 0 rfl (c_X7_allow l G a _ _ _ _ _ _ _ _ _ _ _ _ _ _ _ _ _ _ _ _ _ _ _ _ _ _ _ _ _ _ _ _ _ _ _ _ _ hM hv1 hv2 hv3 H.size) (gi_V wq_1207 wq_1208 wq_1209 wq_67 wq_1210) rfl hyX7_allow rfl rfl rfl hl.1 (Nat.le_of_ble_eq_true rfl) ⟨Nat.le_of_ble_eq_true rfl, Nat.le_of_ble_eq_true rfl⟩ ⟨by show cells + 3 + 0 ≤ 603072; omega, by show slots + 112 + 0 ≤ 7215210; omega⟩ dL_law_398) (fun r7 w7 H locs hp7 hW => ?_)
    refine lv_istore (lv' := (7, .int r7) :: (6, .int r6) :: LV6 b (z 0) (a 0) o1 o2 i) hx hb dL_law_401 hl (by decide) rfl (fun ls hl => ?_)
    rcases hp7 with ⟨hd, hr7, hw7⟩ | ⟨hd, hr7, hw7⟩ | ⟨hd, hr7, hw7⟩
    · exfalso; clear hM hSB hRel hCI hC1; omega
    · rw [hw7] at hW
      exact law_tailI X (k := 2) ⟨lo, bi, ru, ol, ob, tk, fib, gra, res, buy, lst, bst, rea, bid, pri, itm, akf, akg, got, pai, riv, rf, ro, rs, lat, bat, val, cos, row, ahe, wan, giv, sc, wc, byr, reaC, rvl, pad, gt, X2, hM, hSB, hRel, hC3, List.Perm.refl _⟩ hW hl h6 (fun q => absurd (h6.symm.trans q) (by decide)) ⟨by show cells + 3 + 0 + 0 ≤ 603072; omega, by show slots + 112 + 0 + 0 ≤ 7215210; omega⟩ 403 dL_law_403 dL_law_404 dL_law_407 dL_law_409 dL_law_414 dL_law_416 dL_law_419 dL_law_420 dL_law_421 dL_law_422 dL_law_424 dL_law_425 dL_law_426 dL_law_431 rfl (fun w H1 locs1 q1 q2 q3 => W.widen (by show cells + 3 + 0 ≤ _; omega) (by show slots + 112 + 0 ≤ _; omega) (kk w H1 locs1 ls q1 q2 q3))
    · exfalso; clear hM hSB hRel hCI hC1; omega
set_option maxRecDepth 100000 in
set_option maxHeartbeats 4000000 in
theorem k_forbid (hl9 : l.stackTraces = false) (X : Cx p s m args meth c cL_law 9 RL rt G A) (hX : va_X b L xs s s.heap) (hbl : b < s.heap.size) (hbA : ¬ A b) (hL : L ≤ 2048) (hi : i + 4 ≤ L) (hcl : cells + 30 ≤ 603072) (hsl : slots + 400 ≤ 7215210) (hLI : LI G z f h a o1 o2 w) (hW : Wd G A s w H locs) (hl : lv_has ls 9 (LV6 b (z 0) (a 0) o1 o2 i)) (kk : ∀ (w : va_W) (H : Heap) (locs : List Loc) (ls : Array Slot), LI G z f h a o1 o2 w → Wd G A s w H locs → lv_has ls 9 (LV6 b (z 0) (a 0) o1 o2 i) → W p l e room_1 s m args below meth c H locs (cells + 30) (slots + 400) Q (F0 m 2290 ls [])) : W p l e room_1 s m args below meth c H locs cells slots Q (F0 m 434 ls []) := by
  have hx := X.exec
  have hb := X.bytes
  obtain ⟨th, fl, fd, lo, bi, ru, ol, ob, tk, fib, gra, res, buy, lst, bst, rea, bid, pri, itm, akf, akg, got, pai, riv, rf, ro, rs, lat, bat, val, cos, row, ahe, wan, giv, sc, wc, byr, reaC, rvl, pad, gt, X1, hM, hSB, hRel, hC0, hp1⟩ := hLI
  have hC1 := cf_inn hC0 hp1
  have hm1 : outL G o1 fl ∈ w := cf_mem hC1 (List.mem_append_right _ List.mem_cons_self)
  have hCI := cia_of hM hRel.1
  obtain ⟨fs, hz0⟩ := cf_z hC1
  obtain ⟨hlo, hbi, hru, hol, hob, hfib, hgra, hres, hbuy, hlst, hbst, hrea, hbid, hpri, hitm, hakf, hakg, hgot, hriv, hrf, hro, hrs, hpai, hcl9, hcb9⟩ := id hM
  obtain ⟨hlat, hbat, hcos, hrow, hahe, hwan, hgiv⟩ := id hSB
  obtain ⟨hrC, hrB, hrR, hrV, hrP, hsc, hwc⟩ := id hRel
  obtain ⟨lc, bc, ql, ln, rv, rm, bn, bd, pr, ic, flx, qu, rc, gp, bs, bv, cf, wt, ho, hFI, hCR⟩ := id hC1
  refine lv_aload_n hx hb dL_law_434 rfl (lv_at hl 1 rfl) ?_
  refine lv_aload_n hx hb dL_law_435 rfl (lv_at hl 3 rfl) ?_
  refine go_i X hW (rest := []) (run_SW X hW (As := [.ref (z 0), .ref o1]) (rest := []) (h_forbid l G w (z 0) o1 fs fl (c_X6_forbid l hl9 G _ _ _ _ _ _ _ _ _ _ _ _ _ _ _ _ _ _ _ _ _ _ _ _ _ _ _ _ _ _ _ hCI hCR) hz0 (fun r w2 q => cr_mem q.2.2 (List.mem_append_right _ (List.mem_append_right _ (List.mem_append_right _ List.mem_cons_self)))) (fun E w2 q => q.1) H.size) wq_652 wq_653 wq_654 rfl hyL_forbid rfl rfl hl.1 (Nat.le_of_ble_eq_true rfl) ⟨Nat.le_of_ble_eq_true rfl, Nat.le_of_ble_eq_true rfl⟩ ⟨by show cells + 1 ≤ 603072; omega, by show slots + 6 ≤ 7215210; omega⟩ dL_law_436) (fun r6 w2 H locs hP hW => ?_)
  have hz1 := hz0
  rcases hP with ⟨h6, v0, w3, hpp, hF⟩ | ⟨h6, hxx⟩
  · obtain ⟨hc, hr, hC2⟩ := hpp
    obtain ⟨X2, hC3, hp2⟩ := cf_out (cf_upd ⟨lc, bc, ql, ln, rv, rm, bn, bd, pr, ic, flx, qu, rc, gp, bs, bv, cf, wt, ho, hFI, hC2⟩ hF)
    have hW := hW.perm hp2
    refine lv_istore (lv' := (6, .int r6) :: LV6 b (z 0) (a 0) o1 o2 i) hx hb dL_law_439 hl (by decide) rfl (fun ls hl => ?_)
    refine lv_aload_n hx hb dL_law_441 rfl (lv_at hl 3 rfl) ?_
    refine go_i X hW (rest := []) (run_V X hW (As := []) (rest := []) 10 0 rfl (c_X7_forbid l G a _ _ _ _ _ _ _ _ _ _ _ _ _ _ _ _ _ _ _ _ _ _ _ _ _ _ _ _ _ _ _ _ _ _ hM H.size) (gi_V wq_1211 wq_1212 wq_1213 wq_67 wq_1214) rfl hyX7_forbid rfl rfl rfl hl.1 (Nat.le_of_ble_eq_true rfl) ⟨Nat.le_of_ble_eq_true rfl, Nat.le_of_ble_eq_true rfl⟩ ⟨by show cells + 1 + 0 ≤ 603072; omega, by show slots + 6 + 0 ≤ 7215210; omega⟩ dL_law_442) (fun r7 w7 H locs hp7 hW => ?_)
    refine lv_istore (lv' := (7, .int r7) :: (6, .int r6) :: LV6 b (z 0) (a 0) o1 o2 i) hx hb dL_law_445 hl (by decide) rfl (fun ls hl => ?_)
    rcases hp7 with ⟨hd, hr7, hw7⟩ | ⟨hd, hr7, hw7⟩
    · exfalso; clear hM hSB hRel hCI hC1; omega
    · rw [hw7] at hW
      exact law_tailI X (k := 0) ⟨lo, bi, (ru - 1), ol, ob, tk, fib, gra, res, buy, lst, bst, rea, bid, pri, itm, akf, akg, got, pai, riv, rf, ro, rs, lat, bat, val, cos, row, ahe, wan, giv, sc, wc, byr, reaC, rvl, pad, gt, X2, (mo_forbid hM hRel hc).1, hSB, (mo_forbid hM hRel hc).2, hC3, List.Perm.refl _⟩ hW hl h6 (fun _ => (if_pos rfl).trans (congrArg Int32.toInt64 (hr.trans hr7.symm))) ⟨by show cells + 1 + 0 + 0 ≤ 603072; omega, by show slots + 6 + 0 + 0 ≤ 7215210; omega⟩ 447 dL_law_447 dL_law_448 dL_law_451 dL_law_453 dL_law_458 dL_law_460 dL_law_463 dL_law_464 dL_law_465 dL_law_466 dL_law_468 dL_law_469 dL_law_470 dL_law_475 rfl (fun w H1 locs1 q1 q2 q3 => W.widen (by show cells + 1 + 0 ≤ _; omega) (by show slots + 6 + 0 ≤ _; omega) (kk w H1 locs1 ls q1 q2 q3))
  · obtain ⟨hE, hc, hC2⟩ := hxx
    rw [hC2] at hW
    obtain ⟨X2, hC3, hp2⟩ := cf_out hC1
    have hW := hW.perm hp2
    refine lv_istore (lv' := (6, .int r6) :: LV6 b (z 0) (a 0) o1 o2 i) hx hb dL_law_439 hl (by decide) rfl (fun ls hl => ?_)
    refine lv_aload_n hx hb dL_law_441 rfl (lv_at hl 3 rfl) ?_
    refine go_i X hW (rest := []) (run_V X hW (As := []) (rest := []) 10 0 rfl (c_X7_forbid l G a _ _ _ _ _ _ _ _ _ _ _ _ _ _ _ _ _ _ _ _ _ _ _ _ _ _ _ _ _ _ _ _ _ _ hM H.size) (gi_V wq_1211 wq_1212 wq_1213 wq_67 wq_1214) rfl hyX7_forbid rfl rfl rfl hl.1 (Nat.le_of_ble_eq_true rfl) ⟨Nat.le_of_ble_eq_true rfl, Nat.le_of_ble_eq_true rfl⟩ ⟨by show cells + 1 + 0 ≤ 603072; omega, by show slots + 6 + 0 ≤ 7215210; omega⟩ dL_law_442) (fun r7 w7 H locs hp7 hW => ?_)
    refine lv_istore (lv' := (7, .int r7) :: (6, .int r6) :: LV6 b (z 0) (a 0) o1 o2 i) hx hb dL_law_445 hl (by decide) rfl (fun ls hl => ?_)
    rcases hp7 with ⟨hd, hr7, hw7⟩ | ⟨hd, hr7, hw7⟩
    · rw [hw7] at hW
      exact law_tailI X (k := 1) ⟨lo, bi, ru, ol, ob, tk, fib, gra, res, buy, lst, bst, rea, bid, pri, itm, akf, akg, got, pai, riv, rf, ro, rs, lat, bat, val, cos, row, ahe, wan, giv, sc, wc, byr, reaC, rvl, pad, gt, X2, hM, hSB, hRel, hC3, List.Perm.refl _⟩ hW hl h6 (fun q => absurd (h6.symm.trans q) (by decide)) ⟨by show cells + 1 + 0 + 0 ≤ 603072; omega, by show slots + 6 + 0 + 0 ≤ 7215210; omega⟩ 447 dL_law_447 dL_law_448 dL_law_451 dL_law_453 dL_law_458 dL_law_460 dL_law_463 dL_law_464 dL_law_465 dL_law_466 dL_law_468 dL_law_469 dL_law_470 dL_law_475 rfl (fun w H1 locs1 q1 q2 q3 => W.widen (by show cells + 1 + 0 ≤ _; omega) (by show slots + 6 + 0 ≤ _; omega) (kk w H1 locs1 ls q1 q2 q3))
    · exfalso; clear hM hSB hRel hCI hC1; omega
set_option maxRecDepth 100000 in
set_option maxHeartbeats 4000000 in
theorem k_bid (hl9 : l.stackTraces = false) (X : Cx p s m args meth c cL_law 9 RL rt G A) (hX : va_X b L xs s s.heap) (hbl : b < s.heap.size) (hbA : ¬ A b) (hL : L ≤ 2048) (hi : i + 4 ≤ L) (hcl : cells + 30 ≤ 603072) (hsl : slots + 400 ≤ 7215210) (hLI : LI G z f h a o1 o2 w) (hW : Wd G A s w H locs) (hl : lv_has ls 9 (LV6 b (z 0) (a 0) o1 o2 i)) (kk : ∀ (w : va_W) (H : Heap) (locs : List Loc) (ls : Array Slot), LI G z f h a o1 o2 w → Wd G A s w H locs → lv_has ls 9 (LV6 b (z 0) (a 0) o1 o2 i) → W p l e room_1 s m args below meth c H locs (cells + 30) (slots + 400) Q (F0 m 2290 ls [])) : W p l e room_1 s m args below meth c H locs cells slots Q (F0 m 478 ls []) := by
  have hx := X.exec
  have hb := X.bytes
  obtain ⟨th, fl, fd, lo, bi, ru, ol, ob, tk, fib, gra, res, buy, lst, bst, rea, bid, pri, itm, akf, akg, got, pai, riv, rf, ro, rs, lat, bat, val, cos, row, ahe, wan, giv, sc, wc, byr, reaC, rvl, pad, gt, X1, hM, hSB, hRel, hC0, hp1⟩ := hLI
  have hC1 := cf_inn hC0 hp1
  have hm1 : outL G o1 fl ∈ w := cf_mem hC1 (List.mem_append_right _ List.mem_cons_self)
  have hCI := cia_of hM hRel.1
  obtain ⟨fs, hz0⟩ := cf_z hC1
  obtain ⟨hlo, hbi, hru, hol, hob, hfib, hgra, hres, hbuy, hlst, hbst, hrea, hbid, hpri, hitm, hakf, hakg, hgot, hriv, hrf, hro, hrs, hpai, hcl9, hcb9⟩ := id hM
  obtain ⟨hlat, hbat, hcos, hrow, hahe, hwan, hgiv⟩ := id hSB
  obtain ⟨hrC, hrB, hrR, hrV, hrP, hsc, hwc⟩ := id hRel
  obtain ⟨lc, bc, ql, ln, rv, rm, bn, bd, pr, ic, flx, qu, rc, gp, bs, bv, cf, wt, ho, hFI, hCR⟩ := id hC1
  obtain ⟨v1, hv1, hv1e⟩ := z_ex (xs (i + 1))
  obtain ⟨v2, hv2, hv2e⟩ := z_ex (xs (i + 2))
  refine lv_aload_n hx hb dL_law_478 rfl (lv_at hl 1 rfl) ?_
  refine law_arg X hX hbl hbA hW (lv_at hl 0 rfl) (lv_at hl 5 rfl) 1 (by decide) hi hL (v := zI v1) hv1e (by decide) dL_law_479 dL_law_480 dL_law_482 dL_law_483 dL_law_484 ?_
  refine law_arg X hX hbl hbA hW (lv_at hl 0 rfl) (lv_at hl 5 rfl) 2 (by decide) hi hL (v := zI v2) hv2e (by decide) dL_law_485 dL_law_486 dL_law_488 dL_law_489 dL_law_490 ?_
  refine lv_aload_n hx hb dL_law_491 rfl (lv_at hl 3 rfl) ?_
  refine go_i X hW (rest := []) (run_SW X hW (As := [.ref (z 0), .int (zI v1), .int (zI v2), .ref o1]) (rest := []) (h_bid l G w (z 0) o1 fs fl _ _ (c_X6_bid l hl9 G _ _ _ _ _ _ _ _ _ _ _ _ _ _ _ _ _ _ _ _ _ _ _ _ _ _ _ _ _ _ _ _ _ hCI hCR hv1 hv2) hz0 (fun r w2 q => cr_mem q.2.2 (List.mem_append_right _ (List.mem_append_right _ (List.mem_append_right _ List.mem_cons_self)))) (fun E w2 q => by rcases q with ⟨q, -⟩ | ⟨q, -⟩ <;> simp [q]) H.size) wq_673 wq_674 wq_675 rfl hyL_bid rfl rfl hl.1 (Nat.le_of_ble_eq_true rfl) ⟨Nat.le_of_ble_eq_true rfl, Nat.le_of_ble_eq_true rfl⟩ ⟨by show cells + 4 ≤ 603072; omega, by show slots + 130 ≤ 7215210; omega⟩ dL_law_492) (fun r6 w2 H locs hP hW => ?_)
  have hz1 := hz0
  rcases hP with ⟨h6, v0, w3, hpp, hF⟩ | ⟨h6, hxx⟩ | ⟨h6, hxx⟩
  · obtain ⟨hc, hr, hC2⟩ := hpp
    obtain ⟨X2, hC3, hp2⟩ := cf_out (cf_upd ⟨lc, bc, ql, ln, rv, rm, bn, bd, pr, ic, flx, qu, rc, gp, bs, bv, cf, wt, ho, hFI, hC2⟩ hF)
    have hW := hW.perm hp2
    refine lv_istore (lv' := (6, .int r6) :: LV6 b (z 0) (a 0) o1 o2 i) hx hb dL_law_495 hl (by decide) rfl (fun ls hl => ?_)
    refine lv_aload_n hx hb dL_law_497 rfl (lv_at hl 3 rfl) ?_
    refine law_arg X hX hbl hbA hW (lv_at hl 1 rfl) (lv_at hl 6 rfl) 1 (by decide) hi hL (v := zI v1) hv1e (by decide) dL_law_498 dL_law_499 dL_law_501 dL_law_502 dL_law_503 ?_
    refine law_arg X hX hbl hbA hW (lv_at hl 1 rfl) (lv_at hl 6 rfl) 2 (by decide) hi hL (v := zI v2) hv2e (by decide) dL_law_504 dL_law_505 dL_law_507 dL_law_508 dL_law_509 ?_
    refine go_i X hW (rest := []) (run_V X hW (As := [.int (zI v1), .int (zI v2)]) (rest := []) 10 0 rfl (c_X7_bid l G a _ _ _ _ _ _ _ _ _ _ _ _ _ _ _ _ _ _ _ _ _ _ _ _ _ _ _ _ _ _ _ _ _ _ _ _ hM hv1 hv2 H.size) (gi_V wq_1215 wq_1216 wq_1217 wq_67 wq_1218) rfl hyX7_bid rfl rfl rfl hl.1 (Nat.le_of_ble_eq_true rfl) ⟨Nat.le_of_ble_eq_true rfl, Nat.le_of_ble_eq_true rfl⟩ ⟨by show cells + 4 + 0 ≤ 603072; omega, by show slots + 130 + 0 ≤ 7215210; omega⟩ dL_law_510) (fun r7 w7 H locs hp7 hW => ?_)
    refine lv_istore (lv' := (7, .int r7) :: (6, .int r6) :: LV6 b (z 0) (a 0) o1 o2 i) hx hb dL_law_513 hl (by decide) rfl (fun ls hl => ?_)
    rcases hp7 with ⟨hd, hr7, hw7⟩ | ⟨hd, hr7, hw7⟩ | ⟨hd, hr7, hw7⟩
    · exfalso; clear hM hSB hRel hCI hC1; omega
    · exfalso; clear hM hSB hRel hCI hC1; omega
    · rw [hw7] at hW
      exact law_tailI X (k := 0) ⟨lo, (bi + 1), ru, ol, (ob + 1), tk, fib, gra, res, buy, lst, (va_up bst bi 111), rea, (va_up bid bi v1.toNat), (va_up pri bi v2.toNat), (va_up itm bi 0), akf, akg, got, pai, riv, rf, ro, rs, lat, bat, val, cos, row, ahe, wan, giv, sc, wc, byr, (va_up reaC bi 109), (va_up rvl bi (-1)), (va_up pad bi 0), gt, X2, (mo_bid hM hRel hc).1, hSB, (mo_bid hM hRel hc).2, hC3, List.Perm.refl _⟩ hW hl h6 (fun _ => (if_pos rfl).trans (congrArg Int32.toInt64 (hr.trans hr7.symm))) ⟨by show cells + 4 + 0 + 0 ≤ 603072; omega, by show slots + 130 + 0 + 0 ≤ 7215210; omega⟩ 515 dL_law_515 dL_law_516 dL_law_519 dL_law_521 dL_law_526 dL_law_528 dL_law_531 dL_law_532 dL_law_533 dL_law_534 dL_law_536 dL_law_537 dL_law_538 dL_law_543 rfl (fun w H1 locs1 q1 q2 q3 => W.widen (by show cells + 4 + 0 ≤ _; omega) (by show slots + 130 + 0 ≤ _; omega) (kk w H1 locs1 ls q1 q2 q3))
  · obtain ⟨hc, hC2⟩ : _ ∧ _ := by
      rcases hxx with ⟨hE, hc, hC2⟩ | ⟨hE, hc, hC2⟩
      · exact ⟨hc, hC2⟩
      · exact absurd hE (by decide)
    rw [hC2] at hW
    obtain ⟨X2, hC3, hp2⟩ := cf_out hC1
    have hW := hW.perm hp2
    refine lv_istore (lv' := (6, .int r6) :: LV6 b (z 0) (a 0) o1 o2 i) hx hb dL_law_495 hl (by decide) rfl (fun ls hl => ?_)
    refine lv_aload_n hx hb dL_law_497 rfl (lv_at hl 3 rfl) ?_
    refine law_arg X hX hbl hbA hW (lv_at hl 1 rfl) (lv_at hl 6 rfl) 1 (by decide) hi hL (v := zI v1) hv1e (by decide) dL_law_498 dL_law_499 dL_law_501 dL_law_502 dL_law_503 ?_
    refine law_arg X hX hbl hbA hW (lv_at hl 1 rfl) (lv_at hl 6 rfl) 2 (by decide) hi hL (v := zI v2) hv2e (by decide) dL_law_504 dL_law_505 dL_law_507 dL_law_508 dL_law_509 ?_
    refine go_i X hW (rest := []) (run_V X hW (As := [.int (zI v1), .int (zI v2)]) (rest := []) 10 0 rfl (c_X7_bid l G a _ _ _ _ _ _ _ _ _ _ _ _ _ _ _ _ _ _ _ _ _ _ _ _ _ _ _ _ _ _ _ _ _ _ _ _ hM hv1 hv2 H.size) (gi_V wq_1215 wq_1216 wq_1217 wq_67 wq_1218) rfl hyX7_bid rfl rfl rfl hl.1 (Nat.le_of_ble_eq_true rfl) ⟨Nat.le_of_ble_eq_true rfl, Nat.le_of_ble_eq_true rfl⟩ ⟨by show cells + 4 + 0 ≤ 603072; omega, by show slots + 130 + 0 ≤ 7215210; omega⟩ dL_law_510) (fun r7 w7 H locs hp7 hW => ?_)
    refine lv_istore (lv' := (7, .int r7) :: (6, .int r6) :: LV6 b (z 0) (a 0) o1 o2 i) hx hb dL_law_513 hl (by decide) rfl (fun ls hl => ?_)
    rcases hp7 with ⟨hd, hr7, hw7⟩ | ⟨hd, hr7, hw7⟩ | ⟨hd, hr7, hw7⟩
    · rw [hw7] at hW
      exact law_tailI X (k := 1) ⟨lo, bi, ru, ol, ob, tk, fib, gra, res, buy, lst, bst, rea, bid, pri, itm, akf, akg, got, pai, riv, rf, ro, rs, lat, bat, val, cos, row, ahe, wan, giv, sc, wc, byr, reaC, rvl, pad, gt, X2, hM, hSB, hRel, hC3, List.Perm.refl _⟩ hW hl h6 (fun q => absurd (h6.symm.trans q) (by decide)) ⟨by show cells + 4 + 0 + 0 ≤ 603072; omega, by show slots + 130 + 0 + 0 ≤ 7215210; omega⟩ 515 dL_law_515 dL_law_516 dL_law_519 dL_law_521 dL_law_526 dL_law_528 dL_law_531 dL_law_532 dL_law_533 dL_law_534 dL_law_536 dL_law_537 dL_law_538 dL_law_543 rfl (fun w H1 locs1 q1 q2 q3 => W.widen (by show cells + 4 + 0 ≤ _; omega) (by show slots + 130 + 0 ≤ _; omega) (kk w H1 locs1 ls q1 q2 q3))
    · exfalso; clear hM hSB hRel hCI hC1; omega
    · exfalso; clear hM hSB hRel hCI hC1; omega
  · obtain ⟨hc, hC2⟩ : _ ∧ _ := by
      rcases hxx with ⟨hE, hc, hC2⟩ | ⟨hE, hc, hC2⟩
      · exact absurd hE (by decide)
      · exact ⟨hc, hC2⟩
    rw [hC2] at hW
    obtain ⟨X2, hC3, hp2⟩ := cf_out hC1
    have hW := hW.perm hp2
    refine lv_istore (lv' := (6, .int r6) :: LV6 b (z 0) (a 0) o1 o2 i) hx hb dL_law_495 hl (by decide) rfl (fun ls hl => ?_)
    refine lv_aload_n hx hb dL_law_497 rfl (lv_at hl 3 rfl) ?_
    refine law_arg X hX hbl hbA hW (lv_at hl 1 rfl) (lv_at hl 6 rfl) 1 (by decide) hi hL (v := zI v1) hv1e (by decide) dL_law_498 dL_law_499 dL_law_501 dL_law_502 dL_law_503 ?_
    refine law_arg X hX hbl hbA hW (lv_at hl 1 rfl) (lv_at hl 6 rfl) 2 (by decide) hi hL (v := zI v2) hv2e (by decide) dL_law_504 dL_law_505 dL_law_507 dL_law_508 dL_law_509 ?_
    refine go_i X hW (rest := []) (run_V X hW (As := [.int (zI v1), .int (zI v2)]) (rest := []) 10 0 rfl (c_X7_bid l G a _ _ _ _ _ _ _ _ _ _ _ _ _ _ _ _ _ _ _ _ _ _ _ _ _ _ _ _ _ _ _ _ _ _ _ _ hM hv1 hv2 H.size) (gi_V wq_1215 wq_1216 wq_1217 wq_67 wq_1218) rfl hyX7_bid rfl rfl rfl hl.1 (Nat.le_of_ble_eq_true rfl) ⟨Nat.le_of_ble_eq_true rfl, Nat.le_of_ble_eq_true rfl⟩ ⟨by show cells + 4 + 0 ≤ 603072; omega, by show slots + 130 + 0 ≤ 7215210; omega⟩ dL_law_510) (fun r7 w7 H locs hp7 hW => ?_)
    refine lv_istore (lv' := (7, .int r7) :: (6, .int r6) :: LV6 b (z 0) (a 0) o1 o2 i) hx hb dL_law_513 hl (by decide) rfl (fun ls hl => ?_)
    rcases hp7 with ⟨hd, hr7, hw7⟩ | ⟨hd, hr7, hw7⟩ | ⟨hd, hr7, hw7⟩
    · exfalso; clear hM hSB hRel hCI hC1; omega
    · rw [hw7] at hW
      exact law_tailI X (k := 2) ⟨lo, bi, ru, ol, ob, tk, fib, gra, res, buy, lst, bst, rea, bid, pri, itm, akf, akg, got, pai, riv, rf, ro, rs, lat, bat, val, cos, row, ahe, wan, giv, sc, wc, byr, reaC, rvl, pad, gt, X2, hM, hSB, hRel, hC3, List.Perm.refl _⟩ hW hl h6 (fun q => absurd (h6.symm.trans q) (by decide)) ⟨by show cells + 4 + 0 + 0 ≤ 603072; omega, by show slots + 130 + 0 + 0 ≤ 7215210; omega⟩ 515 dL_law_515 dL_law_516 dL_law_519 dL_law_521 dL_law_526 dL_law_528 dL_law_531 dL_law_532 dL_law_533 dL_law_534 dL_law_536 dL_law_537 dL_law_538 dL_law_543 rfl (fun w H1 locs1 q1 q2 q3 => W.widen (by show cells + 4 + 0 ≤ _; omega) (by show slots + 130 + 0 ≤ _; omega) (kk w H1 locs1 ls q1 q2 q3))
    · exfalso; clear hM hSB hRel hCI hC1; omega
set_option maxRecDepth 100000 in
set_option maxHeartbeats 4000000 in
theorem k_ask (hl9 : l.stackTraces = false) (X : Cx p s m args meth c cL_law 9 RL rt G A) (hX : va_X b L xs s s.heap) (hbl : b < s.heap.size) (hbA : ¬ A b) (hL : L ≤ 2048) (hi : i + 4 ≤ L) (hcl : cells + 30 ≤ 603072) (hsl : slots + 400 ≤ 7215210) (hLI : LI G z f h a o1 o2 w) (hW : Wd G A s w H locs) (hl : lv_has ls 9 (LV6 b (z 0) (a 0) o1 o2 i)) (kk : ∀ (w : va_W) (H : Heap) (locs : List Loc) (ls : Array Slot), LI G z f h a o1 o2 w → Wd G A s w H locs → lv_has ls 9 (LV6 b (z 0) (a 0) o1 o2 i) → W p l e room_1 s m args below meth c H locs (cells + 30) (slots + 400) Q (F0 m 2290 ls [])) : W p l e room_1 s m args below meth c H locs cells slots Q (F0 m 546 ls []) := by
  have hx := X.exec
  have hb := X.bytes
  obtain ⟨th, fl, fd, lo, bi, ru, ol, ob, tk, fib, gra, res, buy, lst, bst, rea, bid, pri, itm, akf, akg, got, pai, riv, rf, ro, rs, lat, bat, val, cos, row, ahe, wan, giv, sc, wc, byr, reaC, rvl, pad, gt, X1, hM, hSB, hRel, hC0, hp1⟩ := hLI
  have hC1 := cf_inn hC0 hp1
  have hm1 : outL G o1 fl ∈ w := cf_mem hC1 (List.mem_append_right _ List.mem_cons_self)
  have hCI := cia_of hM hRel.1
  obtain ⟨fs, hz0⟩ := cf_z hC1
  obtain ⟨hlo, hbi, hru, hol, hob, hfib, hgra, hres, hbuy, hlst, hbst, hrea, hbid, hpri, hitm, hakf, hakg, hgot, hriv, hrf, hro, hrs, hpai, hcl9, hcb9⟩ := id hM
  obtain ⟨hlat, hbat, hcos, hrow, hahe, hwan, hgiv⟩ := id hSB
  obtain ⟨hrC, hrB, hrR, hrV, hrP, hsc, hwc⟩ := id hRel
  obtain ⟨lc, bc, ql, ln, rv, rm, bn, bd, pr, ic, flx, qu, rc, gp, bs, bv, cf, wt, ho, hFI, hCR⟩ := id hC1
  obtain ⟨v1, hv1, hv1e⟩ := z_ex (xs (i + 1))
  obtain ⟨v2, hv2, hv2e⟩ := z_ex (xs (i + 2))
  obtain ⟨g3, hg3, hg3e⟩ := g_ex (xs (i + 3))
  refine lv_aload_n hx hb dL_law_546 rfl (lv_at hl 1 rfl) ?_
  refine law_arg X hX hbl hbA hW (lv_at hl 0 rfl) (lv_at hl 5 rfl) 1 (by decide) hi hL (v := zI v1) hv1e (by decide) dL_law_547 dL_law_548 dL_law_550 dL_law_551 dL_law_552 ?_
  refine law_arg X hX hbl hbA hW (lv_at hl 0 rfl) (lv_at hl 5 rfl) 2 (by decide) hi hL (v := zI v2) hv2e (by decide) dL_law_553 dL_law_554 dL_law_556 dL_law_557 dL_law_558 ?_
  refine law_arg X hX hbl hbA hW (lv_at hl 0 rfl) (lv_at hl 5 rfl) 3 (by decide) hi hL (v := _) rfl (by decide) dL_law_559 dL_law_560 dL_law_562 dL_law_563 dL_law_564 ?_
  refine lv_i2c (v := nI g3) hx hb dL_law_565 hg3e ?_
  refine lv_aload_n hx hb dL_law_566 rfl (lv_at hl 3 rfl) ?_
  refine go_i X hW (rest := []) (run_SW X hW (As := [.ref (z 0), .int (zI v1), .int (zI v2), .int (nI g3), .ref o1]) (rest := []) (h_ask l G w (z 0) o1 fs fl _ _ _ (c_X6_ask l hl9 G _ _ _ _ _ _ _ _ _ _ _ _ _ _ _ _ _ _ _ _ _ _ _ _ _ _ _ _ _ _ _ _ _ _ hCI hCR hv1 hv2 hg3) hz0 (fun r w2 q => cr_mem q.2.2 (List.mem_append_right _ (List.mem_append_right _ (List.mem_append_right _ List.mem_cons_self)))) (fun E w2 q => by rcases q with ⟨q, -⟩ | ⟨q, -⟩ | ⟨q, -⟩ <;> simp [q]) H.size) wq_720 wq_721 wq_722 rfl hyL_ask rfl rfl hl.1 (Nat.le_of_ble_eq_true rfl) ⟨Nat.le_of_ble_eq_true rfl, Nat.le_of_ble_eq_true rfl⟩ ⟨by show cells + 4 ≤ 603072; omega, by show slots + 130 ≤ 7215210; omega⟩ dL_law_567) (fun r6 w2 H locs hP hW => ?_)
  have hz1 := hz0
  rcases hP with ⟨h6, v0, w3, hpp, hF⟩ | ⟨h6, hxx⟩ | ⟨h6, hxx⟩ | ⟨h6, hxx⟩
  · obtain ⟨hc, hr, hC2⟩ := hpp
    obtain ⟨X2, hC3, hp2⟩ := cf_out (cf_upd ⟨lc, bc, ql, ln, rv, rm, bn, bd, pr, ic, flx, qu, rc, gp, bs, bv, cf, wt, ho, hFI, hC2⟩ hF)
    have hW := hW.perm hp2
    refine lv_istore (lv' := (6, .int r6) :: LV6 b (z 0) (a 0) o1 o2 i) hx hb dL_law_570 hl (by decide) rfl (fun ls hl => ?_)
    refine lv_aload_n hx hb dL_law_572 rfl (lv_at hl 3 rfl) ?_
    refine law_arg X hX hbl hbA hW (lv_at hl 1 rfl) (lv_at hl 6 rfl) 1 (by decide) hi hL (v := zI v1) hv1e (by decide) dL_law_573 dL_law_574 dL_law_576 dL_law_577 dL_law_578 ?_
    refine law_arg X hX hbl hbA hW (lv_at hl 1 rfl) (lv_at hl 6 rfl) 2 (by decide) hi hL (v := zI v2) hv2e (by decide) dL_law_579 dL_law_580 dL_law_582 dL_law_583 dL_law_584 ?_
    refine law_arg X hX hbl hbA hW (lv_at hl 1 rfl) (lv_at hl 6 rfl) 3 (by decide) hi hL (v := _) rfl (by decide) dL_law_585 dL_law_586 dL_law_588 dL_law_589 dL_law_590 ?_
    refine lv_i2c (v := nI g3) hx hb dL_law_591 hg3e ?_
    refine go_i X hW (rest := []) (run_V X hW (As := [.int (zI v1), .int (zI v2), .int (nI g3)]) (rest := []) 10 0 rfl (c_X7_ask l G a _ _ _ _ _ _ _ _ _ _ _ _ _ _ _ _ _ _ _ _ _ _ _ _ _ _ _ _ _ _ _ _ _ _ _ _ _ hM hv1 hv2 hg3 H.size) (gi_V wq_1219 wq_1220 wq_1221 wq_67 wq_1222) rfl hyX7_ask rfl rfl rfl hl.1 (Nat.le_of_ble_eq_true rfl) ⟨Nat.le_of_ble_eq_true rfl, Nat.le_of_ble_eq_true rfl⟩ ⟨by show cells + 4 + 0 ≤ 603072; omega, by show slots + 130 + 0 ≤ 7215210; omega⟩ dL_law_592) (fun r7 w7 H locs hp7 hW => ?_)
    refine lv_istore (lv' := (7, .int r7) :: (6, .int r6) :: LV6 b (z 0) (a 0) o1 o2 i) hx hb dL_law_595 hl (by decide) rfl (fun ls hl => ?_)
    rcases hp7 with ⟨hd, hr7, hw7⟩ | ⟨hd, hr7, hw7⟩ | ⟨hd, hr7, hw7⟩ | ⟨hd, hr7, hw7⟩
    · exfalso; clear hM hSB hRel hCI hC1; omega
    · exfalso; clear hM hSB hRel hCI hC1; omega
    · exfalso; clear hM hSB hRel hCI hC1; omega
    · rw [hw7] at hW
      exact law_tailI X (k := 0) ⟨lo, bi, ru, ol, ob, tk, fib, gra, res, buy, lst, bst, rea, bid, pri, (va_up itm v1.toNat (itm v1.toNat + 1)), (va_up akf (3 * v1.toNat + itm v1.toNat) v2.toNat), (va_up akg (3 * v1.toNat + itm v1.toNat) g3), got, pai, riv, rf, ro, rs, lat, bat, val, cos, row, ahe, wan, giv, sc, wc, byr, reaC, rvl, pad, (va_up gt (3 * v1.toNat + itm v1.toNat) (-1)), X2, (mo_ask hM hRel hc).1, hSB, (mo_ask hM hRel hc).2, hC3, List.Perm.refl _⟩ hW hl h6 (fun _ => (if_pos rfl).trans (congrArg Int32.toInt64 (hr.trans hr7.symm))) ⟨by show cells + 4 + 0 + 0 ≤ 603072; omega, by show slots + 130 + 0 + 0 ≤ 7215210; omega⟩ 597 dL_law_597 dL_law_598 dL_law_601 dL_law_603 dL_law_608 dL_law_610 dL_law_613 dL_law_614 dL_law_615 dL_law_616 dL_law_618 dL_law_619 dL_law_620 dL_law_625 rfl (fun w H1 locs1 q1 q2 q3 => W.widen (by show cells + 4 + 0 ≤ _; omega) (by show slots + 130 + 0 ≤ _; omega) (kk w H1 locs1 ls q1 q2 q3))
  · obtain ⟨hc, hC2⟩ : _ ∧ _ := by
      rcases hxx with ⟨hE, hc, hC2⟩ | ⟨hE, hc, hC2⟩ | ⟨hE, hc, hC2⟩
      · exact ⟨hc, hC2⟩
      · exact absurd hE (by decide)
      · exact absurd hE (by decide)
    rw [hC2] at hW
    obtain ⟨X2, hC3, hp2⟩ := cf_out hC1
    have hW := hW.perm hp2
    refine lv_istore (lv' := (6, .int r6) :: LV6 b (z 0) (a 0) o1 o2 i) hx hb dL_law_570 hl (by decide) rfl (fun ls hl => ?_)
    refine lv_aload_n hx hb dL_law_572 rfl (lv_at hl 3 rfl) ?_
    refine law_arg X hX hbl hbA hW (lv_at hl 1 rfl) (lv_at hl 6 rfl) 1 (by decide) hi hL (v := zI v1) hv1e (by decide) dL_law_573 dL_law_574 dL_law_576 dL_law_577 dL_law_578 ?_
    refine law_arg X hX hbl hbA hW (lv_at hl 1 rfl) (lv_at hl 6 rfl) 2 (by decide) hi hL (v := zI v2) hv2e (by decide) dL_law_579 dL_law_580 dL_law_582 dL_law_583 dL_law_584 ?_
    refine law_arg X hX hbl hbA hW (lv_at hl 1 rfl) (lv_at hl 6 rfl) 3 (by decide) hi hL (v := _) rfl (by decide) dL_law_585 dL_law_586 dL_law_588 dL_law_589 dL_law_590 ?_
    refine lv_i2c (v := nI g3) hx hb dL_law_591 hg3e ?_
    refine go_i X hW (rest := []) (run_V X hW (As := [.int (zI v1), .int (zI v2), .int (nI g3)]) (rest := []) 10 0 rfl (c_X7_ask l G a _ _ _ _ _ _ _ _ _ _ _ _ _ _ _ _ _ _ _ _ _ _ _ _ _ _ _ _ _ _ _ _ _ _ _ _ _ hM hv1 hv2 hg3 H.size) (gi_V wq_1219 wq_1220 wq_1221 wq_67 wq_1222) rfl hyX7_ask rfl rfl rfl hl.1 (Nat.le_of_ble_eq_true rfl) ⟨Nat.le_of_ble_eq_true rfl, Nat.le_of_ble_eq_true rfl⟩ ⟨by show cells + 4 + 0 ≤ 603072; omega, by show slots + 130 + 0 ≤ 7215210; omega⟩ dL_law_592) (fun r7 w7 H locs hp7 hW => ?_)
    refine lv_istore (lv' := (7, .int r7) :: (6, .int r6) :: LV6 b (z 0) (a 0) o1 o2 i) hx hb dL_law_595 hl (by decide) rfl (fun ls hl => ?_)
    rcases hp7 with ⟨hd, hr7, hw7⟩ | ⟨hd, hr7, hw7⟩ | ⟨hd, hr7, hw7⟩ | ⟨hd, hr7, hw7⟩
    · rw [hw7] at hW
      exact law_tailI X (k := 1) ⟨lo, bi, ru, ol, ob, tk, fib, gra, res, buy, lst, bst, rea, bid, pri, itm, akf, akg, got, pai, riv, rf, ro, rs, lat, bat, val, cos, row, ahe, wan, giv, sc, wc, byr, reaC, rvl, pad, gt, X2, hM, hSB, hRel, hC3, List.Perm.refl _⟩ hW hl h6 (fun q => absurd (h6.symm.trans q) (by decide)) ⟨by show cells + 4 + 0 + 0 ≤ 603072; omega, by show slots + 130 + 0 + 0 ≤ 7215210; omega⟩ 597 dL_law_597 dL_law_598 dL_law_601 dL_law_603 dL_law_608 dL_law_610 dL_law_613 dL_law_614 dL_law_615 dL_law_616 dL_law_618 dL_law_619 dL_law_620 dL_law_625 rfl (fun w H1 locs1 q1 q2 q3 => W.widen (by show cells + 4 + 0 ≤ _; omega) (by show slots + 130 + 0 ≤ _; omega) (kk w H1 locs1 ls q1 q2 q3))
    · exfalso; clear hM hSB hRel hCI hC1; omega
    · exfalso; clear hM hSB hRel hCI hC1; omega
    · exfalso; clear hM hSB hRel hCI hC1; omega
  · obtain ⟨hc, hC2⟩ : _ ∧ _ := by
      rcases hxx with ⟨hE, hc, hC2⟩ | ⟨hE, hc, hC2⟩ | ⟨hE, hc, hC2⟩
      · exact absurd hE (by decide)
      · exact ⟨hc, hC2⟩
      · exact absurd hE (by decide)
    rw [hC2] at hW
    obtain ⟨X2, hC3, hp2⟩ := cf_out hC1
    have hW := hW.perm hp2
    refine lv_istore (lv' := (6, .int r6) :: LV6 b (z 0) (a 0) o1 o2 i) hx hb dL_law_570 hl (by decide) rfl (fun ls hl => ?_)
    refine lv_aload_n hx hb dL_law_572 rfl (lv_at hl 3 rfl) ?_
    refine law_arg X hX hbl hbA hW (lv_at hl 1 rfl) (lv_at hl 6 rfl) 1 (by decide) hi hL (v := zI v1) hv1e (by decide) dL_law_573 dL_law_574 dL_law_576 dL_law_577 dL_law_578 ?_
    refine law_arg X hX hbl hbA hW (lv_at hl 1 rfl) (lv_at hl 6 rfl) 2 (by decide) hi hL (v := zI v2) hv2e (by decide) dL_law_579 dL_law_580 dL_law_582 dL_law_583 dL_law_584 ?_
    refine law_arg X hX hbl hbA hW (lv_at hl 1 rfl) (lv_at hl 6 rfl) 3 (by decide) hi hL (v := _) rfl (by decide) dL_law_585 dL_law_586 dL_law_588 dL_law_589 dL_law_590 ?_
    refine lv_i2c (v := nI g3) hx hb dL_law_591 hg3e ?_
    refine go_i X hW (rest := []) (run_V X hW (As := [.int (zI v1), .int (zI v2), .int (nI g3)]) (rest := []) 10 0 rfl (c_X7_ask l G a _ _ _ _ _ _ _ _ _ _ _ _ _ _ _ _ _ _ _ _ _ _ _ _ _ _ _ _ _ _ _ _ _ _ _ _ _ hM hv1 hv2 hg3 H.size) (gi_V wq_1219 wq_1220 wq_1221 wq_67 wq_1222) rfl hyX7_ask rfl rfl rfl hl.1 (Nat.le_of_ble_eq_true rfl) ⟨Nat.le_of_ble_eq_true rfl, Nat.le_of_ble_eq_true rfl⟩ ⟨by show cells + 4 + 0 ≤ 603072; omega, by show slots + 130 + 0 ≤ 7215210; omega⟩ dL_law_592) (fun r7 w7 H locs hp7 hW => ?_)
    refine lv_istore (lv' := (7, .int r7) :: (6, .int r6) :: LV6 b (z 0) (a 0) o1 o2 i) hx hb dL_law_595 hl (by decide) rfl (fun ls hl => ?_)
    rcases hp7 with ⟨hd, hr7, hw7⟩ | ⟨hd, hr7, hw7⟩ | ⟨hd, hr7, hw7⟩ | ⟨hd, hr7, hw7⟩
    · exfalso; clear hM hSB hRel hCI hC1; omega
    · rw [hw7] at hW
      exact law_tailI X (k := 2) ⟨lo, bi, ru, ol, ob, tk, fib, gra, res, buy, lst, bst, rea, bid, pri, itm, akf, akg, got, pai, riv, rf, ro, rs, lat, bat, val, cos, row, ahe, wan, giv, sc, wc, byr, reaC, rvl, pad, gt, X2, hM, hSB, hRel, hC3, List.Perm.refl _⟩ hW hl h6 (fun q => absurd (h6.symm.trans q) (by decide)) ⟨by show cells + 4 + 0 + 0 ≤ 603072; omega, by show slots + 130 + 0 + 0 ≤ 7215210; omega⟩ 597 dL_law_597 dL_law_598 dL_law_601 dL_law_603 dL_law_608 dL_law_610 dL_law_613 dL_law_614 dL_law_615 dL_law_616 dL_law_618 dL_law_619 dL_law_620 dL_law_625 rfl (fun w H1 locs1 q1 q2 q3 => W.widen (by show cells + 4 + 0 ≤ _; omega) (by show slots + 130 + 0 ≤ _; omega) (kk w H1 locs1 ls q1 q2 q3))
    · exfalso; clear hM hSB hRel hCI hC1; omega
    · exfalso; clear hM hSB hRel hCI hC1; omega
  · obtain ⟨hc, hC2⟩ : _ ∧ _ := by
      rcases hxx with ⟨hE, hc, hC2⟩ | ⟨hE, hc, hC2⟩ | ⟨hE, hc, hC2⟩
      · exact absurd hE (by decide)
      · exact absurd hE (by decide)
      · exact ⟨hc, hC2⟩
    rw [hC2] at hW
    obtain ⟨X2, hC3, hp2⟩ := cf_out hC1
    have hW := hW.perm hp2
    refine lv_istore (lv' := (6, .int r6) :: LV6 b (z 0) (a 0) o1 o2 i) hx hb dL_law_570 hl (by decide) rfl (fun ls hl => ?_)
    refine lv_aload_n hx hb dL_law_572 rfl (lv_at hl 3 rfl) ?_
    refine law_arg X hX hbl hbA hW (lv_at hl 1 rfl) (lv_at hl 6 rfl) 1 (by decide) hi hL (v := zI v1) hv1e (by decide) dL_law_573 dL_law_574 dL_law_576 dL_law_577 dL_law_578 ?_
    refine law_arg X hX hbl hbA hW (lv_at hl 1 rfl) (lv_at hl 6 rfl) 2 (by decide) hi hL (v := zI v2) hv2e (by decide) dL_law_579 dL_law_580 dL_law_582 dL_law_583 dL_law_584 ?_
    refine law_arg X hX hbl hbA hW (lv_at hl 1 rfl) (lv_at hl 6 rfl) 3 (by decide) hi hL (v := _) rfl (by decide) dL_law_585 dL_law_586 dL_law_588 dL_law_589 dL_law_590 ?_
    refine lv_i2c (v := nI g3) hx hb dL_law_591 hg3e ?_
    refine go_i X hW (rest := []) (run_V X hW (As := [.int (zI v1), .int (zI v2), .int (nI g3)]) (rest := []) 10 0 rfl (c_X7_ask l G a _ _ _ _ _ _ _ _ _ _ _ _ _ _ _ _ _ _ _ _ _ _ _ _ _ _ _ _ _ _ _ _ _ _ _ _ _ hM hv1 hv2 hg3 H.size) (gi_V wq_1219 wq_1220 wq_1221 wq_67 wq_1222) rfl hyX7_ask rfl rfl rfl hl.1 (Nat.le_of_ble_eq_true rfl) ⟨Nat.le_of_ble_eq_true rfl, Nat.le_of_ble_eq_true rfl⟩ ⟨by show cells + 4 + 0 ≤ 603072; omega, by show slots + 130 + 0 ≤ 7215210; omega⟩ dL_law_592) (fun r7 w7 H locs hp7 hW => ?_)
    refine lv_istore (lv' := (7, .int r7) :: (6, .int r6) :: LV6 b (z 0) (a 0) o1 o2 i) hx hb dL_law_595 hl (by decide) rfl (fun ls hl => ?_)
    rcases hp7 with ⟨hd, hr7, hw7⟩ | ⟨hd, hr7, hw7⟩ | ⟨hd, hr7, hw7⟩ | ⟨hd, hr7, hw7⟩
    · exfalso; clear hM hSB hRel hCI hC1; omega
    · exfalso; clear hM hSB hRel hCI hC1; omega
    · rw [hw7] at hW
      exact law_tailI X (k := 3) ⟨lo, bi, ru, ol, ob, tk, fib, gra, res, buy, lst, bst, rea, bid, pri, itm, akf, akg, got, pai, riv, rf, ro, rs, lat, bat, val, cos, row, ahe, wan, giv, sc, wc, byr, reaC, rvl, pad, gt, X2, hM, hSB, hRel, hC3, List.Perm.refl _⟩ hW hl h6 (fun q => absurd (h6.symm.trans q) (by decide)) ⟨by show cells + 4 + 0 + 0 ≤ 603072; omega, by show slots + 130 + 0 + 0 ≤ 7215210; omega⟩ 597 dL_law_597 dL_law_598 dL_law_601 dL_law_603 dL_law_608 dL_law_610 dL_law_613 dL_law_614 dL_law_615 dL_law_616 dL_law_618 dL_law_619 dL_law_620 dL_law_625 rfl (fun w H1 locs1 q1 q2 q3 => W.widen (by show cells + 4 + 0 ≤ _; omega) (by show slots + 130 + 0 ≤ _; omega) (kk w H1 locs1 ls q1 q2 q3))
    · exfalso; clear hM hSB hRel hCI hC1; omega
set_option maxRecDepth 100000 in
set_option maxHeartbeats 4000000 in
theorem k_raise (hl9 : l.stackTraces = false) (X : Cx p s m args meth c cL_law 9 RL rt G A) (hX : va_X b L xs s s.heap) (hbl : b < s.heap.size) (hbA : ¬ A b) (hL : L ≤ 2048) (hi : i + 4 ≤ L) (hcl : cells + 30 ≤ 603072) (hsl : slots + 400 ≤ 7215210) (hLI : LI G z f h a o1 o2 w) (hW : Wd G A s w H locs) (hl : lv_has ls 9 (LV6 b (z 0) (a 0) o1 o2 i)) (kk : ∀ (w : va_W) (H : Heap) (locs : List Loc) (ls : Array Slot), LI G z f h a o1 o2 w → Wd G A s w H locs → lv_has ls 9 (LV6 b (z 0) (a 0) o1 o2 i) → W p l e room_1 s m args below meth c H locs (cells + 30) (slots + 400) Q (F0 m 2290 ls [])) : W p l e room_1 s m args below meth c H locs cells slots Q (F0 m 628 ls []) := by
  have hx := X.exec
  have hb := X.bytes
  obtain ⟨th, fl, fd, lo, bi, ru, ol, ob, tk, fib, gra, res, buy, lst, bst, rea, bid, pri, itm, akf, akg, got, pai, riv, rf, ro, rs, lat, bat, val, cos, row, ahe, wan, giv, sc, wc, byr, reaC, rvl, pad, gt, X1, hM, hSB, hRel, hC0, hp1⟩ := hLI
  have hC1 := cf_inn hC0 hp1
  have hm1 : outL G o1 fl ∈ w := cf_mem hC1 (List.mem_append_right _ List.mem_cons_self)
  have hCI := cia_of hM hRel.1
  obtain ⟨fs, hz0⟩ := cf_z hC1
  obtain ⟨hlo, hbi, hru, hol, hob, hfib, hgra, hres, hbuy, hlst, hbst, hrea, hbid, hpri, hitm, hakf, hakg, hgot, hriv, hrf, hro, hrs, hpai, hcl9, hcb9⟩ := id hM
  obtain ⟨hlat, hbat, hcos, hrow, hahe, hwan, hgiv⟩ := id hSB
  obtain ⟨hrC, hrB, hrR, hrV, hrP, hsc, hwc⟩ := id hRel
  obtain ⟨lc, bc, ql, ln, rv, rm, bn, bd, pr, ic, flx, qu, rc, gp, bs, bv, cf, wt, ho, hFI, hCR⟩ := id hC1
  obtain ⟨v1, hv1, hv1e⟩ := z_ex (xs (i + 1))
  obtain ⟨v2, hv2, hv2e⟩ := z_ex (xs (i + 2))
  refine lv_aload_n hx hb dL_law_628 rfl (lv_at hl 1 rfl) ?_
  refine law_arg X hX hbl hbA hW (lv_at hl 0 rfl) (lv_at hl 5 rfl) 1 (by decide) hi hL (v := zI v1) hv1e (by decide) dL_law_629 dL_law_630 dL_law_632 dL_law_633 dL_law_634 ?_
  refine law_arg X hX hbl hbA hW (lv_at hl 0 rfl) (lv_at hl 5 rfl) 2 (by decide) hi hL (v := zI v2) hv2e (by decide) dL_law_635 dL_law_636 dL_law_638 dL_law_639 dL_law_640 ?_
  refine lv_aload_n hx hb dL_law_641 rfl (lv_at hl 3 rfl) ?_
  refine go_i X hW (rest := []) (run_SW X hW (As := [.ref (z 0), .int (zI v1), .int (zI v2), .ref o1]) (rest := []) (h_raise l G w (z 0) o1 fs fl _ _ (c_X6_raise l hl9 G _ _ _ _ _ _ _ _ _ _ _ _ _ _ _ _ _ _ _ _ _ _ _ _ _ _ _ _ _ _ _ _ _ hCI hCR hv1 hv2) hz0 (fun r w2 q => cr_mem q.2.2 (List.mem_append_right _ (List.mem_append_right _ (List.mem_append_right _ List.mem_cons_self)))) (fun E w2 q => by rcases q with ⟨q, -⟩ | ⟨q, -⟩ | ⟨q, -⟩ <;> simp [q]) H.size) wq_756 wq_757 wq_758 rfl hyL_raise rfl rfl hl.1 (Nat.le_of_ble_eq_true rfl) ⟨Nat.le_of_ble_eq_true rfl, Nat.le_of_ble_eq_true rfl⟩ ⟨by show cells + 4 ≤ 603072; omega, by show slots + 24 ≤ 7215210; omega⟩ dL_law_642) (fun r6 w2 H locs hP hW => ?_)
  have hz1 := hz0
  rcases hP with ⟨h6, v0, w3, hpp, hF⟩ | ⟨h6, hxx⟩ | ⟨h6, hxx⟩ | ⟨h6, hxx⟩
  · obtain ⟨hc, hr, hC2⟩ := hpp
    obtain ⟨X2, hC3, hp2⟩ := cf_out (cf_upd ⟨lc, bc, ql, ln, rv, rm, bn, bd, pr, ic, flx, qu, rc, gp, bs, bv, cf, wt, ho, hFI, hC2⟩ hF)
    have hW := hW.perm hp2
    refine lv_istore (lv' := (6, .int r6) :: LV6 b (z 0) (a 0) o1 o2 i) hx hb dL_law_645 hl (by decide) rfl (fun ls hl => ?_)
    refine lv_aload_n hx hb dL_law_647 rfl (lv_at hl 3 rfl) ?_
    refine law_arg X hX hbl hbA hW (lv_at hl 1 rfl) (lv_at hl 6 rfl) 1 (by decide) hi hL (v := zI v1) hv1e (by decide) dL_law_648 dL_law_649 dL_law_651 dL_law_652 dL_law_653 ?_
    refine law_arg X hX hbl hbA hW (lv_at hl 1 rfl) (lv_at hl 6 rfl) 2 (by decide) hi hL (v := zI v2) hv2e (by decide) dL_law_654 dL_law_655 dL_law_657 dL_law_658 dL_law_659 ?_
    refine go_i X hW (rest := []) (run_V X hW (As := [.int (zI v1), .int (zI v2)]) (rest := []) 10 0 rfl (c_X7_raise l G a _ _ _ _ _ _ _ _ _ _ _ _ _ _ _ _ _ _ _ _ _ _ _ _ _ _ _ _ _ _ _ _ _ _ _ _ hM hv1 hv2 H.size) (gi_V wq_1227 wq_1228 wq_1229 wq_67 wq_1230) rfl hyX7_raise rfl rfl rfl hl.1 (Nat.le_of_ble_eq_true rfl) ⟨Nat.le_of_ble_eq_true rfl, Nat.le_of_ble_eq_true rfl⟩ ⟨by show cells + 4 + 0 ≤ 603072; omega, by show slots + 24 + 0 ≤ 7215210; omega⟩ dL_law_660) (fun r7 w7 H locs hp7 hW => ?_)
    refine lv_istore (lv' := (7, .int r7) :: (6, .int r6) :: LV6 b (z 0) (a 0) o1 o2 i) hx hb dL_law_663 hl (by decide) rfl (fun ls hl => ?_)
    rcases hp7 with ⟨hd, hr7, hw7⟩ | ⟨hd, hr7, hw7⟩ | ⟨hd, hr7, hw7⟩ | ⟨hd, hr7, hw7⟩
    · exfalso; clear hM hSB hRel hCI hC1; omega
    · exfalso; clear hM hSB hRel hCI hC1; omega
    · exfalso; clear hM hSB hRel hCI hC1; omega
    · rw [hw7] at hW
      exact law_tailI X (k := 0) ⟨lo, bi, ru, ol, ob, tk, fib, gra, res, buy, lst, bst, rea, bid, (va_up pri v1.toNat v2.toNat), itm, akf, akg, got, pai, riv, rf, ro, rs, lat, bat, val, cos, row, ahe, wan, giv, sc, wc, byr, reaC, rvl, pad, gt, X2, (mo_raise hM hRel hc).1, hSB, (mo_raise hM hRel hc).2, hC3, List.Perm.refl _⟩ hW hl h6 (fun _ => (if_pos rfl).trans (congrArg Int32.toInt64 (hr.trans hr7.symm))) ⟨by show cells + 4 + 0 + 0 ≤ 603072; omega, by show slots + 24 + 0 + 0 ≤ 7215210; omega⟩ 665 dL_law_665 dL_law_666 dL_law_669 dL_law_671 dL_law_676 dL_law_678 dL_law_681 dL_law_682 dL_law_683 dL_law_684 dL_law_686 dL_law_687 dL_law_688 dL_law_693 rfl (fun w H1 locs1 q1 q2 q3 => W.widen (by show cells + 4 + 0 ≤ _; omega) (by show slots + 24 + 0 ≤ _; omega) (kk w H1 locs1 ls q1 q2 q3))
  · obtain ⟨hc, hC2⟩ : _ ∧ _ := by
      rcases hxx with ⟨hE, hc, hC2⟩ | ⟨hE, hc, hC2⟩ | ⟨hE, hc, hC2⟩
      · exact ⟨hc, hC2⟩
      · exact absurd hE (by decide)
      · exact absurd hE (by decide)
    rw [hC2] at hW
    obtain ⟨X2, hC3, hp2⟩ := cf_out hC1
    have hW := hW.perm hp2
    refine lv_istore (lv' := (6, .int r6) :: LV6 b (z 0) (a 0) o1 o2 i) hx hb dL_law_645 hl (by decide) rfl (fun ls hl => ?_)
    refine lv_aload_n hx hb dL_law_647 rfl (lv_at hl 3 rfl) ?_
    refine law_arg X hX hbl hbA hW (lv_at hl 1 rfl) (lv_at hl 6 rfl) 1 (by decide) hi hL (v := zI v1) hv1e (by decide) dL_law_648 dL_law_649 dL_law_651 dL_law_652 dL_law_653 ?_
    refine law_arg X hX hbl hbA hW (lv_at hl 1 rfl) (lv_at hl 6 rfl) 2 (by decide) hi hL (v := zI v2) hv2e (by decide) dL_law_654 dL_law_655 dL_law_657 dL_law_658 dL_law_659 ?_
    refine go_i X hW (rest := []) (run_V X hW (As := [.int (zI v1), .int (zI v2)]) (rest := []) 10 0 rfl (c_X7_raise l G a _ _ _ _ _ _ _ _ _ _ _ _ _ _ _ _ _ _ _ _ _ _ _ _ _ _ _ _ _ _ _ _ _ _ _ _ hM hv1 hv2 H.size) (gi_V wq_1227 wq_1228 wq_1229 wq_67 wq_1230) rfl hyX7_raise rfl rfl rfl hl.1 (Nat.le_of_ble_eq_true rfl) ⟨Nat.le_of_ble_eq_true rfl, Nat.le_of_ble_eq_true rfl⟩ ⟨by show cells + 4 + 0 ≤ 603072; omega, by show slots + 24 + 0 ≤ 7215210; omega⟩ dL_law_660) (fun r7 w7 H locs hp7 hW => ?_)
    refine lv_istore (lv' := (7, .int r7) :: (6, .int r6) :: LV6 b (z 0) (a 0) o1 o2 i) hx hb dL_law_663 hl (by decide) rfl (fun ls hl => ?_)
    rcases hp7 with ⟨hd, hr7, hw7⟩ | ⟨hd, hr7, hw7⟩ | ⟨hd, hr7, hw7⟩ | ⟨hd, hr7, hw7⟩
    · rw [hw7] at hW
      exact law_tailI X (k := 1) ⟨lo, bi, ru, ol, ob, tk, fib, gra, res, buy, lst, bst, rea, bid, pri, itm, akf, akg, got, pai, riv, rf, ro, rs, lat, bat, val, cos, row, ahe, wan, giv, sc, wc, byr, reaC, rvl, pad, gt, X2, hM, hSB, hRel, hC3, List.Perm.refl _⟩ hW hl h6 (fun q => absurd (h6.symm.trans q) (by decide)) ⟨by show cells + 4 + 0 + 0 ≤ 603072; omega, by show slots + 24 + 0 + 0 ≤ 7215210; omega⟩ 665 dL_law_665 dL_law_666 dL_law_669 dL_law_671 dL_law_676 dL_law_678 dL_law_681 dL_law_682 dL_law_683 dL_law_684 dL_law_686 dL_law_687 dL_law_688 dL_law_693 rfl (fun w H1 locs1 q1 q2 q3 => W.widen (by show cells + 4 + 0 ≤ _; omega) (by show slots + 24 + 0 ≤ _; omega) (kk w H1 locs1 ls q1 q2 q3))
    · exfalso; clear hM hSB hRel hCI hC1; omega
    · exfalso; clear hM hSB hRel hCI hC1; omega
    · exfalso; clear hM hSB hRel hCI hC1; omega
  · obtain ⟨hc, hC2⟩ : _ ∧ _ := by
      rcases hxx with ⟨hE, hc, hC2⟩ | ⟨hE, hc, hC2⟩ | ⟨hE, hc, hC2⟩
      · exact absurd hE (by decide)
      · exact ⟨hc, hC2⟩
      · exact absurd hE (by decide)
    rw [hC2] at hW
    obtain ⟨X2, hC3, hp2⟩ := cf_out hC1
    have hW := hW.perm hp2
    refine lv_istore (lv' := (6, .int r6) :: LV6 b (z 0) (a 0) o1 o2 i) hx hb dL_law_645 hl (by decide) rfl (fun ls hl => ?_)
    refine lv_aload_n hx hb dL_law_647 rfl (lv_at hl 3 rfl) ?_
    refine law_arg X hX hbl hbA hW (lv_at hl 1 rfl) (lv_at hl 6 rfl) 1 (by decide) hi hL (v := zI v1) hv1e (by decide) dL_law_648 dL_law_649 dL_law_651 dL_law_652 dL_law_653 ?_
    refine law_arg X hX hbl hbA hW (lv_at hl 1 rfl) (lv_at hl 6 rfl) 2 (by decide) hi hL (v := zI v2) hv2e (by decide) dL_law_654 dL_law_655 dL_law_657 dL_law_658 dL_law_659 ?_
    refine go_i X hW (rest := []) (run_V X hW (As := [.int (zI v1), .int (zI v2)]) (rest := []) 10 0 rfl (c_X7_raise l G a _ _ _ _ _ _ _ _ _ _ _ _ _ _ _ _ _ _ _ _ _ _ _ _ _ _ _ _ _ _ _ _ _ _ _ _ hM hv1 hv2 H.size) (gi_V wq_1227 wq_1228 wq_1229 wq_67 wq_1230) rfl hyX7_raise rfl rfl rfl hl.1 (Nat.le_of_ble_eq_true rfl) ⟨Nat.le_of_ble_eq_true rfl, Nat.le_of_ble_eq_true rfl⟩ ⟨by show cells + 4 + 0 ≤ 603072; omega, by show slots + 24 + 0 ≤ 7215210; omega⟩ dL_law_660) (fun r7 w7 H locs hp7 hW => ?_)
    refine lv_istore (lv' := (7, .int r7) :: (6, .int r6) :: LV6 b (z 0) (a 0) o1 o2 i) hx hb dL_law_663 hl (by decide) rfl (fun ls hl => ?_)
    rcases hp7 with ⟨hd, hr7, hw7⟩ | ⟨hd, hr7, hw7⟩ | ⟨hd, hr7, hw7⟩ | ⟨hd, hr7, hw7⟩
    · exfalso; clear hM hSB hRel hCI hC1; omega
    · rw [hw7] at hW
      exact law_tailI X (k := 2) ⟨lo, bi, ru, ol, ob, tk, fib, gra, res, buy, lst, bst, rea, bid, pri, itm, akf, akg, got, pai, riv, rf, ro, rs, lat, bat, val, cos, row, ahe, wan, giv, sc, wc, byr, reaC, rvl, pad, gt, X2, hM, hSB, hRel, hC3, List.Perm.refl _⟩ hW hl h6 (fun q => absurd (h6.symm.trans q) (by decide)) ⟨by show cells + 4 + 0 + 0 ≤ 603072; omega, by show slots + 24 + 0 + 0 ≤ 7215210; omega⟩ 665 dL_law_665 dL_law_666 dL_law_669 dL_law_671 dL_law_676 dL_law_678 dL_law_681 dL_law_682 dL_law_683 dL_law_684 dL_law_686 dL_law_687 dL_law_688 dL_law_693 rfl (fun w H1 locs1 q1 q2 q3 => W.widen (by show cells + 4 + 0 ≤ _; omega) (by show slots + 24 + 0 ≤ _; omega) (kk w H1 locs1 ls q1 q2 q3))
    · exfalso; clear hM hSB hRel hCI hC1; omega
    · exfalso; clear hM hSB hRel hCI hC1; omega
  · obtain ⟨hc, hC2⟩ : _ ∧ _ := by
      rcases hxx with ⟨hE, hc, hC2⟩ | ⟨hE, hc, hC2⟩ | ⟨hE, hc, hC2⟩
      · exact absurd hE (by decide)
      · exact absurd hE (by decide)
      · exact ⟨hc, hC2⟩
    rw [hC2] at hW
    obtain ⟨X2, hC3, hp2⟩ := cf_out hC1
    have hW := hW.perm hp2
    refine lv_istore (lv' := (6, .int r6) :: LV6 b (z 0) (a 0) o1 o2 i) hx hb dL_law_645 hl (by decide) rfl (fun ls hl => ?_)
    refine lv_aload_n hx hb dL_law_647 rfl (lv_at hl 3 rfl) ?_
    refine law_arg X hX hbl hbA hW (lv_at hl 1 rfl) (lv_at hl 6 rfl) 1 (by decide) hi hL (v := zI v1) hv1e (by decide) dL_law_648 dL_law_649 dL_law_651 dL_law_652 dL_law_653 ?_
    refine law_arg X hX hbl hbA hW (lv_at hl 1 rfl) (lv_at hl 6 rfl) 2 (by decide) hi hL (v := zI v2) hv2e (by decide) dL_law_654 dL_law_655 dL_law_657 dL_law_658 dL_law_659 ?_
    refine go_i X hW (rest := []) (run_V X hW (As := [.int (zI v1), .int (zI v2)]) (rest := []) 10 0 rfl (c_X7_raise l G a _ _ _ _ _ _ _ _ _ _ _ _ _ _ _ _ _ _ _ _ _ _ _ _ _ _ _ _ _ _ _ _ _ _ _ _ hM hv1 hv2 H.size) (gi_V wq_1227 wq_1228 wq_1229 wq_67 wq_1230) rfl hyX7_raise rfl rfl rfl hl.1 (Nat.le_of_ble_eq_true rfl) ⟨Nat.le_of_ble_eq_true rfl, Nat.le_of_ble_eq_true rfl⟩ ⟨by show cells + 4 + 0 ≤ 603072; omega, by show slots + 24 + 0 ≤ 7215210; omega⟩ dL_law_660) (fun r7 w7 H locs hp7 hW => ?_)
    refine lv_istore (lv' := (7, .int r7) :: (6, .int r6) :: LV6 b (z 0) (a 0) o1 o2 i) hx hb dL_law_663 hl (by decide) rfl (fun ls hl => ?_)
    rcases hp7 with ⟨hd, hr7, hw7⟩ | ⟨hd, hr7, hw7⟩ | ⟨hd, hr7, hw7⟩ | ⟨hd, hr7, hw7⟩
    · exfalso; clear hM hSB hRel hCI hC1; omega
    · exfalso; clear hM hSB hRel hCI hC1; omega
    · rw [hw7] at hW
      exact law_tailI X (k := 3) ⟨lo, bi, ru, ol, ob, tk, fib, gra, res, buy, lst, bst, rea, bid, pri, itm, akf, akg, got, pai, riv, rf, ro, rs, lat, bat, val, cos, row, ahe, wan, giv, sc, wc, byr, reaC, rvl, pad, gt, X2, hM, hSB, hRel, hC3, List.Perm.refl _⟩ hW hl h6 (fun q => absurd (h6.symm.trans q) (by decide)) ⟨by show cells + 4 + 0 + 0 ≤ 603072; omega, by show slots + 24 + 0 + 0 ≤ 7215210; omega⟩ 665 dL_law_665 dL_law_666 dL_law_669 dL_law_671 dL_law_676 dL_law_678 dL_law_681 dL_law_682 dL_law_683 dL_law_684 dL_law_686 dL_law_687 dL_law_688 dL_law_693 rfl (fun w H1 locs1 q1 q2 q3 => W.widen (by show cells + 4 + 0 ≤ _; omega) (by show slots + 24 + 0 ≤ _; omega) (kk w H1 locs1 ls q1 q2 q3))
    · exfalso; clear hM hSB hRel hCI hC1; omega
set_option maxRecDepth 100000 in
set_option maxHeartbeats 4000000 in
theorem k_cancel (hl9 : l.stackTraces = false) (X : Cx p s m args meth c cL_law 9 RL rt G A) (hX : va_X b L xs s s.heap) (hbl : b < s.heap.size) (hbA : ¬ A b) (hL : L ≤ 2048) (hi : i + 4 ≤ L) (hcl : cells + 30 ≤ 603072) (hsl : slots + 400 ≤ 7215210) (hLI : LI G z f h a o1 o2 w) (hW : Wd G A s w H locs) (hl : lv_has ls 9 (LV6 b (z 0) (a 0) o1 o2 i)) (kk : ∀ (w : va_W) (H : Heap) (locs : List Loc) (ls : Array Slot), LI G z f h a o1 o2 w → Wd G A s w H locs → lv_has ls 9 (LV6 b (z 0) (a 0) o1 o2 i) → W p l e room_1 s m args below meth c H locs (cells + 30) (slots + 400) Q (F0 m 2290 ls [])) : W p l e room_1 s m args below meth c H locs cells slots Q (F0 m 696 ls []) := by
  have hx := X.exec
  have hb := X.bytes
  obtain ⟨th, fl, fd, lo, bi, ru, ol, ob, tk, fib, gra, res, buy, lst, bst, rea, bid, pri, itm, akf, akg, got, pai, riv, rf, ro, rs, lat, bat, val, cos, row, ahe, wan, giv, sc, wc, byr, reaC, rvl, pad, gt, X1, hM, hSB, hRel, hC0, hp1⟩ := hLI
  have hC1 := cf_inn hC0 hp1
  have hm1 : outL G o1 fl ∈ w := cf_mem hC1 (List.mem_append_right _ List.mem_cons_self)
  have hCI := cia_of hM hRel.1
  obtain ⟨fs, hz0⟩ := cf_z hC1
  obtain ⟨hlo, hbi, hru, hol, hob, hfib, hgra, hres, hbuy, hlst, hbst, hrea, hbid, hpri, hitm, hakf, hakg, hgot, hriv, hrf, hro, hrs, hpai, hcl9, hcb9⟩ := id hM
  obtain ⟨hlat, hbat, hcos, hrow, hahe, hwan, hgiv⟩ := id hSB
  obtain ⟨hrC, hrB, hrR, hrV, hrP, hsc, hwc⟩ := id hRel
  obtain ⟨lc, bc, ql, ln, rv, rm, bn, bd, pr, ic, flx, qu, rc, gp, bs, bv, cf, wt, ho, hFI, hCR⟩ := id hC1
  obtain ⟨v1, hv1, hv1e⟩ := z_ex (xs (i + 1))
  refine lv_aload_n hx hb dL_law_696 rfl (lv_at hl 1 rfl) ?_
  refine law_arg X hX hbl hbA hW (lv_at hl 0 rfl) (lv_at hl 5 rfl) 1 (by decide) hi hL (v := zI v1) hv1e (by decide) dL_law_697 dL_law_698 dL_law_700 dL_law_701 dL_law_702 ?_
  refine lv_aload_n hx hb dL_law_703 rfl (lv_at hl 3 rfl) ?_
  refine go_i X hW (rest := []) (run_SW X hW (As := [.ref (z 0), .int (zI v1), .ref o1]) (rest := []) (h_cancel l G w (z 0) o1 fs fl _ (c_X6_cancel l hl9 G _ _ _ _ _ _ _ _ _ _ _ _ _ _ _ _ _ _ _ _ _ _ _ _ _ _ _ _ _ _ _ _ hCI hCR hv1) hz0 (fun r w2 q => cr_mem q.2.2 (List.mem_append_right _ (List.mem_append_right _ (List.mem_append_right _ List.mem_cons_self)))) (fun E w2 q => by rcases q with ⟨q, -⟩ | ⟨q, -⟩ <;> simp [q]) H.size) wq_769 wq_770 wq_771 rfl hyL_cancel rfl rfl hl.1 (Nat.le_of_ble_eq_true rfl) ⟨Nat.le_of_ble_eq_true rfl, Nat.le_of_ble_eq_true rfl⟩ ⟨by show cells + 3 ≤ 603072; omega, by show slots + 18 ≤ 7215210; omega⟩ dL_law_704) (fun r6 w2 H locs hP hW => ?_)
  have hz1 := hz0
  rcases hP with ⟨h6, v0, w3, hpp, hF⟩ | ⟨h6, hxx⟩ | ⟨h6, hxx⟩
  · obtain ⟨hc, hr, hC2⟩ := hpp
    obtain ⟨X2, hC3, hp2⟩ := cf_out (cf_upd ⟨lc, bc, ql, ln, rv, rm, bn, bd, pr, ic, flx, qu, rc, gp, bs, bv, cf, wt, ho, hFI, hC2⟩ hF)
    have hW := hW.perm hp2
    refine lv_istore (lv' := (6, .int r6) :: LV6 b (z 0) (a 0) o1 o2 i) hx hb dL_law_707 hl (by decide) rfl (fun ls hl => ?_)
    refine lv_aload_n hx hb dL_law_709 rfl (lv_at hl 3 rfl) ?_
    refine law_arg X hX hbl hbA hW (lv_at hl 1 rfl) (lv_at hl 6 rfl) 1 (by decide) hi hL (v := zI v1) hv1e (by decide) dL_law_710 dL_law_711 dL_law_713 dL_law_714 dL_law_715 ?_
    refine go_i X hW (rest := []) (run_V X hW (As := [.int (zI v1)]) (rest := []) 10 0 rfl (c_X7_cancel l G a _ _ _ _ _ _ _ _ _ _ _ _ _ _ _ _ _ _ _ _ _ _ _ _ _ _ _ _ _ _ _ _ _ _ _ hM hv1 H.size) (gi_V wq_1231 wq_1232 wq_1233 wq_67 wq_1234) rfl hyX7_cancel rfl rfl rfl hl.1 (Nat.le_of_ble_eq_true rfl) ⟨Nat.le_of_ble_eq_true rfl, Nat.le_of_ble_eq_true rfl⟩ ⟨by show cells + 3 + 0 ≤ 603072; omega, by show slots + 18 + 0 ≤ 7215210; omega⟩ dL_law_716) (fun r7 w7 H locs hp7 hW => ?_)
    refine lv_istore (lv' := (7, .int r7) :: (6, .int r6) :: LV6 b (z 0) (a 0) o1 o2 i) hx hb dL_law_719 hl (by decide) rfl (fun ls hl => ?_)
    rcases hp7 with ⟨hd, hr7, hw7⟩ | ⟨hd, hr7, hw7⟩ | ⟨hd, hr7, hw7⟩
    · exfalso; clear hM hSB hRel hCI hC1; omega
    · exfalso; clear hM hSB hRel hCI hC1; omega
    · rw [hw7] at hW
      exact law_tailI X (k := 0) ⟨lo, bi, ru, ol, (ob - 1), tk, fib, gra, res, buy, lst, (va_up bst v1.toNat 99), rea, bid, pri, itm, akf, akg, got, pai, riv, rf, ro, rs, lat, bat, val, cos, row, ahe, wan, giv, sc, wc, byr, reaC, rvl, pad, gt, X2, (mo_cancel hM hRel hc).1, hSB, (mo_cancel hM hRel hc).2, hC3, List.Perm.refl _⟩ hW hl h6 (fun _ => (if_pos rfl).trans (congrArg Int32.toInt64 (hr.trans hr7.symm))) ⟨by show cells + 3 + 0 + 0 ≤ 603072; omega, by show slots + 18 + 0 + 0 ≤ 7215210; omega⟩ 721 dL_law_721 dL_law_722 dL_law_725 dL_law_727 dL_law_732 dL_law_734 dL_law_737 dL_law_738 dL_law_739 dL_law_740 dL_law_742 dL_law_743 dL_law_744 dL_law_749 rfl (fun w H1 locs1 q1 q2 q3 => W.widen (by show cells + 3 + 0 ≤ _; omega) (by show slots + 18 + 0 ≤ _; omega) (kk w H1 locs1 ls q1 q2 q3))
  · obtain ⟨hc, hC2⟩ : _ ∧ _ := by
      rcases hxx with ⟨hE, hc, hC2⟩ | ⟨hE, hc, hC2⟩
      · exact ⟨hc, hC2⟩
      · exact absurd hE (by decide)
    rw [hC2] at hW
    obtain ⟨X2, hC3, hp2⟩ := cf_out hC1
    have hW := hW.perm hp2
    refine lv_istore (lv' := (6, .int r6) :: LV6 b (z 0) (a 0) o1 o2 i) hx hb dL_law_707 hl (by decide) rfl (fun ls hl => ?_)
    refine lv_aload_n hx hb dL_law_709 rfl (lv_at hl 3 rfl) ?_
    refine law_arg X hX hbl hbA hW (lv_at hl 1 rfl) (lv_at hl 6 rfl) 1 (by decide) hi hL (v := zI v1) hv1e (by decide) dL_law_710 dL_law_711 dL_law_713 dL_law_714 dL_law_715 ?_
    refine go_i X hW (rest := []) (run_V X hW (As := [.int (zI v1)]) (rest := []) 10 0 rfl (c_X7_cancel l G a _ _ _ _ _ _ _ _ _ _ _ _ _ _ _ _ _ _ _ _ _ _ _ _ _ _ _ _ _ _ _ _ _ _ _ hM hv1 H.size) (gi_V wq_1231 wq_1232 wq_1233 wq_67 wq_1234) rfl hyX7_cancel rfl rfl rfl hl.1 (Nat.le_of_ble_eq_true rfl) ⟨Nat.le_of_ble_eq_true rfl, Nat.le_of_ble_eq_true rfl⟩ ⟨by show cells + 3 + 0 ≤ 603072; omega, by show slots + 18 + 0 ≤ 7215210; omega⟩ dL_law_716) (fun r7 w7 H locs hp7 hW => ?_)
    refine lv_istore (lv' := (7, .int r7) :: (6, .int r6) :: LV6 b (z 0) (a 0) o1 o2 i) hx hb dL_law_719 hl (by decide) rfl (fun ls hl => ?_)
    rcases hp7 with ⟨hd, hr7, hw7⟩ | ⟨hd, hr7, hw7⟩ | ⟨hd, hr7, hw7⟩
    · rw [hw7] at hW
      exact law_tailI X (k := 1) ⟨lo, bi, ru, ol, ob, tk, fib, gra, res, buy, lst, bst, rea, bid, pri, itm, akf, akg, got, pai, riv, rf, ro, rs, lat, bat, val, cos, row, ahe, wan, giv, sc, wc, byr, reaC, rvl, pad, gt, X2, hM, hSB, hRel, hC3, List.Perm.refl _⟩ hW hl h6 (fun q => absurd (h6.symm.trans q) (by decide)) ⟨by show cells + 3 + 0 + 0 ≤ 603072; omega, by show slots + 18 + 0 + 0 ≤ 7215210; omega⟩ 721 dL_law_721 dL_law_722 dL_law_725 dL_law_727 dL_law_732 dL_law_734 dL_law_737 dL_law_738 dL_law_739 dL_law_740 dL_law_742 dL_law_743 dL_law_744 dL_law_749 rfl (fun w H1 locs1 q1 q2 q3 => W.widen (by show cells + 3 + 0 ≤ _; omega) (by show slots + 18 + 0 ≤ _; omega) (kk w H1 locs1 ls q1 q2 q3))
    · exfalso; clear hM hSB hRel hCI hC1; omega
    · exfalso; clear hM hSB hRel hCI hC1; omega
  · obtain ⟨hc, hC2⟩ : _ ∧ _ := by
      rcases hxx with ⟨hE, hc, hC2⟩ | ⟨hE, hc, hC2⟩
      · exact absurd hE (by decide)
      · exact ⟨hc, hC2⟩
    rw [hC2] at hW
    obtain ⟨X2, hC3, hp2⟩ := cf_out hC1
    have hW := hW.perm hp2
    refine lv_istore (lv' := (6, .int r6) :: LV6 b (z 0) (a 0) o1 o2 i) hx hb dL_law_707 hl (by decide) rfl (fun ls hl => ?_)
    refine lv_aload_n hx hb dL_law_709 rfl (lv_at hl 3 rfl) ?_
    refine law_arg X hX hbl hbA hW (lv_at hl 1 rfl) (lv_at hl 6 rfl) 1 (by decide) hi hL (v := zI v1) hv1e (by decide) dL_law_710 dL_law_711 dL_law_713 dL_law_714 dL_law_715 ?_
    refine go_i X hW (rest := []) (run_V X hW (As := [.int (zI v1)]) (rest := []) 10 0 rfl (c_X7_cancel l G a _ _ _ _ _ _ _ _ _ _ _ _ _ _ _ _ _ _ _ _ _ _ _ _ _ _ _ _ _ _ _ _ _ _ _ hM hv1 H.size) (gi_V wq_1231 wq_1232 wq_1233 wq_67 wq_1234) rfl hyX7_cancel rfl rfl rfl hl.1 (Nat.le_of_ble_eq_true rfl) ⟨Nat.le_of_ble_eq_true rfl, Nat.le_of_ble_eq_true rfl⟩ ⟨by show cells + 3 + 0 ≤ 603072; omega, by show slots + 18 + 0 ≤ 7215210; omega⟩ dL_law_716) (fun r7 w7 H locs hp7 hW => ?_)
    refine lv_istore (lv' := (7, .int r7) :: (6, .int r6) :: LV6 b (z 0) (a 0) o1 o2 i) hx hb dL_law_719 hl (by decide) rfl (fun ls hl => ?_)
    rcases hp7 with ⟨hd, hr7, hw7⟩ | ⟨hd, hr7, hw7⟩ | ⟨hd, hr7, hw7⟩
    · exfalso; clear hM hSB hRel hCI hC1; omega
    · rw [hw7] at hW
      exact law_tailI X (k := 2) ⟨lo, bi, ru, ol, ob, tk, fib, gra, res, buy, lst, bst, rea, bid, pri, itm, akf, akg, got, pai, riv, rf, ro, rs, lat, bat, val, cos, row, ahe, wan, giv, sc, wc, byr, reaC, rvl, pad, gt, X2, hM, hSB, hRel, hC3, List.Perm.refl _⟩ hW hl h6 (fun q => absurd (h6.symm.trans q) (by decide)) ⟨by show cells + 3 + 0 + 0 ≤ 603072; omega, by show slots + 18 + 0 + 0 ≤ 7215210; omega⟩ 721 dL_law_721 dL_law_722 dL_law_725 dL_law_727 dL_law_732 dL_law_734 dL_law_737 dL_law_738 dL_law_739 dL_law_740 dL_law_742 dL_law_743 dL_law_744 dL_law_749 rfl (fun w H1 locs1 q1 q2 q3 => W.widen (by show cells + 3 + 0 ≤ _; omega) (by show slots + 18 + 0 ≤ _; omega) (kk w H1 locs1 ls q1 q2 q3))
    · exfalso; clear hM hSB hRel hCI hC1; omega
end KCH
