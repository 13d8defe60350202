theorem sb_all {lo bi ru ol ob : Nat} {fib gra res lst bst bid pri itm akf akg rf ro rs la ba lat bat cos row ahe wan giv g2 r2 : Nat → Nat} {v2 : Nat → Int} (hA : AllP lo bi ru ol ob fib gra res lst bst bid pri itm akf akg rf ro rs la ba v2) (hg : ∀ x, g2 x ≤ 2000000) (hr : ∀ x, r2 x ≤ 2000000) (hSB : SBd lat bat cos row ahe wan giv) : SBd la ba g2 r2 ahe wan giv := ⟨hA.1, hA.2.1, hg, hr, hSB.2.2.2.2⟩
section JL
variable {lo bi ru ol ob : Nat} {fib gra res lst bst bid pri itm akf akg rf ro rs la ba : Nat → Nat} {v2 : Nat → Int}
theorem j_uq (hcb : cntB (isO bst) bi = ob) (hA : AllP lo bi ru ol ob fib gra res lst bst bid pri itm akf akg rf ro rs la ba v2) {j k v : Nat} (hk : k < ob) (hB : BA bst bi k = v) (hj : j < ob) (e : ba j = v) : j = k := ba_inj hcb hj hk (((hA.2.2.2.1 j hj).symm.trans e).trans hB.symm)
theorem j_pl (hcb : cntB (isO bst) bi = ob) (hA : AllP lo bi ru ol ob fib gra res lst bst bid pri itm akf akg rf ro rs la ba v2) {k v : Nat} (hk : k < ob) (hB : BA bst bi k = v) : fst1 (fun j => decide (ba j = v)) ob = k :=
  fst1_at hk (fun j hj => decide_eq_false (fun e => by have := j_uq hcb hA hk hB (by omega) e; omega)) (decide_eq_true ((hA.2.2.2.1 k hk).trans hB))
theorem j_best (hi3 : ∀ k, itm k ≤ 3) (hob : ob ≤ 8) (hA : AllP lo bi ru ol ob fib gra res lst bst bid pri itm akf akg rf ro rs la ba v2) {wo : Int} {b : Nat} (hB : BestIs lo bi ru ol ob fib gra res lst bst bid pri itm akf akg rf ro rs wo b) : bsM v2 (fun k => bid (ba k)) ob wo 256 = b := best_uniq (allp_best hi3 hob hA wo).1 hB
theorem j_sur (hi3 : ∀ k, itm k ≤ 3) (hob : ob ≤ 8) (hA : AllP lo bi ru ol ob fib gra res lst bst bid pri itm akf akg rf ro rs la ba v2) {wo : Int} {b : Nat} (hB : BestIs lo bi ru ol ob fib gra res lst bst bid pri itm akf akg rf ro rs wo b) : v2 (bsM v2 (fun k => bid (ba k)) ob wo 256) = Sur lo bi ru ol ob fib gra res lst bst pri itm akf akg rf ro rs b := by
  rw [(allp_best hi3 hob hA wo).2, j_best hi3 hob hA hB]
theorem sur_gt (hol : ol ≤ 8) (hres : ∀ k, res k ≤ 999) {s : Nat} (h : PS ol (fBD bid bst bi) (fBD itm bst bi) (fFL fib gra rf ro rs ru akf akg lst lo bst bi ol) s ob) : -1000000 < Sur lo bi ru ol ob fib gra res lst bst pri itm akf akg rf ro rs s := by
  have h1 := (lcost_PS (lc := ol) (bc := ob) (set := s) (bd := fBD bid bst bi) (ic := fBD itm bst bi) (fl := fFL fib gra rf ro rs ru akf akg lst lo bst bi ol) (rs := fRS res lst lo) hol (fun k => hres _)).1 h
  have h2 : lcost s ob ol (fBD bid bst bi) (fBD itm bst bi) (fFL fib gra rf ro rs ru akf akg lst lo bst bi ol) (fRS res lst lo) < 1000000 := by
    unfold lcost
    split
    · rename_i h3
      omega
    · omega
  rw [h1] at h2
  unfold Sur VS
  omega
theorem j_v1 (hi3 : ∀ k, itm k ≤ 3) (hob : ob ≤ 8) (hA : AllP lo bi ru ol ob fib gra res lst bst bid pri itm akf akg rf ro rs la ba v2) {k : Nat} (hk : k < ob) : (PS ol (fBD bid bst bi) (fBD itm bst bi) (fFL fib gra rf ro rs ru akf akg lst lo bst bi ol) (2 ^ k) ob → v2 (2 ^ k) = Sur lo bi ru ol ob fib gra res lst bst pri itm akf akg rf ro rs (2 ^ k)) ∧ (¬ PS ol (fBD bid bst bi) (fBD itm bst bi) (fFL fib gra rf ro rs ru akf akg lst lo bst bi ol) (2 ^ k) ob → v2 (2 ^ k) = -1000000) := by
  have h1 : 2 ^ k < 2 ^ ob := Nat.pow_lt_pow_right (by decide) hk
  exact allp_v hi3 hA (Nat.lt_of_lt_of_le h1 (p2_256 hob)) h1
end JL

section KVA
variable {p : Program} {l : Launch} {e : Env} {s : State} {m : MethodId} {args : Array Value} {below : List Frame} {meth : Method} {c : Code} {H : Heap} {locs : List Loc} {cells slots : Nat} {Q : State → Prop}
variable {ls : Array Slot} {rt : Option FieldType} {G : Gt} {A : Nat → Prop} {w : va_W} {b L i o1 o2 : Nat} {xs : Nat → Int32} {z f h a : Nat → Nat} {fl : Nat → Int64} {fd : Nat → UInt64} {k : Nat}
set_option maxRecDepth 100000 in
set_option maxHeartbeats 4000000 in
theorem k_lots (hl9 : l.stackTraces = false) (X : Cx p s m args meth c cL_law 9 RL rt G A) (hX : va_X b L xs s s.heap) (hbl : b < s.heap.size) (hbA : ¬ A b) (hL : L ≤ 2048) (hi : i + 4 ≤ L) (hcl : cells + 30 ≤ 603072) (hsl : slots + 400 ≤ 7215210) (hLI : LI G z f h a o1 o2 w) (hW : Wd G A s w H locs) (hl : lv_has ls 9 (LV6 b (z 0) (a 0) o1 o2 i)) (kk : ∀ (w : va_W) (H : Heap) (locs : List Loc) (ls : Array Slot), LI G z f h a o1 o2 w → Wd G A s w H locs → lv_has ls 9 (LV6 b (z 0) (a 0) o1 o2 i) → W p l e room_1 s m args below meth c H locs (cells + 30) (slots + 400) Q (F0 m 2290 ls [])) : W p l e room_1 s m args below meth c H locs cells slots Q (F0 m 796 ls []) := by
  have hx := X.exec
  have hb := X.bytes
  obtain ⟨th, fl, fd, lo, bi, ru, ol, ob, tk, fib, gra, res, buy, lst, bst, rea, bid, pri, itm, akf, akg, got, pai, riv, rf, ro, rs, lat, bat, val, cos, row, ahe, wan, giv, sc, wc, byr, reaC, rvl, pad, gt, X1, hM, hSB, hRel, hC0, hp1⟩ := hLI
  have hC1 := cf_inn hC0 hp1
  have hCI := cia_of hM hRel.1
  obtain ⟨fs, hz0⟩ := cf_z hC1
  obtain ⟨q0, hq⟩ := List.mem_iff_getElem?.mp hz0
  obtain ⟨hlo, hbi, hru, hol, hob, hfib, hgra, hres, hbuy, hlst, hbst, hrea, hbid, hpri, hitm, hakf, hakg, hgot, hriv, hrf, hro, hrs, hpai, hcl9, hcb9⟩ := id hM
  obtain ⟨hlat, hbat, hcos, hrow, hahe, hwan, hgiv⟩ := id hSB
  obtain ⟨lc, bc, ql, ln, rv, rm, bn, bd, pr, ic, flx, qu, rc, gp, bs, bv, cf, wt, ho, hFI, hCR⟩ := id hC1
  refine lv_aload_n hx hb dL_law_796 rfl (lv_at hl 1 rfl) ?_
  refine go_i X hW (rest := []) (run_V X hW (As := []) (rest := []) 9 q0 hq (c_X6_lots l G _ _ _ _ _ _ _ _ _ _ _ _ _ _ _ _ _ _ _ _ _ _ _ _ _ _ _ _ _ _ _ hCI hCR H.size) (gi_V wq_241 wq_242 wq_243 wq_61 wq_244) rfl hyX6_lots rfl rfl rfl hl.1 (Nat.le_of_ble_eq_true rfl) ⟨Nat.le_of_ble_eq_true rfl, Nat.le_of_ble_eq_true rfl⟩ ⟨by show cells + 0 ≤ 603072; omega, by show slots + 0 ≤ 7215210; omega⟩ dL_law_797) (fun r6 w2 H locs hP hW => ?_)
  obtain ⟨hr, hC2⟩ := hP
  rw [hC2] at hW
  obtain ⟨X2, hC3, hp2⟩ := cf_out hC1
  have hW := hW.perm hp2
  refine lv_aload_n hx hb dL_law_800 rfl (lv_at hl 2 rfl) ?_
  refine go_i X hW (rest := [.int r6]) (run_V X hW (As := []) (rest := [.int r6]) 10 0 rfl (c_X7_lots l G a _ _ _ _ _ _ _ _ _ _ _ _ _ _ _ _ _ _ _ _ _ _ _ _ _ _ _ _ _ _ _ _ _ _ hM H.size) (gi_V wq_1284 wq_1285 wq_1286 wq_67 wq_1287) rfl hyX7_lots rfl rfl rfl hl.1 (Nat.le_of_ble_eq_true rfl) ⟨Nat.le_of_ble_eq_true rfl, Nat.le_of_ble_eq_true rfl⟩ ⟨by show cells + 0 + 0 ≤ 603072; omega, by show slots + 0 + 0 ≤ 7215210; omega⟩ dL_law_801) (fun r7 w7 H locs hp7 hW => ?_)
  obtain ⟨hr7, hw7⟩ := hp7
  rw [hw7] at hW
  exact lv_icmp_eq (tgt := 2290) hx hb dL_law_804 (by decide) (fun _ => W.widen (by show cells + 0 + 0 ≤ _; omega) (by show slots + 0 + 0 ≤ _; omega) (kk _ H locs ls ⟨th, fl, fd, lo, bi, ru, ol, ob, tk, fib, gra, res, buy, lst, bst, rea, bid, pri, itm, akf, akg, got, pai, riv, rf, ro, rs, lat, bat, val, cos, row, ahe, wan, giv, sc, wc, byr, reaC, rvl, pad, gt, X2, hM, hSB, hRel, hC3, List.Perm.refl _⟩ hW hl)) (fun q => absurd (hr.trans hr7.symm) q)
set_option maxRecDepth 100000 in
set_option maxHeartbeats 4000000 in
theorem k_bids (hl9 : l.stackTraces = false) (X : Cx p s m args meth c cL_law 9 RL rt G A) (hX : va_X b L xs s s.heap) (hbl : b < s.heap.size) (hbA : ¬ A b) (hL : L ≤ 2048) (hi : i + 4 ≤ L) (hcl : cells + 30 ≤ 603072) (hsl : slots + 400 ≤ 7215210) (hLI : LI G z f h a o1 o2 w) (hW : Wd G A s w H locs) (hl : lv_has ls 9 (LV6 b (z 0) (a 0) o1 o2 i)) (kk : ∀ (w : va_W) (H : Heap) (locs : List Loc) (ls : Array Slot), LI G z f h a o1 o2 w → Wd G A s w H locs → lv_has ls 9 (LV6 b (z 0) (a 0) o1 o2 i) → W p l e room_1 s m args below meth c H locs (cells + 30) (slots + 400) Q (F0 m 2290 ls [])) : W p l e room_1 s m args below meth c H locs cells slots Q (F0 m 809 ls []) := by
  have hx := X.exec
  have hb := X.bytes
  obtain ⟨th, fl, fd, lo, bi, ru, ol, ob, tk, fib, gra, res, buy, lst, bst, rea, bid, pri, itm, akf, akg, got, pai, riv, rf, ro, rs, lat, bat, val, cos, row, ahe, wan, giv, sc, wc, byr, reaC, rvl, pad, gt, X1, hM, hSB, hRel, hC0, hp1⟩ := hLI
  have hC1 := cf_inn hC0 hp1
  have hCI := cia_of hM hRel.1
  obtain ⟨fs, hz0⟩ := cf_z hC1
  obtain ⟨q0, hq⟩ := List.mem_iff_getElem?.mp hz0
  obtain ⟨hlo, hbi, hru, hol, hob, hfib, hgra, hres, hbuy, hlst, hbst, hrea, hbid, hpri, hitm, hakf, hakg, hgot, hriv, hrf, hro, hrs, hpai, hcl9, hcb9⟩ := id hM
  obtain ⟨hlat, hbat, hcos, hrow, hahe, hwan, hgiv⟩ := id hSB
  obtain ⟨lc, bc, ql, ln, rv, rm, bn, bd, pr, ic, flx, qu, rc, gp, bs, bv, cf, wt, ho, hFI, hCR⟩ := id hC1
  refine lv_aload_n hx hb dL_law_809 rfl (lv_at hl 1 rfl) ?_
  refine go_i X hW (rest := []) (run_V X hW (As := []) (rest := []) 9 q0 hq (c_X6_bids l G _ _ _ _ _ _ _ _ _ _ _ _ _ _ _ _ _ _ _ _ _ _ _ _ _ _ _ _ _ _ _ hCI hCR H.size) (gi_V wq_249 wq_250 wq_251 wq_61 wq_252) rfl hyX6_bids rfl rfl rfl hl.1 (Nat.le_of_ble_eq_true rfl) ⟨Nat.le_of_ble_eq_true rfl, Nat.le_of_ble_eq_true rfl⟩ ⟨by show cells + 0 ≤ 603072; omega, by show slots + 0 ≤ 7215210; omega⟩ dL_law_810) (fun r6 w2 H locs hP hW => ?_)
  obtain ⟨hr, hC2⟩ := hP
  rw [hC2] at hW
  obtain ⟨X2, hC3, hp2⟩ := cf_out hC1
  have hW := hW.perm hp2
  refine lv_aload_n hx hb dL_law_813 rfl (lv_at hl 2 rfl) ?_
  refine go_i X hW (rest := [.int r6]) (run_V X hW (As := []) (rest := [.int r6]) 10 0 rfl (c_X7_bids l G a _ _ _ _ _ _ _ _ _ _ _ _ _ _ _ _ _ _ _ _ _ _ _ _ _ _ _ _ _ _ _ _ _ _ hM H.size) (gi_V wq_1288 wq_1289 wq_1290 wq_67 wq_1291) rfl hyX7_bids rfl rfl rfl hl.1 (Nat.le_of_ble_eq_true rfl) ⟨Nat.le_of_ble_eq_true rfl, Nat.le_of_ble_eq_true rfl⟩ ⟨by show cells + 0 + 0 ≤ 603072; omega, by show slots + 0 + 0 ≤ 7215210; omega⟩ dL_law_814) (fun r7 w7 H locs hp7 hW => ?_)
  obtain ⟨hr7, hw7⟩ := hp7
  rw [hw7] at hW
  exact lv_icmp_eq (tgt := 2290) hx hb dL_law_817 (by decide) (fun _ => W.widen (by show cells + 0 + 0 ≤ _; omega) (by show slots + 0 + 0 ≤ _; omega) (kk _ H locs ls ⟨th, fl, fd, lo, bi, ru, ol, ob, tk, fib, gra, res, buy, lst, bst, rea, bid, pri, itm, akf, akg, got, pai, riv, rf, ro, rs, lat, bat, val, cos, row, ahe, wan, giv, sc, wc, byr, reaC, rvl, pad, gt, X2, hM, hSB, hRel, hC3, List.Perm.refl _⟩ hW hl)) (fun q => absurd (hr.trans hr7.symm) q)
set_option maxRecDepth 100000 in
set_option maxHeartbeats 4000000 in
theorem k_openLots (hl9 : l.stackTraces = false) (X : Cx p s m args meth c cL_law 9 RL rt G A) (hX : va_X b L xs s s.heap) (hbl : b < s.heap.size) (hbA : ¬ A b) (hL : L ≤ 2048) (hi : i + 4 ≤ L) (hcl : cells + 30 ≤ 603072) (hsl : slots + 400 ≤ 7215210) (hLI : LI G z f h a o1 o2 w) (hW : Wd G A s w H locs) (hl : lv_has ls 9 (LV6 b (z 0) (a 0) o1 o2 i)) (kk : ∀ (w : va_W) (H : Heap) (locs : List Loc) (ls : Array Slot), LI G z f h a o1 o2 w → Wd G A s w H locs → lv_has ls 9 (LV6 b (z 0) (a 0) o1 o2 i) → W p l e room_1 s m args below meth c H locs (cells + 30) (slots + 400) Q (F0 m 2290 ls [])) : W p l e room_1 s m args below meth c H locs cells slots Q (F0 m 822 ls []) := by
  have hx := X.exec
  have hb := X.bytes
  obtain ⟨th, fl, fd, lo, bi, ru, ol, ob, tk, fib, gra, res, buy, lst, bst, rea, bid, pri, itm, akf, akg, got, pai, riv, rf, ro, rs, lat, bat, val, cos, row, ahe, wan, giv, sc, wc, byr, reaC, rvl, pad, gt, X1, hM, hSB, hRel, hC0, hp1⟩ := hLI
  have hC1 := cf_inn hC0 hp1
  have hCI := cia_of hM hRel.1
  obtain ⟨fs, hz0⟩ := cf_z hC1
  obtain ⟨q0, hq⟩ := List.mem_iff_getElem?.mp hz0
  obtain ⟨hlo, hbi, hru, hol, hob, hfib, hgra, hres, hbuy, hlst, hbst, hrea, hbid, hpri, hitm, hakf, hakg, hgot, hriv, hrf, hro, hrs, hpai, hcl9, hcb9⟩ := id hM
  obtain ⟨hlat, hbat, hcos, hrow, hahe, hwan, hgiv⟩ := id hSB
  obtain ⟨lc, bc, ql, ln, rv, rm, bn, bd, pr, ic, flx, qu, rc, gp, bs, bv, cf, wt, ho, hFI, hCR⟩ := id hC1
  refine lv_aload_n hx hb dL_law_822 rfl (lv_at hl 1 rfl) ?_
  refine go_i X hW (rest := []) (run_V X hW (As := []) (rest := []) 9 q0 hq (c_X6_openLots l G _ _ _ _ _ _ _ _ _ _ _ _ _ _ _ _ _ _ _ _ _ _ _ _ _ _ _ _ _ _ _ hCI hCR H.size) (gi_V wq_253 wq_254 wq_255 wq_61 wq_256) rfl hyX6_openLots rfl rfl rfl hl.1 (Nat.le_of_ble_eq_true rfl) ⟨Nat.le_of_ble_eq_true rfl, Nat.le_of_ble_eq_true rfl⟩ ⟨by show cells + 0 ≤ 603072; omega, by show slots + 0 ≤ 7215210; omega⟩ dL_law_823) (fun r6 w2 H locs hP hW => ?_)
  obtain ⟨hr, hC2⟩ := hP
  rw [hC2] at hW
  obtain ⟨X2, hC3, hp2⟩ := cf_out hC1
  have hW := hW.perm hp2
  refine lv_aload_n hx hb dL_law_826 rfl (lv_at hl 2 rfl) ?_
  refine go_i X hW (rest := [.int r6]) (run_V X hW (As := []) (rest := [.int r6]) 10 0 rfl (c_X7_openLots l G a _ _ _ _ _ _ _ _ _ _ _ _ _ _ _ _ _ _ _ _ _ _ _ _ _ _ _ _ _ _ _ _ _ _ hM H.size) (gi_V wq_1292 wq_1293 wq_1294 wq_67 wq_1295) rfl hyX7_openLots rfl rfl rfl hl.1 (Nat.le_of_ble_eq_true rfl) ⟨Nat.le_of_ble_eq_true rfl, Nat.le_of_ble_eq_true rfl⟩ ⟨by show cells + 0 + 0 ≤ 603072; omega, by show slots + 0 + 0 ≤ 7215210; omega⟩ dL_law_827) (fun r7 w7 H locs hp7 hW => ?_)
  obtain ⟨hr7, hw7⟩ := hp7
  rw [hw7] at hW
  exact lv_icmp_eq (tgt := 2290) hx hb dL_law_830 (by decide) (fun _ => W.widen (by show cells + 0 + 0 ≤ _; omega) (by show slots + 0 + 0 ≤ _; omega) (kk _ H locs ls ⟨th, fl, fd, lo, bi, ru, ol, ob, tk, fib, gra, res, buy, lst, bst, rea, bid, pri, itm, akf, akg, got, pai, riv, rf, ro, rs, lat, bat, val, cos, row, ahe, wan, giv, sc, wc, byr, reaC, rvl, pad, gt, X2, hM, hSB, hRel, hC3, List.Perm.refl _⟩ hW hl)) (fun q => absurd (hr.trans hr7.symm) q)
set_option maxRecDepth 100000 in
set_option maxHeartbeats 4000000 in
theorem k_openBids (hl9 : l.stackTraces = false) (X : Cx p s m args meth c cL_law 9 RL rt G A) (hX : va_X b L xs s s.heap) (hbl : b < s.heap.size) (hbA : ¬ A b) (hL : L ≤ 2048) (hi : i + 4 ≤ L) (hcl : cells + 30 ≤ 603072) (hsl : slots + 400 ≤ 7215210) (hLI : LI G z f h a o1 o2 w) (hW : Wd G A s w H locs) (hl : lv_has ls 9 (LV6 b (z 0) (a 0) o1 o2 i)) (kk : ∀ (w : va_W) (H : Heap) (locs : List Loc) (ls : Array Slot), LI G z f h a o1 o2 w → Wd G A s w H locs → lv_has ls 9 (LV6 b (z 0) (a 0) o1 o2 i) → W p l e room_1 s m args below meth c H locs (cells + 30) (slots + 400) Q (F0 m 2290 ls [])) : W p l e room_1 s m args below meth c H locs cells slots Q (F0 m 835 ls []) := by
  have hx := X.exec
  have hb := X.bytes
  obtain ⟨th, fl, fd, lo, bi, ru, ol, ob, tk, fib, gra, res, buy, lst, bst, rea, bid, pri, itm, akf, akg, got, pai, riv, rf, ro, rs, lat, bat, val, cos, row, ahe, wan, giv, sc, wc, byr, reaC, rvl, pad, gt, X1, hM, hSB, hRel, hC0, hp1⟩ := hLI
  have hC1 := cf_inn hC0 hp1
  have hCI := cia_of hM hRel.1
  obtain ⟨fs, hz0⟩ := cf_z hC1
  obtain ⟨q0, hq⟩ := List.mem_iff_getElem?.mp hz0
  obtain ⟨hlo, hbi, hru, hol, hob, hfib, hgra, hres, hbuy, hlst, hbst, hrea, hbid, hpri, hitm, hakf, hakg, hgot, hriv, hrf, hro, hrs, hpai, hcl9, hcb9⟩ := id hM
  obtain ⟨hlat, hbat, hcos, hrow, hahe, hwan, hgiv⟩ := id hSB
  obtain ⟨lc, bc, ql, ln, rv, rm, bn, bd, pr, ic, flx, qu, rc, gp, bs, bv, cf, wt, ho, hFI, hCR⟩ := id hC1
  refine lv_aload_n hx hb dL_law_835 rfl (lv_at hl 1 rfl) ?_
  refine go_i X hW (rest := []) (run_V X hW (As := []) (rest := []) 9 q0 hq (c_X6_openBids l G _ _ _ _ _ _ _ _ _ _ _ _ _ _ _ _ _ _ _ _ _ _ _ _ _ _ _ _ _ _ _ hCI hCR H.size) (gi_V wq_257 wq_258 wq_259 wq_61 wq_260) rfl hyX6_openBids rfl rfl rfl hl.1 (Nat.le_of_ble_eq_true rfl) ⟨Nat.le_of_ble_eq_true rfl, Nat.le_of_ble_eq_true rfl⟩ ⟨by show cells + 0 ≤ 603072; omega, by show slots + 0 ≤ 7215210; omega⟩ dL_law_836) (fun r6 w2 H locs hP hW => ?_)
  obtain ⟨hr, hC2⟩ := hP
  rw [hC2] at hW
  obtain ⟨X2, hC3, hp2⟩ := cf_out hC1
  have hW := hW.perm hp2
  refine lv_aload_n hx hb dL_law_839 rfl (lv_at hl 2 rfl) ?_
  refine go_i X hW (rest := [.int r6]) (run_V X hW (As := []) (rest := [.int r6]) 10 0 rfl (c_X7_openBids l G a _ _ _ _ _ _ _ _ _ _ _ _ _ _ _ _ _ _ _ _ _ _ _ _ _ _ _ _ _ _ _ _ _ _ hM H.size) (gi_V wq_1296 wq_1297 wq_1298 wq_67 wq_1299) rfl hyX7_openBids rfl rfl rfl hl.1 (Nat.le_of_ble_eq_true rfl) ⟨Nat.le_of_ble_eq_true rfl, Nat.le_of_ble_eq_true rfl⟩ ⟨by show cells + 0 + 0 ≤ 603072; omega, by show slots + 0 + 0 ≤ 7215210; omega⟩ dL_law_840) (fun r7 w7 H locs hp7 hW => ?_)
  obtain ⟨hr7, hw7⟩ := hp7
  rw [hw7] at hW
  exact lv_icmp_eq (tgt := 2290) hx hb dL_law_843 (by decide) (fun _ => W.widen (by show cells + 0 + 0 ≤ _; omega) (by show slots + 0 + 0 ≤ _; omega) (kk _ H locs ls ⟨th, fl, fd, lo, bi, ru, ol, ob, tk, fib, gra, res, buy, lst, bst, rea, bid, pri, itm, akf, akg, got, pai, riv, rf, ro, rs, lat, bat, val, cos, row, ahe, wan, giv, sc, wc, byr, reaC, rvl, pad, gt, X2, hM, hSB, hRel, hC3, List.Perm.refl _⟩ hW hl)) (fun q => absurd (hr.trans hr7.symm) q)
set_option maxRecDepth 100000 in
set_option maxHeartbeats 4000000 in
theorem k_takings (hl9 : l.stackTraces = false) (X : Cx p s m args meth c cL_law 9 RL rt G A) (hX : va_X b L xs s s.heap) (hbl : b < s.heap.size) (hbA : ¬ A b) (hL : L ≤ 2048) (hi : i + 4 ≤ L) (hcl : cells + 30 ≤ 603072) (hsl : slots + 400 ≤ 7215210) (hLI : LI G z f h a o1 o2 w) (hW : Wd G A s w H locs) (hl : lv_has ls 9 (LV6 b (z 0) (a 0) o1 o2 i)) (kk : ∀ (w : va_W) (H : Heap) (locs : List Loc) (ls : Array Slot), LI G z f h a o1 o2 w → Wd G A s w H locs → lv_has ls 9 (LV6 b (z 0) (a 0) o1 o2 i) → W p l e room_1 s m args below meth c H locs (cells + 30) (slots + 400) Q (F0 m 2290 ls [])) : W p l e room_1 s m args below meth c H locs cells slots Q (F0 m 2145 ls []) := by
  have hx := X.exec
  have hb := X.bytes
  obtain ⟨th, fl, fd, lo, bi, ru, ol, ob, tk, fib, gra, res, buy, lst, bst, rea, bid, pri, itm, akf, akg, got, pai, riv, rf, ro, rs, lat, bat, val, cos, row, ahe, wan, giv, sc, wc, byr, reaC, rvl, pad, gt, X1, hM, hSB, hRel, hC0, hp1⟩ := hLI
  have hC1 := cf_inn hC0 hp1
  have hCI := cia_of hM hRel.1
  obtain ⟨fs, hz0⟩ := cf_z hC1
  obtain ⟨q0, hq⟩ := List.mem_iff_getElem?.mp hz0
  obtain ⟨hlo, hbi, hru, hol, hob, hfib, hgra, hres, hbuy, hlst, hbst, hrea, hbid, hpri, hitm, hakf, hakg, hgot, hriv, hrf, hro, hrs, hpai, hcl9, hcb9⟩ := id hM
  obtain ⟨hlat, hbat, hcos, hrow, hahe, hwan, hgiv⟩ := id hSB
  obtain ⟨lc, bc, ql, ln, rv, rm, bn, bd, pr, ic, flx, qu, rc, gp, bs, bv, cf, wt, ho, hFI, hCR⟩ := id hC1
  refine lv_aload_n hx hb dL_law_2145 rfl (lv_at hl 1 rfl) ?_
  refine go_l X hW (rest := []) (run_V X hW (As := []) (rest := []) 9 q0 hq (c_X6_takings l G _ _ _ _ _ _ _ _ _ _ _ _ _ _ _ _ _ _ _ _ _ _ _ _ _ _ _ _ _ _ _ hCI hCR H.size) (gi_V wq_402 wq_403 wq_404 wq_61 wq_405) rfl hyX6_takings rfl rfl rfl hl.1 (Nat.le_of_ble_eq_true rfl) ⟨Nat.le_of_ble_eq_true rfl, Nat.le_of_ble_eq_true rfl⟩ ⟨by show cells + 0 ≤ 603072; omega, by show slots + 0 ≤ 7215210; omega⟩ dL_law_2146) (fun r6 w2 H locs hP hW => ?_)
  obtain ⟨hr, hC2⟩ := hP
  rw [hC2] at hW
  obtain ⟨X2, hC3, hp2⟩ := cf_out hC1
  have hW := hW.perm hp2
  refine lv_aload_n hx hb dL_law_2149 rfl (lv_at hl 2 rfl) ?_
  refine go_l X hW (rest := [.long r6]) (run_V X hW (As := []) (rest := [.long r6]) 10 0 rfl (c_X7_takings l G a _ _ _ _ _ _ _ _ _ _ _ _ _ _ _ _ _ _ _ _ _ _ _ _ _ _ _ _ _ _ _ _ _ _ hM H.size) (gi_V wq_1406 wq_1407 wq_1408 wq_67 wq_1409) rfl hyX7_takings rfl rfl rfl hl.1 (Nat.le_of_ble_eq_true rfl) ⟨Nat.le_of_ble_eq_true rfl, Nat.le_of_ble_eq_true rfl⟩ ⟨by show cells + 0 + 0 ≤ 603072; omega, by show slots + 0 + 0 ≤ 7215210; omega⟩ dL_law_2150) (fun r7 w7 H locs hp7 hW => ?_)
  obtain ⟨hr7, hw7⟩ := hp7
  rw [hw7] at hW
  refine lv_lcmpE hx hb (hr.trans hr7.symm) dL_law_2153 ?_
  exact lv_if_eq (tgt := 2290) hx hb dL_law_2154 (by decide) (fun _ => W.widen (by show cells + 0 + 0 ≤ _; omega) (by show slots + 0 + 0 ≤ _; omega) (kk _ H locs ls ⟨th, fl, fd, lo, bi, ru, ol, ob, tk, fib, gra, res, buy, lst, bst, rea, bid, pri, itm, akf, akg, got, pai, riv, rf, ro, rs, lat, bat, val, cos, row, ahe, wan, giv, sc, wc, byr, reaC, rvl, pad, gt, X2, hM, hSB, hRel, hC3, List.Perm.refl _⟩ hW hl)) (fun q => absurd rfl q)
set_option maxRecDepth 100000 in
set_option maxHeartbeats 4000000 in
theorem k_surplus (hl9 : l.stackTraces = false) (X : Cx p s m args meth c cL_law 9 RL rt G A) (hX : va_X b L xs s s.heap) (hbl : b < s.heap.size) (hbA : ¬ A b) (hL : L ≤ 2048) (hi : i + 4 ≤ L) (hcl : cells + 30 ≤ 603072) (hsl : slots + 400 ≤ 7215210) (hLI : LI G z f h a o1 o2 w) (hW : Wd G A s w H locs) (hl : lv_has ls 9 (LV6 b (z 0) (a 0) o1 o2 i)) (kk : ∀ (w : va_W) (H : Heap) (locs : List Loc) (ls : Array Slot), LI G z f h a o1 o2 w → Wd G A s w H locs → lv_has ls 9 (LV6 b (z 0) (a 0) o1 o2 i) → W p l e room_1 s m args below meth c H locs (cells + 30) (slots + 400) Q (F0 m 2290 ls [])) : W p l e room_1 s m args below meth c H locs cells slots Q (F0 m 1813 ls []) := by
  have hx := X.exec
  have hb := X.bytes
  obtain ⟨th, fl, fd, lo, bi, ru, ol, ob, tk, fib, gra, res, buy, lst, bst, rea, bid, pri, itm, akf, akg, got, pai, riv, rf, ro, rs, lat, bat, val, cos, row, ahe, wan, giv, sc, wc, byr, reaC, rvl, pad, gt, X1, hM, hSB, hRel, hC0, hp1⟩ := hLI
  have hC1 := cf_inn hC0 hp1
  have hCI := cia_of hM hRel.1
  obtain ⟨fs, hz0⟩ := cf_z hC1
  obtain ⟨q0, hq⟩ := List.mem_iff_getElem?.mp hz0
  obtain ⟨hlo, hbi, hru, hol, hob, hfib, hgra, hres, hbuy, hlst, hbst, hrea, hbid, hpri, hitm, hakf, hakg, hgot, hriv, hrf, hro, hrs, hpai, hcl9, hcb9⟩ := id hM
  obtain ⟨hlat, hbat, hcos, hrow, hahe, hwan, hgiv⟩ := id hSB
  refine lv_aload_n hx hb dL_law_1813 rfl (lv_at hl 1 rfl) ?_
  refine go_i X hW (rest := []) (run_V X hW (As := []) (rest := []) 9 q0 hq (c_X6_surplus l G _ _ _ _ _ _ _ _ _ _ _ _ _ _ _ _ _ _ _ _ _ _ _ _ _ _ _ _ _ _ _ hCI hC1 H.size) (gi_V wq_261 wq_262 wq_263 wq_61 wq_264) rfl hyX6_surplus rfl rfl rfl hl.1 (Nat.le_of_ble_eq_true rfl) ⟨Nat.le_of_ble_eq_true rfl, Nat.le_of_ble_eq_true rfl⟩ ⟨by show cells + 0 ≤ 603072; omega, by show slots + 0 ≤ 7215210; omega⟩ dL_law_1814) (fun r6 w2 H locs hP hW => ?_)
  obtain ⟨⟨bb, hB, hr⟩, hC2⟩ := hP
  obtain ⟨X2, hC3, hp2⟩ := cf_out hC2
  have hW := hW.perm hp2
  refine lv_aload_n hx hb dL_law_1817 rfl (lv_at hl 2 rfl) ?_
  refine go_i X hW (rest := [.int r6]) (run_V X hW (As := []) (rest := [.int r6]) 10 0 rfl (c_X7_surplus l G a _ _ _ _ _ _ _ _ _ _ _ _ _ _ _ _ _ _ _ _ _ _ _ _ _ _ _ _ _ _ _ _ _ _ hM hlat hbat hcos hrow hahe hwan hgiv H.size) (gi_V wq_1372 wq_1373 wq_1374 wq_67 wq_1375) rfl hyX7_surplus rfl rfl rfl hl.1 (Nat.le_of_ble_eq_true rfl) ⟨Nat.le_of_ble_eq_true rfl, Nat.le_of_ble_eq_true rfl⟩ ⟨by show cells + 0 + 0 ≤ 603072; omega, by show slots + 0 + 0 ≤ 7215210; omega⟩ dL_law_1818) (fun r7 w7 H locs hp7 hW => ?_)
  obtain ⟨la, ba, v2, g2, r2, hA, hg2, hr2, hr7, hw7⟩ := hp7
  rw [hw7] at hW
  exact lv_icmp_eq (tgt := 2290) hx hb dL_law_1821 (by decide) (fun _ => W.widen (by show cells + 0 + 0 ≤ _; omega) (by show slots + 0 + 0 ≤ _; omega) (kk _ H locs ls ⟨th, fl, fd, lo, bi, ru, ol, ob, tk, fib, gra, res, buy, lst, bst, rea, bid, pri, itm, akf, akg, got, pai, riv, rf, ro, rs, la, ba, v2, g2, r2, ahe, wan, giv, sc, wc, byr, reaC, rvl, pad, gt, X2, hM, (sb_all hA hg2 hr2 hSB), hRel, hC3, List.Perm.refl _⟩ hW hl)) (fun q => absurd (by rw [hr, hr7, j_sur hitm hob hA hB]) q)
set_option maxRecDepth 100000 in
set_option maxHeartbeats 4000000 in
theorem k_surplusBySets (hl9 : l.stackTraces = false) (X : Cx p s m args meth c cL_law 9 RL rt G A) (hX : va_X b L xs s s.heap) (hbl : b < s.heap.size) (hbA : ¬ A b) (hL : L ≤ 2048) (hi : i + 4 ≤ L) (hcl : cells + 30 ≤ 603072) (hsl : slots + 400 ≤ 7215210) (hLI : LI G z f h a o1 o2 w) (hW : Wd G A s w H locs) (hl : lv_has ls 9 (LV6 b (z 0) (a 0) o1 o2 i)) (kk : ∀ (w : va_W) (H : Heap) (locs : List Loc) (ls : Array Slot), LI G z f h a o1 o2 w → Wd G A s w H locs → lv_has ls 9 (LV6 b (z 0) (a 0) o1 o2 i) → W p l e room_1 s m args below meth c H locs (cells + 30) (slots + 400) Q (F0 m 2290 ls [])) : W p l e room_1 s m args below meth c H locs cells slots Q (F0 m 1826 ls []) := by
  have hx := X.exec
  have hb := X.bytes
  obtain ⟨th, fl, fd, lo, bi, ru, ol, ob, tk, fib, gra, res, buy, lst, bst, rea, bid, pri, itm, akf, akg, got, pai, riv, rf, ro, rs, lat, bat, val, cos, row, ahe, wan, giv, sc, wc, byr, reaC, rvl, pad, gt, X1, hM, hSB, hRel, hC0, hp1⟩ := hLI
  have hC1 := cf_inn hC0 hp1
  have hCI := cia_of hM hRel.1
  obtain ⟨fs, hz0⟩ := cf_z hC1
  obtain ⟨q0, hq⟩ := List.mem_iff_getElem?.mp hz0
  obtain ⟨hlo, hbi, hru, hol, hob, hfib, hgra, hres, hbuy, hlst, hbst, hrea, hbid, hpri, hitm, hakf, hakg, hgot, hriv, hrf, hro, hrs, hpai, hcl9, hcb9⟩ := id hM
  obtain ⟨hlat, hbat, hcos, hrow, hahe, hwan, hgiv⟩ := id hSB
  refine lv_aload_n hx hb dL_law_1826 rfl (lv_at hl 1 rfl) ?_
  refine go_i X hW (rest := []) (run_V X hW (As := []) (rest := []) 9 q0 hq (c_X6_surplusBySets l G _ _ _ _ _ _ _ _ _ _ _ _ _ _ _ _ _ _ _ _ _ _ _ _ _ _ _ _ _ _ _ hCI hC1 H.size) (gi_V wq_383 wq_384 wq_385 wq_61 wq_386) rfl hyX6_surplusBySets rfl rfl rfl hl.1 (Nat.le_of_ble_eq_true rfl) ⟨Nat.le_of_ble_eq_true rfl, Nat.le_of_ble_eq_true rfl⟩ ⟨by show cells + 0 ≤ 603072; omega, by show slots + 0 ≤ 7215210; omega⟩ dL_law_1827) (fun r6 w2 H locs hP hW => ?_)
  obtain ⟨⟨bb, hB, hr⟩, hC2⟩ := hP
  obtain ⟨X2, hC3, hp2⟩ := cf_out hC2
  have hW := hW.perm hp2
  refine lv_aload_n hx hb dL_law_1830 rfl (lv_at hl 2 rfl) ?_
  refine go_i X hW (rest := [.int r6]) (run_V X hW (As := []) (rest := [.int r6]) 10 0 rfl (c_X7_surplusBySets l G a _ _ _ _ _ _ _ _ _ _ _ _ _ _ _ _ _ _ _ _ _ _ _ _ _ _ _ _ _ _ _ _ _ _ hM hlat hbat hcos hrow hahe hwan hgiv H.size) (gi_V wq_1376 wq_1377 wq_1378 wq_67 wq_1379) rfl hyX7_surplusBySets rfl rfl rfl hl.1 (Nat.le_of_ble_eq_true rfl) ⟨Nat.le_of_ble_eq_true rfl, Nat.le_of_ble_eq_true rfl⟩ ⟨by show cells + 0 + 0 ≤ 603072; omega, by show slots + 0 + 0 ≤ 7215210; omega⟩ dL_law_1831) (fun r7 w7 H locs hp7 hW => ?_)
  obtain ⟨la, ba, v2, g2, r2, hA, hg2, hr2, hr7, hw7⟩ := hp7
  rw [hw7] at hW
  exact lv_icmp_eq (tgt := 2290) hx hb dL_law_1834 (by decide) (fun _ => W.widen (by show cells + 0 + 0 ≤ _; omega) (by show slots + 0 + 0 ≤ _; omega) (kk _ H locs ls ⟨th, fl, fd, lo, bi, ru, ol, ob, tk, fib, gra, res, buy, lst, bst, rea, bid, pri, itm, akf, akg, got, pai, riv, rf, ro, rs, la, ba, v2, g2, r2, ahe, wan, giv, sc, wc, byr, reaC, rvl, pad, gt, X2, hM, (sb_all hA hg2 hr2 hSB), hRel, hC3, List.Perm.refl _⟩ hW hl)) (fun q => absurd (by rw [hr, hr7, j_sur hitm hob hA hB]) q)
set_option maxRecDepth 100000 in
set_option maxHeartbeats 4000000 in
theorem k_surplusWithout (hl9 : l.stackTraces = false) (X : Cx p s m args meth c cL_law 9 RL rt G A) (hX : va_X b L xs s s.heap) (hbl : b < s.heap.size) (hbA : ¬ A b) (hL : L ≤ 2048) (hi : i + 4 ≤ L) (hcl : cells + 30 ≤ 603072) (hsl : slots + 400 ≤ 7215210) (hLI : LI G z f h a o1 o2 w) (hW : Wd G A s w H locs) (hl : lv_has ls 9 (LV6 b (z 0) (a 0) o1 o2 i)) (kk : ∀ (w : va_W) (H : Heap) (locs : List Loc) (ls : Array Slot), LI G z f h a o1 o2 w → Wd G A s w H locs → lv_has ls 9 (LV6 b (z 0) (a 0) o1 o2 i) → W p l e room_1 s m args below meth c H locs (cells + 30) (slots + 400) Q (F0 m 2290 ls [])) : W p l e room_1 s m args below meth c H locs cells slots Q (F0 m 1839 ls []) := by
  have hx := X.exec
  have hb := X.bytes
  obtain ⟨th, fl, fd, lo, bi, ru, ol, ob, tk, fib, gra, res, buy, lst, bst, rea, bid, pri, itm, akf, akg, got, pai, riv, rf, ro, rs, lat, bat, val, cos, row, ahe, wan, giv, sc, wc, byr, reaC, rvl, pad, gt, X1, hM, hSB, hRel, hC0, hp1⟩ := hLI
  have hC1 := cf_inn hC0 hp1
  have hm1 : outL G o1 fl ∈ w := cf_mem hC1 (List.mem_append_right _ List.mem_cons_self)
  have hCI := cia_of hM hRel.1
  obtain ⟨fs, hz0⟩ := cf_z hC1
  obtain ⟨hlo, hbi, hru, hol, hob, hfib, hgra, hres, hbuy, hlst, hbst, hrea, hbid, hpri, hitm, hakf, hakg, hgot, hriv, hrf, hro, hrs, hpai, hcl9, hcb9⟩ := id hM
  obtain ⟨hlat, hbat, hcos, hrow, hahe, hwan, hgiv⟩ := id hSB
  obtain ⟨hrC, hrB, hrR, hrV, hrP, hsc, hwc⟩ := id hRel
  obtain ⟨v1, hv1, hv1e⟩ := z_ex (xs (i + 1))
  refine lv_aload_n hx hb dL_law_1839 rfl (lv_at hl 1 rfl) ?_
  refine law_arg X hX hbl hbA hW (lv_at hl 0 rfl) (lv_at hl 5 rfl) 1 (by decide) hi hL (v := zI v1) hv1e (by decide) dL_law_1840 dL_law_1841 dL_law_1843 dL_law_1844 dL_law_1845 ?_
  refine lv_aload_n hx hb dL_law_1846 rfl (lv_at hl 3 rfl) ?_
  refine go_i X hW (rest := []) (run_SW X hW (As := [.ref (z 0), .int (zI v1), .ref o1]) (rest := []) (h_surplusWithout l G w (z 0) o1 fs fl _ (c_X6_surplusWithout l hl9 G _ _ _ _ _ _ _ _ _ _ _ _ _ _ _ _ _ _ _ _ _ _ _ _ _ _ _ _ _ _ _ _ hCI hC1 hv1) hz0 (fun r w2 q => cf_mem q.2 (List.mem_append_right _ List.mem_cons_self)) (fun E w2 q => q.1) H.size) wq_1000 wq_1001 wq_1002 rfl hyL_surplusWithout rfl rfl hl.1 (Nat.le_of_ble_eq_true rfl) ⟨Nat.le_of_ble_eq_true rfl, Nat.le_of_ble_eq_true rfl⟩ ⟨by show cells + 6 ≤ 603072; omega, by show slots + 36 ≤ 7215210; omega⟩ dL_law_1847) (fun r6 w2 H locs hP hW => ?_)
  have hz1 := hz0
  rcases hP with ⟨h6, v0, w3, hpp, hF⟩ | ⟨h6, hxx⟩
  · obtain ⟨⟨hc, bb, hB, hr⟩, hC2⟩ := hpp
    obtain ⟨X2, hC3, hp2⟩ := cf_out (cf_upd hC2 hF)
    have hW := hW.perm hp2
    refine lv_istore (lv' := (6, .int r6) :: LV6 b (z 0) (a 0) o1 o2 i) hx hb dL_law_1850 hl (by decide) rfl (fun ls hl => ?_)
    refine lv_aload_n hx hb dL_law_1852 rfl (lv_at hl 3 rfl) ?_
    refine law_arg X hX hbl hbA hW (lv_at hl 1 rfl) (lv_at hl 6 rfl) 1 (by decide) hi hL (v := zI v1) hv1e (by decide) dL_law_1853 dL_law_1854 dL_law_1856 dL_law_1857 dL_law_1858 ?_
    refine go_i X hW (rest := []) (run_V X hW (As := [.int (zI v1)]) (rest := []) 10 0 rfl (c_X7_surplusWithout l G a _ _ _ _ _ _ _ _ _ _ _ _ _ _ _ _ _ _ _ _ _ _ _ _ _ _ _ _ _ _ _ _ _ _ _ hM hlat hbat hcos hrow hahe hwan hgiv hv1 H.size) (gi_V wq_1381 wq_1382 wq_1383 wq_67 wq_1384) rfl hyX7_surplusWithout rfl rfl rfl hl.1 (Nat.le_of_ble_eq_true rfl) ⟨Nat.le_of_ble_eq_true rfl, Nat.le_of_ble_eq_true rfl⟩ ⟨by show cells + 6 + 0 ≤ 603072; omega, by show slots + 36 + 0 ≤ 7215210; omega⟩ dL_law_1859) (fun r7 w7 H locs hp7 hW => ?_)
    refine lv_istore (lv' := (7, .int r7) :: (6, .int r6) :: LV6 b (z 0) (a 0) o1 o2 i) hx hb dL_law_1862 hl (by decide) rfl (fun ls hl => ?_)
    rcases hp7 with ⟨hd, hr7, hw7⟩ | ⟨hd, la, ba, v2, g2, r2, hA, hg2, hr2, hr7, hw7⟩
    · exfalso; clear hM hSB hRel hCI hC1; omega
    · rw [hw7] at hW
      exact law_tailI X (k := 0) ⟨lo, bi, ru, ol, ob, tk, fib, gra, res, buy, lst, bst, rea, bid, pri, itm, akf, akg, got, pai, riv, rf, ro, rs, la, ba, v2, g2, r2, ahe, wan, giv, sc, wc, byr, reaC, rvl, pad, gt, X2, hM, (sb_all hA hg2 hr2 hSB), hRel, hC3, List.Perm.refl _⟩ hW hl h6 (fun _ => (if_pos rfl).trans (congrArg Int32.toInt64 (by rw [hr, hr7, Int.toNat_of_nonneg hc.1, j_sur hitm hob hA hB]))) ⟨by show cells + 6 + 0 + 0 ≤ 603072; omega, by show slots + 36 + 0 + 0 ≤ 7215210; omega⟩ 1864 dL_law_1864 dL_law_1865 dL_law_1868 dL_law_1870 dL_law_1875 dL_law_1877 dL_law_1880 dL_law_1881 dL_law_1882 dL_law_1883 dL_law_1885 dL_law_1886 dL_law_1887 dL_law_1892 rfl (fun w H1 locs1 q1 q2 q3 => W.widen (by show cells + 6 + 0 ≤ _; omega) (by show slots + 36 + 0 ≤ _; omega) (kk w H1 locs1 ls q1 q2 q3))
  · obtain ⟨hE, hc, hC2⟩ := hxx
    obtain ⟨X2, hC3, hp2⟩ := cf_out hC2
    have hW := hW.perm hp2
    refine lv_istore (lv' := (6, .int r6) :: LV6 b (z 0) (a 0) o1 o2 i) hx hb dL_law_1850 hl (by decide) rfl (fun ls hl => ?_)
    refine lv_aload_n hx hb dL_law_1852 rfl (lv_at hl 3 rfl) ?_
    refine law_arg X hX hbl hbA hW (lv_at hl 1 rfl) (lv_at hl 6 rfl) 1 (by decide) hi hL (v := zI v1) hv1e (by decide) dL_law_1853 dL_law_1854 dL_law_1856 dL_law_1857 dL_law_1858 ?_
    refine go_i X hW (rest := []) (run_V X hW (As := [.int (zI v1)]) (rest := []) 10 0 rfl (c_X7_surplusWithout l G a _ _ _ _ _ _ _ _ _ _ _ _ _ _ _ _ _ _ _ _ _ _ _ _ _ _ _ _ _ _ _ _ _ _ _ hM hlat hbat hcos hrow hahe hwan hgiv hv1 H.size) (gi_V wq_1381 wq_1382 wq_1383 wq_67 wq_1384) rfl hyX7_surplusWithout rfl rfl rfl hl.1 (Nat.le_of_ble_eq_true rfl) ⟨Nat.le_of_ble_eq_true rfl, Nat.le_of_ble_eq_true rfl⟩ ⟨by show cells + 6 + 0 ≤ 603072; omega, by show slots + 36 + 0 ≤ 7215210; omega⟩ dL_law_1859) (fun r7 w7 H locs hp7 hW => ?_)
    refine lv_istore (lv' := (7, .int r7) :: (6, .int r6) :: LV6 b (z 0) (a 0) o1 o2 i) hx hb dL_law_1862 hl (by decide) rfl (fun ls hl => ?_)
    rcases hp7 with ⟨hd, hr7, hw7⟩ | ⟨hd, la, ba, v2, g2, r2, hA, hg2, hr2, hr7, hw7⟩
    · rw [hw7] at hW
      exact law_tailI X (k := 1) ⟨lo, bi, ru, ol, ob, tk, fib, gra, res, buy, lst, bst, rea, bid, pri, itm, akf, akg, got, pai, riv, rf, ro, rs, lat, bat, val, cos, row, ahe, wan, giv, sc, wc, byr, reaC, rvl, pad, gt, X2, hM, hSB, hRel, hC3, List.Perm.refl _⟩ hW hl h6 (fun q => absurd (h6.symm.trans q) (by decide)) ⟨by show cells + 6 + 0 + 0 ≤ 603072; omega, by show slots + 36 + 0 + 0 ≤ 7215210; omega⟩ 1864 dL_law_1864 dL_law_1865 dL_law_1868 dL_law_1870 dL_law_1875 dL_law_1877 dL_law_1880 dL_law_1881 dL_law_1882 dL_law_1883 dL_law_1885 dL_law_1886 dL_law_1887 dL_law_1892 rfl (fun w H1 locs1 q1 q2 q3 => W.widen (by show cells + 6 + 0 ≤ _; omega) (by show slots + 36 + 0 ≤ _; omega) (kk w H1 locs1 ls q1 q2 q3))
    · exfalso; clear hM hSB hRel hCI hC1; omega
set_option maxRecDepth 100000 in
set_option maxHeartbeats 4000000 in
theorem k_wouldWin (hl9 : l.stackTraces = false) (X : Cx p s m args meth c cL_law 9 RL rt G A) (hX : va_X b L xs s s.heap) (hbl : b < s.heap.size) (hbA : ¬ A b) (hL : L ≤ 2048) (hi : i + 4 ≤ L) (hcl : cells + 30 ≤ 603072) (hsl : slots + 400 ≤ 7215210) (hLI : LI G z f h a o1 o2 w) (hW : Wd G A s w H locs) (hl : lv_has ls 9 (LV6 b (z 0) (a 0) o1 o2 i)) (kk : ∀ (w : va_W) (H : Heap) (locs : List Loc) (ls : Array Slot), LI G z f h a o1 o2 w → Wd G A s w H locs → lv_has ls 9 (LV6 b (z 0) (a 0) o1 o2 i) → W p l e room_1 s m args below meth c H locs (cells + 30) (slots + 400) Q (F0 m 2290 ls [])) : W p l e room_1 s m args below meth c H locs cells slots Q (F0 m 1895 ls []) := by
  have hx := X.exec
  have hb := X.bytes
  obtain ⟨th, fl, fd, lo, bi, ru, ol, ob, tk, fib, gra, res, buy, lst, bst, rea, bid, pri, itm, akf, akg, got, pai, riv, rf, ro, rs, lat, bat, val, cos, row, ahe, wan, giv, sc, wc, byr, reaC, rvl, pad, gt, X1, hM, hSB, hRel, hC0, hp1⟩ := hLI
  have hC1 := cf_inn hC0 hp1
  have hm1 : outL G o1 fl ∈ w := cf_mem hC1 (List.mem_append_right _ List.mem_cons_self)
  have hCI := cia_of hM hRel.1
  obtain ⟨fs, hz0⟩ := cf_z hC1
  obtain ⟨hlo, hbi, hru, hol, hob, hfib, hgra, hres, hbuy, hlst, hbst, hrea, hbid, hpri, hitm, hakf, hakg, hgot, hriv, hrf, hro, hrs, hpai, hcl9, hcb9⟩ := id hM
  obtain ⟨hlat, hbat, hcos, hrow, hahe, hwan, hgiv⟩ := id hSB
  obtain ⟨hrC, hrB, hrR, hrV, hrP, hsc, hwc⟩ := id hRel
  obtain ⟨v1, hv1, hv1e⟩ := z_ex (xs (i + 1))
  refine lv_aload_n hx hb dL_law_1895 rfl (lv_at hl 1 rfl) ?_
  refine law_arg X hX hbl hbA hW (lv_at hl 0 rfl) (lv_at hl 5 rfl) 1 (by decide) hi hL (v := zI v1) hv1e (by decide) dL_law_1896 dL_law_1897 dL_law_1899 dL_law_1900 dL_law_1901 ?_
  refine lv_aload_n hx hb dL_law_1902 rfl (lv_at hl 3 rfl) ?_
  refine go_i X hW (rest := []) (run_SW X hW (As := [.ref (z 0), .int (zI v1), .ref o1]) (rest := []) (h_wouldWin l G w (z 0) o1 fs fl _ (c_X6_wouldWin l hl9 G _ _ _ _ _ _ _ _ _ _ _ _ _ _ _ _ _ _ _ _ _ _ _ _ _ _ _ _ _ _ _ _ hCI hC1 hv1) hz0 (fun r w2 q => cf_mem q.2 (List.mem_append_right _ List.mem_cons_self)) (fun E w2 q => by rcases q with ⟨q, -⟩ | ⟨q, -⟩ <;> simp [q]) H.size) wq_1008 wq_1009 wq_1010 rfl hyL_wouldWin rfl rfl hl.1 (Nat.le_of_ble_eq_true rfl) ⟨Nat.le_of_ble_eq_true rfl, Nat.le_of_ble_eq_true rfl⟩ ⟨by show cells + 6 ≤ 603072; omega, by show slots + 36 ≤ 7215210; omega⟩ dL_law_1903) (fun r6 w2 H locs hP hW => ?_)
  have hz1 := hz0
  rcases hP with ⟨h6, v0, w3, hpp, hF⟩ | ⟨h6, hxx⟩ | ⟨h6, hxx⟩
  · obtain ⟨⟨hc, bb, k9, hB, hk9, hBA, hr⟩, hC2⟩ := hpp
    obtain ⟨X2, hC3, hp2⟩ := cf_out (cf_upd hC2 hF)
    have hW := hW.perm hp2
    refine lv_istore (lv' := (6, .int r6) :: LV6 b (z 0) (a 0) o1 o2 i) hx hb dL_law_1906 hl (by decide) rfl (fun ls hl => ?_)
    refine lv_aload_n hx hb dL_law_1908 rfl (lv_at hl 3 rfl) ?_
    refine law_arg X hX hbl hbA hW (lv_at hl 1 rfl) (lv_at hl 6 rfl) 1 (by decide) hi hL (v := zI v1) hv1e (by decide) dL_law_1909 dL_law_1910 dL_law_1912 dL_law_1913 dL_law_1914 ?_
    refine go_i X hW (rest := []) (run_V X hW (As := [.int (zI v1)]) (rest := []) 10 0 rfl (c_X7_wouldWin l G a _ _ _ _ _ _ _ _ _ _ _ _ _ _ _ _ _ _ _ _ _ _ _ _ _ _ _ _ _ _ _ _ _ _ _ hM hlat hbat hcos hrow hahe hwan hgiv hv1 H.size) (gi_V wq_1385 wq_1386 wq_1387 wq_67 wq_1388) rfl hyX7_wouldWin rfl rfl rfl hl.1 (Nat.le_of_ble_eq_true rfl) ⟨Nat.le_of_ble_eq_true rfl, Nat.le_of_ble_eq_true rfl⟩ ⟨by show cells + 6 + 0 ≤ 603072; omega, by show slots + 36 + 0 ≤ 7215210; omega⟩ dL_law_1915) (fun r7 w7 H locs hp7 hW => ?_)
    refine lv_istore (lv' := (7, .int r7) :: (6, .int r6) :: LV6 b (z 0) (a 0) o1 o2 i) hx hb dL_law_1918 hl (by decide) rfl (fun ls hl => ?_)
    rcases hp7 with ⟨hd, hr7, hw7⟩ | ⟨hd, hr7, hw7⟩ | ⟨hd, la, ba, v2, g2, r2, hA, hg2, hr2, hr7, hw7⟩
    · exfalso; clear hM hSB hRel hCI hC1; omega
    · exfalso; clear hM hSB hRel hCI hC1; omega
    · rw [hw7] at hW
      exact law_tailB X (k := 0) ⟨lo, bi, ru, ol, ob, tk, fib, gra, res, buy, lst, bst, rea, bid, pri, itm, akf, akg, got, pai, riv, rf, ro, rs, la, ba, v2, g2, r2, ahe, wan, giv, sc, wc, byr, reaC, rvl, pad, gt, X2, hM, (sb_all hA hg2 hr2 hSB), hRel, hC3, List.Perm.refl _⟩ hW hl h6 (fun _ => (if_pos rfl).trans (congrArg (fun q : Int32 => if q = 0 then (0 : Int64) else 1) (by rw [hr, hr7, j_pl hcb9 hA hk9 hBA, j_best hitm hob hA hB]; simp only [hk9, true_and]))) ⟨by show cells + 6 + 0 + 0 ≤ 603072; omega, by show slots + 36 + 0 + 0 ≤ 7215210; omega⟩ 1920 dL_law_1920 dL_law_1921 dL_law_1924 dL_law_1926 dL_law_1931 dL_law_1933 dL_law_1936 dL_law_1937 dL_law_1938 dL_law_1939 dL_law_1941 dL_law_1944 dL_law_1945 dL_law_1948 dL_law_1949 dL_law_1950 dL_law_1955 rfl (fun w H1 locs1 q1 q2 q3 => W.widen (by show cells + 6 + 0 ≤ _; omega) (by show slots + 36 + 0 ≤ _; omega) (kk w H1 locs1 ls q1 q2 q3))
  · obtain ⟨hc, hC2⟩ : _ ∧ _ := by
      rcases hxx with ⟨hE, hc, hC2⟩ | ⟨hE, hc, hC2⟩
      · exact ⟨hc, hC2⟩
      · exact absurd hE (by decide)
    obtain ⟨X2, hC3, hp2⟩ := cf_out hC2
    have hW := hW.perm hp2
    refine lv_istore (lv' := (6, .int r6) :: LV6 b (z 0) (a 0) o1 o2 i) hx hb dL_law_1906 hl (by decide) rfl (fun ls hl => ?_)
    refine lv_aload_n hx hb dL_law_1908 rfl (lv_at hl 3 rfl) ?_
    refine law_arg X hX hbl hbA hW (lv_at hl 1 rfl) (lv_at hl 6 rfl) 1 (by decide) hi hL (v := zI v1) hv1e (by decide) dL_law_1909 dL_law_1910 dL_law_1912 dL_law_1913 dL_law_1914 ?_
    refine go_i X hW (rest := []) (run_V X hW (As := [.int (zI v1)]) (rest := []) 10 0 rfl (c_X7_wouldWin l G a _ _ _ _ _ _ _ _ _ _ _ _ _ _ _ _ _ _ _ _ _ _ _ _ _ _ _ _ _ _ _ _ _ _ _ hM hlat hbat hcos hrow hahe hwan hgiv hv1 H.size) (gi_V wq_1385 wq_1386 wq_1387 wq_67 wq_1388) rfl hyX7_wouldWin rfl rfl rfl hl.1 (Nat.le_of_ble_eq_true rfl) ⟨Nat.le_of_ble_eq_true rfl, Nat.le_of_ble_eq_true rfl⟩ ⟨by show cells + 6 + 0 ≤ 603072; omega, by show slots + 36 + 0 ≤ 7215210; omega⟩ dL_law_1915) (fun r7 w7 H locs hp7 hW => ?_)
    refine lv_istore (lv' := (7, .int r7) :: (6, .int r6) :: LV6 b (z 0) (a 0) o1 o2 i) hx hb dL_law_1918 hl (by decide) rfl (fun ls hl => ?_)
    rcases hp7 with ⟨hd, hr7, hw7⟩ | ⟨hd, hr7, hw7⟩ | ⟨hd, la, ba, v2, g2, r2, hA, hg2, hr2, hr7, hw7⟩
    · rw [hw7] at hW
      exact law_tailB X (k := 1) ⟨lo, bi, ru, ol, ob, tk, fib, gra, res, buy, lst, bst, rea, bid, pri, itm, akf, akg, got, pai, riv, rf, ro, rs, lat, bat, val, cos, row, ahe, wan, giv, sc, wc, byr, reaC, rvl, pad, gt, X2, hM, hSB, hRel, hC3, List.Perm.refl _⟩ hW hl h6 (fun q => absurd (h6.symm.trans q) (by decide)) ⟨by show cells + 6 + 0 + 0 ≤ 603072; omega, by show slots + 36 + 0 + 0 ≤ 7215210; omega⟩ 1920 dL_law_1920 dL_law_1921 dL_law_1924 dL_law_1926 dL_law_1931 dL_law_1933 dL_law_1936 dL_law_1937 dL_law_1938 dL_law_1939 dL_law_1941 dL_law_1944 dL_law_1945 dL_law_1948 dL_law_1949 dL_law_1950 dL_law_1955 rfl (fun w H1 locs1 q1 q2 q3 => W.widen (by show cells + 6 + 0 ≤ _; omega) (by show slots + 36 + 0 ≤ _; omega) (kk w H1 locs1 ls q1 q2 q3))
    · exfalso; clear hM hSB hRel hCI hC1; omega
    · exfalso; clear hM hSB hRel hCI hC1; omega
  · obtain ⟨hc, hC2⟩ : _ ∧ _ := by
      rcases hxx with ⟨hE, hc, hC2⟩ | ⟨hE, hc, hC2⟩
      · exact absurd hE (by decide)
      · exact ⟨hc, hC2⟩
    obtain ⟨X2, hC3, hp2⟩ := cf_out hC2
    have hW := hW.perm hp2
    refine lv_istore (lv' := (6, .int r6) :: LV6 b (z 0) (a 0) o1 o2 i) hx hb dL_law_1906 hl (by decide) rfl (fun ls hl => ?_)
    refine lv_aload_n hx hb dL_law_1908 rfl (lv_at hl 3 rfl) ?_
    refine law_arg X hX hbl hbA hW (lv_at hl 1 rfl) (lv_at hl 6 rfl) 1 (by decide) hi hL (v := zI v1) hv1e (by decide) dL_law_1909 dL_law_1910 dL_law_1912 dL_law_1913 dL_law_1914 ?_
    refine go_i X hW (rest := []) (run_V X hW (As := [.int (zI v1)]) (rest := []) 10 0 rfl (c_X7_wouldWin l G a _ _ _ _ _ _ _ _ _ _ _ _ _ _ _ _ _ _ _ _ _ _ _ _ _ _ _ _ _ _ _ _ _ _ _ hM hlat hbat hcos hrow hahe hwan hgiv hv1 H.size) (gi_V wq_1385 wq_1386 wq_1387 wq_67 wq_1388) rfl hyX7_wouldWin rfl rfl rfl hl.1 (Nat.le_of_ble_eq_true rfl) ⟨Nat.le_of_ble_eq_true rfl, Nat.le_of_ble_eq_true rfl⟩ ⟨by show cells + 6 + 0 ≤ 603072; omega, by show slots + 36 + 0 ≤ 7215210; omega⟩ dL_law_1915) (fun r7 w7 H locs hp7 hW => ?_)
    refine lv_istore (lv' := (7, .int r7) :: (6, .int r6) :: LV6 b (z 0) (a 0) o1 o2 i) hx hb dL_law_1918 hl (by decide) rfl (fun ls hl => ?_)
    rcases hp7 with ⟨hd, hr7, hw7⟩ | ⟨hd, hr7, hw7⟩ | ⟨hd, la, ba, v2, g2, r2, hA, hg2, hr2, hr7, hw7⟩
    · exfalso; clear hM hSB hRel hCI hC1; omega
    · rw [hw7] at hW
      exact law_tailB X (k := 2) ⟨lo, bi, ru, ol, ob, tk, fib, gra, res, buy, lst, bst, rea, bid, pri, itm, akf, akg, got, pai, riv, rf, ro, rs, lat, bat, val, cos, row, ahe, wan, giv, sc, wc, byr, reaC, rvl, pad, gt, X2, hM, hSB, hRel, hC3, List.Perm.refl _⟩ hW hl h6 (fun q => absurd (h6.symm.trans q) (by decide)) ⟨by show cells + 6 + 0 + 0 ≤ 603072; omega, by show slots + 36 + 0 + 0 ≤ 7215210; omega⟩ 1920 dL_law_1920 dL_law_1921 dL_law_1924 dL_law_1926 dL_law_1931 dL_law_1933 dL_law_1936 dL_law_1937 dL_law_1938 dL_law_1939 dL_law_1941 dL_law_1944 dL_law_1945 dL_law_1948 dL_law_1949 dL_law_1950 dL_law_1955 rfl (fun w H1 locs1 q1 q2 q3 => W.widen (by show cells + 6 + 0 ≤ _; omega) (by show slots + 36 + 0 ≤ _; omega) (kk w H1 locs1 ls q1 q2 q3))
    · exfalso; clear hM hSB hRel hCI hC1; omega
set_option maxRecDepth 100000 in
set_option maxHeartbeats 4000000 in
theorem k_wouldWinBySets (hl9 : l.stackTraces = false) (X : Cx p s m args meth c cL_law 9 RL rt G A) (hX : va_X b L xs s s.heap) (hbl : b < s.heap.size) (hbA : ¬ A b) (hL : L ≤ 2048) (hi : i + 4 ≤ L) (hcl : cells + 30 ≤ 603072) (hsl : slots + 400 ≤ 7215210) (hLI : LI G z f h a o1 o2 w) (hW : Wd G A s w H locs) (hl : lv_has ls 9 (LV6 b (z 0) (a 0) o1 o2 i)) (kk : ∀ (w : va_W) (H : Heap) (locs : List Loc) (ls : Array Slot), LI G z f h a o1 o2 w → Wd G A s w H locs → lv_has ls 9 (LV6 b (z 0) (a 0) o1 o2 i) → W p l e room_1 s m args below meth c H locs (cells + 30) (slots + 400) Q (F0 m 2290 ls [])) : W p l e room_1 s m args below meth c H locs cells slots Q (F0 m 1958 ls []) := by
  have hx := X.exec
  have hb := X.bytes
  obtain ⟨th, fl, fd, lo, bi, ru, ol, ob, tk, fib, gra, res, buy, lst, bst, rea, bid, pri, itm, akf, akg, got, pai, riv, rf, ro, rs, lat, bat, val, cos, row, ahe, wan, giv, sc, wc, byr, reaC, rvl, pad, gt, X1, hM, hSB, hRel, hC0, hp1⟩ := hLI
  have hC1 := cf_inn hC0 hp1
  have hm1 : outL G o1 fl ∈ w := cf_mem hC1 (List.mem_append_right _ List.mem_cons_self)
  have hCI := cia_of hM hRel.1
  obtain ⟨fs, hz0⟩ := cf_z hC1
  obtain ⟨hlo, hbi, hru, hol, hob, hfib, hgra, hres, hbuy, hlst, hbst, hrea, hbid, hpri, hitm, hakf, hakg, hgot, hriv, hrf, hro, hrs, hpai, hcl9, hcb9⟩ := id hM
  obtain ⟨hlat, hbat, hcos, hrow, hahe, hwan, hgiv⟩ := id hSB
  obtain ⟨hrC, hrB, hrR, hrV, hrP, hsc, hwc⟩ := id hRel
  obtain ⟨v1, hv1, hv1e⟩ := z_ex (xs (i + 1))
  refine lv_aload_n hx hb dL_law_1958 rfl (lv_at hl 1 rfl) ?_
  refine law_arg X hX hbl hbA hW (lv_at hl 0 rfl) (lv_at hl 5 rfl) 1 (by decide) hi hL (v := zI v1) hv1e (by decide) dL_law_1959 dL_law_1960 dL_law_1962 dL_law_1963 dL_law_1964 ?_
  refine lv_aload_n hx hb dL_law_1965 rfl (lv_at hl 3 rfl) ?_
  refine go_i X hW (rest := []) (run_SW X hW (As := [.ref (z 0), .int (zI v1), .ref o1]) (rest := []) (h_wouldWinBySets l G w (z 0) o1 fs fl _ (c_X6_wouldWinBySets l hl9 G _ _ _ _ _ _ _ _ _ _ _ _ _ _ _ _ _ _ _ _ _ _ _ _ _ _ _ _ _ _ _ _ hCI hC1 hv1) hz0 (fun r w2 q => cf_mem q.2 (List.mem_append_right _ List.mem_cons_self)) (fun E w2 q => by rcases q with ⟨q, -⟩ | ⟨q, -⟩ <;> simp [q]) H.size) wq_1019 wq_1020 wq_1021 rfl hyL_wouldWinBySets rfl rfl hl.1 (Nat.le_of_ble_eq_true rfl) ⟨Nat.le_of_ble_eq_true rfl, Nat.le_of_ble_eq_true rfl⟩ ⟨by show cells + 6 ≤ 603072; omega, by show slots + 36 ≤ 7215210; omega⟩ dL_law_1966) (fun r6 w2 H locs hP hW => ?_)
  have hz1 := hz0
  rcases hP with ⟨h6, v0, w3, hpp, hF⟩ | ⟨h6, hxx⟩ | ⟨h6, hxx⟩
  · obtain ⟨⟨hc, bb, k9, hB, hk9, hBA, hr⟩, hC2⟩ := hpp
    obtain ⟨X2, hC3, hp2⟩ := cf_out (cf_upd hC2 hF)
    have hW := hW.perm hp2
    refine lv_istore (lv' := (6, .int r6) :: LV6 b (z 0) (a 0) o1 o2 i) hx hb dL_law_1969 hl (by decide) rfl (fun ls hl => ?_)
    refine lv_aload_n hx hb dL_law_1971 rfl (lv_at hl 3 rfl) ?_
    refine law_arg X hX hbl hbA hW (lv_at hl 1 rfl) (lv_at hl 6 rfl) 1 (by decide) hi hL (v := zI v1) hv1e (by decide) dL_law_1972 dL_law_1973 dL_law_1975 dL_law_1976 dL_law_1977 ?_
    refine go_i X hW (rest := []) (run_V X hW (As := [.int (zI v1)]) (rest := []) 10 0 rfl (c_X7_wouldWinBySets l G a _ _ _ _ _ _ _ _ _ _ _ _ _ _ _ _ _ _ _ _ _ _ _ _ _ _ _ _ _ _ _ _ _ _ _ hM hlat hbat hcos hrow hahe hwan hgiv hv1 H.size) (gi_V wq_1393 wq_1394 wq_1395 wq_67 wq_1396) rfl hyX7_wouldWinBySets rfl rfl rfl hl.1 (Nat.le_of_ble_eq_true rfl) ⟨Nat.le_of_ble_eq_true rfl, Nat.le_of_ble_eq_true rfl⟩ ⟨by show cells + 6 + 0 ≤ 603072; omega, by show slots + 36 + 0 ≤ 7215210; omega⟩ dL_law_1978) (fun r7 w7 H locs hp7 hW => ?_)
    refine lv_istore (lv' := (7, .int r7) :: (6, .int r6) :: LV6 b (z 0) (a 0) o1 o2 i) hx hb dL_law_1981 hl (by decide) rfl (fun ls hl => ?_)
    rcases hp7 with ⟨hd, hr7, hw7⟩ | ⟨hd, hr7, hw7⟩ | ⟨hd, la, ba, v2, g2, r2, hA, hg2, hr2, hr7, hw7⟩
    · exfalso; clear hM hSB hRel hCI hC1; omega
    · exfalso; clear hM hSB hRel hCI hC1; omega
    · rw [hw7] at hW
      exact law_tailB X (k := 0) ⟨lo, bi, ru, ol, ob, tk, fib, gra, res, buy, lst, bst, rea, bid, pri, itm, akf, akg, got, pai, riv, rf, ro, rs, la, ba, v2, g2, r2, ahe, wan, giv, sc, wc, byr, reaC, rvl, pad, gt, X2, hM, (sb_all hA hg2 hr2 hSB), hRel, hC3, List.Perm.refl _⟩ hW hl h6 (fun _ => (if_pos rfl).trans (congrArg (fun q : Int32 => if q = 0 then (0 : Int64) else 1) (by rw [hr, hr7, j_pl hcb9 hA hk9 hBA, j_best hitm hob hA hB]; simp only [hk9, true_and]))) ⟨by show cells + 6 + 0 + 0 ≤ 603072; omega, by show slots + 36 + 0 + 0 ≤ 7215210; omega⟩ 1983 dL_law_1983 dL_law_1984 dL_law_1987 dL_law_1989 dL_law_1994 dL_law_1996 dL_law_1999 dL_law_2000 dL_law_2001 dL_law_2002 dL_law_2004 dL_law_2007 dL_law_2008 dL_law_2011 dL_law_2012 dL_law_2013 dL_law_2018 rfl (fun w H1 locs1 q1 q2 q3 => W.widen (by show cells + 6 + 0 ≤ _; omega) (by show slots + 36 + 0 ≤ _; omega) (kk w H1 locs1 ls q1 q2 q3))
  · obtain ⟨hc, hC2⟩ : _ ∧ _ := by
      rcases hxx with ⟨hE, hc, hC2⟩ | ⟨hE, hc, hC2⟩
      · exact ⟨hc, hC2⟩
      · exact absurd hE (by decide)
    obtain ⟨X2, hC3, hp2⟩ := cf_out hC2
    have hW := hW.perm hp2
    refine lv_istore (lv' := (6, .int r6) :: LV6 b (z 0) (a 0) o1 o2 i) hx hb dL_law_1969 hl (by decide) rfl (fun ls hl => ?_)
    refine lv_aload_n hx hb dL_law_1971 rfl (lv_at hl 3 rfl) ?_
    refine law_arg X hX hbl hbA hW (lv_at hl 1 rfl) (lv_at hl 6 rfl) 1 (by decide) hi hL (v := zI v1) hv1e (by decide) dL_law_1972 dL_law_1973 dL_law_1975 dL_law_1976 dL_law_1977 ?_
    refine go_i X hW (rest := []) (run_V X hW (As := [.int (zI v1)]) (rest := []) 10 0 rfl (c_X7_wouldWinBySets l G a _ _ _ _ _ _ _ _ _ _ _ _ _ _ _ _ _ _ _ _ _ _ _ _ _ _ _ _ _ _ _ _ _ _ _ hM hlat hbat hcos hrow hahe hwan hgiv hv1 H.size) (gi_V wq_1393 wq_1394 wq_1395 wq_67 wq_1396) rfl hyX7_wouldWinBySets rfl rfl rfl hl.1 (Nat.le_of_ble_eq_true rfl) ⟨Nat.le_of_ble_eq_true rfl, Nat.le_of_ble_eq_true rfl⟩ ⟨by show cells + 6 + 0 ≤ 603072; omega, by show slots + 36 + 0 ≤ 7215210; omega⟩ dL_law_1978) (fun r7 w7 H locs hp7 hW => ?_)
    refine lv_istore (lv' := (7, .int r7) :: (6, .int r6) :: LV6 b (z 0) (a 0) o1 o2 i) hx hb dL_law_1981 hl (by decide) rfl (fun ls hl => ?_)
    rcases hp7 with ⟨hd, hr7, hw7⟩ | ⟨hd, hr7, hw7⟩ | ⟨hd, la, ba, v2, g2, r2, hA, hg2, hr2, hr7, hw7⟩
    · rw [hw7] at hW
      exact law_tailB X (k := 1) ⟨lo, bi, ru, ol, ob, tk, fib, gra, res, buy, lst, bst, rea, bid, pri, itm, akf, akg, got, pai, riv, rf, ro, rs, lat, bat, val, cos, row, ahe, wan, giv, sc, wc, byr, reaC, rvl, pad, gt, X2, hM, hSB, hRel, hC3, List.Perm.refl _⟩ hW hl h6 (fun q => absurd (h6.symm.trans q) (by decide)) ⟨by show cells + 6 + 0 + 0 ≤ 603072; omega, by show slots + 36 + 0 + 0 ≤ 7215210; omega⟩ 1983 dL_law_1983 dL_law_1984 dL_law_1987 dL_law_1989 dL_law_1994 dL_law_1996 dL_law_1999 dL_law_2000 dL_law_2001 dL_law_2002 dL_law_2004 dL_law_2007 dL_law_2008 dL_law_2011 dL_law_2012 dL_law_2013 dL_law_2018 rfl (fun w H1 locs1 q1 q2 q3 => W.widen (by show cells + 6 + 0 ≤ _; omega) (by show slots + 36 + 0 ≤ _; omega) (kk w H1 locs1 ls q1 q2 q3))
    · exfalso; clear hM hSB hRel hCI hC1; omega
    · exfalso; clear hM hSB hRel hCI hC1; omega
  · obtain ⟨hc, hC2⟩ : _ ∧ _ := by
      rcases hxx with ⟨hE, hc, hC2⟩ | ⟨hE, hc, hC2⟩
      · exact absurd hE (by decide)
      · exact ⟨hc, hC2⟩
    obtain ⟨X2, hC3, hp2⟩ := cf_out hC2
    have hW := hW.perm hp2
    refine lv_istore (lv' := (6, .int r6) :: LV6 b (z 0) (a 0) o1 o2 i) hx hb dL_law_1969 hl (by decide) rfl (fun ls hl => ?_)
    refine lv_aload_n hx hb dL_law_1971 rfl (lv_at hl 3 rfl) ?_
    refine law_arg X hX hbl hbA hW (lv_at hl 1 rfl) (lv_at hl 6 rfl) 1 (by decide) hi hL (v := zI v1) hv1e (by decide) dL_law_1972 dL_law_1973 dL_law_1975 dL_law_1976 dL_law_1977 ?_
    refine go_i X hW (rest := []) (run_V X hW (As := [.int (zI v1)]) (rest := []) 10 0 rfl (c_X7_wouldWinBySets l G a _ _ _ _ _ _ _ _ _ _ _ _ _ _ _ _ _ _ _ _ _ _ _ _ _ _ _ _ _ _ _ _ _ _ _ hM hlat hbat hcos hrow hahe hwan hgiv hv1 H.size) (gi_V wq_1393 wq_1394 wq_1395 wq_67 wq_1396) rfl hyX7_wouldWinBySets rfl rfl rfl hl.1 (Nat.le_of_ble_eq_true rfl) ⟨Nat.le_of_ble_eq_true rfl, Nat.le_of_ble_eq_true rfl⟩ ⟨by show cells + 6 + 0 ≤ 603072; omega, by show slots + 36 + 0 ≤ 7215210; omega⟩ dL_law_1978) (fun r7 w7 H locs hp7 hW => ?_)
    refine lv_istore (lv' := (7, .int r7) :: (6, .int r6) :: LV6 b (z 0) (a 0) o1 o2 i) hx hb dL_law_1981 hl (by decide) rfl (fun ls hl => ?_)
    rcases hp7 with ⟨hd, hr7, hw7⟩ | ⟨hd, hr7, hw7⟩ | ⟨hd, la, ba, v2, g2, r2, hA, hg2, hr2, hr7, hw7⟩
    · exfalso; clear hM hSB hRel hCI hC1; omega
    · rw [hw7] at hW
      exact law_tailB X (k := 2) ⟨lo, bi, ru, ol, ob, tk, fib, gra, res, buy, lst, bst, rea, bid, pri, itm, akf, akg, got, pai, riv, rf, ro, rs, lat, bat, val, cos, row, ahe, wan, giv, sc, wc, byr, reaC, rvl, pad, gt, X2, hM, hSB, hRel, hC3, List.Perm.refl _⟩ hW hl h6 (fun q => absurd (h6.symm.trans q) (by decide)) ⟨by show cells + 6 + 0 + 0 ≤ 603072; omega, by show slots + 36 + 0 + 0 ≤ 7215210; omega⟩ 1983 dL_law_1983 dL_law_1984 dL_law_1987 dL_law_1989 dL_law_1994 dL_law_1996 dL_law_1999 dL_law_2000 dL_law_2001 dL_law_2002 dL_law_2004 dL_law_2007 dL_law_2008 dL_law_2011 dL_law_2012 dL_law_2013 dL_law_2018 rfl (fun w H1 locs1 q1 q2 q3 => W.widen (by show cells + 6 + 0 ≤ _; omega) (by show slots + 36 + 0 ≤ _; omega) (kk w H1 locs1 ls q1 q2 q3))
    · exfalso; clear hM hSB hRel hCI hC1; omega
set_option maxRecDepth 100000 in
set_option maxHeartbeats 4000000 in
theorem k_costOf (hl9 : l.stackTraces = false) (X : Cx p s m args meth c cL_law 9 RL rt G A) (hX : va_X b L xs s s.heap) (hbl : b < s.heap.size) (hbA : ¬ A b) (hL : L ≤ 2048) (hi : i + 4 ≤ L) (hcl : cells + 30 ≤ 603072) (hsl : slots + 400 ≤ 7215210) (hLI : LI G z f h a o1 o2 w) (hW : Wd G A s w H locs) (hl : lv_has ls 9 (LV6 b (z 0) (a 0) o1 o2 i)) (kk : ∀ (w : va_W) (H : Heap) (locs : List Loc) (ls : Array Slot), LI G z f h a o1 o2 w → Wd G A s w H locs → lv_has ls 9 (LV6 b (z 0) (a 0) o1 o2 i) → W p l e room_1 s m args below meth c H locs (cells + 30) (slots + 400) Q (F0 m 2290 ls [])) : W p l e room_1 s m args below meth c H locs cells slots Q (F0 m 1757 ls []) := by
  have hx := X.exec
  have hb := X.bytes
  obtain ⟨th, fl, fd, lo, bi, ru, ol, ob, tk, fib, gra, res, buy, lst, bst, rea, bid, pri, itm, akf, akg, got, pai, riv, rf, ro, rs, lat, bat, val, cos, row, ahe, wan, giv, sc, wc, byr, reaC, rvl, pad, gt, X1, hM, hSB, hRel, hC0, hp1⟩ := hLI
  have hC1 := cf_inn hC0 hp1
  have hm1 : outL G o1 fl ∈ w := cf_mem hC1 (List.mem_append_right _ List.mem_cons_self)
  have hCI := cia_of hM hRel.1
  obtain ⟨fs, hz0⟩ := cf_z hC1
  obtain ⟨hlo, hbi, hru, hol, hob, hfib, hgra, hres, hbuy, hlst, hbst, hrea, hbid, hpri, hitm, hakf, hakg, hgot, hriv, hrf, hro, hrs, hpai, hcl9, hcb9⟩ := id hM
  obtain ⟨hlat, hbat, hcos, hrow, hahe, hwan, hgiv⟩ := id hSB
  obtain ⟨hrC, hrB, hrR, hrV, hrP, hsc, hwc⟩ := id hRel
  obtain ⟨v1, hv1, hv1e⟩ := z_ex (xs (i + 1))
  refine lv_aload_n hx hb dL_law_1757 rfl (lv_at hl 1 rfl) ?_
  refine law_arg X hX hbl hbA hW (lv_at hl 0 rfl) (lv_at hl 5 rfl) 1 (by decide) hi hL (v := zI v1) hv1e (by decide) dL_law_1758 dL_law_1759 dL_law_1761 dL_law_1762 dL_law_1763 ?_
  refine lv_aload_n hx hb dL_law_1764 rfl (lv_at hl 3 rfl) ?_
  refine go_i X hW (rest := []) (run_SW X hW (As := [.ref (z 0), .int (zI v1), .ref o1]) (rest := []) (h_costOf l G w (z 0) o1 fs fl _ (c_X6_costOf l hl9 G _ _ _ _ _ _ _ _ _ _ _ _ _ _ _ _ _ _ _ _ _ _ _ _ _ _ _ _ _ _ _ _ hCI hC1 hv1) hz0 (fun r w2 q => cf_mem q.2 (List.mem_append_right _ List.mem_cons_self)) (fun E w2 q => by rcases q with ⟨q, -⟩ | ⟨q, -⟩ | ⟨q, -⟩ <;> simp [q]) H.size) wq_968 wq_969 wq_970 rfl hyL_costOf rfl rfl hl.1 (Nat.le_of_ble_eq_true rfl) ⟨Nat.le_of_ble_eq_true rfl, Nat.le_of_ble_eq_true rfl⟩ ⟨by show cells + 6 ≤ 603072; omega, by show slots + 36 ≤ 7215210; omega⟩ dL_law_1765) (fun r6 w2 H locs hP hW => ?_)
  have hz1 := hz0
  rcases hP with ⟨h6, v0, w3, hpp, hF⟩ | ⟨h6, hxx⟩ | ⟨h6, hxx⟩ | ⟨h6, hxx⟩
  · obtain ⟨⟨hc, k9, hk9, hBA, hPS, hr⟩, hC2⟩ := hpp
    obtain ⟨X2, hC3, hp2⟩ := cf_out (cf_upd hC2 hF)
    have hW := hW.perm hp2
    refine lv_istore (lv' := (6, .int r6) :: LV6 b (z 0) (a 0) o1 o2 i) hx hb dL_law_1768 hl (by decide) rfl (fun ls hl => ?_)
    refine lv_aload_n hx hb dL_law_1770 rfl (lv_at hl 3 rfl) ?_
    refine law_arg X hX hbl hbA hW (lv_at hl 1 rfl) (lv_at hl 6 rfl) 1 (by decide) hi hL (v := zI v1) hv1e (by decide) dL_law_1771 dL_law_1772 dL_law_1774 dL_law_1775 dL_law_1776 ?_
    refine go_i X hW (rest := []) (run_V X hW (As := [.int (zI v1)]) (rest := []) 10 0 rfl (c_X7_costOf l G a _ _ _ _ _ _ _ _ _ _ _ _ _ _ _ _ _ _ _ _ _ _ _ _ _ _ _ _ _ _ _ _ _ _ _ hM hlat hbat hcos hrow hahe hwan hgiv hv1 H.size) (gi_V wq_1368 wq_1369 wq_1370 wq_67 wq_1371) rfl hyX7_costOf rfl rfl rfl hl.1 (Nat.le_of_ble_eq_true rfl) ⟨Nat.le_of_ble_eq_true rfl, Nat.le_of_ble_eq_true rfl⟩ ⟨by show cells + 6 + 0 ≤ 603072; omega, by show slots + 36 + 0 ≤ 7215210; omega⟩ dL_law_1777) (fun r7 w7 H locs hp7 hW => ?_)
    refine lv_istore (lv' := (7, .int r7) :: (6, .int r6) :: LV6 b (z 0) (a 0) o1 o2 i) hx hb dL_law_1780 hl (by decide) rfl (fun ls hl => ?_)
    rcases hp7 with ⟨hd, hr7, hw7⟩ | ⟨hd, hr7, hw7⟩ | ⟨hd, la, ba, v2, g2, r2, hA, hg2, hr2, ⟨k7, hk7, hb7, hn7, hr7⟩, hw7⟩ | ⟨hd, la, ba, v2, g2, r2, hA, hg2, hr2, hn7, hr7, hw7⟩
    · exfalso; clear hM hSB hRel hCI hC1; omega
    · exfalso; clear hM hSB hRel hCI hC1; omega
    · rw [hw7] at hW
      exact law_tailI X (k := 0) ⟨lo, bi, ru, ol, ob, tk, fib, gra, res, buy, lst, bst, rea, bid, pri, itm, akf, akg, got, pai, riv, rf, ro, rs, la, ba, v2, g2, r2, ahe, wan, giv, sc, wc, byr, reaC, rvl, pad, gt, X2, hM, (sb_all hA hg2 hr2 hSB), hRel, hC3, List.Perm.refl _⟩ hW hl h6 (fun _ => (if_pos rfl).trans (congrArg Int32.toInt64 (by rw [hr, hr7, j_uq hcb9 hA hk9 hBA hk7 hb7.1, (j_v1 hitm hob hA hk9).1 hPS]))) ⟨by show cells + 6 + 0 + 0 ≤ 603072; omega, by show slots + 36 + 0 + 0 ≤ 7215210; omega⟩ 1782 dL_law_1782 dL_law_1783 dL_law_1786 dL_law_1788 dL_law_1793 dL_law_1795 dL_law_1798 dL_law_1799 dL_law_1800 dL_law_1801 dL_law_1803 dL_law_1804 dL_law_1805 dL_law_1810 rfl (fun w H1 locs1 q1 q2 q3 => W.widen (by show cells + 6 + 0 ≤ _; omega) (by show slots + 36 + 0 ≤ _; omega) (kk w H1 locs1 ls q1 q2 q3))
    · exact absurd ⟨(hA.2.2.2.1 k9 hk9).trans hBA, fun q => by have h1 := (j_v1 hitm hob hA hk9).1 hPS; have h2 := sur_gt (lo := lo) (pri := pri) hol hres hPS; rw [← h1, q] at h2; omega⟩ (hn7 k9 hk9)
  · obtain ⟨hc, hC2⟩ : _ ∧ _ := by
      rcases hxx with ⟨hE, hc, hC2⟩ | ⟨hE, hc, hC2⟩ | ⟨hE, hc, hC2⟩
      · exact ⟨hc, hC2⟩
      · exact absurd hE (by decide)
      · exact absurd hE (by decide)
    obtain ⟨X2, hC3, hp2⟩ := cf_out hC2
    have hW := hW.perm hp2
    refine lv_istore (lv' := (6, .int r6) :: LV6 b (z 0) (a 0) o1 o2 i) hx hb dL_law_1768 hl (by decide) rfl (fun ls hl => ?_)
    refine lv_aload_n hx hb dL_law_1770 rfl (lv_at hl 3 rfl) ?_
    refine law_arg X hX hbl hbA hW (lv_at hl 1 rfl) (lv_at hl 6 rfl) 1 (by decide) hi hL (v := zI v1) hv1e (by decide) dL_law_1771 dL_law_1772 dL_law_1774 dL_law_1775 dL_law_1776 ?_
    refine go_i X hW (rest := []) (run_V X hW (As := [.int (zI v1)]) (rest := []) 10 0 rfl (c_X7_costOf l G a _ _ _ _ _ _ _ _ _ _ _ _ _ _ _ _ _ _ _ _ _ _ _ _ _ _ _ _ _ _ _ _ _ _ _ hM hlat hbat hcos hrow hahe hwan hgiv hv1 H.size) (gi_V wq_1368 wq_1369 wq_1370 wq_67 wq_1371) rfl hyX7_costOf rfl rfl rfl hl.1 (Nat.le_of_ble_eq_true rfl) ⟨Nat.le_of_ble_eq_true rfl, Nat.le_of_ble_eq_true rfl⟩ ⟨by show cells + 6 + 0 ≤ 603072; omega, by show slots + 36 + 0 ≤ 7215210; omega⟩ dL_law_1777) (fun r7 w7 H locs hp7 hW => ?_)
    refine lv_istore (lv' := (7, .int r7) :: (6, .int r6) :: LV6 b (z 0) (a 0) o1 o2 i) hx hb dL_law_1780 hl (by decide) rfl (fun ls hl => ?_)
    rcases hp7 with ⟨hd, hr7, hw7⟩ | ⟨hd, hr7, hw7⟩ | ⟨hd, la, ba, v2, g2, r2, hA, hg2, hr2, ⟨k7, hk7, hb7, hn7, hr7⟩, hw7⟩ | ⟨hd, la, ba, v2, g2, r2, hA, hg2, hr2, hn7, hr7, hw7⟩
    · rw [hw7] at hW
      exact law_tailI X (k := 1) ⟨lo, bi, ru, ol, ob, tk, fib, gra, res, buy, lst, bst, rea, bid, pri, itm, akf, akg, got, pai, riv, rf, ro, rs, lat, bat, val, cos, row, ahe, wan, giv, sc, wc, byr, reaC, rvl, pad, gt, X2, hM, hSB, hRel, hC3, List.Perm.refl _⟩ hW hl h6 (fun q => absurd (h6.symm.trans q) (by decide)) ⟨by show cells + 6 + 0 + 0 ≤ 603072; omega, by show slots + 36 + 0 + 0 ≤ 7215210; omega⟩ 1782 dL_law_1782 dL_law_1783 dL_law_1786 dL_law_1788 dL_law_1793 dL_law_1795 dL_law_1798 dL_law_1799 dL_law_1800 dL_law_1801 dL_law_1803 dL_law_1804 dL_law_1805 dL_law_1810 rfl (fun w H1 locs1 q1 q2 q3 => W.widen (by show cells + 6 + 0 ≤ _; omega) (by show slots + 36 + 0 ≤ _; omega) (kk w H1 locs1 ls q1 q2 q3))
    · exfalso; clear hM hSB hRel hCI hC1; omega
    · exfalso; clear hM hSB hRel hCI hC1; omega
    · exfalso; clear hM hSB hRel hCI hC1; omega
  · obtain ⟨hc, hC2⟩ : _ ∧ _ := by
      rcases hxx with ⟨hE, hc, hC2⟩ | ⟨hE, hc, hC2⟩ | ⟨hE, hc, hC2⟩
      · exact absurd hE (by decide)
      · exact ⟨hc, hC2⟩
      · exact absurd hE (by decide)
    obtain ⟨X2, hC3, hp2⟩ := cf_out hC2
    have hW := hW.perm hp2
    refine lv_istore (lv' := (6, .int r6) :: LV6 b (z 0) (a 0) o1 o2 i) hx hb dL_law_1768 hl (by decide) rfl (fun ls hl => ?_)
    refine lv_aload_n hx hb dL_law_1770 rfl (lv_at hl 3 rfl) ?_
    refine law_arg X hX hbl hbA hW (lv_at hl 1 rfl) (lv_at hl 6 rfl) 1 (by decide) hi hL (v := zI v1) hv1e (by decide) dL_law_1771 dL_law_1772 dL_law_1774 dL_law_1775 dL_law_1776 ?_
    refine go_i X hW (rest := []) (run_V X hW (As := [.int (zI v1)]) (rest := []) 10 0 rfl (c_X7_costOf l G a _ _ _ _ _ _ _ _ _ _ _ _ _ _ _ _ _ _ _ _ _ _ _ _ _ _ _ _ _ _ _ _ _ _ _ hM hlat hbat hcos hrow hahe hwan hgiv hv1 H.size) (gi_V wq_1368 wq_1369 wq_1370 wq_67 wq_1371) rfl hyX7_costOf rfl rfl rfl hl.1 (Nat.le_of_ble_eq_true rfl) ⟨Nat.le_of_ble_eq_true rfl, Nat.le_of_ble_eq_true rfl⟩ ⟨by show cells + 6 + 0 ≤ 603072; omega, by show slots + 36 + 0 ≤ 7215210; omega⟩ dL_law_1777) (fun r7 w7 H locs hp7 hW => ?_)
    refine lv_istore (lv' := (7, .int r7) :: (6, .int r6) :: LV6 b (z 0) (a 0) o1 o2 i) hx hb dL_law_1780 hl (by decide) rfl (fun ls hl => ?_)
    rcases hp7 with ⟨hd, hr7, hw7⟩ | ⟨hd, hr7, hw7⟩ | ⟨hd, la, ba, v2, g2, r2, hA, hg2, hr2, ⟨k7, hk7, hb7, hn7, hr7⟩, hw7⟩ | ⟨hd, la, ba, v2, g2, r2, hA, hg2, hr2, hn7, hr7, hw7⟩
    · exfalso; clear hM hSB hRel hCI hC1; omega
    · rw [hw7] at hW
      exact law_tailI X (k := 2) ⟨lo, bi, ru, ol, ob, tk, fib, gra, res, buy, lst, bst, rea, bid, pri, itm, akf, akg, got, pai, riv, rf, ro, rs, lat, bat, val, cos, row, ahe, wan, giv, sc, wc, byr, reaC, rvl, pad, gt, X2, hM, hSB, hRel, hC3, List.Perm.refl _⟩ hW hl h6 (fun q => absurd (h6.symm.trans q) (by decide)) ⟨by show cells + 6 + 0 + 0 ≤ 603072; omega, by show slots + 36 + 0 + 0 ≤ 7215210; omega⟩ 1782 dL_law_1782 dL_law_1783 dL_law_1786 dL_law_1788 dL_law_1793 dL_law_1795 dL_law_1798 dL_law_1799 dL_law_1800 dL_law_1801 dL_law_1803 dL_law_1804 dL_law_1805 dL_law_1810 rfl (fun w H1 locs1 q1 q2 q3 => W.widen (by show cells + 6 + 0 ≤ _; omega) (by show slots + 36 + 0 ≤ _; omega) (kk w H1 locs1 ls q1 q2 q3))
    · exfalso; clear hM hSB hRel hCI hC1; omega
    · exfalso; clear hM hSB hRel hCI hC1; omega
  · obtain ⟨hc, hC2⟩ : _ ∧ _ := by
      rcases hxx with ⟨hE, hc, hC2⟩ | ⟨hE, hc, hC2⟩ | ⟨hE, hc, hC2⟩
      · exact absurd hE (by decide)
      · exact absurd hE (by decide)
      · exact ⟨hc, hC2⟩
    obtain ⟨X2, hC3, hp2⟩ := cf_out hC2
    have hW := hW.perm hp2
    refine lv_istore (lv' := (6, .int r6) :: LV6 b (z 0) (a 0) o1 o2 i) hx hb dL_law_1768 hl (by decide) rfl (fun ls hl => ?_)
    refine lv_aload_n hx hb dL_law_1770 rfl (lv_at hl 3 rfl) ?_
    refine law_arg X hX hbl hbA hW (lv_at hl 1 rfl) (lv_at hl 6 rfl) 1 (by decide) hi hL (v := zI v1) hv1e (by decide) dL_law_1771 dL_law_1772 dL_law_1774 dL_law_1775 dL_law_1776 ?_
    refine go_i X hW (rest := []) (run_V X hW (As := [.int (zI v1)]) (rest := []) 10 0 rfl (c_X7_costOf l G a _ _ _ _ _ _ _ _ _ _ _ _ _ _ _ _ _ _ _ _ _ _ _ _ _ _ _ _ _ _ _ _ _ _ _ hM hlat hbat hcos hrow hahe hwan hgiv hv1 H.size) (gi_V wq_1368 wq_1369 wq_1370 wq_67 wq_1371) rfl hyX7_costOf rfl rfl rfl hl.1 (Nat.le_of_ble_eq_true rfl) ⟨Nat.le_of_ble_eq_true rfl, Nat.le_of_ble_eq_true rfl⟩ ⟨by show cells + 6 + 0 ≤ 603072; omega, by show slots + 36 + 0 ≤ 7215210; omega⟩ dL_law_1777) (fun r7 w7 H locs hp7 hW => ?_)
    refine lv_istore (lv' := (7, .int r7) :: (6, .int r6) :: LV6 b (z 0) (a 0) o1 o2 i) hx hb dL_law_1780 hl (by decide) rfl (fun ls hl => ?_)
    rcases hp7 with ⟨hd, hr7, hw7⟩ | ⟨hd, hr7, hw7⟩ | ⟨hd, la, ba, v2, g2, r2, hA, hg2, hr2, ⟨k7, hk7, hb7, hn7, hr7⟩, hw7⟩ | ⟨hd, la, ba, v2, g2, r2, hA, hg2, hr2, hn7, hr7, hw7⟩
    · exfalso; clear hM hSB hRel hCI hC1; omega
    · exfalso; clear hM hSB hRel hCI hC1; omega
    · obtain ⟨-, k9, hk9, hBA, hPS⟩ := hc; have e9 := j_uq hcb9 hA hk9 hBA hk7 hb7.1; subst e9; exact absurd ((j_v1 hitm hob hA hk9).2 hPS) hb7.2
    · rw [hw7] at hW
      exact law_tailI X (k := 3) ⟨lo, bi, ru, ol, ob, tk, fib, gra, res, buy, lst, bst, rea, bid, pri, itm, akf, akg, got, pai, riv, rf, ro, rs, la, ba, v2, g2, r2, ahe, wan, giv, sc, wc, byr, reaC, rvl, pad, gt, X2, hM, (sb_all hA hg2 hr2 hSB), hRel, hC3, List.Perm.refl _⟩ hW hl h6 (fun q => absurd (h6.symm.trans q) (by decide)) ⟨by show cells + 6 + 0 + 0 ≤ 603072; omega, by show slots + 36 + 0 + 0 ≤ 7215210; omega⟩ 1782 dL_law_1782 dL_law_1783 dL_law_1786 dL_law_1788 dL_law_1793 dL_law_1795 dL_law_1798 dL_law_1799 dL_law_1800 dL_law_1801 dL_law_1803 dL_law_1804 dL_law_1805 dL_law_1810 rfl (fun w H1 locs1 q1 q2 q3 => W.widen (by show cells + 6 + 0 ≤ _; omega) (by show slots + 36 + 0 ≤ _; omega) (kk w H1 locs1 ls q1 q2 q3))
set_option maxRecDepth 100000 in
set_option maxHeartbeats 4000000 in
theorem k_payment (hl9 : l.stackTraces = false) (X : Cx p s m args meth c cL_law 9 RL rt G A) (hX : va_X b L xs s s.heap) (hbl : b < s.heap.size) (hbA : ¬ A b) (hL : L ≤ 2048) (hi : i + 4 ≤ L) (hcl : cells + 30 ≤ 603072) (hsl : slots + 400 ≤ 7215210) (hLI : LI G z f h a o1 o2 w) (hW : Wd G A s w H locs) (hl : lv_has ls 9 (LV6 b (z 0) (a 0) o1 o2 i)) (kk : ∀ (w : va_W) (H : Heap) (locs : List Loc) (ls : Array Slot), LI G z f h a o1 o2 w → Wd G A s w H locs → lv_has ls 9 (LV6 b (z 0) (a 0) o1 o2 i) → W p l e room_1 s m args below meth c H locs (cells + 30) (slots + 400) Q (F0 m 2290 ls [])) : W p l e room_1 s m args below meth c H locs cells slots Q (F0 m 2089 ls []) := by
  have hx := X.exec
  have hb := X.bytes
  obtain ⟨th, fl, fd, lo, bi, ru, ol, ob, tk, fib, gra, res, buy, lst, bst, rea, bid, pri, itm, akf, akg, got, pai, riv, rf, ro, rs, lat, bat, val, cos, row, ahe, wan, giv, sc, wc, byr, reaC, rvl, pad, gt, X1, hM, hSB, hRel, hC0, hp1⟩ := hLI
  have hC1 := cf_inn hC0 hp1
  have hm1 : outL G o1 fl ∈ w := cf_mem hC1 (List.mem_append_right _ List.mem_cons_self)
  have hCI := cia_of hM hRel.1
  obtain ⟨fs, hz0⟩ := cf_z hC1
  obtain ⟨hlo, hbi, hru, hol, hob, hfib, hgra, hres, hbuy, hlst, hbst, hrea, hbid, hpri, hitm, hakf, hakg, hgot, hriv, hrf, hro, hrs, hpai, hcl9, hcb9⟩ := id hM
  obtain ⟨hlat, hbat, hcos, hrow, hahe, hwan, hgiv⟩ := id hSB
  obtain ⟨hrC, hrB, hrR, hrV, hrP, hsc, hwc⟩ := id hRel
  obtain ⟨v1, hv1, hv1e⟩ := z_ex (xs (i + 1))
  refine lv_aload_n hx hb dL_law_2089 rfl (lv_at hl 1 rfl) ?_
  refine law_arg X hX hbl hbA hW (lv_at hl 0 rfl) (lv_at hl 5 rfl) 1 (by decide) hi hL (v := zI v1) hv1e (by decide) dL_law_2090 dL_law_2091 dL_law_2093 dL_law_2094 dL_law_2095 ?_
  refine lv_aload_n hx hb dL_law_2096 rfl (lv_at hl 3 rfl) ?_
  refine go_i X hW (rest := []) (run_SW X hW (As := [.ref (z 0), .int (zI v1), .ref o1]) (rest := []) (h_payment l G w (z 0) o1 fs fl _ (c_X6_payment l hl9 G _ _ _ _ _ _ _ _ _ _ _ _ _ _ _ _ _ _ _ _ _ _ _ _ _ _ _ _ _ _ _ _ hCI hC1 hv1) hz0 (fun r w2 q => cf_mem q.2 (List.mem_append_right _ List.mem_cons_self)) (fun E w2 q => by rcases q with ⟨q, -⟩ | ⟨q, -⟩ | ⟨q, -⟩ <;> simp [q]) H.size) wq_1035 wq_1036 wq_1037 rfl hyL_payment rfl rfl hl.1 (Nat.le_of_ble_eq_true rfl) ⟨Nat.le_of_ble_eq_true rfl, Nat.le_of_ble_eq_true rfl⟩ ⟨by show cells + 6 ≤ 603072; omega, by show slots + 36 ≤ 7215210; omega⟩ dL_law_2097) (fun r6 w2 H locs hP hW => ?_)
  have hz1 := hz0
  rcases hP with ⟨h6, v0, w3, hpp, hF⟩ | ⟨h6, hxx⟩ | ⟨h6, hxx⟩ | ⟨h6, hxx⟩
  · obtain ⟨⟨hc, bb, b2, k9, hB, hB2, hk9, hBA, ht9, hr⟩, hC2⟩ := hpp
    obtain ⟨X2, hC3, hp2⟩ := cf_out (cf_upd hC2 hF)
    have hW := hW.perm hp2
    refine lv_istore (lv' := (6, .int r6) :: LV6 b (z 0) (a 0) o1 o2 i) hx hb dL_law_2100 hl (by decide) rfl (fun ls hl => ?_)
    refine lv_aload_n hx hb dL_law_2102 rfl (lv_at hl 3 rfl) ?_
    refine law_arg X hX hbl hbA hW (lv_at hl 1 rfl) (lv_at hl 6 rfl) 1 (by decide) hi hL (v := zI v1) hv1e (by decide) dL_law_2103 dL_law_2104 dL_law_2106 dL_law_2107 dL_law_2108 ?_
    refine go_i X hW (rest := []) (run_V X hW (As := [.int (zI v1)]) (rest := []) 10 0 rfl (c_X7_payment l G a _ _ _ _ _ _ _ _ _ _ _ _ _ _ _ _ _ _ _ _ _ _ _ _ _ _ _ _ _ _ _ _ _ _ _ hM hlat hbat hcos hrow hahe hwan hgiv hv1 H.size) (gi_V wq_1402 wq_1403 wq_1404 wq_67 wq_1405) rfl hyX7_payment rfl rfl rfl hl.1 (Nat.le_of_ble_eq_true rfl) ⟨Nat.le_of_ble_eq_true rfl, Nat.le_of_ble_eq_true rfl⟩ ⟨by show cells + 6 + 0 ≤ 603072; omega, by show slots + 36 + 0 ≤ 7215210; omega⟩ dL_law_2109) (fun r7 w7 H locs hp7 hW => ?_)
    refine lv_istore (lv' := (7, .int r7) :: (6, .int r6) :: LV6 b (z 0) (a 0) o1 o2 i) hx hb dL_law_2112 hl (by decide) rfl (fun ls hl => ?_)
    rcases hp7 with ⟨hd, hr7, hw7⟩ | ⟨hd, hr7, hw7⟩ | ⟨hd, la, ba, v2, g2, r2, hA, hg2, hr2, hn7, hr7, hw7⟩ | ⟨hd, la, ba, v2, g2, r2, hA, hg2, hr2, hn7, hr7, hw7⟩
    · exfalso; clear hM hSB hRel hCI hC1; omega
    · exfalso; clear hM hSB hRel hCI hC1; omega
    · exact absurd (by rw [j_pl hcb9 hA hk9 hBA, j_best hitm hob hA hB]; exact ⟨hk9, ht9⟩) hn7
    · rw [hw7] at hW
      exact law_tailI X (k := 0) ⟨lo, bi, ru, ol, ob, tk, fib, gra, res, buy, lst, bst, rea, bid, pri, itm, akf, akg, got, pai, riv, rf, ro, rs, la, ba, v2, g2, r2, ahe, wan, giv, sc, wc, byr, reaC, rvl, pad, gt, X2, hM, (sb_all hA hg2 hr2 hSB), hRel, hC3, List.Perm.refl _⟩ hW hl h6 (fun _ => (if_pos rfl).trans (congrArg Int32.toInt64 (by rw [hr, hr7, j_sur hitm hob hA hB, j_sur hitm hob hA hB2]))) ⟨by show cells + 6 + 0 + 0 ≤ 603072; omega, by show slots + 36 + 0 + 0 ≤ 7215210; omega⟩ 2114 dL_law_2114 dL_law_2115 dL_law_2118 dL_law_2120 dL_law_2125 dL_law_2127 dL_law_2130 dL_law_2131 dL_law_2132 dL_law_2133 dL_law_2135 dL_law_2136 dL_law_2137 dL_law_2142 rfl (fun w H1 locs1 q1 q2 q3 => W.widen (by show cells + 6 + 0 ≤ _; omega) (by show slots + 36 + 0 ≤ _; omega) (kk w H1 locs1 ls q1 q2 q3))
  · obtain ⟨hc, hC2⟩ : _ ∧ _ := by
      rcases hxx with ⟨hE, hc, hC2⟩ | ⟨hE, hc, hC2⟩ | ⟨hE, hc, hC2⟩
      · exact ⟨hc, hC2⟩
      · exact absurd hE (by decide)
      · exact absurd hE (by decide)
    obtain ⟨X2, hC3, hp2⟩ := cf_out hC2
    have hW := hW.perm hp2
    refine lv_istore (lv' := (6, .int r6) :: LV6 b (z 0) (a 0) o1 o2 i) hx hb dL_law_2100 hl (by decide) rfl (fun ls hl => ?_)
    refine lv_aload_n hx hb dL_law_2102 rfl (lv_at hl 3 rfl) ?_
    refine law_arg X hX hbl hbA hW (lv_at hl 1 rfl) (lv_at hl 6 rfl) 1 (by decide) hi hL (v := zI v1) hv1e (by decide) dL_law_2103 dL_law_2104 dL_law_2106 dL_law_2107 dL_law_2108 ?_
    refine go_i X hW (rest := []) (run_V X hW (As := [.int (zI v1)]) (rest := []) 10 0 rfl (c_X7_payment l G a _ _ _ _ _ _ _ _ _ _ _ _ _ _ _ _ _ _ _ _ _ _ _ _ _ _ _ _ _ _ _ _ _ _ _ hM hlat hbat hcos hrow hahe hwan hgiv hv1 H.size) (gi_V wq_1402 wq_1403 wq_1404 wq_67 wq_1405) rfl hyX7_payment rfl rfl rfl hl.1 (Nat.le_of_ble_eq_true rfl) ⟨Nat.le_of_ble_eq_true rfl, Nat.le_of_ble_eq_true rfl⟩ ⟨by show cells + 6 + 0 ≤ 603072; omega, by show slots + 36 + 0 ≤ 7215210; omega⟩ dL_law_2109) (fun r7 w7 H locs hp7 hW => ?_)
    refine lv_istore (lv' := (7, .int r7) :: (6, .int r6) :: LV6 b (z 0) (a 0) o1 o2 i) hx hb dL_law_2112 hl (by decide) rfl (fun ls hl => ?_)
    rcases hp7 with ⟨hd, hr7, hw7⟩ | ⟨hd, hr7, hw7⟩ | ⟨hd, la, ba, v2, g2, r2, hA, hg2, hr2, hn7, hr7, hw7⟩ | ⟨hd, la, ba, v2, g2, r2, hA, hg2, hr2, hn7, hr7, hw7⟩
    · rw [hw7] at hW
      exact law_tailI X (k := 1) ⟨lo, bi, ru, ol, ob, tk, fib, gra, res, buy, lst, bst, rea, bid, pri, itm, akf, akg, got, pai, riv, rf, ro, rs, lat, bat, val, cos, row, ahe, wan, giv, sc, wc, byr, reaC, rvl, pad, gt, X2, hM, hSB, hRel, hC3, List.Perm.refl _⟩ hW hl h6 (fun q => absurd (h6.symm.trans q) (by decide)) ⟨by show cells + 6 + 0 + 0 ≤ 603072; omega, by show slots + 36 + 0 + 0 ≤ 7215210; omega⟩ 2114 dL_law_2114 dL_law_2115 dL_law_2118 dL_law_2120 dL_law_2125 dL_law_2127 dL_law_2130 dL_law_2131 dL_law_2132 dL_law_2133 dL_law_2135 dL_law_2136 dL_law_2137 dL_law_2142 rfl (fun w H1 locs1 q1 q2 q3 => W.widen (by show cells + 6 + 0 ≤ _; omega) (by show slots + 36 + 0 ≤ _; omega) (kk w H1 locs1 ls q1 q2 q3))
    · exfalso; clear hM hSB hRel hCI hC1; omega
    · exfalso; clear hM hSB hRel hCI hC1; omega
    · exfalso; clear hM hSB hRel hCI hC1; omega
  · obtain ⟨hc, hC2⟩ : _ ∧ _ := by
      rcases hxx with ⟨hE, hc, hC2⟩ | ⟨hE, hc, hC2⟩ | ⟨hE, hc, hC2⟩
      · exact absurd hE (by decide)
      · exact ⟨hc, hC2⟩
      · exact absurd hE (by decide)
    obtain ⟨X2, hC3, hp2⟩ := cf_out hC2
    have hW := hW.perm hp2
    refine lv_istore (lv' := (6, .int r6) :: LV6 b (z 0) (a 0) o1 o2 i) hx hb dL_law_2100 hl (by decide) rfl (fun ls hl => ?_)
    refine lv_aload_n hx hb dL_law_2102 rfl (lv_at hl 3 rfl) ?_
    refine law_arg X hX hbl hbA hW (lv_at hl 1 rfl) (lv_at hl 6 rfl) 1 (by decide) hi hL (v := zI v1) hv1e (by decide) dL_law_2103 dL_law_2104 dL_law_2106 dL_law_2107 dL_law_2108 ?_
    refine go_i X hW (rest := []) (run_V X hW (As := [.int (zI v1)]) (rest := []) 10 0 rfl (c_X7_payment l G a _ _ _ _ _ _ _ _ _ _ _ _ _ _ _ _ _ _ _ _ _ _ _ _ _ _ _ _ _ _ _ _ _ _ _ hM hlat hbat hcos hrow hahe hwan hgiv hv1 H.size) (gi_V wq_1402 wq_1403 wq_1404 wq_67 wq_1405) rfl hyX7_payment rfl rfl rfl hl.1 (Nat.le_of_ble_eq_true rfl) ⟨Nat.le_of_ble_eq_true rfl, Nat.le_of_ble_eq_true rfl⟩ ⟨by show cells + 6 + 0 ≤ 603072; omega, by show slots + 36 + 0 ≤ 7215210; omega⟩ dL_law_2109) (fun r7 w7 H locs hp7 hW => ?_)
    refine lv_istore (lv' := (7, .int r7) :: (6, .int r6) :: LV6 b (z 0) (a 0) o1 o2 i) hx hb dL_law_2112 hl (by decide) rfl (fun ls hl => ?_)
    rcases hp7 with ⟨hd, hr7, hw7⟩ | ⟨hd, hr7, hw7⟩ | ⟨hd, la, ba, v2, g2, r2, hA, hg2, hr2, hn7, hr7, hw7⟩ | ⟨hd, la, ba, v2, g2, r2, hA, hg2, hr2, hn7, hr7, hw7⟩
    · exfalso; clear hM hSB hRel hCI hC1; omega
    · rw [hw7] at hW
      exact law_tailI X (k := 2) ⟨lo, bi, ru, ol, ob, tk, fib, gra, res, buy, lst, bst, rea, bid, pri, itm, akf, akg, got, pai, riv, rf, ro, rs, lat, bat, val, cos, row, ahe, wan, giv, sc, wc, byr, reaC, rvl, pad, gt, X2, hM, hSB, hRel, hC3, List.Perm.refl _⟩ hW hl h6 (fun q => absurd (h6.symm.trans q) (by decide)) ⟨by show cells + 6 + 0 + 0 ≤ 603072; omega, by show slots + 36 + 0 + 0 ≤ 7215210; omega⟩ 2114 dL_law_2114 dL_law_2115 dL_law_2118 dL_law_2120 dL_law_2125 dL_law_2127 dL_law_2130 dL_law_2131 dL_law_2132 dL_law_2133 dL_law_2135 dL_law_2136 dL_law_2137 dL_law_2142 rfl (fun w H1 locs1 q1 q2 q3 => W.widen (by show cells + 6 + 0 ≤ _; omega) (by show slots + 36 + 0 ≤ _; omega) (kk w H1 locs1 ls q1 q2 q3))
    · exfalso; clear hM hSB hRel hCI hC1; omega
    · exfalso; clear hM hSB hRel hCI hC1; omega
  · obtain ⟨hc, hC2⟩ : _ ∧ _ := by
      rcases hxx with ⟨hE, hc, hC2⟩ | ⟨hE, hc, hC2⟩ | ⟨hE, hc, hC2⟩
      · exact absurd hE (by decide)
      · exact absurd hE (by decide)
      · exact ⟨hc, hC2⟩
    obtain ⟨X2, hC3, hp2⟩ := cf_out hC2
    have hW := hW.perm hp2
    refine lv_istore (lv' := (6, .int r6) :: LV6 b (z 0) (a 0) o1 o2 i) hx hb dL_law_2100 hl (by decide) rfl (fun ls hl => ?_)
    refine lv_aload_n hx hb dL_law_2102 rfl (lv_at hl 3 rfl) ?_
    refine law_arg X hX hbl hbA hW (lv_at hl 1 rfl) (lv_at hl 6 rfl) 1 (by decide) hi hL (v := zI v1) hv1e (by decide) dL_law_2103 dL_law_2104 dL_law_2106 dL_law_2107 dL_law_2108 ?_
    refine go_i X hW (rest := []) (run_V X hW (As := [.int (zI v1)]) (rest := []) 10 0 rfl (c_X7_payment l G a _ _ _ _ _ _ _ _ _ _ _ _ _ _ _ _ _ _ _ _ _ _ _ _ _ _ _ _ _ _ _ _ _ _ _ hM hlat hbat hcos hrow hahe hwan hgiv hv1 H.size) (gi_V wq_1402 wq_1403 wq_1404 wq_67 wq_1405) rfl hyX7_payment rfl rfl rfl hl.1 (Nat.le_of_ble_eq_true rfl) ⟨Nat.le_of_ble_eq_true rfl, Nat.le_of_ble_eq_true rfl⟩ ⟨by show cells + 6 + 0 ≤ 603072; omega, by show slots + 36 + 0 ≤ 7215210; omega⟩ dL_law_2109) (fun r7 w7 H locs hp7 hW => ?_)
    refine lv_istore (lv' := (7, .int r7) :: (6, .int r6) :: LV6 b (z 0) (a 0) o1 o2 i) hx hb dL_law_2112 hl (by decide) rfl (fun ls hl => ?_)
    rcases hp7 with ⟨hd, hr7, hw7⟩ | ⟨hd, hr7, hw7⟩ | ⟨hd, la, ba, v2, g2, r2, hA, hg2, hr2, hn7, hr7, hw7⟩ | ⟨hd, la, ba, v2, g2, r2, hA, hg2, hr2, hn7, hr7, hw7⟩
    · exfalso; clear hM hSB hRel hCI hC1; omega
    · exfalso; clear hM hSB hRel hCI hC1; omega
    · rw [hw7] at hW
      exact law_tailI X (k := 3) ⟨lo, bi, ru, ol, ob, tk, fib, gra, res, buy, lst, bst, rea, bid, pri, itm, akf, akg, got, pai, riv, rf, ro, rs, la, ba, v2, g2, r2, ahe, wan, giv, sc, wc, byr, reaC, rvl, pad, gt, X2, hM, (sb_all hA hg2 hr2 hSB), hRel, hC3, List.Perm.refl _⟩ hW hl h6 (fun q => absurd (h6.symm.trans q) (by decide)) ⟨by show cells + 6 + 0 + 0 ≤ 603072; omega, by show slots + 36 + 0 + 0 ≤ 7215210; omega⟩ 2114 dL_law_2114 dL_law_2115 dL_law_2118 dL_law_2120 dL_law_2125 dL_law_2127 dL_law_2130 dL_law_2131 dL_law_2132 dL_law_2133 dL_law_2135 dL_law_2136 dL_law_2137 dL_law_2142 rfl (fun w H1 locs1 q1 q2 q3 => W.widen (by show cells + 6 + 0 ≤ _; omega) (by show slots + 36 + 0 ≤ _; omega) (kk w H1 locs1 ls q1 q2 q3))
    · obtain ⟨-, bb, k9, hB, hk9, hBA, ht9⟩ := hc; rw [j_pl hcb9 hA hk9 hBA, j_best hitm hob hA hB] at hn7; exact absurd hn7.2 ht9
end KVA
