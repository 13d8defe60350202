/-- what holds of the market's numbers -/
def CIa (lo bi ru ol ob : Nat) (fib gra res lst bst rea bid pri itm akf akg rf ro rs : Nat → Nat) : Prop :=
  lo ≤ 40 ∧ bi ≤ 40 ∧ ru ≤ 6 ∧ ol ≤ 8 ∧ ob ≤ 8 ∧ (∀ k, fib k ≤ 3) ∧ (∀ k, gra k ≤ 101) ∧ (∀ k, res k ≤ 999) ∧ (∀ k, lst k < 65536) ∧ (∀ k, bst k < 65536) ∧ (∀ k, rea k < 65536) ∧ (∀ k, bid k < 8) ∧ (∀ k, pri k ≤ 9999) ∧ (∀ k, itm k ≤ 3) ∧ (∀ k, akf k ≤ 3) ∧ (∀ k, akg k ≤ 101) ∧ (∀ k, rf k ≤ 3) ∧ (∀ k, ro k ≤ 3) ∧ (∀ k, rs k ≤ 4) ∧ bsum (fun k => decide (lst k = 111)) (fun _ => 1) lo = ol ∧ bsum (fun k => decide (bst k = 111)) (fun _ => 1) bi = ob
section XCU
variable {G : Gt} {z f h : Nat → Nat} {ol ob sc wc : Nat} {tk : Int} {e0 k0 m0 e1 k1 m1 e2 k2 m2 lo bi ru : Nat} {la fib gra res lst : Nat → Nat} {byr : Nat → Int} {ra rf ro rs : Nat → Nat} {ba bid wo pri bst rea : Nat → Nat} {rvl pad : Nat → Int} {we wk wm itm ia akf akg : Nat → Nat} {gt : Nat → Int} {Y w : va_W}
theorem cw_lst (hc : w.Perm (CW G z f h ol ob sc wc tk e0 k0 m0 e1 k1 m1 e2 k2 m2 lo bi ru la fib gra res lst byr ra rf ro rs ba bid wo pri bst rea rvl pad we wk wm itm ia akf akg gt Y)) {i : Nat} (hi : i < lo) (u : Nat) : Fc w [lotC la fib gra res lst byr i] [(la i, .inr (6, [.int (nI (fib i)), .int (nI (gra i)), .int (nI (res i)), .int (nI u), .int (zI (byr i))]))] (CW G z f h ol ob sc wc tk e0 k0 m0 e1 k1 m1 e2 k2 m2 lo bi ru la fib gra res (va_up lst i u) byr ra rf ro rs ba bid wo pri bst rea rvl pad we wk wm itm ia akf akg gt Y) := by
  have h := ((Fc.app _ (Fc.app _ (Fc.app _ (Fc.app _ (Fc.left _ (Fc.pool (g := lotC la fib gra res (va_up lst i u) byr) hi (fun j _ hj => by simp only [lotC, va_up_ne _ _ hj]))))))) : Fc (CW G z f h ol ob sc wc tk e0 k0 m0 e1 k1 m1 e2 k2 m2 lo bi ru la fib gra res lst byr ra rf ro rs ba bid wo pri bst rea rvl pad we wk wm itm ia akf akg gt Y) _ [lotC la fib gra res (va_up lst i u) byr i] _)
  simp only [lotC, va_up_self] at h
  exact h.to hc
theorem cw_byr (hc : w.Perm (CW G z f h ol ob sc wc tk e0 k0 m0 e1 k1 m1 e2 k2 m2 lo bi ru la fib gra res lst byr ra rf ro rs ba bid wo pri bst rea rvl pad we wk wm itm ia akf akg gt Y)) {i : Nat} (hi : i < lo) (u : Int) : Fc w [lotC la fib gra res lst byr i] [(la i, .inr (6, [.int (nI (fib i)), .int (nI (gra i)), .int (nI (res i)), .int (nI (lst i)), .int (zI u)]))] (CW G z f h ol ob sc wc tk e0 k0 m0 e1 k1 m1 e2 k2 m2 lo bi ru la fib gra res lst (va_up byr i u) ra rf ro rs ba bid wo pri bst rea rvl pad we wk wm itm ia akf akg gt Y) := by
  have h := ((Fc.app _ (Fc.app _ (Fc.app _ (Fc.app _ (Fc.left _ (Fc.pool (g := lotC la fib gra res lst (va_up byr i u)) hi (fun j _ hj => by simp only [lotC, va_up_ne _ _ hj]))))))) : Fc (CW G z f h ol ob sc wc tk e0 k0 m0 e1 k1 m1 e2 k2 m2 lo bi ru la fib gra res lst byr ra rf ro rs ba bid wo pri bst rea rvl pad we wk wm itm ia akf akg gt Y) _ [lotC la fib gra res lst (va_up byr i u) i] _)
  simp only [lotC, va_up_self] at h
  exact h.to hc
theorem cw_pri (hc : w.Perm (CW G z f h ol ob sc wc tk e0 k0 m0 e1 k1 m1 e2 k2 m2 lo bi ru la fib gra res lst byr ra rf ro rs ba bid wo pri bst rea rvl pad we wk wm itm ia akf akg gt Y)) {i : Nat} (hi : i < bi) (u : Nat) : Fc w [bidC ba bid wo pri bst rea rvl pad i] [(ba i, .inr (3, [.int (nI (bid i)), .ref (wo i), .int (nI u), .int (nI (bst i)), .int (nI (rea i)), .int (zI (rvl i)), .int (zI (pad i))]))] (CW G z f h ol ob sc wc tk e0 k0 m0 e1 k1 m1 e2 k2 m2 lo bi ru la fib gra res lst byr ra rf ro rs ba bid wo (va_up pri i u) bst rea rvl pad we wk wm itm ia akf akg gt Y) := by
  have h := ((Fc.app _ (Fc.app _ (Fc.app _ (Fc.app _ (Fc.app _ (Fc.app _ (Fc.left _ (Fc.fpl (g := bidG G ba bid wo (va_up pri i u) bst rea rvl pad we wk wm itm ia akf akg gt) hi (fun j _ hj => by simp only [bidG, bidC, va_up_ne _ _ hj]) (Fc.left _ Fc.rfl'))))))))) : Fc (CW G z f h ol ob sc wc tk e0 k0 m0 e1 k1 m1 e2 k2 m2 lo bi ru la fib gra res lst byr ra rf ro rs ba bid wo pri bst rea rvl pad we wk wm itm ia akf akg gt Y) _ [bidC ba bid wo (va_up pri i u) bst rea rvl pad i] _)
  simp only [bidC, va_up_self] at h
  exact h.to hc
theorem cw_bst (hc : w.Perm (CW G z f h ol ob sc wc tk e0 k0 m0 e1 k1 m1 e2 k2 m2 lo bi ru la fib gra res lst byr ra rf ro rs ba bid wo pri bst rea rvl pad we wk wm itm ia akf akg gt Y)) {i : Nat} (hi : i < bi) (u : Nat) : Fc w [bidC ba bid wo pri bst rea rvl pad i] [(ba i, .inr (3, [.int (nI (bid i)), .ref (wo i), .int (nI (pri i)), .int (nI u), .int (nI (rea i)), .int (zI (rvl i)), .int (zI (pad i))]))] (CW G z f h ol ob sc wc tk e0 k0 m0 e1 k1 m1 e2 k2 m2 lo bi ru la fib gra res lst byr ra rf ro rs ba bid wo pri (va_up bst i u) rea rvl pad we wk wm itm ia akf akg gt Y) := by
  have h := ((Fc.app _ (Fc.app _ (Fc.app _ (Fc.app _ (Fc.app _ (Fc.app _ (Fc.left _ (Fc.fpl (g := bidG G ba bid wo pri (va_up bst i u) rea rvl pad we wk wm itm ia akf akg gt) hi (fun j _ hj => by simp only [bidG, bidC, va_up_ne _ _ hj]) (Fc.left _ Fc.rfl'))))))))) : Fc (CW G z f h ol ob sc wc tk e0 k0 m0 e1 k1 m1 e2 k2 m2 lo bi ru la fib gra res lst byr ra rf ro rs ba bid wo pri bst rea rvl pad we wk wm itm ia akf akg gt Y) _ [bidC ba bid wo pri (va_up bst i u) rea rvl pad i] _)
  simp only [bidC, va_up_self] at h
  exact h.to hc
theorem cw_rea (hc : w.Perm (CW G z f h ol ob sc wc tk e0 k0 m0 e1 k1 m1 e2 k2 m2 lo bi ru la fib gra res lst byr ra rf ro rs ba bid wo pri bst rea rvl pad we wk wm itm ia akf akg gt Y)) {i : Nat} (hi : i < bi) (u : Nat) : Fc w [bidC ba bid wo pri bst rea rvl pad i] [(ba i, .inr (3, [.int (nI (bid i)), .ref (wo i), .int (nI (pri i)), .int (nI (bst i)), .int (nI u), .int (zI (rvl i)), .int (zI (pad i))]))] (CW G z f h ol ob sc wc tk e0 k0 m0 e1 k1 m1 e2 k2 m2 lo bi ru la fib gra res lst byr ra rf ro rs ba bid wo pri bst (va_up rea i u) rvl pad we wk wm itm ia akf akg gt Y) := by
  have h := ((Fc.app _ (Fc.app _ (Fc.app _ (Fc.app _ (Fc.app _ (Fc.app _ (Fc.left _ (Fc.fpl (g := bidG G ba bid wo pri bst (va_up rea i u) rvl pad we wk wm itm ia akf akg gt) hi (fun j _ hj => by simp only [bidG, bidC, va_up_ne _ _ hj]) (Fc.left _ Fc.rfl'))))))))) : Fc (CW G z f h ol ob sc wc tk e0 k0 m0 e1 k1 m1 e2 k2 m2 lo bi ru la fib gra res lst byr ra rf ro rs ba bid wo pri bst rea rvl pad we wk wm itm ia akf akg gt Y) _ [bidC ba bid wo pri bst (va_up rea i u) rvl pad i] _)
  simp only [bidC, va_up_self] at h
  exact h.to hc
theorem cw_rvl (hc : w.Perm (CW G z f h ol ob sc wc tk e0 k0 m0 e1 k1 m1 e2 k2 m2 lo bi ru la fib gra res lst byr ra rf ro rs ba bid wo pri bst rea rvl pad we wk wm itm ia akf akg gt Y)) {i : Nat} (hi : i < bi) (u : Int) : Fc w [bidC ba bid wo pri bst rea rvl pad i] [(ba i, .inr (3, [.int (nI (bid i)), .ref (wo i), .int (nI (pri i)), .int (nI (bst i)), .int (nI (rea i)), .int (zI u), .int (zI (pad i))]))] (CW G z f h ol ob sc wc tk e0 k0 m0 e1 k1 m1 e2 k2 m2 lo bi ru la fib gra res lst byr ra rf ro rs ba bid wo pri bst rea (va_up rvl i u) pad we wk wm itm ia akf akg gt Y) := by
  have h := ((Fc.app _ (Fc.app _ (Fc.app _ (Fc.app _ (Fc.app _ (Fc.app _ (Fc.left _ (Fc.fpl (g := bidG G ba bid wo pri bst rea (va_up rvl i u) pad we wk wm itm ia akf akg gt) hi (fun j _ hj => by simp only [bidG, bidC, va_up_ne _ _ hj]) (Fc.left _ Fc.rfl'))))))))) : Fc (CW G z f h ol ob sc wc tk e0 k0 m0 e1 k1 m1 e2 k2 m2 lo bi ru la fib gra res lst byr ra rf ro rs ba bid wo pri bst rea rvl pad we wk wm itm ia akf akg gt Y) _ [bidC ba bid wo pri bst rea (va_up rvl i u) pad i] _)
  simp only [bidC, va_up_self] at h
  exact h.to hc
theorem cw_pad (hc : w.Perm (CW G z f h ol ob sc wc tk e0 k0 m0 e1 k1 m1 e2 k2 m2 lo bi ru la fib gra res lst byr ra rf ro rs ba bid wo pri bst rea rvl pad we wk wm itm ia akf akg gt Y)) {i : Nat} (hi : i < bi) (u : Int) : Fc w [bidC ba bid wo pri bst rea rvl pad i] [(ba i, .inr (3, [.int (nI (bid i)), .ref (wo i), .int (nI (pri i)), .int (nI (bst i)), .int (nI (rea i)), .int (zI (rvl i)), .int (zI u)]))] (CW G z f h ol ob sc wc tk e0 k0 m0 e1 k1 m1 e2 k2 m2 lo bi ru la fib gra res lst byr ra rf ro rs ba bid wo pri bst rea rvl (va_up pad i u) we wk wm itm ia akf akg gt Y) := by
  have h := ((Fc.app _ (Fc.app _ (Fc.app _ (Fc.app _ (Fc.app _ (Fc.app _ (Fc.left _ (Fc.fpl (g := bidG G ba bid wo pri bst rea rvl (va_up pad i u) we wk wm itm ia akf akg gt) hi (fun j _ hj => by simp only [bidG, bidC, va_up_ne _ _ hj]) (Fc.left _ Fc.rfl'))))))))) : Fc (CW G z f h ol ob sc wc tk e0 k0 m0 e1 k1 m1 e2 k2 m2 lo bi ru la fib gra res lst byr ra rf ro rs ba bid wo pri bst rea rvl pad we wk wm itm ia akf akg gt Y) _ [bidC ba bid wo pri bst rea rvl (va_up pad i u) i] _)
  simp only [bidC, va_up_self] at h
  exact h.to hc
theorem cw_gt (hc : w.Perm (CW G z f h ol ob sc wc tk e0 k0 m0 e1 k1 m1 e2 k2 m2 lo bi ru la fib gra res lst byr ra rf ro rs ba bid wo pri bst rea rvl pad we wk wm itm ia akf akg gt Y)) {b j : Nat} (hb : b < bi) (hj : j < itm b) (hi3 : ∀ k, itm k ≤ 3) (u : Int) : Fc w [itmC ia akf akg gt (3 * b + j)] [(ia (3 * b + j), .inr (5, [.int (nI (akf (3 * b + j))), .int (nI (akg (3 * b + j))), .int (zI u)]))] (CW G z f h ol ob sc wc tk e0 k0 m0 e1 k1 m1 e2 k2 m2 lo bi ru la fib gra res lst byr ra rf ro rs ba bid wo pri bst rea rvl pad we wk wm itm ia akf akg (va_up gt (3 * b + j) u) Y) := by
  have h := cw_itmU hc hb hj hi3 u
  simp only [itmC, va_up_self] at h
  exact h
end XCU
def names2 : List String := ["java/lang/RuntimeException", "java/lang/Exception"]
theorem names_ok : ∀ n ∈ names2, Bundle.fit n = true := by decide +kernel
theorem names_N : ∀ n ∈ ["java/lang/Exception"], Bundle.fit n = true := by decide +kernel
theorem y0_ok : Bundle.fit "java/lang/RuntimeException" = true := by decide +kernel
theorem nse_0 : decode prog_32_method_4_code 0 = .ok (.aload_n 0, 1) := by decide +kernel
theorem nse_1 : decode prog_32_method_4_code 1 = .ok (.aload_n 1, 1) := by decide +kernel
theorem nse_2 : decode prog_32_method_4_code 2 = .ok (.invokespecial 13, 3) := by decide +kernel
theorem nse_5 : decode prog_32_method_4_code 5 = .ok (.return_, 1) := by decide +kernel
def pl_IAE : List Nat := [68, 443, 452, 460, 463, 465, 444, 445, 96, 97, 446, 451, 461, 481, 433, 482, 435, 483, 437, 447, 449, 439, 477, 478, 480, 439, 468, 469, 470, 471, 425, 471, 472, 473, 474, 427, 474, 475, 476, 477, 429, 467, 422, 423, 430, 431, 432, 434, 436, 438, 442, 441, 440]
theorem fit_IAE : Bundle.fit "java/lang/IllegalArgumentException" = true := by decide +kernel
set_option maxRecDepth 100000 in
theorem at1_IAE : vx_atS RX6 48 "java/lang/IllegalArgumentException" names2 = pl_IAE.filterMap (fun i => lw_tbl[i]?) := by decide +kernel
set_option maxRecDepth 100000 in
theorem at2_IAE : (vx_atS RX6 48 "java/lang/IllegalArgumentException" names2).all (fun w => goodWord w || isN w) = true := by decide +kernel
set_option maxRecDepth 100000 in
theorem good_IAE : ∀ w ∈ Cond.classLink RX6 44 "java/lang/IllegalArgumentException" :: Cond.initialized "java/lang/IllegalArgumentException" :: vx_atS RX6 48 "java/lang/IllegalArgumentException" names2, vx_ot w = true := List.all_eq_true.mp (by decide +kernel)
def pl_ISE : List Nat := [68, 443, 452, 460, 463, 465, 444, 445, 96, 97, 446, 451, 461, 481, 433, 482, 435, 483, 437, 447, 449, 439, 477, 478, 480, 439, 504, 505, 506, 471, 425, 471, 472, 473, 474, 427, 474, 475, 476, 477, 429, 503, 494, 495, 496, 456, 497, 498, 499, 500, 442, 441, 501]
theorem fit_ISE : Bundle.fit "java/lang/IllegalStateException" = true := by decide +kernel
set_option maxRecDepth 100000 in
theorem at1_ISE : vx_atS RX6 63 "java/lang/IllegalStateException" names2 = pl_ISE.filterMap (fun i => lw_tbl[i]?) := by decide +kernel
set_option maxRecDepth 100000 in
theorem at2_ISE : (vx_atS RX6 63 "java/lang/IllegalStateException" names2).all (fun w => goodWord w || isN w) = true := by decide +kernel
set_option maxRecDepth 100000 in
theorem good_ISE : ∀ w ∈ Cond.classLink RX6 59 "java/lang/IllegalStateException" :: Cond.initialized "java/lang/IllegalStateException" :: vx_atS RX6 63 "java/lang/IllegalStateException" names2, vx_ot w = true := List.all_eq_true.mp (by decide +kernel)
def pl_NSE : List Nat := [68, 443, 452, 460, 463, 465, 444, 445, 96, 97, 446, 451, 461, 481, 433, 482, 435, 483, 437, 447, 449, 439, 477, 478, 480, 439, 619, 620, 621, 471, 425, 471, 472, 473, 474, 427, 474, 475, 476, 477, 429, 618, 609, 610, 611, 459, 612, 613, 614, 615, 442, 441, 616]
theorem fit_NSE : Bundle.fit "java/util/NoSuchElementException" = true := by decide +kernel
set_option maxRecDepth 100000 in
theorem at1_NSE : nx_at RX6 270 "java/util/NoSuchElementException" 13 prog_32_method_4_code "java/lang/RuntimeException" ["java/lang/Exception"] = pl_NSE.filterMap (fun i => lw_tbl[i]?) := by decide +kernel
set_option maxRecDepth 100000 in
theorem at2_NSE : (nx_at RX6 270 "java/util/NoSuchElementException" 13 prog_32_method_4_code "java/lang/RuntimeException" ["java/lang/Exception"]).all (fun w => goodWord w || isN w) = true := by decide +kernel
set_option maxRecDepth 100000 in
theorem good_NSE : ∀ w ∈ Cond.classLink RX6 266 "java/util/NoSuchElementException" :: Cond.initialized "java/util/NoSuchElementException" :: nx_at RX6 270 "java/util/NoSuchElementException" 13 prog_32_method_4_code "java/lang/RuntimeException" ["java/lang/Exception"], vx_ot w = true := List.all_eq_true.mp (by decide +kernel)
def pl_IOO : List Nat := [68, 443, 452, 460, 463, 465, 444, 445, 96, 97, 446, 451, 461, 481, 433, 482, 435, 483, 437, 447, 449, 439, 477, 478, 480, 439, 877, 878, 879, 471, 425, 471, 472, 473, 474, 427, 474, 475, 476, 477, 429, 913, 904, 905, 906, 457, 907, 908, 909, 910, 442, 441, 911]
theorem fit_IOO : Bundle.fit "java/lang/IndexOutOfBoundsException" = true := by decide +kernel
set_option maxRecDepth 100000 in
theorem at1_IOO : vx_atS RX6 282 "java/lang/IndexOutOfBoundsException" names2 = pl_IOO.filterMap (fun i => lw_tbl[i]?) := by decide +kernel
set_option maxRecDepth 100000 in
theorem at2_IOO : (vx_atS RX6 282 "java/lang/IndexOutOfBoundsException" names2).all (fun w => goodWord w || isN w) = true := by decide +kernel
set_option maxRecDepth 100000 in
theorem good_IOO : ∀ w ∈ Cond.classLink RX6 278 "java/lang/IndexOutOfBoundsException" :: Cond.initialized "java/lang/IndexOutOfBoundsException" :: vx_atS RX6 282 "java/lang/IndexOutOfBoundsException" names2, vx_ot w = true := List.all_eq_true.mp (by decide +kernel)
def pl_UOE : List Nat := [68, 443, 452, 460, 463, 465, 444, 445, 96, 97, 446, 451, 461, 481, 433, 482, 435, 483, 437, 447, 449, 439, 477, 478, 480, 439, 995, 996, 997, 471, 425, 471, 472, 473, 474, 427, 474, 475, 476, 477, 429, 994, 985, 986, 987, 458, 988, 989, 990, 991, 442, 441, 992]
theorem fit_UOE : Bundle.fit "java/lang/UnsupportedOperationException" = true := by decide +kernel
set_option maxRecDepth 100000 in
theorem at1_UOE : vx_atS RX6 224 "java/lang/UnsupportedOperationException" names2 = pl_UOE.filterMap (fun i => lw_tbl[i]?) := by decide +kernel
set_option maxRecDepth 100000 in
theorem at2_UOE : (vx_atS RX6 224 "java/lang/UnsupportedOperationException" names2).all (fun w => goodWord w || isN w) = true := by decide +kernel
set_option maxRecDepth 100000 in
theorem good_UOE : ∀ w ∈ Cond.classLink RX6 220 "java/lang/UnsupportedOperationException" :: Cond.initialized "java/lang/UnsupportedOperationException" :: vx_atS RX6 224 "java/lang/UnsupportedOperationException" names2, vx_ot w = true := List.all_eq_true.mp (by decide +kernel)
def pl_ARE : List Nat := [68, 443, 452, 460, 463, 465, 444, 445, 96, 97, 446, 451, 461, 481, 433, 482, 435, 483, 437, 447, 449, 439, 477, 478, 480, 439, 1047, 1048, 1049, 471, 425, 471, 472, 473, 474, 427, 474, 475, 476, 477, 429, 1065, 1046, 1057, 1058, 454, 1052, 1053, 1055, 1051, 442, 441, 1050]
theorem fit_ARE : Bundle.fit "java/lang/ArithmeticException" = true := by decide +kernel
set_option maxRecDepth 100000 in
theorem at1_ARE : vx_atS RX6 257 "java/lang/ArithmeticException" names2 = pl_ARE.filterMap (fun i => lw_tbl[i]?) := by decide +kernel
set_option maxRecDepth 100000 in
theorem at2_ARE : (vx_atS RX6 257 "java/lang/ArithmeticException" names2).all (fun w => goodWord w || isN w) = true := by decide +kernel
set_option maxRecDepth 100000 in
theorem good_ARE : ∀ w ∈ Cond.classLink RX6 253 "java/lang/ArithmeticException" :: Cond.initialized "java/lang/ArithmeticException" :: vx_atS RX6 257 "java/lang/ArithmeticException" names2, vx_ot w = true := List.all_eq_true.mp (by decide +kernel)
