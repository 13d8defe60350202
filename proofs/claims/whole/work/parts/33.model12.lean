/-- a sum of whole numbers over the places below n that are in p -/
def isum (p : Nat → Bool) (g : Nat → Int) (n : Nat) : Int := match n with
  | 0 => 0
  | n + 1 => isum p g n + (if p n = true then g n else 0)
theorem isum_t {p : Nat → Bool} {g : Nat → Int} {n : Nat} (h : p n = true) : isum p g (n + 1) = isum p g n + g n := by rw [isum, if_pos h]
theorem isum_f {p : Nat → Bool} {g : Nat → Int} {n : Nat} (h : p n = false) : isum p g (n + 1) = isum p g n := by rw [isum, if_neg (by rw [h]; decide), Int.add_zero]
theorem opn_surj {p : Nat → Bool} {n x : Nat} (hx : x < n) (hp : p x = true) : ∃ t, t < cntB p n ∧ qf (opn p n) t = x := by
  induction n with
  | zero => omega
  | succ n ih =>
    by_cases q : x = n
    · rw [q] at hp ⊢
      refine ⟨cntB p n, ?_, opn_new hp⟩
      rw [show cntB p (n + 1) = cntB p n + 1 from bsum_t hp]; omega
    · obtain ⟨t, h1, h2⟩ := ih (by omega)
      have := cntB_mono (p := p) (Nat.le_succ n)
      exact ⟨t, Nat.lt_of_lt_of_le h1 this, by rw [opn_old h1]; exact h2⟩
theorem cntB_none {p : Nat → Bool} {n : Nat} (h : ∀ x, x < n → p x = false) : cntB p n = 0 := by
  unfold cntB
  exact bsum_up (k := 0) (Nat.zero_le n) (fun j _ hj => h j hj)
theorem cntB_off {p q : Nat → Bool} {n k : Nat} (hk : k < n) (h1 : p k = true) (h2 : q k = false) (h : ∀ x, x ≠ k → q x = p x) : cntB q n + 1 = cntB p n := by
  have := bsum_ins (p := q) (q := p) (g := fun _ => 1) hk h2 h1 h
  unfold cntB; omega
theorem gvt_old {qu rs : Nat → Nat} {ql lc x y : Nat} (h : x < y) : (gvt qu ql lc rs y).testBit (gvl qu ql lc rs x) = true := by
  induction y with
  | zero => omega
  | succ y ih =>
    rw [gvt, or_at]
    by_cases q : x = y
    · rw [q]; unfold gvl; rw [decide_eq_true rfl, Bool.or_true]
    · rw [ih (by omega), Bool.true_or]
theorem gvl_ok {qu rs : Nat → Nat} {ql lc y : Nat} (hlc : lc ≤ 8) (h : rcv qu ql lc rs ql 0 < 1000000) (hy : y < ql) : gvl qu ql lc rs y < lc ∧ (gvt qu ql lc rs y).testBit (gvl qu ql lc rs y) = false := by
  obtain ⟨_, _, a3⟩ := gv_ok hlc h y (by omega)
  obtain ⟨b1, b2⟩ := gv_step (lc := lc) (rs := rs) (qu := qu) hy a3
  rw [gvP, Bool.and_eq_true, Bool.and_eq_true, Bool.not_eq_true'] at b2
  exact ⟨b1, b2.1.2⟩
theorem gvl_inj {qu rs : Nat → Nat} {ql lc x y : Nat} (hlc : lc ≤ 8) (h : rcv qu ql lc rs ql 0 < 1000000) (hx : x < ql) (hy : y < ql) (e : gvl qu ql lc rs x = gvl qu ql lc rs y) : x = y := by
  rcases Nat.lt_trichotomy x y with q | q | q
  · have h1 := gvt_old (qu := qu) (rs := rs) (ql := ql) (lc := lc) q
    rw [e, (gvl_ok hlc h hy).2] at h1; exact absurd h1 (by decide)
  · exact q
  · have h1 := gvt_old (qu := qu) (rs := rs) (ql := ql) (lc := lc) q
    rw [← e, (gvl_ok hlc h hx).2] at h1; exact absurd h1 (by decide)
set_option maxRecDepth 100000 in
set_option maxHeartbeats 4000000 in
theorem c_X7_close (l : Launch) (G : Gt) (a : Nat → Nat) (th lo bi ru ol ob : Nat) (tk : Int) (fib gra res buy lst bst rea bid pri itm akf akg got : Nat → Nat) (pai : Nat → Int) (riv rf ro rs lat bat : Nat → Nat) (val : Nat → Int) (cos row ahe wan giv : Nat → Nat) (Y : va_W) (hI : MIa lo bi ru ol ob fib gra res buy lst bst rea bid pri itm akf akg got pai riv rf ro rs) (hlat : ∀ k, lat k < 40) (hbat : ∀ k, bat k < 40) (hcos : ∀ x, cos x ≤ 2000000) (hrow : ∀ x, row x ≤ 2000000) (hahe : ∀ x, ahe x ≤ 2000000) (hwan : ∀ x, wan x < 120) (hgiv : ∀ x, giv x < 40) : Ci l G yX7_close (ww yX7_close cX7_close 5 (some FieldType.int)) (RM 14 0 0) [.ref (a 0)] (mW G a th lo bi ru ol ob tk fib gra res buy lst bst rea bid pri itm akf akg got pai riv rf ro rs lat bat val cos row ahe wan giv ++ Y) (fun r w2 => (ob = 0 ∧ r = nI 0 ∧ w2 = (mW G a 1 lo bi ru ol ob tk fib gra res buy lst bst rea bid pri itm akf akg got pai riv rf ro rs lat bat val cos row ahe wan giv ++ Y)) ∨ (ob ≠ 0 ∧ ∃ (la ba : Nat → Nat) (v2 : Nat → Int) (g2 r2 h2 u2 k2 : Nat → Nat) (P1 : Nat → Int) (R1 V1 S1 G1 B1 L1 : Nat → Nat) (t1 : Int) (sb mn : Nat), AllP lo bi ru ol ob fib gra res lst bst bid pri itm akf akg rf ro rs la ba v2 ∧ (∀ x, g2 x ≤ 2000000) ∧ (∀ x, r2 x ≤ 2000000) ∧ sb = (bsM v2 (fun k => bid (ba k)) ob (-1) 256) ∧ mn = (bsum sb.testBit (fun k => itm (ba k)) ob) ∧ mn ≤ ol ∧ (∀ x, x < mn → u2 x = qf (its sb.testBit (fun k => itm (ba k)) (fun q => 3 * ba (q / 3) + q % 3) ob) x) ∧ (∀ x, x < mn → k2 x = la (gvl (qf (its sb.testBit (fun k => itm (ba k)) (flM fib gra rf ro rs ru akf akg la ba ol) ob)) mn ol (fun l => res (la l)) x)) ∧ (∀ x, h2 x ≤ 2000000) ∧ (∀ x, u2 x < 120) ∧ (∀ x, k2 x < 40) ∧ (∀ x, (∀ j, j < ob → ba j ≠ x) → P1 x = pai x ∧ R1 x = rea x ∧ V1 x = riv x ∧ S1 x = bst x) ∧ (∀ j, j < ob → sb.testBit j = true → P1 (ba j) = ((((pri (ba j) : Nat) : Int) - v2 sb) + v2 (bsM v2 (fun k => bid (ba k)) ob ((bid (ba j) : Nat) : Int) 256)) ∧ S1 (ba j) = 119) ∧ (∀ j, j < ob → sb.testBit j = false → R1 (ba j) = (whyC (fun k => itm (ba k)) v2 (fun k => bid (ba k)) ob sb j) ∧ ((whyC (fun k => itm (ba k)) v2 (fun k => bid (ba k)) ob sb j) = 98 → V1 (ba j) = ba (fst1 (fun o => sb.testBit o && decide (bid (ba o) = bid (ba j))) ob)) ∧ S1 (ba j) = 108) ∧ t1 = tk + isum sb.testBit (fun k => ((((pri (ba k) : Nat) : Int) - v2 sb) + v2 (bsM v2 (fun k => bid (ba k)) ob ((bid (ba k) : Nat) : Int) 256))) ob ∧ (∀ x, x < mn → G1 (u2 x) = k2 x ∧ B1 (k2 x) = u2 x / 3 ∧ L1 (k2 x) = 115) ∧ (∀ y, (∀ x, x < mn → u2 x ≠ y) → G1 y = got y) ∧ (∀ y, (∀ x, x < mn → k2 x ≠ y) → B1 y = buy y ∧ L1 y = lst y) ∧ MIa lo bi ru (ol - mn) 0 fib gra res B1 L1 S1 R1 bid pri itm akf akg G1 P1 V1 rf ro rs ∧ r = nI mn ∧ w2 = (mW G a 0 lo bi ru (ol - mn) 0 t1 fib gra res B1 L1 S1 R1 bid pri itm akf akg G1 P1 V1 rf ro rs la ba v2 g2 r2 h2 u2 k2 ++ Y))) := by
  refine Ci.intro (by decide) (Nat.le_of_ble_eq_true rfl) ?_
  intro p e s m args below meth c A X hW ls hl
  have hx := X.exec
  have hb := X.bytes
  have hl : lv_has ls 5 [(0, .ref (a 0))] := hl
  obtain ⟨hlo, hbi, hru, hol, hob, hfib, hgra, hres, hbuy, hlst, hbst, hrea, hbid, hpri, hitm, hakf, hakg, hgot, hriv, hrf, hro, hrs, hpai, hcl, hcb⟩ := id hI
  have hcb : cntB (isO bst) bi = ob := hcb
  refine lv_aload_n hx hb dX7_close_0 rfl (lv_at hl 0 rfl) ?_
  refine x_get X hW 0 rfl 5 rfl rfl iwX7 (by decide) wq_1085 rfl dX7_close_1 ?_
  refine n_if_ne hx hb rfl (by omega) (tgt := 13) dX7_close_4 (by decide) (fun c_4 => ?_) (fun c_4 => ?_)
  · refine lv_aload_n hx hb dX7_close_13 rfl (lv_at hl 0 rfl) ?_
    refine lv_iconst (v := nI 0) hx hb dX7_close_14 (by decide) ?_
    refine x_put X hW 0 rfl 0 (w2 := (mW G a 0 lo bi ru ol ob tk fib gra res buy lst bst rea bid pri itm akf akg got pai riv rf ro rs lat bat val cos row ahe wan giv ++ Y)) rfl rfl iwX7 tyX7_ok nmX7 (by decide) wq_1080 rfl rfl rfl rfl (Nat.le_of_ble_eq_true rfl) dX7_close_15 (fun H locs hW => ?_)
    refine lv_aload_n hx hb dX7_close_18 rfl (lv_at hl 0 rfl) ?_
    refine go_v X hW (run_V X hW (As := []) (rest := []) 10 0 rfl (c_X7_all l G a 0 lo bi ru ol ob tk fib gra res buy lst bst rea bid pri itm akf akg got pai riv rf ro rs lat bat val cos row ahe wan giv Y hI hlat hbat hcos hrow _) (gi_V wq_1239 wq_1241 wq_47 wq_67 wq_1242) rfl hyX7_all rfl rfl rfl hl.1 (Nat.le_of_ble_eq_true rfl) ⟨Nat.le_of_ble_eq_true rfl, Nat.le_of_ble_eq_true rfl⟩ ⟨by decide, by decide⟩ dX7_close_19) (fun w2 H locs hp hW => ?_)
    obtain ⟨la, ba, v2, g2, r2, hA, hg2, hr2, rfl⟩ := hp
    obtain ⟨hla, hba, hlaE, hbaE, hv2, hF⟩ := id hA
    have hinj : ∀ x y, x < ob → y < ob → ba x = ba y → x = y := fun x y hx hy e => opn_inj (hcb.symm ▸ hx : x < cntB (isO bst) bi) (hcb.symm ▸ hy : y < cntB (isO bst) bi) (by rw [← hbaE x hx, ← hbaE y hy]; exact e)
    refine lv_aload_n hx hb dX7_close_22 rfl (lv_at hl 0 rfl) ?_
    refine lv_iconst (v := zI (-1)) hx hb dX7_close_23 (by decide) ?_
    refine go_i X hW (run_V X hW (As := [.int (zI (-1))]) (rest := []) 10 0 rfl (c_X7_best l G a 0 lo bi ru ol ob tk fib gra res buy lst bst rea bid pri itm akf akg got pai riv rf ro rs la ba v2 g2 r2 ahe wan giv Y (-1) hI (by omega) hba hv2 _) (gi_V wq_1265 wq_1267 wq_53 wq_67 wq_1268) rfl hyX7_best rfl rfl rfl hl.1 (Nat.le_of_ble_eq_true rfl) ⟨Nat.le_of_ble_eq_true rfl, Nat.le_of_ble_eq_true rfl⟩ ⟨by decide, by decide⟩ dX7_close_24) (fun r w2 H locs hp hW => ?_)
    obtain ⟨rfl, rfl⟩ := hp
    have hbs := best_PS (-1) hF
    have hbs1 := hbs.1
    refine lv_istore_n (lv' := [(1, .int (nI (bsM v2 (fun k => bid (ba k)) ob (-1) 256))), (0, .ref (a 0))]) hx hb dX7_close_27 rfl hl (by decide) rfl (fun ls hl => ?_)
    obtain ⟨sb, hsb⟩ : ∃ x, x = (bsM v2 (fun k => bid (ba k)) ob (-1) 256) := ⟨_, rfl⟩
    have hl : lv_has ls 5 [(1, .int (nI sb)), (0, .ref (a 0))] := by rw [hsb]; exact hl
    rw [← hsb] at hbs hbs1
    refine lv_aload_n hx hb dX7_close_28 rfl (lv_at hl 1 rfl) ?_
    refine lv_iload_n hx hb dX7_close_29 rfl (lv_at hl 0 rfl) ?_
    have hpc := PS_cost (rsv := (fun l => res (la l))) hol (fun k => hres (la k)) hbs.2.2.1
    refine go_i X hW (run_V X hW (As := [.int (nI sb)]) (rest := []) 10 0 rfl (c_X7_gives l G a 0 lo bi ru ol ob tk fib gra res buy lst bst rea bid pri itm akf akg got pai riv rf ro rs la ba v2 g2 r2 ahe wan giv Y sb hI (by omega) hla hba hahe hwan hgiv (Nat.le_trans hpc.1 hol) hpc.2 _) (gi_V wq_1272 wq_1274 wq_54 wq_67 wq_1275) rfl hyX7_gives rfl rfl rfl hl.1 (Nat.le_of_ble_eq_true rfl) ⟨Nat.le_of_ble_eq_true rfl, Nat.le_of_ble_eq_true rfl⟩ ⟨by decide, by decide⟩ dX7_close_30) (fun r w2 H locs hp hW => ?_)
    obtain ⟨h2, u2, k2, rfl, hu2, hk2, b1, b2, b3, rfl⟩ := hp
    refine lv_istore_n (lv' := [(2, .int (nI (bsum sb.testBit (fun k => itm (ba k)) ob))), (1, .int (nI sb)), (0, .ref (a 0))]) hx hb dX7_close_33 rfl hl (by decide) rfl (fun ls hl => ?_)
    obtain ⟨mn, hmn⟩ : ∃ x, x = (bsum sb.testBit (fun k => itm (ba k)) ob) := ⟨_, rfl⟩
    have hl : lv_has ls 5 [(2, .int (nI mn)), (1, .int (nI sb)), (0, .ref (a 0))] := by rw [hmn]; exact hl
    rw [← hmn] at hu2 hk2 hpc
    have hmn8 := Nat.le_trans hpc.1 hol
    have huj : ∀ x y, x < mn → y < mn → u2 x = u2 y → x = y := fun x y hx hy e => by
      obtain ⟨k, i, j1, j2, j3, j4⟩ := its_dec (show y < (bsum sb.testBit (fun k => itm (ba k)) ob) by rw [← hmn]; exact hy)
      have e2 := hu2 y hy
      rw [j4, (its_val j1 j2 j3).2] at e2
      have j5 : i < 3 := Nat.lt_of_lt_of_le j3 (hitm (ba k))
      have e3 : u2 y = 3 * ba k + i := by rw [j4, e2]; show 3 * ba ((k * 3 + i) / 3) + (k * 3 + i) % 3 = _; rw [show (k * 3 + i) / 3 = k by omega, show (k * 3 + i) % 3 = i by omega]
      rw [j4]
      exact its_wf (fun k => hitm (ba k)) hinj (show x < (bsum sb.testBit (fun k => itm (ba k)) ob) by rw [← hmn]; exact hx) j1 j2 j3 (by rw [← hu2 x hx, e]; exact e3)
    have hgo := fun x (hx : x < mn) => gvl_ok (qu := (qf (its sb.testBit (fun k => itm (ba k)) (flM fib gra rf ro rs ru akf akg la ba ol) ob))) (rs := (fun l => res (la l))) hol hpc.2 hx
    have hla2 := fun x (hx : x < mn) => hlaE _ (hgo x hx).1
    have hcl : cntB (isO lst) lo = ol := hcl
    have hlo2 : ∀ x, x < mn → k2 x < lo ∧ lst (k2 x) = 111 := fun x hx => by
      have h := opn_in (p := isO lst) (n := lo) (t := gvl (qf (its sb.testBit (fun k => itm (ba k)) (flM fib gra rf ro rs ru akf akg la ba ol) ob)) mn ol (fun l => res (la l)) x) (by rw [hcl]; exact (hgo x hx).1)
      rw [hk2 x hx, hla2 x hx]
      exact ⟨h.1, of_decide_eq_true h.2⟩
    have hkj : ∀ x y, x < mn → y < mn → k2 x = k2 y → x = y := fun x y hx hy e => by
      rw [hk2 x hx, hk2 y hy, hla2 x hx, hla2 y hy] at e
      exact gvl_inj hol hpc.2 hx hy (opn_inj (p := isO lst) (n := lo) (by rw [hcl]; exact (hgo x hx).1) (by rw [hcl]; exact (hgo y hy).1) e)
    have hpy : ∀ b, iR ((((pri b : Nat) : Int) - v2 sb) + v2 (bsM v2 (fun k => bid (ba k)) ob ((bid b : Nat) : Int) 256)) := fun b => by
      have q1 := hpri b
      have q2 := hv2 sb hbs1
      have q3 := hv2 _ (bsM_lt v2 (fun k => bid (ba k)) ob ((bid b : Nat) : Int) (n := 256) (by decide))
      constructor <;> omega
    have hpri2 := hpri
    refine lv_iconst (v := nI 0) hx hb dX7_close_34 (by decide) ?_
    refine lv_istore_n (lv' := [(3, .int (nI 0)), (2, .int (nI mn)), (1, .int (nI sb)), (0, .ref (a 0))]) hx hb dX7_close_35 rfl hl (by decide) rfl (fun ls hl => ?_)
    have loop : ∀ (n : Nat) (k : Nat) (P1 : Nat → Int) (R1 V1 : Nat → Nat), ob + 1 ≤ k + n → k ≤ ob → (∀ x, (∀ j, j < k → ba j ≠ x) → P1 x = pai x ∧ R1 x = rea x ∧ V1 x = riv x) → (∀ j, j < k → sb.testBit j = true → P1 (ba j) = ((((pri (ba j) : Nat) : Int) - v2 sb) + v2 (bsM v2 (fun k => bid (ba k)) ob ((bid (ba j) : Nat) : Int) 256))) → (∀ j, j < k → sb.testBit j = false → R1 (ba j) = (whyC (fun k => itm (ba k)) v2 (fun k => bid (ba k)) ob sb j) ∧ ((whyC (fun k => itm (ba k)) v2 (fun k => bid (ba k)) ob sb j) = 98 → V1 (ba j) = ba (fst1 (fun o => sb.testBit o && decide (bid (ba o) = bid (ba j))) ob))) → (∀ x, iR (P1 x)) → (∀ x, R1 x < 65536) → (∀ x, V1 x < 40) → ∀ (H : Heap) (locs : List Loc) (ls : Array Slot), Wd G A s (mW G a 0 lo bi ru ol ob tk fib gra res buy lst bst R1 bid pri itm akf akg got P1 V1 rf ro rs la ba v2 g2 r2 h2 u2 k2 ++ Y) H locs → lv_has ls 5 [(0, .ref (a 0)), (1, .int (nI sb)), (2, .int (nI mn)), (3, .int (nI k))] → W p l e (RM 14 0 0) s m args below meth c H locs 0 0 (MQ below (Qi G A (fun r w2 => (ob = 0 ∧ r = nI 0 ∧ w2 = (mW G a 1 lo bi ru ol ob tk fib gra res buy lst bst rea bid pri itm akf akg got pai riv rf ro rs lat bat val cos row ahe wan giv ++ Y)) ∨ (ob ≠ 0 ∧ ∃ (la ba : Nat → Nat) (v2 : Nat → Int) (g2 r2 h2 u2 k2 : Nat → Nat) (P1 : Nat → Int) (R1 V1 S1 G1 B1 L1 : Nat → Nat) (t1 : Int) (sb mn : Nat), AllP lo bi ru ol ob fib gra res lst bst bid pri itm akf akg rf ro rs la ba v2 ∧ (∀ x, g2 x ≤ 2000000) ∧ (∀ x, r2 x ≤ 2000000) ∧ sb = (bsM v2 (fun k => bid (ba k)) ob (-1) 256) ∧ mn = (bsum sb.testBit (fun k => itm (ba k)) ob) ∧ mn ≤ ol ∧ (∀ x, x < mn → u2 x = qf (its sb.testBit (fun k => itm (ba k)) (fun q => 3 * ba (q / 3) + q % 3) ob) x) ∧ (∀ x, x < mn → k2 x = la (gvl (qf (its sb.testBit (fun k => itm (ba k)) (flM fib gra rf ro rs ru akf akg la ba ol) ob)) mn ol (fun l => res (la l)) x)) ∧ (∀ x, h2 x ≤ 2000000) ∧ (∀ x, u2 x < 120) ∧ (∀ x, k2 x < 40) ∧ (∀ x, (∀ j, j < ob → ba j ≠ x) → P1 x = pai x ∧ R1 x = rea x ∧ V1 x = riv x ∧ S1 x = bst x) ∧ (∀ j, j < ob → sb.testBit j = true → P1 (ba j) = ((((pri (ba j) : Nat) : Int) - v2 sb) + v2 (bsM v2 (fun k => bid (ba k)) ob ((bid (ba j) : Nat) : Int) 256)) ∧ S1 (ba j) = 119) ∧ (∀ j, j < ob → sb.testBit j = false → R1 (ba j) = (whyC (fun k => itm (ba k)) v2 (fun k => bid (ba k)) ob sb j) ∧ ((whyC (fun k => itm (ba k)) v2 (fun k => bid (ba k)) ob sb j) = 98 → V1 (ba j) = ba (fst1 (fun o => sb.testBit o && decide (bid (ba o) = bid (ba j))) ob)) ∧ S1 (ba j) = 108) ∧ t1 = tk + isum sb.testBit (fun k => ((((pri (ba k) : Nat) : Int) - v2 sb) + v2 (bsM v2 (fun k => bid (ba k)) ob ((bid (ba k) : Nat) : Int) 256))) ob ∧ (∀ x, x < mn → G1 (u2 x) = k2 x ∧ B1 (k2 x) = u2 x / 3 ∧ L1 (k2 x) = 115) ∧ (∀ y, (∀ x, x < mn → u2 x ≠ y) → G1 y = got y) ∧ (∀ y, (∀ x, x < mn → k2 x ≠ y) → B1 y = buy y ∧ L1 y = lst y) ∧ MIa lo bi ru (ol - mn) 0 fib gra res B1 L1 S1 R1 bid pri itm akf akg G1 P1 V1 rf ro rs ∧ r = nI mn ∧ w2 = (mW G a 0 lo bi ru (ol - mn) 0 t1 fib gra res B1 L1 S1 R1 bid pri itm akf akg G1 P1 V1 rf ro rs la ba v2 g2 r2 h2 u2 k2 ++ Y)))) args s (RM 14 0 0).cells (RM 14 0 0).slots A) (F0 m 36 ls []) := by
      intro n
      induction n with
      | zero => intro k P1 R1 V1 d1 d2 i1 i2 i3 i4 i5 i6; exact absurd d1 (by omega)
      | succ n ih =>
        intro k P1 R1 V1 d1 d2 i1 i2 i3 i4 i5 i6 H locs ls hW hl
        have hI : MIa lo bi ru ol ob fib gra res buy lst bst R1 bid pri itm akf akg got P1 V1 rf ro rs := ⟨hlo, hbi, hru, hol, hob, hfib, hgra, hres, hbuy, hlst, hbst, i5, hbid, hpri, hitm, hakf, hakg, hgot, i6, hrf, hro, hrs, i4, hcl, hcb⟩
        have hbak := hba k
        have hbik := hbid (ba k)
        refine lv_iload_n hx hb dX7_close_36 rfl (lv_at hl 3 rfl) ?_
        refine lv_aload_n hx hb dX7_close_37 rfl (lv_at hl 0 rfl) ?_
        refine x_get X hW 0 rfl 5 rfl rfl iwX7 (by decide) wq_1085 rfl dX7_close_38 ?_
        refine n_icmp_ge hx hb rfl rfl (by omega) (by omega) (tgt := 97) dX7_close_41 (by decide) (fun c_41 => ?_) (fun c_41 => ?_)
        · refine lv_iconst (v := nI 0) hx hb dX7_close_97 (by decide) ?_
          refine lv_istore_n (lv' := [(3, .int (nI 0)), (0, .ref (a 0)), (1, .int (nI sb)), (2, .int (nI mn))]) hx hb dX7_close_98 rfl hl (by decide) rfl (fun ls hl => ?_)
          have i1 := fun x (hx : ∀ j, j < ob → ba j ≠ x) => i1 x (fun j hj => hx j (by omega))
          have i2 := fun j (hj : j < ob) => i2 j (by omega)
          have i3 := fun j (hj : j < ob) => i3 j (by omega)
          have loop2 : ∀ (n : Nat) (k : Nat) (S1 : Nat → Nat) (t1 : Int), ob + 1 ≤ k + n → k ≤ ob → (∀ x, (∀ j, j < k → ba j ≠ x) → S1 x = bst x) → (∀ j, j < k → S1 (ba j) = if sb.testBit j = true then 119 else 108) → t1 = tk + isum sb.testBit (fun k => ((((pri (ba k) : Nat) : Int) - v2 sb) + v2 (bsM v2 (fun k => bid (ba k)) ob ((bid (ba k) : Nat) : Int) 256))) k → (∀ x, S1 x < 65536) → ∀ (H : Heap) (locs : List Loc) (ls : Array Slot), Wd G A s (mW G a 0 lo bi ru ol ob t1 fib gra res buy lst S1 R1 bid pri itm akf akg got P1 V1 rf ro rs la ba v2 g2 r2 h2 u2 k2 ++ Y) H locs → lv_has ls 5 [(0, .ref (a 0)), (1, .int (nI sb)), (2, .int (nI mn)), (3, .int (nI k))] → W p l e (RM 14 0 0) s m args below meth c H locs 0 0 (MQ below (Qi G A (fun r w2 => (ob = 0 ∧ r = nI 0 ∧ w2 = (mW G a 1 lo bi ru ol ob tk fib gra res buy lst bst rea bid pri itm akf akg got pai riv rf ro rs lat bat val cos row ahe wan giv ++ Y)) ∨ (ob ≠ 0 ∧ ∃ (la ba : Nat → Nat) (v2 : Nat → Int) (g2 r2 h2 u2 k2 : Nat → Nat) (P1 : Nat → Int) (R1 V1 S1 G1 B1 L1 : Nat → Nat) (t1 : Int) (sb mn : Nat), AllP lo bi ru ol ob fib gra res lst bst bid pri itm akf akg rf ro rs la ba v2 ∧ (∀ x, g2 x ≤ 2000000) ∧ (∀ x, r2 x ≤ 2000000) ∧ sb = (bsM v2 (fun k => bid (ba k)) ob (-1) 256) ∧ mn = (bsum sb.testBit (fun k => itm (ba k)) ob) ∧ mn ≤ ol ∧ (∀ x, x < mn → u2 x = qf (its sb.testBit (fun k => itm (ba k)) (fun q => 3 * ba (q / 3) + q % 3) ob) x) ∧ (∀ x, x < mn → k2 x = la (gvl (qf (its sb.testBit (fun k => itm (ba k)) (flM fib gra rf ro rs ru akf akg la ba ol) ob)) mn ol (fun l => res (la l)) x)) ∧ (∀ x, h2 x ≤ 2000000) ∧ (∀ x, u2 x < 120) ∧ (∀ x, k2 x < 40) ∧ (∀ x, (∀ j, j < ob → ba j ≠ x) → P1 x = pai x ∧ R1 x = rea x ∧ V1 x = riv x ∧ S1 x = bst x) ∧ (∀ j, j < ob → sb.testBit j = true → P1 (ba j) = ((((pri (ba j) : Nat) : Int) - v2 sb) + v2 (bsM v2 (fun k => bid (ba k)) ob ((bid (ba j) : Nat) : Int) 256)) ∧ S1 (ba j) = 119) ∧ (∀ j, j < ob → sb.testBit j = false → R1 (ba j) = (whyC (fun k => itm (ba k)) v2 (fun k => bid (ba k)) ob sb j) ∧ ((whyC (fun k => itm (ba k)) v2 (fun k => bid (ba k)) ob sb j) = 98 → V1 (ba j) = ba (fst1 (fun o => sb.testBit o && decide (bid (ba o) = bid (ba j))) ob)) ∧ S1 (ba j) = 108) ∧ t1 = tk + isum sb.testBit (fun k => ((((pri (ba k) : Nat) : Int) - v2 sb) + v2 (bsM v2 (fun k => bid (ba k)) ob ((bid (ba k) : Nat) : Int) 256))) ob ∧ (∀ x, x < mn → G1 (u2 x) = k2 x ∧ B1 (k2 x) = u2 x / 3 ∧ L1 (k2 x) = 115) ∧ (∀ y, (∀ x, x < mn → u2 x ≠ y) → G1 y = got y) ∧ (∀ y, (∀ x, x < mn → k2 x ≠ y) → B1 y = buy y ∧ L1 y = lst y) ∧ MIa lo bi ru (ol - mn) 0 fib gra res B1 L1 S1 R1 bid pri itm akf akg G1 P1 V1 rf ro rs ∧ r = nI mn ∧ w2 = (mW G a 0 lo bi ru (ol - mn) 0 t1 fib gra res B1 L1 S1 R1 bid pri itm akf akg G1 P1 V1 rf ro rs la ba v2 g2 r2 h2 u2 k2 ++ Y)))) args s (RM 14 0 0).cells (RM 14 0 0).slots A) (F0 m 99 ls []) := by
            intro n
            induction n with
            | zero => intro k S1 t1 d1 d2 q1 q2 q3 q4; exact absurd d1 (by omega)
            | succ n ih =>
              intro k S1 t1 d1 d2 q1 q2 q3 q4 H locs ls hW hl
              have hbak := hba k
              refine lv_iload_n hx hb dX7_close_99 rfl (lv_at hl 3 rfl) ?_
              refine lv_aload_n hx hb dX7_close_100 rfl (lv_at hl 0 rfl) ?_
              refine x_get X hW 0 rfl 5 rfl rfl iwX7 (by decide) wq_1085 rfl dX7_close_101 ?_
              refine n_icmp_ge hx hb rfl rfl (by omega) (by omega) (tgt := 173) dX7_close_104 (by decide) (fun c_104 => ?_) (fun c_104 => ?_)
              · refine lv_iconst (v := nI 0) hx hb dX7_close_173 (by decide) ?_
                refine lv_istore_n (lv' := [(3, .int (nI 0)), (0, .ref (a 0)), (1, .int (nI sb)), (2, .int (nI mn))]) hx hb dX7_close_174 rfl hl (by decide) rfl (fun ls hl => ?_)
                have loop3 : ∀ (n : Nat) (i : Nat) (G1 B1 L1 : Nat → Nat), mn + 1 ≤ i + n → i ≤ mn → (∀ x, x < i → G1 (u2 x) = k2 x ∧ B1 (k2 x) = u2 x / 3 ∧ L1 (k2 x) = 115) → (∀ y, (∀ x, x < i → u2 x ≠ y) → G1 y = got y) → (∀ y, (∀ x, x < i → k2 x ≠ y) → B1 y = buy y ∧ L1 y = lst y) → cntB (isO L1) lo + i = ol → (∀ x, G1 x < 40) → (∀ x, B1 x < 40) → (∀ x, L1 x < 65536) → ∀ (H : Heap) (locs : List Loc) (ls : Array Slot), Wd G A s (mW G a 0 lo bi ru ol ob t1 fib gra res B1 L1 S1 R1 bid pri itm akf akg G1 P1 V1 rf ro rs la ba v2 g2 r2 h2 u2 k2 ++ Y) H locs → lv_has ls 5 [(0, .ref (a 0)), (1, .int (nI sb)), (2, .int (nI mn)), (3, .int (nI i))] → W p l e (RM 14 0 0) s m args below meth c H locs 0 0 (MQ below (Qi G A (fun r w2 => (ob = 0 ∧ r = nI 0 ∧ w2 = (mW G a 1 lo bi ru ol ob tk fib gra res buy lst bst rea bid pri itm akf akg got pai riv rf ro rs lat bat val cos row ahe wan giv ++ Y)) ∨ (ob ≠ 0 ∧ ∃ (la ba : Nat → Nat) (v2 : Nat → Int) (g2 r2 h2 u2 k2 : Nat → Nat) (P1 : Nat → Int) (R1 V1 S1 G1 B1 L1 : Nat → Nat) (t1 : Int) (sb mn : Nat), AllP lo bi ru ol ob fib gra res lst bst bid pri itm akf akg rf ro rs la ba v2 ∧ (∀ x, g2 x ≤ 2000000) ∧ (∀ x, r2 x ≤ 2000000) ∧ sb = (bsM v2 (fun k => bid (ba k)) ob (-1) 256) ∧ mn = (bsum sb.testBit (fun k => itm (ba k)) ob) ∧ mn ≤ ol ∧ (∀ x, x < mn → u2 x = qf (its sb.testBit (fun k => itm (ba k)) (fun q => 3 * ba (q / 3) + q % 3) ob) x) ∧ (∀ x, x < mn → k2 x = la (gvl (qf (its sb.testBit (fun k => itm (ba k)) (flM fib gra rf ro rs ru akf akg la ba ol) ob)) mn ol (fun l => res (la l)) x)) ∧ (∀ x, h2 x ≤ 2000000) ∧ (∀ x, u2 x < 120) ∧ (∀ x, k2 x < 40) ∧ (∀ x, (∀ j, j < ob → ba j ≠ x) → P1 x = pai x ∧ R1 x = rea x ∧ V1 x = riv x ∧ S1 x = bst x) ∧ (∀ j, j < ob → sb.testBit j = true → P1 (ba j) = ((((pri (ba j) : Nat) : Int) - v2 sb) + v2 (bsM v2 (fun k => bid (ba k)) ob ((bid (ba j) : Nat) : Int) 256)) ∧ S1 (ba j) = 119) ∧ (∀ j, j < ob → sb.testBit j = false → R1 (ba j) = (whyC (fun k => itm (ba k)) v2 (fun k => bid (ba k)) ob sb j) ∧ ((whyC (fun k => itm (ba k)) v2 (fun k => bid (ba k)) ob sb j) = 98 → V1 (ba j) = ba (fst1 (fun o => sb.testBit o && decide (bid (ba o) = bid (ba j))) ob)) ∧ S1 (ba j) = 108) ∧ t1 = tk + isum sb.testBit (fun k => ((((pri (ba k) : Nat) : Int) - v2 sb) + v2 (bsM v2 (fun k => bid (ba k)) ob ((bid (ba k) : Nat) : Int) 256))) ob ∧ (∀ x, x < mn → G1 (u2 x) = k2 x ∧ B1 (k2 x) = u2 x / 3 ∧ L1 (k2 x) = 115) ∧ (∀ y, (∀ x, x < mn → u2 x ≠ y) → G1 y = got y) ∧ (∀ y, (∀ x, x < mn → k2 x ≠ y) → B1 y = buy y ∧ L1 y = lst y) ∧ MIa lo bi ru (ol - mn) 0 fib gra res B1 L1 S1 R1 bid pri itm akf akg G1 P1 V1 rf ro rs ∧ r = nI mn ∧ w2 = (mW G a 0 lo bi ru (ol - mn) 0 t1 fib gra res B1 L1 S1 R1 bid pri itm akf akg G1 P1 V1 rf ro rs la ba v2 g2 r2 h2 u2 k2 ++ Y)))) args s (RM 14 0 0).cells (RM 14 0 0).slots A) (F0 m 175 ls []) := by
                  intro n
                  induction n with
                  | zero => intro i G1 B1 L1 e1 e2 o1 o2 o3 o4 o5 o6 o7; exact absurd e1 (by omega)
                  | succ n ih =>
                    intro i G1 B1 L1 e1 e2 o1 o2 o3 o4 o5 o6 o7 H locs ls hW hl
                    have hk3 := b3
                    have hu3 := b2
                    refine lv_iload_n hx hb dX7_close_175 rfl (lv_at hl 3 rfl) ?_
                    refine lv_iload_n hx hb dX7_close_176 rfl (lv_at hl 2 rfl) ?_
                    refine n_icmp_ge hx hb rfl rfl (by omega) (by omega) (tgt := 235) dX7_close_177 (by decide) (fun c_177 => ?_) (fun c_177 => ?_)
                    · refine lv_aload_n hx hb dX7_close_235 rfl (lv_at hl 0 rfl) ?_
                      refine lv_iconst (v := nI 0) hx hb dX7_close_236 (by decide) ?_
                      refine x_put X hW 0 rfl 5 (w2 := (mW G a 0 lo bi ru ol 0 t1 fib gra res B1 L1 S1 R1 bid pri itm akf akg G1 P1 V1 rf ro rs la ba v2 g2 r2 h2 u2 k2 ++ Y)) rfl rfl iwX7 tyX7_ok nmX7 (by decide) wq_1085 rfl rfl rfl rfl (Nat.le_of_ble_eq_true rfl) dX7_close_237 (fun H locs hW => ?_)
                      refine lv_aload_n hx hb dX7_close_240 rfl (lv_at hl 0 rfl) ?_
                      refine lv_dup hx hb dX7_close_241 rfl ?_
                      refine x_get X hW 0 rfl 4 rfl rfl iwX7 (by decide) wq_1084 rfl dX7_close_242 ?_
                      refine lv_iload_n hx hb dX7_close_245 rfl (lv_at hl 2 rfl) ?_
                      refine n_isub hx hb (by omega) dX7_close_246 ?_
                      refine x_put X hW 0 rfl 4 (w2 := (mW G a 0 lo bi ru (ol - mn) 0 t1 fib gra res B1 L1 S1 R1 bid pri itm akf akg G1 P1 V1 rf ro rs la ba v2 g2 r2 h2 u2 k2 ++ Y)) rfl rfl iwX7 tyX7_ok nmX7 (by decide) wq_1084 rfl rfl rfl rfl (Nat.le_of_ble_eq_true rfl) dX7_close_247 (fun H locs hW => ?_)
                      refine lv_iload_n hx hb dX7_close_250 rfl (lv_at hl 2 rfl) ?_
                      have hmi : i = mn := by omega
                      have hS0 : cntB (isO S1) bi = 0 := cntB_none (fun x hx => by
                        rcases Classical.em (∃ j, j < ob ∧ ba j = x) with q | q
                        · obtain ⟨j, hj, e⟩ := q
                          show decide (S1 x = 111) = false
                          rw [← e, q2 j (by omega)]
                          split <;> rfl
                        · show decide (S1 x = 111) = false
                          refine decide_eq_false (fun h => ?_)
                          rw [q1 x (fun j hj e => q ⟨j, by omega, e⟩)] at h
                          obtain ⟨t, ht1, ht2⟩ := opn_surj (p := isO bst) hx (decide_eq_true h)
                          rw [hcb] at ht1
                          exact q ⟨t, ht1, by rw [hbaE t ht1]; exact ht2⟩)
                      have hk8 : k = ob := by omega
                      have hMI : MIa lo bi ru (ol - mn) 0 fib gra res B1 L1 S1 R1 bid pri itm akf akg G1 P1 V1 rf ro rs := ⟨hlo, hbi, hru, (by omega), (Nat.zero_le 8), hfib, hgra, hres, o6, o7, q4, i5, hbid, hpri, hitm, hakf, hakg, o5, i6, hrf, hro, hrs, i4, (by show cntB (isO L1) lo = ol - mn; omega), hS0⟩
                      have hF0 : (∀ x, (∀ j, j < ob → ba j ≠ x) → P1 x = pai x ∧ R1 x = rea x ∧ V1 x = riv x ∧ S1 x = bst x) := fun x hx => ⟨(i1 x (fun j hj => hx j (by omega))).1, (i1 x (fun j hj => hx j (by omega))).2.1, (i1 x (fun j hj => hx j (by omega))).2.2, q1 x (fun j hj => hx j (by omega))⟩
                      have hF1 : (∀ j, j < ob → sb.testBit j = true → P1 (ba j) = ((((pri (ba j) : Nat) : Int) - v2 sb) + v2 (bsM v2 (fun k => bid (ba k)) ob ((bid (ba j) : Nat) : Int) 256)) ∧ S1 (ba j) = 119) := fun j hj hb => ⟨i2 j (by omega) hb, by rw [q2 j (by omega), if_pos hb]⟩
                      have hF2 : (∀ j, j < ob → sb.testBit j = false → R1 (ba j) = (whyC (fun k => itm (ba k)) v2 (fun k => bid (ba k)) ob sb j) ∧ ((whyC (fun k => itm (ba k)) v2 (fun k => bid (ba k)) ob sb j) = 98 → V1 (ba j) = ba (fst1 (fun o => sb.testBit o && decide (bid (ba o) = bid (ba j))) ob)) ∧ S1 (ba j) = 108) := fun j hj hb => ⟨(i3 j (by omega) hb).1, (i3 j (by omega) hb).2, by rw [q2 j (by omega), hb]; rfl⟩
                      have hF3 : t1 = tk + isum sb.testBit (fun k => ((((pri (ba k) : Nat) : Int) - v2 sb) + v2 (bsM v2 (fun k => bid (ba k)) ob ((bid (ba k) : Nat) : Int) 256))) ob := by have q := q3; rw [hk8] at q; exact q
                      have hF4 : (∀ x, x < mn → G1 (u2 x) = k2 x ∧ B1 (k2 x) = u2 x / 3 ∧ L1 (k2 x) = 115) := fun x hx => o1 x (by omega)
                      have hF5 : (∀ y, (∀ x, x < mn → u2 x ≠ y) → G1 y = got y) := fun y hy => o2 y (fun x hx => hy x (by omega))
                      have hF6 : (∀ y, (∀ x, x < mn → k2 x ≠ y) → B1 y = buy y ∧ L1 y = lst y) := fun y hy => o3 y (fun x hx => hy x (by omega))
                      exact ret_i X hW (v := (nI mn)) (Or.inr ⟨by omega, la, ba, v2, g2, r2, h2, u2, k2, P1, R1, V1, S1, G1, B1, L1, t1, sb, mn, hA, hg2, hr2, hsb, hmn, hpc.1, hu2, hk2, b1, b2, b3, hF0, hF1, hF2, hF3, hF4, hF5, hF6, hMI, rfl, rfl⟩) rfl (by decide) (by decide) dX7_close_251
                    · refine lv_aload_n hx hb dX7_close_180 rfl (lv_at hl 0 rfl) ?_
                      refine x_get X hW 0 rfl 19 rfl rfl iwX7 (by decide) wq_1099 rfl dX7_close_181 ?_
                      refine lv_aload_n hx hb dX7_close_184 rfl (lv_at hl 0 rfl) ?_
                      refine x_get X hW 0 rfl 31 rfl rfl iwX7 (by decide) wq_1111 rfl dX7_close_185 ?_
                      refine lv_iload_n hx hb dX7_close_188 rfl (lv_at hl 3 rfl) ?_
                      refine n_iald X hW (n := 8) (f := u2) 25 rfl (by omega) (by decide) dX7_close_189 ?_
                      refine lv_aload_n hx hb dX7_close_190 rfl (lv_at hl 0 rfl) ?_
                      refine x_get X hW 0 rfl 32 rfl rfl iwX7 (by decide) wq_1112 rfl dX7_close_191 ?_
                      refine lv_iload_n hx hb dX7_close_194 rfl (lv_at hl 3 rfl) ?_
                      refine n_iald X hW (n := 8) (f := k2) 26 rfl (by omega) (by decide) dX7_close_195 ?_
                      refine n_iast X hW (n := 120) (f := G1) 13 rfl (w2 := (mW G a 0 lo bi ru ol ob t1 fib gra res B1 L1 S1 R1 bid pri itm akf akg (va_up G1 (u2 i) (k2 i)) P1 V1 rf ro rs la ba v2 g2 r2 h2 u2 k2 ++ Y)) rfl (hu3 i) (by decide) dX7_close_196 (fun H locs hW => ?_)
                      refine lv_aload_n hx hb dX7_close_197 rfl (lv_at hl 0 rfl) ?_
                      refine x_get X hW 0 rfl 10 rfl rfl iwX7 (by decide) wq_1090 rfl dX7_close_198 ?_
                      refine lv_aload_n hx hb dX7_close_201 rfl (lv_at hl 0 rfl) ?_
                      refine x_get X hW 0 rfl 32 rfl rfl iwX7 (by decide) wq_1112 rfl dX7_close_202 ?_
                      refine lv_iload_n hx hb dX7_close_205 rfl (lv_at hl 3 rfl) ?_
                      refine n_iald X hW (n := 8) (f := k2) 26 rfl (by omega) (by decide) dX7_close_206 ?_
                      refine lv_aload_n hx hb dX7_close_207 rfl (lv_at hl 0 rfl) ?_
                      refine x_get X hW 0 rfl 31 rfl rfl iwX7 (by decide) wq_1111 rfl dX7_close_208 ?_
                      refine lv_iload_n hx hb dX7_close_211 rfl (lv_at hl 3 rfl) ?_
                      refine n_iald X hW (n := 8) (f := u2) 25 rfl (by omega) (by decide) dX7_close_212 ?_
                      refine lv_iconst (v := nI 3) hx hb dX7_close_213 (by decide) ?_
                      refine n_idiv3 hx hb (hu3 i) dX7_close_214 ?_
                      refine n_iast X hW (n := 40) (f := B1) 4 rfl (w2 := (mW G a 0 lo bi ru ol ob t1 fib gra res (va_up B1 (k2 i) ((u2 i) / 3)) L1 S1 R1 bid pri itm akf akg (va_up G1 (u2 i) (k2 i)) P1 V1 rf ro rs la ba v2 g2 r2 h2 u2 k2 ++ Y)) rfl (hk3 i) (by decide) dX7_close_215 (fun H locs hW => ?_)
                      refine lv_aload_n hx hb dX7_close_216 rfl (lv_at hl 0 rfl) ?_
                      refine x_get X hW 0 rfl 11 rfl rfl iwX7 (by decide) wq_1091 rfl dX7_close_217 ?_
                      refine lv_aload_n hx hb dX7_close_220 rfl (lv_at hl 0 rfl) ?_
                      refine x_get X hW 0 rfl 32 rfl rfl iwX7 (by decide) wq_1112 rfl dX7_close_221 ?_
                      refine lv_iload_n hx hb dX7_close_224 rfl (lv_at hl 3 rfl) ?_
                      refine n_iald X hW (n := 8) (f := k2) 26 rfl (by omega) (by decide) dX7_close_225 ?_
                      refine lv_bipush (v := nI 115) hx hb dX7_close_226 (by decide) ?_
                      refine n_cast X hW (n := 40) (f := L1) 5 rfl (w2 := (mW G a 0 lo bi ru ol ob t1 fib gra res (va_up B1 (k2 i) ((u2 i) / 3)) (va_up L1 (k2 i) 115) S1 R1 bid pri itm akf akg (va_up G1 (u2 i) (k2 i)) P1 V1 rf ro rs la ba v2 g2 r2 h2 u2 k2 ++ Y)) rfl (hk3 i) (by decide) (by decide) dX7_close_228 (fun H locs hW => ?_)
                      refine lv_iinc (v := (nI (i + 1))) (lv' := [(3, .int (nI (i + 1))), (0, .ref (a 0)), (1, .int (nI sb)), (2, .int (nI mn))]) hx hb dX7_close_229 hl (k := 3) rfl (nI_add _ _) (by decide) rfl (fun ls hl => ?_)
                      refine lv_goto (tgt := 175) hx hb dX7_close_232 (by decide) ?_
                      have nK1 : ∀ x, x < i + 1 → va_up G1 (u2 i) (k2 i) (u2 x) = k2 x ∧ va_up B1 (k2 i) (u2 i / 3) (k2 x) = u2 x / 3 ∧ va_up L1 (k2 i) 115 (k2 x) = 115 := fun x hx => by
                        unfold va_up
                        rcases Nat.lt_or_ge x i with q | q
                        · rw [if_neg (fun e => absurd (huj x i (by omega) (by omega) e) (by omega)), if_neg (fun e => absurd (hkj x i (by omega) (by omega) e) (by omega)), if_neg (fun e => absurd (hkj x i (by omega) (by omega) e) (by omega))]
                          exact o1 x q
                        · rw [show x = i by omega, if_pos rfl, if_pos rfl, if_pos rfl]; exact ⟨rfl, rfl, rfl⟩
                      have nK2 : ∀ y, (∀ x, x < i + 1 → u2 x ≠ y) → va_up G1 (u2 i) (k2 i) y = got y := fun y hy => by
                        unfold va_up
                        rw [if_neg (fun q => hy i (by omega) q.symm)]
                        exact o2 y (fun x hx => hy x (by omega))
                      have nK3 : ∀ y, (∀ x, x < i + 1 → k2 x ≠ y) → va_up B1 (k2 i) (u2 i / 3) y = buy y ∧ va_up L1 (k2 i) 115 y = lst y := fun y hy => by
                        unfold va_up
                        rw [if_neg (fun q => hy i (by omega) q.symm), if_neg (fun q => hy i (by omega) q.symm)]
                        exact o3 y (fun x hx => hy x (by omega))
                      have hLi : L1 (k2 i) = 111 := by rw [(o3 (k2 i) (fun x hx q => absurd (hkj x i (by omega) (by omega) q) (by omega))).2]; exact (hlo2 i (by omega)).2
                      have nK4 : cntB (isO (va_up L1 (k2 i) 115)) lo + (i + 1) = ol := by
                        have := cntB_off (p := isO L1) (q := isO (va_up L1 (k2 i) 115)) (hlo2 i (by omega)).1 (decide_eq_true hLi) (by unfold isO va_up; rw [if_pos rfl]; rfl) (fun x hx => by unfold isO va_up; rw [if_neg hx])
                        omega
                      exact ih (i + 1) _ _ _ (by omega) (by omega) nK1 nK2 nK3 nK4 (fun x => by unfold va_up; split; exact hk3 i; exact o5 x) (fun x => by unfold va_up; split; have := hu3 i; omega; exact o6 x) (fun x => by unfold va_up; split; decide; exact o7 x) _ _ _ hW (lv_sub hl [1, 2, 3, 0] rfl)
                exact loop3 (mn + 1) 0 got buy lst (by omega) (by omega) (fun x hx => absurd hx (Nat.not_lt_zero x)) (fun _ _ => rfl) (fun _ _ => ⟨rfl, rfl⟩) hcl hgot hbuy hlst _ _ _ hW (lv_sub hl [1, 2, 3, 0] rfl)
              · refine lv_aload_n hx hb dX7_close_107 rfl (lv_at hl 0 rfl) ?_
                refine x_get X hW 0 rfl 26 rfl rfl iwX7 (by decide) wq_1106 rfl dX7_close_108 ?_
                refine lv_iload_n hx hb dX7_close_111 rfl (lv_at hl 3 rfl) ?_
                refine n_iald X hW (n := 8) (f := ba) 20 rfl (by omega) (by decide) dX7_close_112 ?_
                refine lv_istore (lv' := [(4, .int (nI (ba k))), (0, .ref (a 0)), (1, .int (nI sb)), (2, .int (nI mn)), (3, .int (nI k))]) hx hb dX7_close_113 hl (by decide) rfl (fun ls hl => ?_)
                refine lv_aload_n hx hb dX7_close_115 rfl (lv_at hl 1 rfl) ?_
                refine x_get X hW 0 rfl 12 rfl rfl iwX7 (by decide) wq_1092 rfl dX7_close_116 ?_
                refine lv_iload hx hb dX7_close_119 (lv_at hl 0 rfl) ?_
                refine lv_iload_n hx hb dX7_close_121 rfl (lv_at hl 2 rfl) ?_
                refine lv_iload_n hx hb dX7_close_122 rfl (lv_at hl 4 rfl) ?_
                refine n_ishr hx hb (by omega) (by omega) dX7_close_123 ?_
                refine lv_iconst (v := nI 1) hx hb dX7_close_124 (by decide) ?_
                refine n_iand hx hb dX7_close_125 ?_
                refine lv_iconst (v := nI 1) hx hb dX7_close_126 (by decide) ?_
                refine n_icmp_ne hx hb rfl rfl (by have := sh1_le sb k; omega) (by omega) (tgt := 135) dX7_close_127 (by decide) (fun c_127 => ?_) (fun c_127 => ?_)
                · refine lv_bipush (v := nI 108) hx hb dX7_close_135 (by decide) ?_
                  refine n_cast X hW (n := 40) (f := S1) 6 rfl (w2 := (mW G a 0 lo bi ru ol ob t1 fib gra res buy lst (va_up S1 (ba k) 108) R1 bid pri itm akf akg got P1 V1 rf ro rs la ba v2 g2 r2 h2 u2 k2 ++ Y)) rfl (hba k) (by decide) (by omega) dX7_close_137 (fun H locs hW => ?_)
                  refine lv_aload_n hx hb dX7_close_138 rfl (lv_at hl 1 rfl) ?_
                  refine x_get X hW 0 rfl 12 rfl rfl iwX7 (by decide) wq_1092 rfl dX7_close_139 ?_
                  refine lv_iload hx hb dX7_close_142 (lv_at hl 0 rfl) ?_
                  refine n_cald X hW (n := 40) (f := (va_up S1 (ba k) 108)) 6 rfl (hba k) (by decide) dX7_close_144 ?_
                  refine r_n (up_eq _ _ _) ?_
                  refine lv_bipush (v := nI 119) hx hb dX7_close_145 (by decide) ?_
                  refine n_icmp_ne hx hb rfl rfl (by omega) (by omega) (tgt := 167) dX7_close_147 (by decide) (fun c_147 => ?_) (fun c_147 => absurd c_147 (by decide))
                  refine lv_iinc (v := (nI (k + 1))) (lv' := [(3, .int (nI (k + 1))), (4, .int (nI (ba k))), (0, .ref (a 0)), (1, .int (nI sb)), (2, .int (nI mn))]) hx hb dX7_close_167 hl (k := 4) rfl (nI_add _ _) (by decide) rfl (fun ls hl => ?_)
                  refine lv_goto (tgt := 99) hx hb dX7_close_170 (by decide) ?_
                  have hsx := sh1_f c_127
                  have nJ1 : ∀ x, (∀ j, j < k + 1 → ba j ≠ x) → va_up S1 (ba k) 108 x = bst x := fun x hx => by
                    have hk1 := hx k (by omega)
                    unfold va_up
                    rw [if_neg (fun q => hk1 q.symm)]
                    exact q1 x (fun j hj => hx j (by omega))
                  have nJ2 : ∀ j, j < k + 1 → va_up S1 (ba k) 108 (ba j) = if sb.testBit j = true then 119 else 108 := fun j hj => by
                    rcases Nat.lt_or_ge j k with q | q
                    · have hne : ba j ≠ ba k := (fun q => absurd (hinj _ _ (by omega) (by omega) q) (by omega))
                      unfold va_up
                      rw [if_neg hne]
                      exact q2 j q
                    · rw [show j = k by omega]; unfold va_up; rw [if_pos rfl, hsx]; rfl
                  exact ih (k + 1) _ _ (by omega) (by omega) nJ1 nJ2 (by rw [isum_f hsx]; exact q3) (fun x => by unfold va_up; split; decide; exact q4 x) _ _ _ hW (lv_sub hl [2, 3, 4, 0] rfl)
                · refine lv_bipush (v := nI 119) hx hb dX7_close_130 (by decide) ?_
                  refine lv_goto (tgt := 137) hx hb dX7_close_132 (by decide) ?_
                  refine n_cast X hW (n := 40) (f := S1) 6 rfl (w2 := (mW G a 0 lo bi ru ol ob t1 fib gra res buy lst (va_up S1 (ba k) 119) R1 bid pri itm akf akg got P1 V1 rf ro rs la ba v2 g2 r2 h2 u2 k2 ++ Y)) rfl (hba k) (by decide) (by omega) dX7_close_137 (fun H locs hW => ?_)
                  refine lv_aload_n hx hb dX7_close_138 rfl (lv_at hl 1 rfl) ?_
                  refine x_get X hW 0 rfl 12 rfl rfl iwX7 (by decide) wq_1092 rfl dX7_close_139 ?_
                  refine lv_iload hx hb dX7_close_142 (lv_at hl 0 rfl) ?_
                  refine n_cald X hW (n := 40) (f := (va_up S1 (ba k) 119)) 6 rfl (hba k) (by decide) dX7_close_144 ?_
                  refine r_n (up_eq _ _ _) ?_
                  refine lv_bipush (v := nI 119) hx hb dX7_close_145 (by decide) ?_
                  refine n_icmp_ne hx hb rfl rfl (by omega) (by omega) (tgt := 167) dX7_close_147 (by decide) (fun c_147 => absurd rfl c_147) (fun c_147 => ?_)
                  refine lv_aload_n hx hb dX7_close_150 rfl (lv_at hl 1 rfl) ?_
                  refine lv_dup hx hb dX7_close_151 rfl ?_
                  refine x_get X hW 0 rfl 6 rfl rfl iwX7 (by decide) wq_1086 rfl dX7_close_152 ?_
                  refine lv_aload_n hx hb dX7_close_155 rfl (lv_at hl 1 rfl) ?_
                  refine x_get X hW 0 rfl 20 rfl rfl iwX7 (by decide) wq_1100 rfl dX7_close_156 ?_
                  refine lv_iload hx hb dX7_close_159 (lv_at hl 0 rfl) ?_
                  refine z_iald X hW (n := 40) (f := P1) 14 rfl (hba k) (by decide) dX7_close_161 ?_
                  refine lv_i2l (v := lZ (P1 (ba k))) hx hb dX7_close_162 (i2l_z (i4 (ba k))) ?_
                  refine lv_ladd hx hb dX7_close_163 ?_
                  rw [lZ_add]
                  refine x_put X hW 0 rfl 6 (w2 := (mW G a 0 lo bi ru ol ob (t1 + (P1 (ba k))) fib gra res buy lst (va_up S1 (ba k) 119) R1 bid pri itm akf akg got P1 V1 rf ro rs la ba v2 g2 r2 h2 u2 k2 ++ Y)) rfl rfl iwX7 tyX7_ok nmX7 (by decide) wq_1086 rfl rfl rfl rfl (Nat.le_of_ble_eq_true rfl) dX7_close_164 (fun H locs hW => ?_)
                  refine lv_iinc (v := (nI (k + 1))) (lv' := [(3, .int (nI (k + 1))), (4, .int (nI (ba k))), (0, .ref (a 0)), (1, .int (nI sb)), (2, .int (nI mn))]) hx hb dX7_close_167 hl (k := 4) rfl (nI_add _ _) (by decide) rfl (fun ls hl => ?_)
                  refine lv_goto (tgt := 99) hx hb dX7_close_170 (by decide) ?_
                  have hsx := sh1_t c_127
                  have nJ1 : ∀ x, (∀ j, j < k + 1 → ba j ≠ x) → va_up S1 (ba k) 119 x = bst x := fun x hx => by
                    have hk1 := hx k (by omega)
                    unfold va_up
                    rw [if_neg (fun q => hk1 q.symm)]
                    exact q1 x (fun j hj => hx j (by omega))
                  have nJ2 : ∀ j, j < k + 1 → va_up S1 (ba k) 119 (ba j) = if sb.testBit j = true then 119 else 108 := fun j hj => by
                    rcases Nat.lt_or_ge j k with q | q
                    · have hne : ba j ≠ ba k := (fun q => absurd (hinj _ _ (by omega) (by omega) q) (by omega))
                      unfold va_up
                      rw [if_neg hne]
                      exact q2 j q
                    · rw [show j = k by omega]; unfold va_up; rw [if_pos rfl, hsx]; rfl
                  exact ih (k + 1) _ _ (by omega) (by omega) nJ1 nJ2 (by rw [isum_t hsx, q3, i2 k (by omega) hsx]; omega) (fun x => by unfold va_up; split; decide; exact q4 x) _ _ _ hW (lv_sub hl [2, 3, 4, 0] rfl)
          exact loop2 (ob + 1) 0 bst tk (by omega) (by omega) (fun _ _ => rfl) (fun j hj => absurd hj (Nat.not_lt_zero j)) (Int.add_zero tk).symm hbst _ _ _ hW (lv_sub hl [1, 2, 3, 0] rfl)
        · refine lv_aload_n hx hb dX7_close_44 rfl (lv_at hl 0 rfl) ?_
          refine x_get X hW 0 rfl 26 rfl rfl iwX7 (by decide) wq_1106 rfl dX7_close_45 ?_
          refine lv_iload_n hx hb dX7_close_48 rfl (lv_at hl 3 rfl) ?_
          refine n_iald X hW (n := 8) (f := ba) 20 rfl (by omega) (by decide) dX7_close_49 ?_
          refine lv_istore (lv' := [(4, .int (nI (ba k))), (0, .ref (a 0)), (1, .int (nI sb)), (2, .int (nI mn)), (3, .int (nI k))]) hx hb dX7_close_50 hl (by decide) rfl (fun ls hl => ?_)
          refine lv_iload_n hx hb dX7_close_52 rfl (lv_at hl 2 rfl) ?_
          refine lv_iload_n hx hb dX7_close_53 rfl (lv_at hl 4 rfl) ?_
          refine n_ishr hx hb (by omega) (by omega) dX7_close_54 ?_
          refine lv_iconst (v := nI 1) hx hb dX7_close_55 (by decide) ?_
          refine n_iand hx hb dX7_close_56 ?_
          refine lv_iconst (v := nI 1) hx hb dX7_close_57 (by decide) ?_
          refine n_icmp_ne hx hb rfl rfl (by have := sh1_le sb k; omega) (by omega) (tgt := 78) dX7_close_58 (by decide) (fun c_58 => ?_) (fun c_58 => ?_)
          · refine lv_aload_n hx hb dX7_close_78 rfl (lv_at hl 1 rfl) ?_
            refine x_get X hW 0 rfl 13 rfl rfl iwX7 (by decide) wq_1093 rfl dX7_close_79 ?_
            refine lv_iload hx hb dX7_close_82 (lv_at hl 0 rfl) ?_
            refine lv_aload_n hx hb dX7_close_84 rfl (lv_at hl 1 rfl) ?_
            refine lv_iload_n hx hb dX7_close_85 rfl (lv_at hl 2 rfl) ?_
            refine lv_iload_n hx hb dX7_close_86 rfl (lv_at hl 4 rfl) ?_
            refine go_i X hW (run_V X hW (As := [.int (nI sb), .int (nI k)]) (rest := [.int (nI (ba k)), .ref (a 7)]) 10 0 rfl (c_X7_why l G a 0 lo bi ru ol ob tk fib gra res buy lst bst R1 bid pri itm akf akg got P1 V1 rf ro rs la ba v2 g2 r2 h2 u2 k2 Y sb k hI hbs1 (by omega) hba hv2 _) (gi_V wq_1280 wq_1282 wq_56 wq_67 wq_1283) rfl hyX7_why rfl rfl rfl hl.1 (Nat.le_of_ble_eq_true rfl) ⟨Nat.le_of_ble_eq_true rfl, Nat.le_of_ble_eq_true rfl⟩ ⟨by decide, by decide⟩ dX7_close_87) (fun r w2 H locs hp hW => ?_)
            obtain ⟨rv, rfl, y1, y2, y3, rfl⟩ := hp
            refine n_cast X hW (n := 40) (f := R1) 7 rfl (w2 := (mW G a 0 lo bi ru ol ob tk fib gra res buy lst bst (va_up R1 (ba k) (whyC (fun k => itm (ba k)) v2 (fun k => bid (ba k)) ob sb k)) bid pri itm akf akg got P1 rv rf ro rs la ba v2 g2 r2 h2 u2 k2 ++ Y)) rfl (hba k) (by decide) (whyC_lt _ _ _ _ _ _) dX7_close_90 (fun H locs hW => ?_)
            refine lv_iinc (v := (nI (k + 1))) (lv' := [(3, .int (nI (k + 1))), (4, .int (nI (ba k))), (0, .ref (a 0)), (1, .int (nI sb)), (2, .int (nI mn))]) hx hb dX7_close_91 hl (k := 4) rfl (nI_add _ _) (by decide) rfl (fun ls hl => ?_)
            refine lv_goto (tgt := 36) hx hb dX7_close_94 (by decide) ?_
            have hsf := sh1_f c_58
            have nI1 : ∀ x, (∀ j, j < k + 1 → ba j ≠ x) → P1 x = pai x ∧ va_up R1 (ba k) (whyC (fun k => itm (ba k)) v2 (fun k => bid (ba k)) ob sb k) x = rea x ∧ rv x = riv x := fun x hx => by
              have hk1 := hx k (by omega)
              have hi := i1 x (fun j hj => hx j (by omega))
              unfold va_up
              rw [if_neg (fun q => hk1 q.symm), y1 x (fun q => hk1 q.symm)]
              exact hi
            have nI2 : ∀ j, j < k + 1 → sb.testBit j = true → P1 (ba j) = ((((pri (ba j) : Nat) : Int) - v2 sb) + v2 (bsM v2 (fun k => bid (ba k)) ob ((bid (ba j) : Nat) : Int) 256)) := fun j hj hb => by
              rcases Nat.lt_or_ge j k with q | q
              · exact i2 j q hb
              · rw [show j = k by omega, hsf] at hb; exact absurd hb (by decide)
            have nI3 : ∀ j, j < k + 1 → sb.testBit j = false → va_up R1 (ba k) (whyC (fun k => itm (ba k)) v2 (fun k => bid (ba k)) ob sb k) (ba j) = (whyC (fun k => itm (ba k)) v2 (fun k => bid (ba k)) ob sb j) ∧ ((whyC (fun k => itm (ba k)) v2 (fun k => bid (ba k)) ob sb j) = 98 → rv (ba j) = ba (fst1 (fun o => sb.testBit o && decide (bid (ba o) = bid (ba j))) ob)) := fun j hj hb => by
              rcases Nat.lt_or_ge j k with q | q
              · have hne : ba j ≠ ba k := (fun q => absurd (hinj _ _ (by omega) (by omega) q) (by omega))
                unfold va_up
                rw [if_neg hne, y1 _ hne]
                exact i3 j q hb
              · rw [show j = k by omega]
                unfold va_up
                rw [if_pos rfl]
                exact ⟨rfl, y2⟩
            exact ih (k + 1) P1 _ rv (by omega) (by omega) nI1 nI2 nI3 i4 (fun x => by unfold va_up; split; exact whyC_lt _ _ _ _ _ _; exact i5 x) y3 _ _ _ hW (lv_sub hl [2, 3, 4, 0] rfl)
          · refine lv_aload_n hx hb dX7_close_61 rfl (lv_at hl 1 rfl) ?_
            refine x_get X hW 0 rfl 20 rfl rfl iwX7 (by decide) wq_1100 rfl dX7_close_62 ?_
            refine lv_iload hx hb dX7_close_65 (lv_at hl 0 rfl) ?_
            refine lv_aload_n hx hb dX7_close_67 rfl (lv_at hl 1 rfl) ?_
            refine lv_iload_n hx hb dX7_close_68 rfl (lv_at hl 2 rfl) ?_
            refine lv_iload hx hb dX7_close_69 (lv_at hl 0 rfl) ?_
            refine go_i X hW (run_V X hW (As := [.int (nI sb), .int (nI (ba k))]) (rest := [.int (nI (ba k)), .ref (a 14)]) 10 0 rfl (c_X7_pays l G a 0 lo bi ru ol ob tk fib gra res buy lst bst R1 bid pri itm akf akg got P1 V1 rf ro rs la ba v2 g2 r2 h2 u2 k2 Y sb (ba k) hI hbs1 (hba k) hba hv2 _) (gi_V wq_1276 wq_1278 wq_55 wq_67 wq_1279) rfl hyX7_pays rfl rfl rfl hl.1 (Nat.le_of_ble_eq_true rfl) ⟨Nat.le_of_ble_eq_true rfl, Nat.le_of_ble_eq_true rfl⟩ ⟨by decide, by decide⟩ dX7_close_71) (fun r w2 H locs hp hW => ?_)
            obtain ⟨rfl, rfl⟩ := hp
            refine z_iast X hW (n := 40) (f := P1) 14 rfl (w2 := (mW G a 0 lo bi ru ol ob tk fib gra res buy lst bst R1 bid pri itm akf akg got (va_up P1 (ba k) ((((pri (ba k) : Nat) : Int) - v2 sb) + v2 (bsM v2 (fun k => bid (ba k)) ob ((bid (ba k) : Nat) : Int) 256))) V1 rf ro rs la ba v2 g2 r2 h2 u2 k2 ++ Y)) rfl (hba k) (by decide) dX7_close_74 (fun H locs hW => ?_)
            refine lv_goto (tgt := 91) hx hb dX7_close_75 (by decide) ?_
            refine lv_iinc (v := (nI (k + 1))) (lv' := [(3, .int (nI (k + 1))), (4, .int (nI (ba k))), (0, .ref (a 0)), (1, .int (nI sb)), (2, .int (nI mn))]) hx hb dX7_close_91 hl (k := 4) rfl (nI_add _ _) (by decide) rfl (fun ls hl => ?_)
            refine lv_goto (tgt := 36) hx hb dX7_close_94 (by decide) ?_
            have hst := sh1_t c_58
            have nI1 : ∀ x, (∀ j, j < k + 1 → ba j ≠ x) → va_up P1 (ba k) ((((pri (ba k) : Nat) : Int) - v2 sb) + v2 (bsM v2 (fun k => bid (ba k)) ob ((bid (ba k) : Nat) : Int) 256)) x = pai x ∧ R1 x = rea x ∧ V1 x = riv x := fun x hx => by
              have hk1 := hx k (by omega)
              have hi := i1 x (fun j hj => hx j (by omega))
              unfold va_up
              rw [if_neg (fun q => hk1 q.symm)]
              exact hi
            have nI2 : ∀ j, j < k + 1 → sb.testBit j = true → va_up P1 (ba k) ((((pri (ba k) : Nat) : Int) - v2 sb) + v2 (bsM v2 (fun k => bid (ba k)) ob ((bid (ba k) : Nat) : Int) 256)) (ba j) = ((((pri (ba j) : Nat) : Int) - v2 sb) + v2 (bsM v2 (fun k => bid (ba k)) ob ((bid (ba j) : Nat) : Int) 256)) := fun j hj hb => by
              rcases Nat.lt_or_ge j k with q | q
              · have hne : ba j ≠ ba k := (fun q => absurd (hinj _ _ (by omega) (by omega) q) (by omega))
                unfold va_up
                rw [if_neg hne]
                exact i2 j q hb
              · rw [show j = k by omega]; unfold va_up; rw [if_pos rfl]
            have nI3 : ∀ j, j < k + 1 → sb.testBit j = false → R1 (ba j) = (whyC (fun k => itm (ba k)) v2 (fun k => bid (ba k)) ob sb j) ∧ ((whyC (fun k => itm (ba k)) v2 (fun k => bid (ba k)) ob sb j) = 98 → V1 (ba j) = ba (fst1 (fun o => sb.testBit o && decide (bid (ba o) = bid (ba j))) ob)) := fun j hj hb => by
              rcases Nat.lt_or_ge j k with q | q
              · exact i3 j q hb
              · rw [show j = k by omega, hst] at hb; exact absurd hb (by decide)
            exact ih (k + 1) _ R1 V1 (by omega) (by omega) nI1 nI2 nI3 (fun x => by unfold va_up; split; exact hpy _; exact i4 x) i5 i6 _ _ _ hW (lv_sub hl [2, 3, 4, 0] rfl)
    exact loop (ob + 1) 0 pai rea riv (by omega) (by omega) (fun _ _ => ⟨rfl, rfl, rfl⟩) (fun j hj => absurd hj (Nat.not_lt_zero j)) (fun j hj => absurd hj (Nat.not_lt_zero j)) hpai hrea hriv _ _ _ hW (lv_sub hl [3, 2, 1, 0] rfl)
  · refine lv_aload_n hx hb dX7_close_7 rfl (lv_at hl 0 rfl) ?_
    refine lv_iconst (v := nI 1) hx hb dX7_close_8 (by decide) ?_
    refine go_i X hW (run_V X hW (As := [.int (nI 1)]) (rest := []) 10 0 rfl (c_X7_fail l G a th lo bi ru ol ob tk fib gra res buy lst bst rea bid pri itm akf akg got pai riv rf ro rs lat bat val cos row ahe wan giv Y 1 _) (gi_V wq_1195 wq_1197 wq_44 wq_67 wq_1198) rfl hyX7_fail rfl rfl rfl hl.1 (Nat.le_of_ble_eq_true rfl) ⟨Nat.le_of_ble_eq_true rfl, Nat.le_of_ble_eq_true rfl⟩ ⟨by decide, by decide⟩ dX7_close_9) (fun r w2 H locs hp hW => ?_)
    obtain ⟨rfl, rfl⟩ := hp
    exact ret_i X hW (v := (nI 0)) (Or.inl ⟨by omega, rfl, rfl⟩) rfl (by decide) (by decide) dX7_close_12

