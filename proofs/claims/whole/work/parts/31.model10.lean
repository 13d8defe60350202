theorem bsM_ge (v : Nat → Int) (bd : Nat → Nat) (ob : Nat) (wo : Int) (n : Nat) : v 0 ≤ v (bsM v bd ob wo n) := by
  induction n with
  | zero => exact Int.le_refl _
  | succ n ih =>
    rw [bsM]
    by_cases q : n = 0 ∨ v n < v (bsM v bd ob wo n) ∨ (v n = v (bsM v bd ob wo n) ∧ ahd n (bsM v bd ob wo n) = false) ∨ fst1 (fun k => n.testBit k && decide ((bd k : Int) = wo)) ob < ob
    · rw [if_pos q]; exact ih
    · rw [if_neg q]
      have : ¬ v n < v (bsM v bd ob wo n) := fun r => q (Or.inr (Or.inl r))
      omega
/-- the best set is possible -/
theorem best_PS {v : Nat → Int} {ol ob : Nat} {rsv bd ic fl pr : Nat → Nat} (wo : Int) (h : valF v ol ob rsv bd ic fl pr) : bsM v bd ob wo 256 < 256 ∧ bsM v bd ob wo 256 < 2 ^ ob ∧ PS ol bd ic fl (bsM v bd ob wo 256) ob ∧ v (bsM v bd ob wo 256) = VS ol rsv ic fl pr (bsM v bd ob wo 256) ob ∧ 0 ≤ v (bsM v bd ob wo 256) := by
  have h1 := bsM_lt v bd ob wo (n := 256) (by decide)
  have h2 := bsM_ge v bd ob wo 256
  have h3 := (h 0 (by decide)).1 ⟨Nat.two_pow_pos ob, PS_0⟩
  rw [VS_0] at h3
  have h4 : 0 ≤ v (bsM v bd ob wo 256) := by omega
  have h5 : bsM v bd ob wo 256 < 2 ^ ob ∧ PS ol bd ic fl (bsM v bd ob wo 256) ob := Classical.byContradiction fun q => by
    have := (h _ h1).2 q
    omega
  exact ⟨h1, h5.1, h5.2, (h _ h1).1 h5, h4⟩
theorem its_val {p : Nat → Bool} {ic fl : Nat → Nat} {n k i : Nat} (hk : k < n) (hp : p k = true) (hi : i < ic k) : bsum p ic k + i < bsum p ic n ∧ qf (its p ic fl n) (bsum p ic k + i) = fl (k * 3 + i) := by
  induction n with
  | zero => omega
  | succ n ih =>
    by_cases q : k = n
    · rw [← q, its_new hp hi, bsum_t hp]; exact ⟨by omega, rfl⟩
    · obtain ⟨h1, h2⟩ := ih (by omega)
      have h3 := bsum_mono (p := p) (g := ic) (show n ≤ n + 1 by omega)
      exact ⟨by omega, by rw [its_old h1]; exact h2⟩
theorem its_dec {p : Nat → Bool} {ic : Nat → Nat} {n t : Nat} (h : t < bsum p ic n) : ∃ k i, k < n ∧ p k = true ∧ i < ic k ∧ t = bsum p ic k + i := by
  induction n with
  | zero => exact absurd h (Nat.not_lt_zero _)
  | succ n ih =>
    by_cases q : t < bsum p ic n
    · obtain ⟨k, i, h1, h2, h3, h4⟩ := ih q
      exact ⟨k, i, by omega, h2, h3, h4⟩
    · cases hp : p n with
      | false => rw [bsum_f hp] at h; exact absurd h q
      | true => rw [bsum_t hp] at h; exact ⟨n, t - bsum p ic n, by omega, hp, by omega, by omega⟩
theorem opn_lt {p : Nat → Bool} {n a b : Nat} (hab : a < b) (hb : b < cntB p n) : qf (opn p n) a < qf (opn p n) b := by
  induction n with
  | zero => exact absurd hb (Nat.not_lt_zero _)
  | succ n ih =>
    by_cases q : b < cntB p n
    · rw [opn_old q, opn_old (by omega)]; exact ih q
    · cases hp : p n with
      | false => rw [show cntB p (n + 1) = cntB p n from bsum_f hp] at hb; exact absurd hb q
      | true =>
        rw [show cntB p (n + 1) = cntB p n + 1 from bsum_t hp] at hb
        rw [show b = cntB p n by omega, opn_new hp, opn_old (show a < cntB p n by omega)]
        exact (opn_in (by omega)).1
theorem opn_inj {p : Nat → Bool} {n a b : Nat} (ha : a < cntB p n) (hb : b < cntB p n) (h : qf (opn p n) a = qf (opn p n) b) : a = b := by
  rcases Nat.lt_trichotomy a b with q | q | q
  · have := opn_lt q hb; omega
  · exact q
  · have := opn_lt q ha; omega
theorem its_wf {p : Nat → Bool} {ic ba : Nat → Nat} {n t k i : Nat} (h3 : ∀ k, ic k ≤ 3) (hinj : ∀ a b, a < n → b < n → ba a = ba b → a = b) (ht : t < bsum p ic n) (hk : k < n) (hp : p k = true) (hi : i < ic k) (e : qf (its p ic (fun q => 3 * ba (q / 3) + q % 3) n) t = 3 * ba k + i) : t = bsum p ic k + i := by
  obtain ⟨k2, i2, g1, g2, g3, g4⟩ := its_dec ht
  rw [g4, (its_val g1 g2 g3).2] at e
  have a1 := h3 k
  have a2 := h3 k2
  rw [show (k2 * 3 + i2) / 3 = k2 by omega, show (k2 * 3 + i2) % 3 = i2 by omega] at e
  have e1 : k2 = k := hinj k2 k g1 hk (by omega)
  rw [g4, e1]
  rw [e1] at e
  omega
set_option maxRecDepth 100000 in
set_option maxHeartbeats 4000000 in
theorem c_X7_surplus (l : Launch) (G : Gt) (a : Nat → Nat) (th lo bi ru ol ob : Nat) (tk : Int) (fib gra res buy lst bst rea bid pri itm akf akg got : Nat → Nat) (pai : Nat → Int) (riv rf ro rs lat bat : Nat → Nat) (val : Nat → Int) (cos row ahe wan giv : Nat → Nat) (Y : va_W) (hI : MIa lo bi ru ol ob fib gra res buy lst bst rea bid pri itm akf akg got pai riv rf ro rs) (hlat : ∀ k, lat k < 40) (hbat : ∀ k, bat k < 40) (hcos : ∀ x, cos x ≤ 2000000) (hrow : ∀ x, row x ≤ 2000000) (hahe : ∀ x, ahe x ≤ 2000000) (hwan : ∀ x, wan x < 120) (hgiv : ∀ x, giv x < 40) : Ci l G yX7_surplus (ww yX7_surplus cX7_surplus 1 (some FieldType.int)) (RM 13 0 0) [.ref (a 0)] (mW G a th lo bi ru ol ob tk fib gra res buy lst bst rea bid pri itm akf akg got pai riv rf ro rs lat bat val cos row ahe wan giv ++ Y) (fun r w2 => ∃ (la ba : Nat → Nat) (v2 : Nat → Int) (g2 r2 : Nat → Nat), AllP lo bi ru ol ob fib gra res lst bst bid pri itm akf akg rf ro rs la ba v2 ∧ (∀ x, g2 x ≤ 2000000) ∧ (∀ x, r2 x ≤ 2000000) ∧ r = zI (v2 (bsM v2 (fun k => bid (ba k)) ob (-1) 256)) ∧ w2 = (mW G a th lo bi ru ol ob tk fib gra res buy lst bst rea bid pri itm akf akg got pai riv rf ro rs la ba v2 g2 r2 ahe wan giv ++ Y)) := by
  refine Ci.intro (by decide) (Nat.le_of_ble_eq_true rfl) ?_
  intro p e s m args below meth c A X hW ls hl
  have hx := X.exec
  have hb := X.bytes
  have hl : lv_has ls 1 [(0, .ref (a 0))] := hl
  obtain ⟨hlo, hbi, hru, hol, hob, hfib, hgra, hres, hbuy, hlst, hbst, hrea, hbid, hpri, hitm, hakf, hakg, hgot, hriv, hrf, hro, hrs, hpai, hcl, hcb⟩ := id hI
  have hcb : cntB (isO bst) bi = ob := hcb
  refine lv_aload_n hx hb dX7_surplus_0 rfl (lv_at hl 0 rfl) ?_
  refine go_v X hW (run_V X hW (As := []) (rest := []) 10 0 rfl (c_X7_all l G a th lo bi ru ol ob tk fib gra res buy lst bst rea bid pri itm akf akg got pai riv rf ro rs lat bat val cos row ahe wan giv Y hI hlat hbat hcos hrow _) (gi_V wq_1239 wq_1241 wq_47 wq_67 wq_1242) rfl hyX7_all rfl rfl rfl hl.1 (Nat.le_of_ble_eq_true rfl) ⟨Nat.le_of_ble_eq_true rfl, Nat.le_of_ble_eq_true rfl⟩ ⟨by decide, by decide⟩ dX7_surplus_1) (fun w2 H locs hp hW => ?_)
  obtain ⟨la, ba, v2, g2, r2, hA, hg2, hr2, rfl⟩ := hp
  obtain ⟨hla, hba, hlaE, hbaE, hv2, hF⟩ := id hA
  have hinj : ∀ x y, x < ob → y < ob → ba x = ba y → x = y := fun x y hx hy e => opn_inj (hcb.symm ▸ hx : x < cntB (isO bst) bi) (hcb.symm ▸ hy : y < cntB (isO bst) bi) (by rw [← hbaE x hx, ← hbaE y hy]; exact e)
  refine lv_aload_n hx hb dX7_surplus_4 rfl (lv_at hl 0 rfl) ?_
  refine x_get X hW 0 rfl 27 rfl rfl iwX7 (by decide) wq_1107 rfl dX7_surplus_5 ?_
  refine lv_aload_n hx hb dX7_surplus_8 rfl (lv_at hl 0 rfl) ?_
  refine lv_iconst (v := zI (-1)) hx hb dX7_surplus_9 (by decide) ?_
  refine go_i X hW (run_V X hW (As := [.int (zI (-1))]) (rest := [.ref (a 21)]) 10 0 rfl (c_X7_best l G a th lo bi ru ol ob tk fib gra res buy lst bst rea bid pri itm akf akg got pai riv rf ro rs la ba v2 g2 r2 ahe wan giv Y (-1) hI (by omega) hba hv2 _) (gi_V wq_1265 wq_1267 wq_53 wq_67 wq_1268) rfl hyX7_best rfl rfl rfl hl.1 (Nat.le_of_ble_eq_true rfl) ⟨Nat.le_of_ble_eq_true rfl, Nat.le_of_ble_eq_true rfl⟩ ⟨by decide, by decide⟩ dX7_surplus_10) (fun r w2 H locs hp hW => ?_)
  obtain ⟨rfl, rfl⟩ := hp
  have hbs := best_PS (-1) hF
  have hbs1 := hbs.1
  refine z_iald X hW (n := 256) (f := v2) 21 rfl (by omega) (by decide) dX7_surplus_13 ?_
  exact ret_i X hW (v := (zI (v2 (bsM v2 (fun k => bid (ba k)) ob (-1) 256)))) (⟨la, ba, v2, g2, r2, hA, hg2, hr2, rfl, rfl⟩) rfl (by decide) (by decide) dX7_surplus_14

set_option maxRecDepth 100000 in
set_option maxHeartbeats 4000000 in
theorem c_X7_surplusBySets (l : Launch) (G : Gt) (a : Nat → Nat) (th lo bi ru ol ob : Nat) (tk : Int) (fib gra res buy lst bst rea bid pri itm akf akg got : Nat → Nat) (pai : Nat → Int) (riv rf ro rs lat bat : Nat → Nat) (val : Nat → Int) (cos row ahe wan giv : Nat → Nat) (Y : va_W) (hI : MIa lo bi ru ol ob fib gra res buy lst bst rea bid pri itm akf akg got pai riv rf ro rs) (hlat : ∀ k, lat k < 40) (hbat : ∀ k, bat k < 40) (hcos : ∀ x, cos x ≤ 2000000) (hrow : ∀ x, row x ≤ 2000000) (hahe : ∀ x, ahe x ≤ 2000000) (hwan : ∀ x, wan x < 120) (hgiv : ∀ x, giv x < 40) : Ci l G yX7_surplusBySets (ww yX7_surplusBySets cX7_surplusBySets 1 (some FieldType.int)) (RM 14 0 0) [.ref (a 0)] (mW G a th lo bi ru ol ob tk fib gra res buy lst bst rea bid pri itm akf akg got pai riv rf ro rs lat bat val cos row ahe wan giv ++ Y) (fun r w2 => ∃ (la ba : Nat → Nat) (v2 : Nat → Int) (g2 r2 : Nat → Nat), AllP lo bi ru ol ob fib gra res lst bst bid pri itm akf akg rf ro rs la ba v2 ∧ (∀ x, g2 x ≤ 2000000) ∧ (∀ x, r2 x ≤ 2000000) ∧ r = zI (v2 (bsM v2 (fun k => bid (ba k)) ob (-1) 256)) ∧ w2 = (mW G a th lo bi ru ol ob tk fib gra res buy lst bst rea bid pri itm akf akg got pai riv rf ro rs la ba v2 g2 r2 ahe wan giv ++ Y)) := by
  refine Ci.intro (by decide) (Nat.le_of_ble_eq_true rfl) ?_
  intro p e s m args below meth c A X hW ls hl
  have hx := X.exec
  have hb := X.bytes
  have hl : lv_has ls 1 [(0, .ref (a 0))] := hl
  refine lv_aload_n hx hb dX7_surplusBySets_0 rfl (lv_at hl 0 rfl) ?_
  refine go_i X hW (run_V X hW (As := []) (rest := []) 10 0 rfl (c_X7_surplus l G a th lo bi ru ol ob tk fib gra res buy lst bst rea bid pri itm akf akg got pai riv rf ro rs lat bat val cos row ahe wan giv Y hI hlat hbat hcos hrow hahe hwan hgiv _) (gi_V wq_1380 wq_1373 wq_1374 wq_67 wq_1375) rfl hyX7_surplus rfl rfl rfl hl.1 (Nat.le_of_ble_eq_true rfl) ⟨Nat.le_of_ble_eq_true rfl, Nat.le_of_ble_eq_true rfl⟩ ⟨by decide, by decide⟩ dX7_surplusBySets_1) (fun r w2 H locs hp hW => ?_)
  obtain ⟨la, ba, v2, g2, r2, hA, hg2, hr2, rfl, rfl⟩ := hp
  exact ret_i X hW (v := (zI (v2 (bsM v2 (fun k => bid (ba k)) ob (-1) 256)))) (⟨la, ba, v2, g2, r2, hA, hg2, hr2, rfl, rfl⟩) rfl (by decide) (by decide) dX7_surplusBySets_4

set_option maxRecDepth 100000 in
set_option maxHeartbeats 4000000 in
theorem c_X7_surplusWithout (l : Launch) (G : Gt) (a : Nat → Nat) (th lo bi ru ol ob : Nat) (tk : Int) (fib gra res buy lst bst rea bid pri itm akf akg got : Nat → Nat) (pai : Nat → Int) (riv rf ro rs lat bat : Nat → Nat) (val : Nat → Int) (cos row ahe wan giv : Nat → Nat) (Y : va_W) (z : Int) (hI : MIa lo bi ru ol ob fib gra res buy lst bst rea bid pri itm akf akg got pai riv rf ro rs) (hlat : ∀ k, lat k < 40) (hbat : ∀ k, bat k < 40) (hcos : ∀ x, cos x ≤ 2000000) (hrow : ∀ x, row x ≤ 2000000) (hahe : ∀ x, ahe x ≤ 2000000) (hwan : ∀ x, wan x < 120) (hgiv : ∀ x, giv x < 40) (hz : iR z) : Ci l G yX7_surplusWithout (ww yX7_surplusWithout cX7_surplusWithout 2 (some FieldType.int)) (RM 13 0 0) [.ref (a 0), .int (zI z)] (mW G a th lo bi ru ol ob tk fib gra res buy lst bst rea bid pri itm akf akg got pai riv rf ro rs lat bat val cos row ahe wan giv ++ Y) (fun r w2 => ((¬ (0 ≤ z ∧ z ≤ 7)) ∧ r = nI 0 ∧ w2 = (mW G a 1 lo bi ru ol ob tk fib gra res buy lst bst rea bid pri itm akf akg got pai riv rf ro rs lat bat val cos row ahe wan giv ++ Y)) ∨ ((0 ≤ z ∧ z ≤ 7) ∧ ∃ (la ba : Nat → Nat) (v2 : Nat → Int) (g2 r2 : Nat → Nat), AllP lo bi ru ol ob fib gra res lst bst bid pri itm akf akg rf ro rs la ba v2 ∧ (∀ x, g2 x ≤ 2000000) ∧ (∀ x, r2 x ≤ 2000000) ∧ r = zI (v2 (bsM v2 (fun k => bid (ba k)) ob ((z.toNat : Nat) : Int) 256)) ∧ w2 = (mW G a 0 lo bi ru ol ob tk fib gra res buy lst bst rea bid pri itm akf akg got pai riv rf ro rs la ba v2 g2 r2 ahe wan giv ++ Y))) := by
  refine Ci.intro (by decide) (Nat.le_of_ble_eq_true rfl) ?_
  intro p e s m args below meth c A X hW ls hl
  have hx := X.exec
  have hb := X.bytes
  have hl : lv_has ls 2 [(0, .ref (a 0)), (1, .int (zI z))] := hl
  obtain ⟨hlo, hbi, hru, hol, hob, hfib, hgra, hres, hbuy, hlst, hbst, hrea, hbid, hpri, hitm, hakf, hakg, hgot, hriv, hrf, hro, hrs, hpai, hcl, hcb⟩ := id hI
  have hcb : cntB (isO bst) bi = ob := hcb
  refine lv_iload_n hx hb dX7_surplusWithout_0 rfl (lv_at hl 1 rfl) ?_
  refine lv_iconst (v := nI 0) hx hb dX7_surplusWithout_1 (by decide) ?_
  refine lv_bipush (v := nI 7) hx hb dX7_surplusWithout_2 (by decide) ?_
  refine go_i X hW (run_S X hW (As := [.int (zI z), .int (nI 0), .int (nI 7)]) (rest := []) (c_X7_isIn l G (mW G a th lo bi ru ol ob tk fib gra res buy lst bst rea bid pri itm akf akg got pai riv rf ro rs lat bat val cos row ahe wan giv ++ Y) (zI z) (nI 0) (nI 7) z ((0 : Nat) : Int) ((7 : Nat) : Int) rfl (nZ _) (nZ _) (by omega) (by omega) (by omega) _) (gi_S wq_1189 wq_1190 wq_67 wq_1191) hyX7_isIn rfl rfl hl.1 (Nat.le_of_ble_eq_true rfl) ⟨Nat.le_of_ble_eq_true rfl, Nat.le_of_ble_eq_true rfl⟩ ⟨by decide, by decide⟩ dX7_surplusWithout_4) (fun r w2 H locs hp hW => ?_)
  obtain ⟨rfl, rfl⟩ := hp
  refine p_if_ne hx hb (tgt := 16) dX7_surplusWithout_7 (by decide) (fun c_7 => ?_) (fun c_7 => ?_)
  · refine lv_aload_n hx hb dX7_surplusWithout_16 rfl (lv_at hl 0 rfl) ?_
    refine lv_iconst (v := nI 0) hx hb dX7_surplusWithout_17 (by decide) ?_
    refine x_put X hW 0 rfl 0 (w2 := (mW G a 0 lo bi ru ol ob tk fib gra res buy lst bst rea bid pri itm akf akg got pai riv rf ro rs lat bat val cos row ahe wan giv ++ Y)) rfl rfl iwX7 tyX7_ok nmX7 (by decide) wq_1080 rfl rfl rfl rfl (Nat.le_of_ble_eq_true rfl) dX7_surplusWithout_18 (fun H locs hW => ?_)
    refine lv_aload_n hx hb dX7_surplusWithout_21 rfl (lv_at hl 0 rfl) ?_
    refine go_v X hW (run_V X hW (As := []) (rest := []) 10 0 rfl (c_X7_all l G a 0 lo bi ru ol ob tk fib gra res buy lst bst rea bid pri itm akf akg got pai riv rf ro rs lat bat val cos row ahe wan giv Y hI hlat hbat hcos hrow _) (gi_V wq_1239 wq_1241 wq_47 wq_67 wq_1242) rfl hyX7_all rfl rfl rfl hl.1 (Nat.le_of_ble_eq_true rfl) ⟨Nat.le_of_ble_eq_true rfl, Nat.le_of_ble_eq_true rfl⟩ ⟨by decide, by decide⟩ dX7_surplusWithout_22) (fun w2 H locs hp hW => ?_)
    obtain ⟨la, ba, v2, g2, r2, hA, hg2, hr2, rfl⟩ := hp
    obtain ⟨hla, hba, hlaE, hbaE, hv2, hF⟩ := id hA
    have hinj : ∀ x y, x < ob → y < ob → ba x = ba y → x = y := fun x y hx hy e => opn_inj (hcb.symm ▸ hx : x < cntB (isO bst) bi) (hcb.symm ▸ hy : y < cntB (isO bst) bi) (by rw [← hbaE x hx, ← hbaE y hy]; exact e)
    refine lv_aload_n hx hb dX7_surplusWithout_25 rfl (lv_at hl 0 rfl) ?_
    refine x_get X hW 0 rfl 27 rfl rfl iwX7 (by decide) wq_1107 rfl dX7_surplusWithout_26 ?_
    refine lv_aload_n hx hb dX7_surplusWithout_29 rfl (lv_at hl 0 rfl) ?_
    refine lv_iload_n hx hb dX7_surplusWithout_30 rfl (lv_at hl 1 rfl) ?_
    refine r_zn (a := z.toNat) (by omega) ?_
    refine r_nz ?_
    refine go_i X hW (run_V X hW (As := [.int (zI ((z.toNat : Nat) : Int))]) (rest := [.ref (a 21)]) 10 0 rfl (c_X7_best l G a 0 lo bi ru ol ob tk fib gra res buy lst bst rea bid pri itm akf akg got pai riv rf ro rs la ba v2 g2 r2 ahe wan giv Y ((z.toNat : Nat) : Int) hI (by omega) hba hv2 _) (gi_V wq_1265 wq_1267 wq_53 wq_67 wq_1268) rfl hyX7_best rfl rfl rfl hl.1 (Nat.le_of_ble_eq_true rfl) ⟨Nat.le_of_ble_eq_true rfl, Nat.le_of_ble_eq_true rfl⟩ ⟨by decide, by decide⟩ dX7_surplusWithout_31) (fun r w2 H locs hp hW => ?_)
    obtain ⟨rfl, rfl⟩ := hp
    have hbs := best_PS ((z.toNat : Nat) : Int) hF
    have hbs1 := hbs.1
    refine z_iald X hW (n := 256) (f := v2) 21 rfl (by omega) (by decide) dX7_surplusWithout_34 ?_
    exact ret_i X hW (v := (zI (v2 (bsM v2 (fun k => bid (ba k)) ob ((z.toNat : Nat) : Int) 256)))) (Or.inr (⟨by omega, la, ba, v2, g2, r2, hA, hg2, hr2, rfl, rfl⟩)) rfl (by decide) (by decide) dX7_surplusWithout_35
  · refine lv_aload_n hx hb dX7_surplusWithout_10 rfl (lv_at hl 0 rfl) ?_
    refine lv_iconst (v := nI 1) hx hb dX7_surplusWithout_11 (by decide) ?_
    refine go_i X hW (run_V X hW (As := [.int (nI 1)]) (rest := []) 10 0 rfl (c_X7_fail l G a th lo bi ru ol ob tk fib gra res buy lst bst rea bid pri itm akf akg got pai riv rf ro rs lat bat val cos row ahe wan giv Y 1 _) (gi_V wq_1195 wq_1197 wq_44 wq_67 wq_1198) rfl hyX7_fail rfl rfl rfl hl.1 (Nat.le_of_ble_eq_true rfl) ⟨Nat.le_of_ble_eq_true rfl, Nat.le_of_ble_eq_true rfl⟩ ⟨by decide, by decide⟩ dX7_surplusWithout_12) (fun r w2 H locs hp hW => ?_)
    obtain ⟨rfl, rfl⟩ := hp
    exact ret_i X hW (v := (nI 0)) (Or.inl (⟨by omega, rfl, rfl⟩)) rfl (by decide) (by decide) dX7_surplusWithout_15

set_option maxRecDepth 100000 in
set_option maxHeartbeats 4000000 in
theorem c_X7_wouldWin (l : Launch) (G : Gt) (a : Nat → Nat) (th lo bi ru ol ob : Nat) (tk : Int) (fib gra res buy lst bst rea bid pri itm akf akg got : Nat → Nat) (pai : Nat → Int) (riv rf ro rs lat bat : Nat → Nat) (val : Nat → Int) (cos row ahe wan giv : Nat → Nat) (Y : va_W) (z : Int) (hI : MIa lo bi ru ol ob fib gra res buy lst bst rea bid pri itm akf akg got pai riv rf ro rs) (hlat : ∀ k, lat k < 40) (hbat : ∀ k, bat k < 40) (hcos : ∀ x, cos x ≤ 2000000) (hrow : ∀ x, row x ≤ 2000000) (hahe : ∀ x, ahe x ≤ 2000000) (hwan : ∀ x, wan x < 120) (hgiv : ∀ x, giv x < 40) (hz : iR z) : Ci l G yX7_wouldWin (ww yX7_wouldWin cX7_wouldWin 2 (some FieldType.boolean)) (RM 13 0 0) [.ref (a 0), .int (zI z)] (mW G a th lo bi ru ol ob tk fib gra res buy lst bst rea bid pri itm akf akg got pai riv rf ro rs lat bat val cos row ahe wan giv ++ Y) (fun r w2 => ((¬ (0 ≤ z ∧ z < ((bi : Nat) : Int))) ∧ r = nI 0 ∧ w2 = (mW G a 1 lo bi ru ol ob tk fib gra res buy lst bst rea bid pri itm akf akg got pai riv rf ro rs lat bat val cos row ahe wan giv ++ Y)) ∨ (((0 ≤ z ∧ z < ((bi : Nat) : Int)) ∧ bst z.toNat ≠ 111) ∧ r = nI 0 ∧ w2 = (mW G a 2 lo bi ru ol ob tk fib gra res buy lst bst rea bid pri itm akf akg got pai riv rf ro rs lat bat val cos row ahe wan giv ++ Y)) ∨ (((0 ≤ z ∧ z < ((bi : Nat) : Int)) ∧ bst z.toNat = 111) ∧ ∃ (la ba : Nat → Nat) (v2 : Nat → Int) (g2 r2 : Nat → Nat), AllP lo bi ru ol ob fib gra res lst bst bid pri itm akf akg rf ro rs la ba v2 ∧ (∀ x, g2 x ≤ 2000000) ∧ (∀ x, r2 x ≤ 2000000) ∧ r = nI (if (fst1 (fun k => decide (ba k = z.toNat)) ob) < ob ∧ (bsM v2 (fun k => bid (ba k)) ob (-1) 256).testBit (fst1 (fun k => decide (ba k = z.toNat)) ob) = true then 1 else 0) ∧ w2 = (mW G a 0 lo bi ru ol ob tk fib gra res buy lst bst rea bid pri itm akf akg got pai riv rf ro rs la ba v2 g2 r2 ahe wan giv ++ Y))) := by
  refine Ci.intro (by decide) (Nat.le_of_ble_eq_true rfl) ?_
  intro p e s m args below meth c A X hW ls hl
  have hx := X.exec
  have hb := X.bytes
  have hl : lv_has ls 2 [(0, .ref (a 0)), (1, .int (zI z))] := hl
  obtain ⟨hlo, hbi, hru, hol, hob, hfib, hgra, hres, hbuy, hlst, hbst, hrea, hbid, hpri, hitm, hakf, hakg, hgot, hriv, hrf, hro, hrs, hpai, hcl, hcb⟩ := id hI
  have hcb : cntB (isO bst) bi = ob := hcb
  have hbz := hbst z.toNat
  have hiz := hitm z.toNat
  have hpz := hpri z.toNat
  have hbdz := hbid z.toNat
  refine lv_aload_n hx hb dX7_wouldWin_0 rfl (lv_at hl 0 rfl) ?_
  refine lv_iload_n hx hb dX7_wouldWin_1 rfl (lv_at hl 1 rfl) ?_
  refine go_i X hW (run_V X hW (As := [.int (zI z)]) (rest := []) 10 0 rfl (c_X7_noBid l G a th lo bi ru ol ob tk fib gra res buy lst bst rea bid pri itm akf akg got pai riv rf ro rs lat bat val cos row ahe wan giv Y (zI z) z rfl (by omega) (by omega) _) (gi_V wq_1332 wq_1334 wq_58 wq_67 wq_1335) rfl hyX7_noBid rfl rfl rfl hl.1 (Nat.le_of_ble_eq_true rfl) ⟨Nat.le_of_ble_eq_true rfl, Nat.le_of_ble_eq_true rfl⟩ ⟨by decide, by decide⟩ dX7_wouldWin_2) (fun r w2 H locs hp hW => ?_)
  obtain ⟨rfl, rfl⟩ := hp
  refine p_if_eq hx hb (tgt := 10) dX7_wouldWin_5 (by decide) (fun c_5 => ?_) (fun c_5 => ?_)
  · rw [if_neg c_5] at hW
    refine lv_aload_n hx hb dX7_wouldWin_10 rfl (lv_at hl 0 rfl) ?_
    refine lv_aload_n hx hb dX7_wouldWin_11 rfl (lv_at hl 0 rfl) ?_
    refine x_get X hW 0 rfl 12 rfl rfl iwX7 (by decide) wq_1092 rfl dX7_wouldWin_12 ?_
    refine lv_iload_n hx hb dX7_wouldWin_15 rfl (lv_at hl 1 rfl) ?_
    refine r_zn (a := z.toNat) (by omega) ?_
    refine n_cald X hW (n := 40) (f := bst) 6 rfl (by omega) (by decide) dX7_wouldWin_16 ?_
    refine lv_bipush (v := nI 111) hx hb dX7_wouldWin_17 (by decide) ?_
    refine n_icmp_ne hx hb rfl rfl (by omega) (by omega) (tgt := 26) dX7_wouldWin_19 (by decide) (fun c_19 => ?_) (fun c_19 => ?_)
    · refine lv_iconst (v := nI 2) hx hb dX7_wouldWin_26 (by decide) ?_
      refine x_put X hW 0 rfl 0 (w2 := (mW G a 2 lo bi ru ol ob tk fib gra res buy lst bst rea bid pri itm akf akg got pai riv rf ro rs lat bat val cos row ahe wan giv ++ Y)) rfl rfl iwX7 tyX7_ok nmX7 (by decide) wq_1080 rfl rfl rfl rfl (Nat.le_of_ble_eq_true rfl) dX7_wouldWin_27 (fun H locs hW => ?_)
      refine lv_aload_n hx hb dX7_wouldWin_30 rfl (lv_at hl 0 rfl) ?_
      refine x_get X hW 0 rfl 0 rfl rfl iwX7 (by decide) wq_1080 rfl dX7_wouldWin_31 ?_
      refine n_if_eq hx hb rfl (by omega) (tgt := 39) dX7_wouldWin_34 (by decide) (fun c_34 => absurd c_34 (by decide)) (fun c_34 => ?_)
      refine lv_iconst (v := nI 0) hx hb dX7_wouldWin_37 (by decide) ?_
      exact ret_z X hW (v := (nI 0)) (Or.inr (Or.inl (⟨by omega, rfl, rfl⟩))) rfl (by first | rfl | exact (pk_charN (by omega)).1) (by decide) (by decide) dX7_wouldWin_38
    · refine lv_iconst (v := nI 0) hx hb dX7_wouldWin_22 (by decide) ?_
      refine lv_goto (tgt := 27) hx hb dX7_wouldWin_23 (by decide) ?_
      refine x_put X hW 0 rfl 0 (w2 := (mW G a 0 lo bi ru ol ob tk fib gra res buy lst bst rea bid pri itm akf akg got pai riv rf ro rs lat bat val cos row ahe wan giv ++ Y)) rfl rfl iwX7 tyX7_ok nmX7 (by decide) wq_1080 rfl rfl rfl rfl (Nat.le_of_ble_eq_true rfl) dX7_wouldWin_27 (fun H locs hW => ?_)
      refine lv_aload_n hx hb dX7_wouldWin_30 rfl (lv_at hl 0 rfl) ?_
      refine x_get X hW 0 rfl 0 rfl rfl iwX7 (by decide) wq_1080 rfl dX7_wouldWin_31 ?_
      refine n_if_eq hx hb rfl (by omega) (tgt := 39) dX7_wouldWin_34 (by decide) (fun c_34 => ?_) (fun c_34 => absurd c_34 (by decide))
      refine lv_aload_n hx hb dX7_wouldWin_39 rfl (lv_at hl 0 rfl) ?_
      refine go_v X hW (run_V X hW (As := []) (rest := []) 10 0 rfl (c_X7_all l G a 0 lo bi ru ol ob tk fib gra res buy lst bst rea bid pri itm akf akg got pai riv rf ro rs lat bat val cos row ahe wan giv Y hI hlat hbat hcos hrow _) (gi_V wq_1239 wq_1241 wq_47 wq_67 wq_1242) rfl hyX7_all rfl rfl rfl hl.1 (Nat.le_of_ble_eq_true rfl) ⟨Nat.le_of_ble_eq_true rfl, Nat.le_of_ble_eq_true rfl⟩ ⟨by decide, by decide⟩ dX7_wouldWin_40) (fun w2 H locs hp hW => ?_)
      obtain ⟨la, ba, v2, g2, r2, hA, hg2, hr2, rfl⟩ := hp
      obtain ⟨hla, hba, hlaE, hbaE, hv2, hF⟩ := id hA
      have hinj : ∀ x y, x < ob → y < ob → ba x = ba y → x = y := fun x y hx hy e => opn_inj (hcb.symm ▸ hx : x < cntB (isO bst) bi) (hcb.symm ▸ hy : y < cntB (isO bst) bi) (by rw [← hbaE x hx, ← hbaE y hy]; exact e)
      refine lv_aload_n hx hb dX7_wouldWin_43 rfl (lv_at hl 0 rfl) ?_
      refine lv_aload_n hx hb dX7_wouldWin_44 rfl (lv_at hl 0 rfl) ?_
      refine lv_iconst (v := zI (-1)) hx hb dX7_wouldWin_45 (by decide) ?_
      refine go_i X hW (run_V X hW (As := [.int (zI (-1))]) (rest := [.ref (a 0)]) 10 0 rfl (c_X7_best l G a 0 lo bi ru ol ob tk fib gra res buy lst bst rea bid pri itm akf akg got pai riv rf ro rs la ba v2 g2 r2 ahe wan giv Y (-1) hI (by omega) hba hv2 _) (gi_V wq_1265 wq_1267 wq_53 wq_67 wq_1268) rfl hyX7_best rfl rfl rfl hl.1 (Nat.le_of_ble_eq_true rfl) ⟨Nat.le_of_ble_eq_true rfl, Nat.le_of_ble_eq_true rfl⟩ ⟨by decide, by decide⟩ dX7_wouldWin_46) (fun r w2 H locs hp hW => ?_)
      obtain ⟨rfl, rfl⟩ := hp
      have hbs := best_PS (-1) hF
      have hbs1 := hbs.1
      refine lv_iload_n hx hb dX7_wouldWin_49 rfl (lv_at hl 1 rfl) ?_
      refine r_zn (a := z.toNat) (by omega) ?_
      refine go_i X hW (run_V X hW (As := [.int (nI (bsM v2 (fun k => bid (ba k)) ob (-1) 256)), .int (nI z.toNat)]) (rest := []) 10 0 rfl (c_X7_isInSet l G a 0 lo bi ru ol ob tk fib gra res buy lst bst rea bid pri itm akf akg got pai riv rf ro rs la ba v2 g2 r2 ahe wan giv Y (bsM v2 (fun k => bid (ba k)) ob (-1) 256) z.toNat hI (by omega) (by omega) hba _) (gi_V wq_1389 wq_1391 wq_59 wq_67 wq_1392) rfl hyX7_isInSet rfl rfl rfl hl.1 (Nat.le_of_ble_eq_true rfl) ⟨Nat.le_of_ble_eq_true rfl, Nat.le_of_ble_eq_true rfl⟩ ⟨by decide, by decide⟩ dX7_wouldWin_50) (fun r w2 H locs hp hW => ?_)
      obtain ⟨rfl, rfl⟩ := hp
      exact ret_z X hW (v := (nI (if (fst1 (fun k => decide (ba k = z.toNat)) ob) < ob ∧ (bsM v2 (fun k => bid (ba k)) ob (-1) 256).testBit (fst1 (fun k => decide (ba k = z.toNat)) ob) = true then 1 else 0))) (Or.inr (Or.inr (⟨by omega, la, ba, v2, g2, r2, hA, hg2, hr2, rfl, rfl⟩))) rfl (nar_b _) (by decide) (by decide) dX7_wouldWin_53
  · rw [if_pos c_5] at hW
    refine lv_iconst (v := nI 0) hx hb dX7_wouldWin_8 (by decide) ?_
    exact ret_z X hW (v := (nI 0)) (Or.inl (⟨by omega, rfl, rfl⟩)) rfl (by first | rfl | exact (pk_charN (by omega)).1) (by decide) (by decide) dX7_wouldWin_9

set_option maxRecDepth 100000 in
set_option maxHeartbeats 4000000 in
theorem c_X7_wouldWinBySets (l : Launch) (G : Gt) (a : Nat → Nat) (th lo bi ru ol ob : Nat) (tk : Int) (fib gra res buy lst bst rea bid pri itm akf akg got : Nat → Nat) (pai : Nat → Int) (riv rf ro rs lat bat : Nat → Nat) (val : Nat → Int) (cos row ahe wan giv : Nat → Nat) (Y : va_W) (z : Int) (hI : MIa lo bi ru ol ob fib gra res buy lst bst rea bid pri itm akf akg got pai riv rf ro rs) (hlat : ∀ k, lat k < 40) (hbat : ∀ k, bat k < 40) (hcos : ∀ x, cos x ≤ 2000000) (hrow : ∀ x, row x ≤ 2000000) (hahe : ∀ x, ahe x ≤ 2000000) (hwan : ∀ x, wan x < 120) (hgiv : ∀ x, giv x < 40) (hz : iR z) : Ci l G yX7_wouldWinBySets (ww yX7_wouldWinBySets cX7_wouldWinBySets 2 (some FieldType.boolean)) (RM 14 0 0) [.ref (a 0), .int (zI z)] (mW G a th lo bi ru ol ob tk fib gra res buy lst bst rea bid pri itm akf akg got pai riv rf ro rs lat bat val cos row ahe wan giv ++ Y) (fun r w2 => ((¬ (0 ≤ z ∧ z < ((bi : Nat) : Int))) ∧ r = nI 0 ∧ w2 = (mW G a 1 lo bi ru ol ob tk fib gra res buy lst bst rea bid pri itm akf akg got pai riv rf ro rs lat bat val cos row ahe wan giv ++ Y)) ∨ (((0 ≤ z ∧ z < ((bi : Nat) : Int)) ∧ bst z.toNat ≠ 111) ∧ r = nI 0 ∧ w2 = (mW G a 2 lo bi ru ol ob tk fib gra res buy lst bst rea bid pri itm akf akg got pai riv rf ro rs lat bat val cos row ahe wan giv ++ Y)) ∨ (((0 ≤ z ∧ z < ((bi : Nat) : Int)) ∧ bst z.toNat = 111) ∧ ∃ (la ba : Nat → Nat) (v2 : Nat → Int) (g2 r2 : Nat → Nat), AllP lo bi ru ol ob fib gra res lst bst bid pri itm akf akg rf ro rs la ba v2 ∧ (∀ x, g2 x ≤ 2000000) ∧ (∀ x, r2 x ≤ 2000000) ∧ r = nI (if (fst1 (fun k => decide (ba k = z.toNat)) ob) < ob ∧ (bsM v2 (fun k => bid (ba k)) ob (-1) 256).testBit (fst1 (fun k => decide (ba k = z.toNat)) ob) = true then 1 else 0) ∧ w2 = (mW G a 0 lo bi ru ol ob tk fib gra res buy lst bst rea bid pri itm akf akg got pai riv rf ro rs la ba v2 g2 r2 ahe wan giv ++ Y))) := by
  refine Ci.intro (by decide) (Nat.le_of_ble_eq_true rfl) ?_
  intro p e s m args below meth c A X hW ls hl
  have hx := X.exec
  have hb := X.bytes
  have hl : lv_has ls 2 [(0, .ref (a 0)), (1, .int (zI z))] := hl
  refine lv_aload_n hx hb dX7_wouldWinBySets_0 rfl (lv_at hl 0 rfl) ?_
  refine lv_iload_n hx hb dX7_wouldWinBySets_1 rfl (lv_at hl 1 rfl) ?_
  refine go_i X hW (run_V X hW (As := [.int (zI z)]) (rest := []) 10 0 rfl (c_X7_wouldWin l G a th lo bi ru ol ob tk fib gra res buy lst bst rea bid pri itm akf akg got pai riv rf ro rs lat bat val cos row ahe wan giv Y z hI hlat hbat hcos hrow hahe hwan hgiv hz _) (gi_V wq_1397 wq_1386 wq_1387 wq_67 wq_1388) rfl hyX7_wouldWin rfl rfl rfl hl.1 (Nat.le_of_ble_eq_true rfl) ⟨Nat.le_of_ble_eq_true rfl, Nat.le_of_ble_eq_true rfl⟩ ⟨by decide, by decide⟩ dX7_wouldWinBySets_2) (fun r w2 H locs hp hW => ?_)
  rcases hp with ⟨c1, rfl, rfl⟩ | ⟨c1, rfl, rfl⟩ | ⟨c1, la, ba, v2, g2, r2, hA, hg2, hr2, rfl, rfl⟩
  · exact ret_z X hW (Or.inl (⟨c1, rfl, rfl⟩)) rfl rfl (by decide) (by decide) dX7_wouldWinBySets_5
  · exact ret_z X hW (Or.inr (Or.inl (⟨c1, rfl, rfl⟩))) rfl rfl (by decide) (by decide) dX7_wouldWinBySets_5
  · exact ret_z X hW (Or.inr (Or.inr (⟨c1, la, ba, v2, g2, r2, hA, hg2, hr2, rfl, rfl⟩))) rfl (nar_b _) (by decide) (by decide) dX7_wouldWinBySets_5

set_option maxRecDepth 100000 in
set_option maxHeartbeats 4000000 in
theorem c_X7_costOf (l : Launch) (G : Gt) (a : Nat → Nat) (th lo bi ru ol ob : Nat) (tk : Int) (fib gra res buy lst bst rea bid pri itm akf akg got : Nat → Nat) (pai : Nat → Int) (riv rf ro rs lat bat : Nat → Nat) (val : Nat → Int) (cos row ahe wan giv : Nat → Nat) (Y : va_W) (z : Int) (hI : MIa lo bi ru ol ob fib gra res buy lst bst rea bid pri itm akf akg got pai riv rf ro rs) (hlat : ∀ k, lat k < 40) (hbat : ∀ k, bat k < 40) (hcos : ∀ x, cos x ≤ 2000000) (hrow : ∀ x, row x ≤ 2000000) (hahe : ∀ x, ahe x ≤ 2000000) (hwan : ∀ x, wan x < 120) (hgiv : ∀ x, giv x < 40) (hz : iR z) : Ci l G yX7_costOf (ww yX7_costOf cX7_costOf 3 (some FieldType.int)) (RM 13 0 0) [.ref (a 0), .int (zI z)] (mW G a th lo bi ru ol ob tk fib gra res buy lst bst rea bid pri itm akf akg got pai riv rf ro rs lat bat val cos row ahe wan giv ++ Y) (fun r w2 => ((¬ (0 ≤ z ∧ z < ((bi : Nat) : Int))) ∧ r = nI 0 ∧ w2 = (mW G a 1 lo bi ru ol ob tk fib gra res buy lst bst rea bid pri itm akf akg got pai riv rf ro rs lat bat val cos row ahe wan giv ++ Y)) ∨ (((0 ≤ z ∧ z < ((bi : Nat) : Int)) ∧ bst z.toNat ≠ 111) ∧ r = nI 0 ∧ w2 = (mW G a 2 lo bi ru ol ob tk fib gra res buy lst bst rea bid pri itm akf akg got pai riv rf ro rs lat bat val cos row ahe wan giv ++ Y)) ∨ (((0 ≤ z ∧ z < ((bi : Nat) : Int)) ∧ bst z.toNat = 111) ∧ ∃ (la ba : Nat → Nat) (v2 : Nat → Int) (g2 r2 : Nat → Nat), AllP lo bi ru ol ob fib gra res lst bst bid pri itm akf akg rf ro rs la ba v2 ∧ (∀ x, g2 x ≤ 2000000) ∧ (∀ x, r2 x ≤ 2000000) ∧ (∃ k, k < ob ∧ (ba k = z.toNat ∧ v2 (2 ^ k) ≠ -1000000) ∧ (∀ j, j < k → ¬ (ba j = z.toNat ∧ v2 (2 ^ j) ≠ -1000000)) ∧ r = zI ((((pri z.toNat : Nat) : Int) - v2 (2 ^ k)))) ∧ w2 = (mW G a 0 lo bi ru ol ob tk fib gra res buy lst bst rea bid pri itm akf akg got pai riv rf ro rs la ba v2 g2 r2 ahe wan giv ++ Y)) ∨ (((0 ≤ z ∧ z < ((bi : Nat) : Int)) ∧ bst z.toNat = 111) ∧ ∃ (la ba : Nat → Nat) (v2 : Nat → Int) (g2 r2 : Nat → Nat), AllP lo bi ru ol ob fib gra res lst bst bid pri itm akf akg rf ro rs la ba v2 ∧ (∀ x, g2 x ≤ 2000000) ∧ (∀ x, r2 x ≤ 2000000) ∧ (∀ k, k < ob → ¬ (ba k = z.toNat ∧ v2 (2 ^ k) ≠ -1000000)) ∧ r = nI 0 ∧ w2 = (mW G a 3 lo bi ru ol ob tk fib gra res buy lst bst rea bid pri itm akf akg got pai riv rf ro rs la ba v2 g2 r2 ahe wan giv ++ Y))) := by
  refine Ci.intro (by decide) (Nat.le_of_ble_eq_true rfl) ?_
  intro p e s m args below meth c A X hW ls hl
  have hx := X.exec
  have hb := X.bytes
  have hl : lv_has ls 3 [(0, .ref (a 0)), (1, .int (zI z))] := hl
  obtain ⟨hlo, hbi, hru, hol, hob, hfib, hgra, hres, hbuy, hlst, hbst, hrea, hbid, hpri, hitm, hakf, hakg, hgot, hriv, hrf, hro, hrs, hpai, hcl, hcb⟩ := id hI
  have hcb : cntB (isO bst) bi = ob := hcb
  have hbz := hbst z.toNat
  have hiz := hitm z.toNat
  have hpz := hpri z.toNat
  have hbdz := hbid z.toNat
  refine lv_aload_n hx hb dX7_costOf_0 rfl (lv_at hl 0 rfl) ?_
  refine lv_iload_n hx hb dX7_costOf_1 rfl (lv_at hl 1 rfl) ?_
  refine go_i X hW (run_V X hW (As := [.int (zI z)]) (rest := []) 10 0 rfl (c_X7_noBid l G a th lo bi ru ol ob tk fib gra res buy lst bst rea bid pri itm akf akg got pai riv rf ro rs lat bat val cos row ahe wan giv Y (zI z) z rfl (by omega) (by omega) _) (gi_V wq_1332 wq_1334 wq_58 wq_67 wq_1335) rfl hyX7_noBid rfl rfl rfl hl.1 (Nat.le_of_ble_eq_true rfl) ⟨Nat.le_of_ble_eq_true rfl, Nat.le_of_ble_eq_true rfl⟩ ⟨by decide, by decide⟩ dX7_costOf_2) (fun r w2 H locs hp hW => ?_)
  obtain ⟨rfl, rfl⟩ := hp
  refine p_if_eq hx hb (tgt := 10) dX7_costOf_5 (by decide) (fun c_5 => ?_) (fun c_5 => ?_)
  · rw [if_neg c_5] at hW
    refine lv_aload_n hx hb dX7_costOf_10 rfl (lv_at hl 0 rfl) ?_
    refine x_get X hW 0 rfl 12 rfl rfl iwX7 (by decide) wq_1092 rfl dX7_costOf_11 ?_
    refine lv_iload_n hx hb dX7_costOf_14 rfl (lv_at hl 1 rfl) ?_
    refine r_zn (a := z.toNat) (by omega) ?_
    refine n_cald X hW (n := 40) (f := bst) 6 rfl (by omega) (by decide) dX7_costOf_15 ?_
    refine lv_bipush (v := nI 111) hx hb dX7_costOf_16 (by decide) ?_
    refine n_icmp_eq hx hb rfl rfl (by omega) (by omega) (tgt := 27) dX7_costOf_18 (by decide) (fun c_18 => ?_) (fun c_18 => ?_)
    · refine lv_aload_n hx hb dX7_costOf_27 rfl (lv_at hl 0 rfl) ?_
      refine go_v X hW (run_V X hW (As := []) (rest := []) 10 0 rfl (c_X7_all l G a 0 lo bi ru ol ob tk fib gra res buy lst bst rea bid pri itm akf akg got pai riv rf ro rs lat bat val cos row ahe wan giv Y hI hlat hbat hcos hrow _) (gi_V wq_1239 wq_1241 wq_47 wq_67 wq_1242) rfl hyX7_all rfl rfl rfl hl.1 (Nat.le_of_ble_eq_true rfl) ⟨Nat.le_of_ble_eq_true rfl, Nat.le_of_ble_eq_true rfl⟩ ⟨by decide, by decide⟩ dX7_costOf_28) (fun w2 H locs hp hW => ?_)
      obtain ⟨la, ba, v2, g2, r2, hA, hg2, hr2, rfl⟩ := hp
      obtain ⟨hla, hba, hlaE, hbaE, hv2, hF⟩ := id hA
      have hinj : ∀ x y, x < ob → y < ob → ba x = ba y → x = y := fun x y hx hy e => opn_inj (hcb.symm ▸ hx : x < cntB (isO bst) bi) (hcb.symm ▸ hy : y < cntB (isO bst) bi) (by rw [← hbaE x hx, ← hbaE y hy]; exact e)
      refine lv_iconst (v := nI 0) hx hb dX7_costOf_31 (by decide) ?_
      refine lv_istore_n (lv' := [(2, .int (nI 0)), (0, .ref (a 0)), (1, .int (zI z))]) hx hb dX7_costOf_32 rfl hl (by decide) rfl (fun ls hl => ?_)
      have loop : ∀ (n : Nat) (k : Nat), ob + 1 ≤ k + n → k ≤ ob → (∀ j, j < k → ¬ (ba j = z.toNat ∧ v2 (2 ^ j) ≠ -1000000)) → ∀ (H : Heap) (locs : List Loc) (ls : Array Slot), Wd G A s (mW G a 0 lo bi ru ol ob tk fib gra res buy lst bst rea bid pri itm akf akg got pai riv rf ro rs la ba v2 g2 r2 ahe wan giv ++ Y) H locs → lv_has ls 3 [(0, .ref (a 0)), (1, .int (zI z)), (2, .int (nI k))] → W p l e (RM 13 0 0) s m args below meth c H locs 0 0 (MQ below (Qi G A (fun r w2 => ((¬ (0 ≤ z ∧ z < ((bi : Nat) : Int))) ∧ r = nI 0 ∧ w2 = (mW G a 1 lo bi ru ol ob tk fib gra res buy lst bst rea bid pri itm akf akg got pai riv rf ro rs lat bat val cos row ahe wan giv ++ Y)) ∨ (((0 ≤ z ∧ z < ((bi : Nat) : Int)) ∧ bst z.toNat ≠ 111) ∧ r = nI 0 ∧ w2 = (mW G a 2 lo bi ru ol ob tk fib gra res buy lst bst rea bid pri itm akf akg got pai riv rf ro rs lat bat val cos row ahe wan giv ++ Y)) ∨ (((0 ≤ z ∧ z < ((bi : Nat) : Int)) ∧ bst z.toNat = 111) ∧ ∃ (la ba : Nat → Nat) (v2 : Nat → Int) (g2 r2 : Nat → Nat), AllP lo bi ru ol ob fib gra res lst bst bid pri itm akf akg rf ro rs la ba v2 ∧ (∀ x, g2 x ≤ 2000000) ∧ (∀ x, r2 x ≤ 2000000) ∧ (∃ k, k < ob ∧ (ba k = z.toNat ∧ v2 (2 ^ k) ≠ -1000000) ∧ (∀ j, j < k → ¬ (ba j = z.toNat ∧ v2 (2 ^ j) ≠ -1000000)) ∧ r = zI ((((pri z.toNat : Nat) : Int) - v2 (2 ^ k)))) ∧ w2 = (mW G a 0 lo bi ru ol ob tk fib gra res buy lst bst rea bid pri itm akf akg got pai riv rf ro rs la ba v2 g2 r2 ahe wan giv ++ Y)) ∨ (((0 ≤ z ∧ z < ((bi : Nat) : Int)) ∧ bst z.toNat = 111) ∧ ∃ (la ba : Nat → Nat) (v2 : Nat → Int) (g2 r2 : Nat → Nat), AllP lo bi ru ol ob fib gra res lst bst bid pri itm akf akg rf ro rs la ba v2 ∧ (∀ x, g2 x ≤ 2000000) ∧ (∀ x, r2 x ≤ 2000000) ∧ (∀ k, k < ob → ¬ (ba k = z.toNat ∧ v2 (2 ^ k) ≠ -1000000)) ∧ r = nI 0 ∧ w2 = (mW G a 3 lo bi ru ol ob tk fib gra res buy lst bst rea bid pri itm akf akg got pai riv rf ro rs la ba v2 g2 r2 ahe wan giv ++ Y)))) args s (RM 13 0 0).cells (RM 13 0 0).slots A) (F0 m 33 ls []) := by
        intro n
        induction n with
        | zero => intro k h1 h2 h3; exact absurd h1 (by omega)
        | succ n ih =>
          intro k h1 h2 h3 H locs ls hW hl
          have hbk := hba k
          refine lv_iload_n hx hb dX7_costOf_33 rfl (lv_at hl 2 rfl) ?_
          refine lv_aload_n hx hb dX7_costOf_34 rfl (lv_at hl 0 rfl) ?_
          refine x_get X hW 0 rfl 5 rfl rfl iwX7 (by decide) wq_1085 rfl dX7_costOf_35 ?_
          refine n_icmp_ge hx hb rfl rfl (by omega) (by omega) (tgt := 86) dX7_costOf_38 (by decide) (fun c_38 => ?_) (fun c_38 => ?_)
          · refine lv_aload_n hx hb dX7_costOf_86 rfl (lv_at hl 0 rfl) ?_
            refine lv_iconst (v := nI 3) hx hb dX7_costOf_87 (by decide) ?_
            refine go_i X hW (run_V X hW (As := [.int (nI 3)]) (rest := []) 10 0 rfl (c_X7_fail l G a 0 lo bi ru ol ob tk fib gra res buy lst bst rea bid pri itm akf akg got pai riv rf ro rs la ba v2 g2 r2 ahe wan giv Y 3 _) (gi_V wq_1195 wq_1197 wq_44 wq_67 wq_1198) rfl hyX7_fail rfl rfl rfl hl.1 (Nat.le_of_ble_eq_true rfl) ⟨Nat.le_of_ble_eq_true rfl, Nat.le_of_ble_eq_true rfl⟩ ⟨by decide, by decide⟩ dX7_costOf_88) (fun r w2 H locs hp hW => ?_)
            obtain ⟨rfl, rfl⟩ := hp
            exact ret_i X hW (v := (nI 0)) (Or.inr (Or.inr (Or.inr (⟨by omega, la, ba, v2, g2, r2, hA, hg2, hr2, fun k hk => h3 k (by omega), rfl, rfl⟩)))) rfl (by decide) (by decide) dX7_costOf_91
          · refine lv_aload_n hx hb dX7_costOf_41 rfl (lv_at hl 0 rfl) ?_
            refine x_get X hW 0 rfl 26 rfl rfl iwX7 (by decide) wq_1106 rfl dX7_costOf_42 ?_
            refine lv_iload_n hx hb dX7_costOf_45 rfl (lv_at hl 2 rfl) ?_
            refine n_iald X hW (n := 8) (f := ba) 20 rfl (by omega) (by decide) dX7_costOf_46 ?_
            refine lv_iload_n hx hb dX7_costOf_47 rfl (lv_at hl 1 rfl) ?_
            refine r_zn (a := z.toNat) (by omega) ?_
            refine n_icmp_ne hx hb rfl rfl (by have := hba k; omega) (by omega) (tgt := 80) dX7_costOf_48 (by decide) (fun c_48 => ?_) (fun c_48 => ?_)
            · refine lv_iinc (v := (nI (k + 1))) (lv' := [(2, .int (nI (k + 1))), (0, .ref (a 0)), (1, .int (zI z))]) hx hb dX7_costOf_80 hl (k := 2) rfl (nI_add _ _) (by decide) rfl (fun ls hl => ?_)
              refine lv_goto (tgt := 33) hx hb dX7_costOf_83 (by decide) ?_
              exact ih (k + 1) (by omega) (by omega) (fun j hj q => by rcases Nat.lt_or_ge j k with r | r; exact h3 j r q; rw [show j = k by omega] at q; exact c_48 q.1) _ _ _ hW (lv_sub hl [1, 2, 0] rfl)
            · refine lv_aload_n hx hb dX7_costOf_51 rfl (lv_at hl 0 rfl) ?_
              refine x_get X hW 0 rfl 27 rfl rfl iwX7 (by decide) wq_1107 rfl dX7_costOf_52 ?_
              have hk2 := p2_le (k := k) (by omega)
              refine lv_iconst (v := nI 1) hx hb dX7_costOf_55 (by decide) ?_
              refine lv_iload_n hx hb dX7_costOf_56 rfl (lv_at hl 2 rfl) ?_
              refine n_ishl1 hx hb (by omega) dX7_costOf_57 ?_
              refine z_iald X hW (n := 256) (f := v2) 21 rfl (by omega) (by decide) dX7_costOf_58 ?_
              refine lv_ldc (v := (-1000000 : Int32)) hx hb X.own (X.ws _ wq_1247) dX7_costOf_59 ?_
              rw [show (-1000000 : Int32) = zI (-1000000) by decide]
              refine z_icmp_eq hx hb rfl rfl (by have := hv2 (2 ^ k) (by omega); omega) (by omega) (tgt := 80) dX7_costOf_61 (by decide) (fun c_61 => ?_) (fun c_61 => ?_)
              · refine lv_iinc (v := (nI (k + 1))) (lv' := [(2, .int (nI (k + 1))), (0, .ref (a 0)), (1, .int (zI z))]) hx hb dX7_costOf_80 hl (k := 2) rfl (nI_add _ _) (by decide) rfl (fun ls hl => ?_)
                refine lv_goto (tgt := 33) hx hb dX7_costOf_83 (by decide) ?_
                exact ih (k + 1) (by omega) (by omega) (fun j hj q => by rcases Nat.lt_or_ge j k with r | r; exact h3 j r q; rw [show j = k by omega] at q; exact q.2 c_61) _ _ _ hW (lv_sub hl [1, 2, 0] rfl)
              · refine lv_aload_n hx hb dX7_costOf_64 rfl (lv_at hl 0 rfl) ?_
                refine x_get X hW 0 rfl 15 rfl rfl iwX7 (by decide) wq_1095 rfl dX7_costOf_65 ?_
                refine lv_iload_n hx hb dX7_costOf_68 rfl (lv_at hl 1 rfl) ?_
                refine r_zn (a := z.toNat) (by omega) ?_
                refine n_iald X hW (n := 40) (f := pri) 9 rfl (by omega) (by decide) dX7_costOf_69 ?_
                refine lv_aload_n hx hb dX7_costOf_70 rfl (lv_at hl 0 rfl) ?_
                refine x_get X hW 0 rfl 27 rfl rfl iwX7 (by decide) wq_1107 rfl dX7_costOf_71 ?_
                have hk2 := p2_le (k := k) (by omega)
                refine lv_iconst (v := nI 1) hx hb dX7_costOf_74 (by decide) ?_
                refine lv_iload_n hx hb dX7_costOf_75 rfl (lv_at hl 2 rfl) ?_
                refine n_ishl1 hx hb (by omega) dX7_costOf_76 ?_
                refine z_iald X hW (n := 256) (f := v2) 21 rfl (by omega) (by decide) dX7_costOf_77 ?_
                refine z_isub hx hb (nZ _) rfl dX7_costOf_78 ?_
                exact ret_i X hW (v := (zI ((((pri z.toNat) : Nat) : Int) - ((v2 (2 ^ k)) : Int)))) (Or.inr (Or.inr (Or.inl (⟨by omega, la, ba, v2, g2, r2, hA, hg2, hr2, ⟨k, by omega, ⟨c_48, c_61⟩, h3, rfl⟩, rfl⟩)))) rfl (by decide) (by decide) dX7_costOf_79
      exact loop (ob + 1) 0 (by omega) (by omega) (fun j hj => absurd hj (Nat.not_lt_zero j)) _ _ _ hW (lv_sub hl [1, 2, 0] rfl)
    · refine lv_aload_n hx hb dX7_costOf_21 rfl (lv_at hl 0 rfl) ?_
      refine lv_iconst (v := nI 2) hx hb dX7_costOf_22 (by decide) ?_
      refine go_i X hW (run_V X hW (As := [.int (nI 2)]) (rest := []) 10 0 rfl (c_X7_fail l G a 0 lo bi ru ol ob tk fib gra res buy lst bst rea bid pri itm akf akg got pai riv rf ro rs lat bat val cos row ahe wan giv Y 2 _) (gi_V wq_1195 wq_1197 wq_44 wq_67 wq_1198) rfl hyX7_fail rfl rfl rfl hl.1 (Nat.le_of_ble_eq_true rfl) ⟨Nat.le_of_ble_eq_true rfl, Nat.le_of_ble_eq_true rfl⟩ ⟨by decide, by decide⟩ dX7_costOf_23) (fun r w2 H locs hp hW => ?_)
      obtain ⟨rfl, rfl⟩ := hp
      exact ret_i X hW (v := (nI 0)) (Or.inr (Or.inl (⟨by omega, rfl, rfl⟩))) rfl (by decide) (by decide) dX7_costOf_26
  · rw [if_pos c_5] at hW
    refine lv_iconst (v := nI 0) hx hb dX7_costOf_8 (by decide) ?_
    exact ret_i X hW (v := (nI 0)) (Or.inl (⟨by omega, rfl, rfl⟩)) rfl (by decide) (by decide) dX7_costOf_9

set_option maxRecDepth 100000 in
set_option maxHeartbeats 4000000 in
theorem c_X7_payment (l : Launch) (G : Gt) (a : Nat → Nat) (th lo bi ru ol ob : Nat) (tk : Int) (fib gra res buy lst bst rea bid pri itm akf akg got : Nat → Nat) (pai : Nat → Int) (riv rf ro rs lat bat : Nat → Nat) (val : Nat → Int) (cos row ahe wan giv : Nat → Nat) (Y : va_W) (z : Int) (hI : MIa lo bi ru ol ob fib gra res buy lst bst rea bid pri itm akf akg got pai riv rf ro rs) (hlat : ∀ k, lat k < 40) (hbat : ∀ k, bat k < 40) (hcos : ∀ x, cos x ≤ 2000000) (hrow : ∀ x, row x ≤ 2000000) (hahe : ∀ x, ahe x ≤ 2000000) (hwan : ∀ x, wan x < 120) (hgiv : ∀ x, giv x < 40) (hz : iR z) : Ci l G yX7_payment (ww yX7_payment cX7_payment 3 (some FieldType.int)) (RM 13 0 0) [.ref (a 0), .int (zI z)] (mW G a th lo bi ru ol ob tk fib gra res buy lst bst rea bid pri itm akf akg got pai riv rf ro rs lat bat val cos row ahe wan giv ++ Y) (fun r w2 => ((¬ (0 ≤ z ∧ z < ((bi : Nat) : Int))) ∧ r = nI 0 ∧ w2 = (mW G a 1 lo bi ru ol ob tk fib gra res buy lst bst rea bid pri itm akf akg got pai riv rf ro rs lat bat val cos row ahe wan giv ++ Y)) ∨ (((0 ≤ z ∧ z < ((bi : Nat) : Int)) ∧ bst z.toNat ≠ 111) ∧ r = nI 0 ∧ w2 = (mW G a 2 lo bi ru ol ob tk fib gra res buy lst bst rea bid pri itm akf akg got pai riv rf ro rs lat bat val cos row ahe wan giv ++ Y)) ∨ (((0 ≤ z ∧ z < ((bi : Nat) : Int)) ∧ bst z.toNat = 111) ∧ ∃ (la ba : Nat → Nat) (v2 : Nat → Int) (g2 r2 : Nat → Nat), AllP lo bi ru ol ob fib gra res lst bst bid pri itm akf akg rf ro rs la ba v2 ∧ (∀ x, g2 x ≤ 2000000) ∧ (∀ x, r2 x ≤ 2000000) ∧ ¬ ((fst1 (fun k => decide (ba k = z.toNat)) ob) < ob ∧ (bsM v2 (fun k => bid (ba k)) ob (-1) 256).testBit (fst1 (fun k => decide (ba k = z.toNat)) ob) = true) ∧ r = nI 0 ∧ w2 = (mW G a 3 lo bi ru ol ob tk fib gra res buy lst bst rea bid pri itm akf akg got pai riv rf ro rs la ba v2 g2 r2 ahe wan giv ++ Y)) ∨ (((0 ≤ z ∧ z < ((bi : Nat) : Int)) ∧ bst z.toNat = 111) ∧ ∃ (la ba : Nat → Nat) (v2 : Nat → Int) (g2 r2 : Nat → Nat), AllP lo bi ru ol ob fib gra res lst bst bid pri itm akf akg rf ro rs la ba v2 ∧ (∀ x, g2 x ≤ 2000000) ∧ (∀ x, r2 x ≤ 2000000) ∧ ((fst1 (fun k => decide (ba k = z.toNat)) ob) < ob ∧ (bsM v2 (fun k => bid (ba k)) ob (-1) 256).testBit (fst1 (fun k => decide (ba k = z.toNat)) ob) = true) ∧ r = zI ((((pri z.toNat : Nat) : Int) - v2 (bsM v2 (fun k => bid (ba k)) ob (-1) 256)) + v2 (bsM v2 (fun k => bid (ba k)) ob ((bid z.toNat : Nat) : Int) 256)) ∧ w2 = (mW G a 0 lo bi ru ol ob tk fib gra res buy lst bst rea bid pri itm akf akg got pai riv rf ro rs la ba v2 g2 r2 ahe wan giv ++ Y))) := by
  refine Ci.intro (by decide) (Nat.le_of_ble_eq_true rfl) ?_
  intro p e s m args below meth c A X hW ls hl
  have hx := X.exec
  have hb := X.bytes
  have hl : lv_has ls 3 [(0, .ref (a 0)), (1, .int (zI z))] := hl
  obtain ⟨hlo, hbi, hru, hol, hob, hfib, hgra, hres, hbuy, hlst, hbst, hrea, hbid, hpri, hitm, hakf, hakg, hgot, hriv, hrf, hro, hrs, hpai, hcl, hcb⟩ := id hI
  have hcb : cntB (isO bst) bi = ob := hcb
  have hbz := hbst z.toNat
  have hiz := hitm z.toNat
  have hpz := hpri z.toNat
  have hbdz := hbid z.toNat
  refine lv_aload_n hx hb dX7_payment_0 rfl (lv_at hl 0 rfl) ?_
  refine lv_iload_n hx hb dX7_payment_1 rfl (lv_at hl 1 rfl) ?_
  refine go_i X hW (run_V X hW (As := [.int (zI z)]) (rest := []) 10 0 rfl (c_X7_noBid l G a th lo bi ru ol ob tk fib gra res buy lst bst rea bid pri itm akf akg got pai riv rf ro rs lat bat val cos row ahe wan giv Y (zI z) z rfl (by omega) (by omega) _) (gi_V wq_1332 wq_1334 wq_58 wq_67 wq_1335) rfl hyX7_noBid rfl rfl rfl hl.1 (Nat.le_of_ble_eq_true rfl) ⟨Nat.le_of_ble_eq_true rfl, Nat.le_of_ble_eq_true rfl⟩ ⟨by decide, by decide⟩ dX7_payment_2) (fun r w2 H locs hp hW => ?_)
  obtain ⟨rfl, rfl⟩ := hp
  refine p_if_eq hx hb (tgt := 10) dX7_payment_5 (by decide) (fun c_5 => ?_) (fun c_5 => ?_)
  · rw [if_neg c_5] at hW
    refine lv_aload_n hx hb dX7_payment_10 rfl (lv_at hl 0 rfl) ?_
    refine x_get X hW 0 rfl 12 rfl rfl iwX7 (by decide) wq_1092 rfl dX7_payment_11 ?_
    refine lv_iload_n hx hb dX7_payment_14 rfl (lv_at hl 1 rfl) ?_
    refine r_zn (a := z.toNat) (by omega) ?_
    refine n_cald X hW (n := 40) (f := bst) 6 rfl (by omega) (by decide) dX7_payment_15 ?_
    refine lv_bipush (v := nI 111) hx hb dX7_payment_16 (by decide) ?_
    refine n_icmp_eq hx hb rfl rfl (by omega) (by omega) (tgt := 27) dX7_payment_18 (by decide) (fun c_18 => ?_) (fun c_18 => ?_)
    · refine lv_aload_n hx hb dX7_payment_27 rfl (lv_at hl 0 rfl) ?_
      refine go_v X hW (run_V X hW (As := []) (rest := []) 10 0 rfl (c_X7_all l G a 0 lo bi ru ol ob tk fib gra res buy lst bst rea bid pri itm akf akg got pai riv rf ro rs lat bat val cos row ahe wan giv Y hI hlat hbat hcos hrow _) (gi_V wq_1239 wq_1241 wq_47 wq_67 wq_1242) rfl hyX7_all rfl rfl rfl hl.1 (Nat.le_of_ble_eq_true rfl) ⟨Nat.le_of_ble_eq_true rfl, Nat.le_of_ble_eq_true rfl⟩ ⟨by decide, by decide⟩ dX7_payment_28) (fun w2 H locs hp hW => ?_)
      obtain ⟨la, ba, v2, g2, r2, hA, hg2, hr2, rfl⟩ := hp
      obtain ⟨hla, hba, hlaE, hbaE, hv2, hF⟩ := id hA
      have hinj : ∀ x y, x < ob → y < ob → ba x = ba y → x = y := fun x y hx hy e => opn_inj (hcb.symm ▸ hx : x < cntB (isO bst) bi) (hcb.symm ▸ hy : y < cntB (isO bst) bi) (by rw [← hbaE x hx, ← hbaE y hy]; exact e)
      refine lv_aload_n hx hb dX7_payment_31 rfl (lv_at hl 0 rfl) ?_
      refine lv_iconst (v := zI (-1)) hx hb dX7_payment_32 (by decide) ?_
      refine go_i X hW (run_V X hW (As := [.int (zI (-1))]) (rest := []) 10 0 rfl (c_X7_best l G a 0 lo bi ru ol ob tk fib gra res buy lst bst rea bid pri itm akf akg got pai riv rf ro rs la ba v2 g2 r2 ahe wan giv Y (-1) hI (by omega) hba hv2 _) (gi_V wq_1265 wq_1267 wq_53 wq_67 wq_1268) rfl hyX7_best rfl rfl rfl hl.1 (Nat.le_of_ble_eq_true rfl) ⟨Nat.le_of_ble_eq_true rfl, Nat.le_of_ble_eq_true rfl⟩ ⟨by decide, by decide⟩ dX7_payment_33) (fun r w2 H locs hp hW => ?_)
      obtain ⟨rfl, rfl⟩ := hp
      have hbs := best_PS (-1) hF
      have hbs1 := hbs.1
      refine lv_istore_n (lv' := [(2, .int (nI (bsM v2 (fun k => bid (ba k)) ob (-1) 256))), (0, .ref (a 0)), (1, .int (zI z))]) hx hb dX7_payment_36 rfl hl (by decide) rfl (fun ls hl => ?_)
      refine lv_aload_n hx hb dX7_payment_37 rfl (lv_at hl 1 rfl) ?_
      refine lv_iload_n hx hb dX7_payment_38 rfl (lv_at hl 0 rfl) ?_
      refine lv_iload_n hx hb dX7_payment_39 rfl (lv_at hl 2 rfl) ?_
      refine r_zn (a := z.toNat) (by omega) ?_
      refine go_i X hW (run_V X hW (As := [.int (nI (bsM v2 (fun k => bid (ba k)) ob (-1) 256)), .int (nI z.toNat)]) (rest := []) 10 0 rfl (c_X7_isInSet l G a 0 lo bi ru ol ob tk fib gra res buy lst bst rea bid pri itm akf akg got pai riv rf ro rs la ba v2 g2 r2 ahe wan giv Y (bsM v2 (fun k => bid (ba k)) ob (-1) 256) z.toNat hI (by omega) (by omega) hba _) (gi_V wq_1389 wq_1391 wq_59 wq_67 wq_1392) rfl hyX7_isInSet rfl rfl rfl hl.1 (Nat.le_of_ble_eq_true rfl) ⟨Nat.le_of_ble_eq_true rfl, Nat.le_of_ble_eq_true rfl⟩ ⟨by decide, by decide⟩ dX7_payment_40) (fun r w2 H locs hp hW => ?_)
      obtain ⟨rfl, rfl⟩ := hp
      refine p_if_ne hx hb (tgt := 52) dX7_payment_43 (by decide) (fun c_43 => ?_) (fun c_43 => ?_)
      · refine lv_aload_n hx hb dX7_payment_52 rfl (lv_at hl 1 rfl) ?_
        refine lv_iload_n hx hb dX7_payment_53 rfl (lv_at hl 0 rfl) ?_
        refine lv_iload_n hx hb dX7_payment_54 rfl (lv_at hl 2 rfl) ?_
        refine r_zn (a := z.toNat) (by omega) ?_
        refine go_i X hW (run_V X hW (As := [.int (nI (bsM v2 (fun k => bid (ba k)) ob (-1) 256)), .int (nI z.toNat)]) (rest := []) 10 0 rfl (c_X7_pays l G a 0 lo bi ru ol ob tk fib gra res buy lst bst rea bid pri itm akf akg got pai riv rf ro rs la ba v2 g2 r2 ahe wan giv Y (bsM v2 (fun k => bid (ba k)) ob (-1) 256) z.toNat hI (by omega) (by omega) hba hv2 _) (gi_V wq_1276 wq_1278 wq_55 wq_67 wq_1279) rfl hyX7_pays rfl rfl rfl hl.1 (Nat.le_of_ble_eq_true rfl) ⟨Nat.le_of_ble_eq_true rfl, Nat.le_of_ble_eq_true rfl⟩ ⟨by decide, by decide⟩ dX7_payment_55) (fun r w2 H locs hp hW => ?_)
        obtain ⟨rfl, rfl⟩ := hp
        exact ret_i X hW (v := (zI ((((pri z.toNat : Nat) : Int) - v2 (bsM v2 (fun k => bid (ba k)) ob (-1) 256)) + v2 (bsM v2 (fun k => bid (ba k)) ob ((bid z.toNat : Nat) : Int) 256)))) (Or.inr (Or.inr (Or.inr (⟨by omega, la, ba, v2, g2, r2, hA, hg2, hr2, c_43, rfl, rfl⟩)))) rfl (by decide) (by decide) dX7_payment_58
      · refine lv_aload_n hx hb dX7_payment_46 rfl (lv_at hl 1 rfl) ?_
        refine lv_iconst (v := nI 3) hx hb dX7_payment_47 (by decide) ?_
        refine go_i X hW (run_V X hW (As := [.int (nI 3)]) (rest := []) 10 0 rfl (c_X7_fail l G a 0 lo bi ru ol ob tk fib gra res buy lst bst rea bid pri itm akf akg got pai riv rf ro rs la ba v2 g2 r2 ahe wan giv Y 3 _) (gi_V wq_1195 wq_1197 wq_44 wq_67 wq_1198) rfl hyX7_fail rfl rfl rfl hl.1 (Nat.le_of_ble_eq_true rfl) ⟨Nat.le_of_ble_eq_true rfl, Nat.le_of_ble_eq_true rfl⟩ ⟨by decide, by decide⟩ dX7_payment_48) (fun r w2 H locs hp hW => ?_)
        obtain ⟨rfl, rfl⟩ := hp
        exact ret_i X hW (v := (nI 0)) (Or.inr (Or.inr (Or.inl (⟨by omega, la, ba, v2, g2, r2, hA, hg2, hr2, c_43, rfl, rfl⟩)))) rfl (by decide) (by decide) dX7_payment_51
    · refine lv_aload_n hx hb dX7_payment_21 rfl (lv_at hl 0 rfl) ?_
      refine lv_iconst (v := nI 2) hx hb dX7_payment_22 (by decide) ?_
      refine go_i X hW (run_V X hW (As := [.int (nI 2)]) (rest := []) 10 0 rfl (c_X7_fail l G a 0 lo bi ru ol ob tk fib gra res buy lst bst rea bid pri itm akf akg got pai riv rf ro rs lat bat val cos row ahe wan giv Y 2 _) (gi_V wq_1195 wq_1197 wq_44 wq_67 wq_1198) rfl hyX7_fail rfl rfl rfl hl.1 (Nat.le_of_ble_eq_true rfl) ⟨Nat.le_of_ble_eq_true rfl, Nat.le_of_ble_eq_true rfl⟩ ⟨by decide, by decide⟩ dX7_payment_23) (fun r w2 H locs hp hW => ?_)
      obtain ⟨rfl, rfl⟩ := hp
      exact ret_i X hW (v := (nI 0)) (Or.inr (Or.inl (⟨by omega, rfl, rfl⟩))) rfl (by decide) (by decide) dX7_payment_26
  · rw [if_pos c_5] at hW
    refine lv_iconst (v := nI 0) hx hb dX7_payment_8 (by decide) ?_
    exact ret_i X hW (v := (nI 0)) (Or.inl (⟨by omega, rfl, rfl⟩)) rfl (by decide) (by decide) dX7_payment_9

set_option maxRecDepth 100000 in
set_option maxHeartbeats 4000000 in
theorem c_X7_lotFor (l : Launch) (G : Gt) (a : Nat → Nat) (th lo bi ru ol ob : Nat) (tk : Int) (fib gra res buy lst bst rea bid pri itm akf akg got : Nat → Nat) (pai : Nat → Int) (riv rf ro rs lat bat : Nat → Nat) (val : Nat → Int) (cos row ahe wan giv : Nat → Nat) (Y : va_W) (z y : Int) (hI : MIa lo bi ru ol ob fib gra res buy lst bst rea bid pri itm akf akg got pai riv rf ro rs) (hlat : ∀ k, lat k < 40) (hbat : ∀ k, bat k < 40) (hcos : ∀ x, cos x ≤ 2000000) (hrow : ∀ x, row x ≤ 2000000) (hahe : ∀ x, ahe x ≤ 2000000) (hwan : ∀ x, wan x < 120) (hgiv : ∀ x, giv x < 40) (hz : iR z) (hy : iR y) : Ci l G yX7_lotFor (ww yX7_lotFor cX7_lotFor 6 (some FieldType.int)) (RM 13 0 0) [.ref (a 0), .int (zI z), .int (zI y)] (mW G a th lo bi ru ol ob tk fib gra res buy lst bst rea bid pri itm akf akg got pai riv rf ro rs lat bat val cos row ahe wan giv ++ Y) (fun r w2 => ((¬ (0 ≤ z ∧ z < ((bi : Nat) : Int))) ∧ r = nI 0 ∧ w2 = (mW G a 1 lo bi ru ol ob tk fib gra res buy lst bst rea bid pri itm akf akg got pai riv rf ro rs lat bat val cos row ahe wan giv ++ Y)) ∨ (((0 ≤ z ∧ z < ((bi : Nat) : Int)) ∧ ¬ (0 ≤ y ∧ y < ((itm z.toNat : Nat) : Int))) ∧ r = nI 0 ∧ w2 = (mW G a 2 lo bi ru ol ob tk fib gra res buy lst bst rea bid pri itm akf akg got pai riv rf ro rs lat bat val cos row ahe wan giv ++ Y)) ∨ (((0 ≤ z ∧ z < ((bi : Nat) : Int)) ∧ (0 ≤ y ∧ y < ((itm z.toNat : Nat) : Int)) ∧ bst z.toNat ≠ 111) ∧ r = nI 0 ∧ w2 = (mW G a 3 lo bi ru ol ob tk fib gra res buy lst bst rea bid pri itm akf akg got pai riv rf ro rs lat bat val cos row ahe wan giv ++ Y)) ∨ (((0 ≤ z ∧ z < ((bi : Nat) : Int)) ∧ (0 ≤ y ∧ y < ((itm z.toNat : Nat) : Int)) ∧ bst z.toNat = 111) ∧ ∃ (la ba : Nat → Nat) (v2 : Nat → Int) (g2 r2 : Nat → Nat), AllP lo bi ru ol ob fib gra res lst bst bid pri itm akf akg rf ro rs la ba v2 ∧ (∀ x, g2 x ≤ 2000000) ∧ (∀ x, r2 x ≤ 2000000) ∧ ¬ ((fst1 (fun k => decide (ba k = z.toNat)) ob) < ob ∧ (bsM v2 (fun k => bid (ba k)) ob (-1) 256).testBit (fst1 (fun k => decide (ba k = z.toNat)) ob) = true) ∧ r = nI 0 ∧ w2 = (mW G a 4 lo bi ru ol ob tk fib gra res buy lst bst rea bid pri itm akf akg got pai riv rf ro rs la ba v2 g2 r2 ahe wan giv ++ Y)) ∨ (((0 ≤ z ∧ z < ((bi : Nat) : Int)) ∧ (0 ≤ y ∧ y < ((itm z.toNat : Nat) : Int)) ∧ bst z.toNat = 111) ∧ ∃ (la ba : Nat → Nat) (v2 : Nat → Int) (g2 r2 : Nat → Nat), AllP lo bi ru ol ob fib gra res lst bst bid pri itm akf akg rf ro rs la ba v2 ∧ (∀ x, g2 x ≤ 2000000) ∧ (∀ x, r2 x ≤ 2000000) ∧ ((fst1 (fun k => decide (ba k = z.toNat)) ob) < ob ∧ (bsM v2 (fun k => bid (ba k)) ob (-1) 256).testBit (fst1 (fun k => decide (ba k = z.toNat)) ob) = true) ∧ ∃ (h2 u2 k2 : Nat → Nat), (∀ x, x < (bsum (bsM v2 (fun k => bid (ba k)) ob (-1) 256).testBit (fun k => itm (ba k)) ob) → u2 x = qf (its (bsM v2 (fun k => bid (ba k)) ob (-1) 256).testBit (fun k => itm (ba k)) (fun q => 3 * ba (q / 3) + q % 3) ob) x) ∧ (∀ x, x < (bsum (bsM v2 (fun k => bid (ba k)) ob (-1) 256).testBit (fun k => itm (ba k)) ob) → k2 x = la (gvl (qf (its (bsM v2 (fun k => bid (ba k)) ob (-1) 256).testBit (fun k => itm (ba k)) (flM fib gra rf ro rs ru akf akg la ba ol) ob)) (bsum (bsM v2 (fun k => bid (ba k)) ob (-1) 256).testBit (fun k => itm (ba k)) ob) ol (fun l => res (la l)) x)) ∧ (∀ x, h2 x ≤ 2000000) ∧ (∀ x, u2 x < 120) ∧ (∀ x, k2 x < 40) ∧ r = nI (k2 (bsum (bsM v2 (fun k => bid (ba k)) ob (-1) 256).testBit (fun k => itm (ba k)) (fst1 (fun k => decide (ba k = z.toNat)) ob) + y.toNat)) ∧ w2 = (mW G a 0 lo bi ru ol ob tk fib gra res buy lst bst rea bid pri itm akf akg got pai riv rf ro rs la ba v2 g2 r2 h2 u2 k2 ++ Y))) := by
  refine Ci.intro (by decide) (Nat.le_of_ble_eq_true rfl) ?_
  intro p e s m args below meth c A X hW ls hl
  have hx := X.exec
  have hb := X.bytes
  have hl : lv_has ls 6 [(0, .ref (a 0)), (1, .int (zI z)), (2, .int (zI y))] := hl
  obtain ⟨hlo, hbi, hru, hol, hob, hfib, hgra, hres, hbuy, hlst, hbst, hrea, hbid, hpri, hitm, hakf, hakg, hgot, hriv, hrf, hro, hrs, hpai, hcl, hcb⟩ := id hI
  have hcb : cntB (isO bst) bi = ob := hcb
  have hbz := hbst z.toNat
  have hiz := hitm z.toNat
  have hpz := hpri z.toNat
  have hbdz := hbid z.toNat
  refine lv_aload_n hx hb dX7_lotFor_0 rfl (lv_at hl 0 rfl) ?_
  refine lv_iload_n hx hb dX7_lotFor_1 rfl (lv_at hl 1 rfl) ?_
  refine go_i X hW (run_V X hW (As := [.int (zI z)]) (rest := []) 10 0 rfl (c_X7_noBid l G a th lo bi ru ol ob tk fib gra res buy lst bst rea bid pri itm akf akg got pai riv rf ro rs lat bat val cos row ahe wan giv Y (zI z) z rfl (by omega) (by omega) _) (gi_V wq_1332 wq_1334 wq_58 wq_67 wq_1335) rfl hyX7_noBid rfl rfl rfl hl.1 (Nat.le_of_ble_eq_true rfl) ⟨Nat.le_of_ble_eq_true rfl, Nat.le_of_ble_eq_true rfl⟩ ⟨by decide, by decide⟩ dX7_lotFor_2) (fun r w2 H locs hp hW => ?_)
  obtain ⟨rfl, rfl⟩ := hp
  refine p_if_eq hx hb (tgt := 10) dX7_lotFor_5 (by decide) (fun c_5 => ?_) (fun c_5 => ?_)
  · rw [if_neg c_5] at hW
    refine lv_iload_n hx hb dX7_lotFor_10 rfl (lv_at hl 2 rfl) ?_
    refine lv_iconst (v := nI 0) hx hb dX7_lotFor_11 (by decide) ?_
    refine lv_aload_n hx hb dX7_lotFor_12 rfl (lv_at hl 0 rfl) ?_
    refine x_get X hW 0 rfl 16 rfl rfl iwX7 (by decide) wq_1096 rfl dX7_lotFor_13 ?_
    refine lv_iload_n hx hb dX7_lotFor_16 rfl (lv_at hl 1 rfl) ?_
    refine r_zn (a := z.toNat) (by omega) ?_
    refine n_iald X hW (n := 40) (f := itm) 10 rfl (by omega) (by decide) dX7_lotFor_17 ?_
    refine lv_iconst (v := nI 1) hx hb dX7_lotFor_18 (by decide) ?_
    refine z_isub hx hb (nZ _) (nZ _) dX7_lotFor_19 ?_
    refine go_i X hW (run_S X hW (As := [.int (zI y), .int (nI 0), .int (zI ((((itm z.toNat) : Nat) : Int) - ((1 : Nat) : Int)))]) (rest := []) (c_X7_isIn l G (mW G a 0 lo bi ru ol ob tk fib gra res buy lst bst rea bid pri itm akf akg got pai riv rf ro rs lat bat val cos row ahe wan giv ++ Y) (zI y) (nI 0) (zI ((((itm z.toNat) : Nat) : Int) - ((1 : Nat) : Int))) y ((0 : Nat) : Int) ((((itm z.toNat) : Nat) : Int) - ((1 : Nat) : Int)) rfl (nZ _) rfl (by omega) (by omega) (by omega) _) (gi_S wq_1189 wq_1190 wq_67 wq_1191) hyX7_isIn rfl rfl hl.1 (Nat.le_of_ble_eq_true rfl) ⟨Nat.le_of_ble_eq_true rfl, Nat.le_of_ble_eq_true rfl⟩ ⟨by decide, by decide⟩ dX7_lotFor_20) (fun r w2 H locs hp hW => ?_)
    obtain ⟨rfl, rfl⟩ := hp
    refine p_if_ne hx hb (tgt := 32) dX7_lotFor_23 (by decide) (fun c_23 => ?_) (fun c_23 => ?_)
    · refine lv_aload_n hx hb dX7_lotFor_32 rfl (lv_at hl 0 rfl) ?_
      refine x_get X hW 0 rfl 12 rfl rfl iwX7 (by decide) wq_1092 rfl dX7_lotFor_33 ?_
      refine lv_iload_n hx hb dX7_lotFor_36 rfl (lv_at hl 1 rfl) ?_
      refine r_zn (a := z.toNat) (by omega) ?_
      refine n_cald X hW (n := 40) (f := bst) 6 rfl (by omega) (by decide) dX7_lotFor_37 ?_
      refine lv_bipush (v := nI 111) hx hb dX7_lotFor_38 (by decide) ?_
      refine n_icmp_eq hx hb rfl rfl (by omega) (by omega) (tgt := 49) dX7_lotFor_40 (by decide) (fun c_40 => ?_) (fun c_40 => ?_)
      · refine lv_aload_n hx hb dX7_lotFor_49 rfl (lv_at hl 0 rfl) ?_
        refine go_v X hW (run_V X hW (As := []) (rest := []) 10 0 rfl (c_X7_all l G a 0 lo bi ru ol ob tk fib gra res buy lst bst rea bid pri itm akf akg got pai riv rf ro rs lat bat val cos row ahe wan giv Y hI hlat hbat hcos hrow _) (gi_V wq_1239 wq_1241 wq_47 wq_67 wq_1242) rfl hyX7_all rfl rfl rfl hl.1 (Nat.le_of_ble_eq_true rfl) ⟨Nat.le_of_ble_eq_true rfl, Nat.le_of_ble_eq_true rfl⟩ ⟨by decide, by decide⟩ dX7_lotFor_50) (fun w2 H locs hp hW => ?_)
        obtain ⟨la, ba, v2, g2, r2, hA, hg2, hr2, rfl⟩ := hp
        obtain ⟨hla, hba, hlaE, hbaE, hv2, hF⟩ := id hA
        have hinj : ∀ x y, x < ob → y < ob → ba x = ba y → x = y := fun x y hx hy e => opn_inj (hcb.symm ▸ hx : x < cntB (isO bst) bi) (hcb.symm ▸ hy : y < cntB (isO bst) bi) (by rw [← hbaE x hx, ← hbaE y hy]; exact e)
        refine lv_aload_n hx hb dX7_lotFor_53 rfl (lv_at hl 0 rfl) ?_
        refine lv_iconst (v := zI (-1)) hx hb dX7_lotFor_54 (by decide) ?_
        refine go_i X hW (run_V X hW (As := [.int (zI (-1))]) (rest := []) 10 0 rfl (c_X7_best l G a 0 lo bi ru ol ob tk fib gra res buy lst bst rea bid pri itm akf akg got pai riv rf ro rs la ba v2 g2 r2 ahe wan giv Y (-1) hI (by omega) hba hv2 _) (gi_V wq_1265 wq_1267 wq_53 wq_67 wq_1268) rfl hyX7_best rfl rfl rfl hl.1 (Nat.le_of_ble_eq_true rfl) ⟨Nat.le_of_ble_eq_true rfl, Nat.le_of_ble_eq_true rfl⟩ ⟨by decide, by decide⟩ dX7_lotFor_55) (fun r w2 H locs hp hW => ?_)
        obtain ⟨rfl, rfl⟩ := hp
        have hbs := best_PS (-1) hF
        have hbs1 := hbs.1
        refine lv_istore_n (lv' := [(3, .int (nI (bsM v2 (fun k => bid (ba k)) ob (-1) 256))), (0, .ref (a 0)), (1, .int (zI z)), (2, .int (zI y))]) hx hb dX7_lotFor_58 rfl hl (by decide) rfl (fun ls hl => ?_)
        refine lv_aload_n hx hb dX7_lotFor_59 rfl (lv_at hl 1 rfl) ?_
        refine lv_iload_n hx hb dX7_lotFor_60 rfl (lv_at hl 0 rfl) ?_
        refine lv_iload_n hx hb dX7_lotFor_61 rfl (lv_at hl 2 rfl) ?_
        refine r_zn (a := z.toNat) (by omega) ?_
        refine go_i X hW (run_V X hW (As := [.int (nI (bsM v2 (fun k => bid (ba k)) ob (-1) 256)), .int (nI z.toNat)]) (rest := []) 10 0 rfl (c_X7_isInSet l G a 0 lo bi ru ol ob tk fib gra res buy lst bst rea bid pri itm akf akg got pai riv rf ro rs la ba v2 g2 r2 ahe wan giv Y (bsM v2 (fun k => bid (ba k)) ob (-1) 256) z.toNat hI (by omega) (by omega) hba _) (gi_V wq_1389 wq_1391 wq_59 wq_67 wq_1392) rfl hyX7_isInSet rfl rfl rfl hl.1 (Nat.le_of_ble_eq_true rfl) ⟨Nat.le_of_ble_eq_true rfl, Nat.le_of_ble_eq_true rfl⟩ ⟨by decide, by decide⟩ dX7_lotFor_62) (fun r w2 H locs hp hW => ?_)
        obtain ⟨rfl, rfl⟩ := hp
        refine p_if_ne hx hb (tgt := 74) dX7_lotFor_65 (by decide) (fun c_65 => ?_) (fun c_65 => ?_)
        · refine lv_aload_n hx hb dX7_lotFor_74 rfl (lv_at hl 1 rfl) ?_
          refine lv_iload_n hx hb dX7_lotFor_75 rfl (lv_at hl 0 rfl) ?_
          have hpc := PS_cost (rsv := (fun l => res (la l))) hol (fun k => hres (la k)) hbs.2.2.1
          refine go_i X hW (run_V X hW (As := [.int (nI (bsM v2 (fun k => bid (ba k)) ob (-1) 256))]) (rest := []) 10 0 rfl (c_X7_gives l G a 0 lo bi ru ol ob tk fib gra res buy lst bst rea bid pri itm akf akg got pai riv rf ro rs la ba v2 g2 r2 ahe wan giv Y (bsM v2 (fun k => bid (ba k)) ob (-1) 256) hI (by omega) hla hba hahe hwan hgiv (Nat.le_trans hpc.1 hol) hpc.2 _) (gi_V wq_1272 wq_1274 wq_54 wq_67 wq_1275) rfl hyX7_gives rfl rfl rfl hl.1 (Nat.le_of_ble_eq_true rfl) ⟨Nat.le_of_ble_eq_true rfl, Nat.le_of_ble_eq_true rfl⟩ ⟨by decide, by decide⟩ dX7_lotFor_76) (fun r w2 H locs hp hW => ?_)
          obtain ⟨h2, u2, k2, rfl, hu2, hk2, b1, b2, b3, rfl⟩ := hp
          refine lv_istore (lv' := [(4, .int (nI (bsum (bsM v2 (fun k => bid (ba k)) ob (-1) 256).testBit (fun k => itm (ba k)) ob))), (3, .int (nI (bsM v2 (fun k => bid (ba k)) ob (-1) 256))), (0, .ref (a 0)), (1, .int (zI z)), (2, .int (zI y))]) hx hb dX7_lotFor_79 hl (by decide) rfl (fun ls hl => ?_)
          refine lv_iconst (v := nI 0) hx hb dX7_lotFor_81 (by decide) ?_
          refine lv_istore (lv' := [(5, .int (nI 0)), (4, .int (nI (bsum (bsM v2 (fun k => bid (ba k)) ob (-1) 256).testBit (fun k => itm (ba k)) ob))), (3, .int (nI (bsM v2 (fun k => bid (ba k)) ob (-1) 256))), (0, .ref (a 0)), (1, .int (zI z)), (2, .int (zI y))]) hx hb dX7_lotFor_82 hl (by decide) rfl (fun ls hl => ?_)
          have hk0 := of_decide_eq_true (fst1_of_lt c_65.1)
          have hx0 := its_val (ic := (fun k => itm (ba k))) (fl := (fun q => 3 * ba (q / 3) + q % 3)) c_65.1 c_65.2 (show y.toNat < itm (ba _) by rw [hk0]; omega)
          have hbm8 := Nat.le_trans hpc.1 hol
          have hux : u2 (bsum (bsM v2 (fun k => bid (ba k)) ob (-1) 256).testBit (fun k => itm (ba k)) (fst1 (fun k => decide (ba k = z.toNat)) ob) + y.toNat) = (3 * z.toNat) + y.toNat := by
            rw [hu2 _ hx0.1, hx0.2]
            have h3y : y.toNat < 3 := by omega
            show 3 * ba ((_ * 3 + y.toNat) / 3) + (_ * 3 + y.toNat) % 3 = _
            rw [show ∀ k, (k * 3 + y.toNat) / 3 = k by intro k; omega, show ∀ k, (k * 3 + y.toNat) % 3 = y.toNat by intro k; omega, hk0]
          have loop : ∀ (n : Nat) (t : Nat), (bsum (bsM v2 (fun k => bid (ba k)) ob (-1) 256).testBit (fun k => itm (ba k)) (fst1 (fun k => decide (ba k = z.toNat)) ob) + y.toNat) + 1 ≤ t + n → t ≤ (bsum (bsM v2 (fun k => bid (ba k)) ob (-1) 256).testBit (fun k => itm (ba k)) (fst1 (fun k => decide (ba k = z.toNat)) ob) + y.toNat) → ∀ (H : Heap) (locs : List Loc) (ls : Array Slot), Wd G A s (mW G a 0 lo bi ru ol ob tk fib gra res buy lst bst rea bid pri itm akf akg got pai riv rf ro rs la ba v2 g2 r2 h2 u2 k2 ++ Y) H locs → lv_has ls 6 [(0, .ref (a 0)), (1, .int (zI z)), (2, .int (zI y)), (3, .int (nI (bsM v2 (fun k => bid (ba k)) ob (-1) 256))), (4, .int (nI (bsum (bsM v2 (fun k => bid (ba k)) ob (-1) 256).testBit (fun k => itm (ba k)) ob))), (5, .int (nI t))] → W p l e (RM 13 0 0) s m args below meth c H locs 0 0 (MQ below (Qi G A (fun r w2 => ((¬ (0 ≤ z ∧ z < ((bi : Nat) : Int))) ∧ r = nI 0 ∧ w2 = (mW G a 1 lo bi ru ol ob tk fib gra res buy lst bst rea bid pri itm akf akg got pai riv rf ro rs lat bat val cos row ahe wan giv ++ Y)) ∨ (((0 ≤ z ∧ z < ((bi : Nat) : Int)) ∧ ¬ (0 ≤ y ∧ y < ((itm z.toNat : Nat) : Int))) ∧ r = nI 0 ∧ w2 = (mW G a 2 lo bi ru ol ob tk fib gra res buy lst bst rea bid pri itm akf akg got pai riv rf ro rs lat bat val cos row ahe wan giv ++ Y)) ∨ (((0 ≤ z ∧ z < ((bi : Nat) : Int)) ∧ (0 ≤ y ∧ y < ((itm z.toNat : Nat) : Int)) ∧ bst z.toNat ≠ 111) ∧ r = nI 0 ∧ w2 = (mW G a 3 lo bi ru ol ob tk fib gra res buy lst bst rea bid pri itm akf akg got pai riv rf ro rs lat bat val cos row ahe wan giv ++ Y)) ∨ (((0 ≤ z ∧ z < ((bi : Nat) : Int)) ∧ (0 ≤ y ∧ y < ((itm z.toNat : Nat) : Int)) ∧ bst z.toNat = 111) ∧ ∃ (la ba : Nat → Nat) (v2 : Nat → Int) (g2 r2 : Nat → Nat), AllP lo bi ru ol ob fib gra res lst bst bid pri itm akf akg rf ro rs la ba v2 ∧ (∀ x, g2 x ≤ 2000000) ∧ (∀ x, r2 x ≤ 2000000) ∧ ¬ ((fst1 (fun k => decide (ba k = z.toNat)) ob) < ob ∧ (bsM v2 (fun k => bid (ba k)) ob (-1) 256).testBit (fst1 (fun k => decide (ba k = z.toNat)) ob) = true) ∧ r = nI 0 ∧ w2 = (mW G a 4 lo bi ru ol ob tk fib gra res buy lst bst rea bid pri itm akf akg got pai riv rf ro rs la ba v2 g2 r2 ahe wan giv ++ Y)) ∨ (((0 ≤ z ∧ z < ((bi : Nat) : Int)) ∧ (0 ≤ y ∧ y < ((itm z.toNat : Nat) : Int)) ∧ bst z.toNat = 111) ∧ ∃ (la ba : Nat → Nat) (v2 : Nat → Int) (g2 r2 : Nat → Nat), AllP lo bi ru ol ob fib gra res lst bst bid pri itm akf akg rf ro rs la ba v2 ∧ (∀ x, g2 x ≤ 2000000) ∧ (∀ x, r2 x ≤ 2000000) ∧ ((fst1 (fun k => decide (ba k = z.toNat)) ob) < ob ∧ (bsM v2 (fun k => bid (ba k)) ob (-1) 256).testBit (fst1 (fun k => decide (ba k = z.toNat)) ob) = true) ∧ ∃ (h2 u2 k2 : Nat → Nat), (∀ x, x < (bsum (bsM v2 (fun k => bid (ba k)) ob (-1) 256).testBit (fun k => itm (ba k)) ob) → u2 x = qf (its (bsM v2 (fun k => bid (ba k)) ob (-1) 256).testBit (fun k => itm (ba k)) (fun q => 3 * ba (q / 3) + q % 3) ob) x) ∧ (∀ x, x < (bsum (bsM v2 (fun k => bid (ba k)) ob (-1) 256).testBit (fun k => itm (ba k)) ob) → k2 x = la (gvl (qf (its (bsM v2 (fun k => bid (ba k)) ob (-1) 256).testBit (fun k => itm (ba k)) (flM fib gra rf ro rs ru akf akg la ba ol) ob)) (bsum (bsM v2 (fun k => bid (ba k)) ob (-1) 256).testBit (fun k => itm (ba k)) ob) ol (fun l => res (la l)) x)) ∧ (∀ x, h2 x ≤ 2000000) ∧ (∀ x, u2 x < 120) ∧ (∀ x, k2 x < 40) ∧ r = nI (k2 (bsum (bsM v2 (fun k => bid (ba k)) ob (-1) 256).testBit (fun k => itm (ba k)) (fst1 (fun k => decide (ba k = z.toNat)) ob) + y.toNat)) ∧ w2 = (mW G a 0 lo bi ru ol ob tk fib gra res buy lst bst rea bid pri itm akf akg got pai riv rf ro rs la ba v2 g2 r2 h2 u2 k2 ++ Y)))) args s (RM 13 0 0).cells (RM 13 0 0).slots A) (F0 m 84 ls []) := by
            intro n
            induction n with
            | zero => intro t t1 t2; exact absurd t1 (by omega)
            | succ n ih =>
              intro t t1 t2 H locs ls hW hl
              refine lv_aload_n hx hb dX7_lotFor_84 rfl (lv_at hl 0 rfl) ?_
              refine x_get X hW 0 rfl 31 rfl rfl iwX7 (by decide) wq_1111 rfl dX7_lotFor_85 ?_
              refine lv_iload hx hb dX7_lotFor_88 (lv_at hl 5 rfl) ?_
              refine n_iald X hW (n := 8) (f := u2) 25 rfl (by omega) (by decide) dX7_lotFor_90 ?_
              refine lv_iconst (v := nI 3) hx hb dX7_lotFor_91 (by decide) ?_
              refine lv_iload_n hx hb dX7_lotFor_92 rfl (lv_at hl 1 rfl) ?_
              refine r_zn (a := z.toNat) (by omega) ?_
              refine n_imul hx hb dX7_lotFor_93 ?_
              refine lv_iload_n hx hb dX7_lotFor_94 rfl (lv_at hl 2 rfl) ?_
              refine r_zn (a := y.toNat) (by omega) ?_
              refine n_iadd hx hb dX7_lotFor_95 ?_
              refine n_icmp_eq hx hb rfl rfl (by have := b2 t; omega) (by omega) (tgt := 105) dX7_lotFor_96 (by decide) (fun c_96 => ?_) (fun c_96 => ?_)
              · have ht : t = (bsum (bsM v2 (fun k => bid (ba k)) ob (-1) 256).testBit (fun k => itm (ba k)) (fst1 (fun k => decide (ba k = z.toNat)) ob) + y.toNat) := its_wf (fun k => hitm (ba k)) hinj (by omega) c_65.1 c_65.2 (show y.toNat < itm (ba _) by rw [hk0]; omega) (by rw [← hu2 t (by omega), hk0]; exact c_96)
                refine lv_aload_n hx hb dX7_lotFor_105 rfl (lv_at hl 0 rfl) ?_
                refine x_get X hW 0 rfl 32 rfl rfl iwX7 (by decide) wq_1112 rfl dX7_lotFor_106 ?_
                refine lv_iload hx hb dX7_lotFor_109 (lv_at hl 5 rfl) ?_
                refine n_iald X hW (n := 8) (f := k2) 26 rfl (by omega) (by decide) dX7_lotFor_111 ?_
                exact ret_i X hW (v := (nI (k2 t))) (Or.inr (Or.inr (Or.inr (Or.inr (⟨by omega, la, ba, v2, g2, r2, hA, hg2, hr2, c_65, h2, u2, k2, hu2, hk2, b1, b2, b3, by rw [ht], rfl⟩))))) rfl (by decide) (by decide) dX7_lotFor_112
              · refine lv_iinc (v := (nI (t + 1))) (lv' := [(5, .int (nI (t + 1))), (0, .ref (a 0)), (1, .int (zI z)), (2, .int (zI y)), (3, .int (nI (bsM v2 (fun k => bid (ba k)) ob (-1) 256))), (4, .int (nI (bsum (bsM v2 (fun k => bid (ba k)) ob (-1) 256).testBit (fun k => itm (ba k)) ob)))]) hx hb dX7_lotFor_99 hl (k := 5) rfl (nI_add _ _) (by decide) rfl (fun ls hl => ?_)
                refine lv_goto (tgt := 84) hx hb dX7_lotFor_102 (by decide) ?_
                exact ih (t + 1) (by omega) (Nat.lt_of_le_of_ne t2 (fun q => c_96 (by rw [q]; exact hux))) _ _ _ hW (lv_sub hl [1, 2, 3, 4, 5, 0] rfl)
          exact loop ((bsum (bsM v2 (fun k => bid (ba k)) ob (-1) 256).testBit (fun k => itm (ba k)) (fst1 (fun k => decide (ba k = z.toNat)) ob) + y.toNat) + 1) 0 (by omega) (Nat.zero_le _) _ _ _ hW (lv_sub hl [3, 4, 5, 2, 1, 0] rfl)
        · refine lv_aload_n hx hb dX7_lotFor_68 rfl (lv_at hl 1 rfl) ?_
          refine lv_iconst (v := nI 4) hx hb dX7_lotFor_69 (by decide) ?_
          refine go_i X hW (run_V X hW (As := [.int (nI 4)]) (rest := []) 10 0 rfl (c_X7_fail l G a 0 lo bi ru ol ob tk fib gra res buy lst bst rea bid pri itm akf akg got pai riv rf ro rs la ba v2 g2 r2 ahe wan giv Y 4 _) (gi_V wq_1195 wq_1197 wq_44 wq_67 wq_1198) rfl hyX7_fail rfl rfl rfl hl.1 (Nat.le_of_ble_eq_true rfl) ⟨Nat.le_of_ble_eq_true rfl, Nat.le_of_ble_eq_true rfl⟩ ⟨by decide, by decide⟩ dX7_lotFor_70) (fun r w2 H locs hp hW => ?_)
          obtain ⟨rfl, rfl⟩ := hp
          exact ret_i X hW (v := (nI 0)) (Or.inr (Or.inr (Or.inr (Or.inl (⟨by omega, la, ba, v2, g2, r2, hA, hg2, hr2, c_65, rfl, rfl⟩))))) rfl (by decide) (by decide) dX7_lotFor_73
      · refine lv_aload_n hx hb dX7_lotFor_43 rfl (lv_at hl 0 rfl) ?_
        refine lv_iconst (v := nI 3) hx hb dX7_lotFor_44 (by decide) ?_
        refine go_i X hW (run_V X hW (As := [.int (nI 3)]) (rest := []) 10 0 rfl (c_X7_fail l G a 0 lo bi ru ol ob tk fib gra res buy lst bst rea bid pri itm akf akg got pai riv rf ro rs lat bat val cos row ahe wan giv Y 3 _) (gi_V wq_1195 wq_1197 wq_44 wq_67 wq_1198) rfl hyX7_fail rfl rfl rfl hl.1 (Nat.le_of_ble_eq_true rfl) ⟨Nat.le_of_ble_eq_true rfl, Nat.le_of_ble_eq_true rfl⟩ ⟨by decide, by decide⟩ dX7_lotFor_45) (fun r w2 H locs hp hW => ?_)
        obtain ⟨rfl, rfl⟩ := hp
        exact ret_i X hW (v := (nI 0)) (Or.inr (Or.inr (Or.inl (⟨by omega, rfl, rfl⟩)))) rfl (by decide) (by decide) dX7_lotFor_48
    · refine lv_aload_n hx hb dX7_lotFor_26 rfl (lv_at hl 0 rfl) ?_
      refine lv_iconst (v := nI 2) hx hb dX7_lotFor_27 (by decide) ?_
      refine go_i X hW (run_V X hW (As := [.int (nI 2)]) (rest := []) 10 0 rfl (c_X7_fail l G a 0 lo bi ru ol ob tk fib gra res buy lst bst rea bid pri itm akf akg got pai riv rf ro rs lat bat val cos row ahe wan giv Y 2 _) (gi_V wq_1195 wq_1197 wq_44 wq_67 wq_1198) rfl hyX7_fail rfl rfl rfl hl.1 (Nat.le_of_ble_eq_true rfl) ⟨Nat.le_of_ble_eq_true rfl, Nat.le_of_ble_eq_true rfl⟩ ⟨by decide, by decide⟩ dX7_lotFor_28) (fun r w2 H locs hp hW => ?_)
      obtain ⟨rfl, rfl⟩ := hp
      exact ret_i X hW (v := (nI 0)) (Or.inr (Or.inl (⟨by omega, rfl, rfl⟩))) rfl (by decide) (by decide) dX7_lotFor_31
  · rw [if_pos c_5] at hW
    refine lv_iconst (v := nI 0) hx hb dX7_lotFor_8 (by decide) ?_
    exact ret_i X hW (v := (nI 0)) (Or.inl (⟨by omega, rfl, rfl⟩)) rfl (by decide) (by decide) dX7_lotFor_9

