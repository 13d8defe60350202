theorem sb_all2 {lo bi ru ol ob : Nat} {fib gra res lst bst bid pri itm akf akg rf ro rs la ba g2 r2 h2 u2 k2 : Nat → Nat} {v2 : Nat → Int} (hA : AllP lo bi ru ol ob fib gra res lst bst bid pri itm akf akg rf ro rs la ba v2) (hg : ∀ x, g2 x ≤ 2000000) (hr : ∀ x, r2 x ≤ 2000000) (h1 : ∀ x, h2 x ≤ 2000000) (h3 : ∀ x, u2 x < 120) (h4 : ∀ x, k2 x < 40) : SBd la ba g2 r2 h2 u2 k2 := ⟨hA.1, hA.2.1, hg, hr, h1, h3, h4⟩
theorem cnt_put {T st : Nat → Nat} {p : Nat → Bool} {v N : Nat} : ∀ (n : Nat) (L : Nat → Nat), (∀ x y, x < n → y < n → T x = T y → x = y) → (∀ j, j < n → T j < N) → (∀ j, j < n → st (T j) ≠ v) → (∀ j, j < n → p j = true → L (T j) = v) → (∀ y, (∀ j, j < n → p j = true → T j ≠ y) → (L y = v ↔ st y = v)) → cntB (isV L v) N = cntB (isV st v) N + cntB p n := by
  intro n
  induction n with
  | zero =>
    intro L _ _ _ _ h2
    show _ = _ + 0
    rw [Nat.add_zero]
    exact bsum_congr (fun k _ => ⟨by show decide (L k = v) = decide (st k = v); exact decide_eq_decide.mpr (h2 k (fun j hj => absurd hj (Nat.not_lt_zero j))), rfl⟩)
  | succ n ih =>
    intro L hi hN h0 h1 h2
    by_cases q : p n = true
    · have hne : ∀ j, j < n → T j ≠ T n := fun j hj e => by have := hi j n (by omega) (by omega) e; omega
      have h3 := ih (va_up L (T n) (st (T n))) (fun x y hx hy => hi x y (by omega) (by omega)) (fun j hj => hN j (by omega)) (fun j hj => h0 j (by omega)) (fun j hj hp => by rw [va_up_ne _ _ (hne j hj)]; exact h1 j (by omega) hp) (fun y hy => by
        by_cases e : y = T n
        · rw [e, va_up_self]
        · rw [va_up_ne _ _ e]
          refine h2 y (fun j hj hp => ?_)
          by_cases e2 : j = n
          · rw [e2]; exact Ne.symm e
          · exact hy j (by omega) hp)
      have h4 := cntB_off (p := isV L v) (q := isV (va_up L (T n) (st (T n))) v) (hN n (by omega)) (decide_eq_true (h1 n (by omega) q)) (by show decide (va_up L (T n) (st (T n)) (T n) = v) = false; rw [va_up_self]; exact decide_eq_false (h0 n (by omega))) (fun x hx => by show decide (va_up L (T n) (st (T n)) x = v) = decide (L x = v); rw [va_up_ne _ _ hx])
      have h5 : cntB p (n + 1) = cntB p n + 1 := bsum_t q
      omega
    · have q2 : p n = false := by simpa using q
      have h5 : cntB p (n + 1) = cntB p n := bsum_f q2
      rw [h5]
      exact ih L (fun x y hx hy => hi x y (by omega) (by omega)) (fun j hj => hN j (by omega)) (fun j hj => h0 j (by omega)) (fun j hj hp => h1 j (by omega) hp) (fun y hy => h2 y (fun j hj hp => by
        by_cases e2 : j = n
        · rw [e2] at hp; exact absurd hp q
        · exact hy j (by omega) hp))
theorem cntB_all (n : Nat) : cntB (fun _ => true) n = n := by
  induction n with
  | zero => rfl
  | succ n ih => rw [show cntB (fun _ => true) (n + 1) = cntB (fun _ => true) n + 1 from bsum_t rfl, ih]
theorem isum_cg {p : Nat → Bool} {g g2 : Nat → Int} {n : Nat} (h : ∀ k, k < n → p k = true → g k = g2 k) : isum p g n = isum p g2 n := by
  induction n with
  | zero => rfl
  | succ n ih =>
    have h1 := ih (fun k hk => h k (by omega))
    by_cases q : p n = true
    · rw [isum_t q, isum_t q, h1, h n (by omega) q]
    · have q2 : p n = false := by simpa using q
      rw [isum_f q2, isum_f q2, h1]
section JC
variable {lo bi ru ol ob : Nat} {fib gra res lst bst bid pri itm akf akg rf ro rs la ba : Nat → Nat} {v2 : Nat → Int}
theorem j_ag (hi3 : ∀ k, itm k ≤ 3) (hA : AllP lo bi ru ol ob fib gra res lst bst bid pri itm akf akg rf ro rs la ba v2) : Ag ol ob (fun l => res (la l)) (fun k => bid (ba k)) (fun k => itm (ba k)) (flM fib gra rf ro rs ru akf akg la ba ol) (fun k => pri (ba k)) (fRS res lst lo) (fBD bid bst bi) (fBD itm bst bi) (fFL fib gra rf ro rs ru akf akg lst lo bst bi ol) (fBD pri bst bi) := ag_of hi3 hA.2.2.1 hA.2.2.2.1
theorem j_sum (hi3 : ∀ k, itm k ≤ 3) (hA : AllP lo bi ru ol ob fib gra res lst bst bid pri itm akf akg rf ro rs la ba v2) (p : Nat → Bool) {n : Nat} (hn : n ≤ ob) : bsum p (fun k => itm (ba k)) n = bsum p (fBD itm bst bi) n := (j_ag hi3 hA).sum p hn
theorem j_ba (hA : AllP lo bi ru ol ob fib gra res lst bst bid pri itm akf akg rf ro rs la ba v2) {j : Nat} (hj : j < ob) : ba j = BA bst bi j := hA.2.2.2.1 j hj
theorem j_ut (hi3 : ∀ k, itm k ≤ 3) (hA : AllP lo bi ru ol ob fib gra res lst bst bid pri itm akf akg rf ro rs la ba v2) (sb x : Nat) : qf (its sb.testBit (fun k => itm (ba k)) (fun q => 3 * ba (q / 3) + q % 3) ob) x = UTc ob itm bst bi sb x := by
  unfold UTc
  rw [its_cg (p := sb.testBit) (ic := fun k => itm (ba k)) (ic2 := fBD itm bst bi) (fl := fun q => 3 * ba (q / 3) + q % 3) (fl2 := fun q => 3 * BA bst bi (q / 3) + q % 3) (fun k hk => ⟨congrArg itm (j_ba hA hk), fun j hj => by
    have h3 := hi3 (ba k)
    have hj3 : j < 3 := Nat.lt_of_lt_of_le hj h3
    show 3 * ba ((k * 3 + j) / 3) + (k * 3 + j) % 3 = 3 * BA bst bi ((k * 3 + j) / 3) + (k * 3 + j) % 3
    rw [show (k * 3 + j) / 3 = k by omega, j_ba hA hk]⟩)]
theorem j_kt (hi3 : ∀ k, itm k ≤ 3) (hol : ol ≤ 8) (hres : ∀ k, res k ≤ 999) (hA : AllP lo bi ru ol ob fib gra res lst bst bid pri itm akf akg rf ro rs la ba v2) {sb x : Nat} (hB : BestIs lo bi ru ol ob fib gra res lst bst bid pri itm akf akg rf ro rs (-1) sb) (hx : x < bsum sb.testBit (fun k => itm (ba k)) ob) : la (gvl (qf (its sb.testBit (fun k => itm (ba k)) (flM fib gra rf ro rs ru akf akg la ba ol) ob)) (bsum sb.testBit (fun k => itm (ba k)) ob) ol (fun l => res (la l)) x) = KTc lo bi ru ol ob fib gra res lst bst bid pri itm akf akg rf ro rs sb x := by
  have h1 := (j_ag hi3 hA).gvlE sb.testBit hx
  rw [h1]
  have hx2 := hx
  rw [j_sum hi3 hA sb.testBit (Nat.le_refl _)] at hx2
  obtain ⟨q1, q2⟩ := PS_cost hol (fun k => hres _) hB.2.1
  exact hA.2.2.1 _ (gvl_ok hol q2 hx2).1
theorem j_pay (hi3 : ∀ k, itm k ≤ 3) (hob : ob ≤ 8) (hA : AllP lo bi ru ol ob fib gra res lst bst bid pri itm akf akg rf ro rs la ba v2) {sb j : Nat} (hB : BestIs lo bi ru ol ob fib gra res lst bst bid pri itm akf akg rf ro rs (-1) sb) (hj : j < ob) : ((((pri (ba j) : Nat) : Int) - v2 sb) + v2 (bsM v2 (fun k => bid (ba k)) ob ((bid (ba j) : Nat) : Int) 256)) = PAYc lo bi ru ol ob fib gra res lst bst bid pri itm akf akg rf ro rs sb j := by
  unfold PAYc
  have h0 := j_sur hi3 hob hA hB
  rw [j_best hi3 hob hA hB] at h0
  rw [h0, ← j_ba hA hj, j_sur hi3 hob hA (FBc_is hob ((bid (ba j) : Nat) : Int))]
theorem j_fst (hA : AllP lo bi ru ol ob fib gra res lst bst bid pri itm akf akg rf ro rs la ba v2) {sb j : Nat} (hj : j < ob) : fst1 (fun o => sb.testBit o && decide (bid (ba o) = bid (ba j))) ob = fst1 (fun o => sb.testBit o && decide (fBD bid bst bi o = bid (BA bst bi j))) ob :=
  fst1_congr (fun o ho => by show (_ && decide (bid (ba o) = bid (ba j))) = (_ && decide (bid (BA bst bi o) = bid (BA bst bi j))); rw [j_ba hA ho, j_ba hA hj])
theorem j_why (hi3 : ∀ k, itm k ≤ 3) (hol : ol ≤ 8) (hob : ob ≤ 8) (hres : ∀ k, res k ≤ 999) (hA : AllP lo bi ru ol ob fib gra res lst bst bid pri itm akf akg rf ro rs la ba v2) {sb j : Nat} (hj : j < ob) : whyC (fun k => itm (ba k)) v2 (fun k => bid (ba k)) ob sb j = whyN (itm (BA bst bi j)) (lcost (2 ^ j) ob ol (fBD bid bst bi) (fBD itm bst bi) (fFL fib gra rf ro rs ru akf akg lst lo bst bi ol) (fRS res lst lo)) (pri (BA bst bi j)) (WINc bid bst bi ob sb j) := by
  have hv := j_v1 hi3 hob hA hj
  have hc := lcost_PS (lc := ol) (bc := ob) (set := 2 ^ j) (bd := fBD bid bst bi) (ic := fBD itm bst bi) (fl := fFL fib gra rf ro rs ru akf akg lst lo bst bi ol) (rs := fRS res lst lo) hol (fun k => hres _)
  obtain ⟨cc, hcc⟩ : ∃ cc, cc = lcost (2 ^ j) ob ol (fBD bid bst bi) (fBD itm bst bi) (fFL fib gra rf ro rs ru akf akg lst lo bst bi ol) (fRS res lst lo) := ⟨_, rfl⟩
  rw [← hcc] at hc ⊢
  unfold whyC whyN
  show (if itm (ba j) = 0 then 110 else if v2 (2 ^ j) = -1000000 then 108 else if v2 (2 ^ j) < 0 then 112 else if fst1 (fun o => sb.testBit o && decide (bid (ba o) = bid (ba j))) ob < ob then 98 else 109) = _
  rw [j_ba hA hj]
  by_cases h0 : itm (BA bst bi j) = 0
  · rw [if_pos h0, if_pos h0]
  rw [if_neg h0, if_neg h0]
  by_cases hP : PS ol (fBD bid bst bi) (fBD itm bst bi) (fFL fib gra rf ro rs ru akf akg lst lo bst bi ol) (2 ^ j) ob
  · have h1 := hv.1 hP
    have h2 := hc.1 hP
    have h3 := sur_gt (lo := lo) (pri := pri) hol hres hP
    have h4 : Sur lo bi ru ol ob fib gra res lst bst pri itm akf akg rf ro rs (2 ^ j) = ((pri (BA bst bi j) : Nat) : Int) - (lmC ol (fRS res lst lo) (lmR (2 ^ j).testBit (fBD itm bst bi) (fFL fib gra rf ro rs ru akf akg lst lo bst bi ol) ob) : Int) := by
      unfold Sur VS
      rw [bsum_p2 hj]
    rw [if_neg (show ¬ v2 (2 ^ j) = -1000000 by omega), if_neg (show ¬ cc = -1 by omega)]
    by_cases h5 : v2 (2 ^ j) < 0
    · rw [if_pos h5, if_pos (show ((pri (BA bst bi j) : Nat) : Int) < cc by omega)]
    rw [if_neg h5, if_neg (show ¬ ((pri (BA bst bi j) : Nat) : Int) < cc by omega)]
    have h6 := j_fst (sb := sb) hA hj
    rw [j_ba hA hj] at h6
    rw [h6]
    unfold WINc orNo
    by_cases h7 : fst1 (fun o => sb.testBit o && decide (fBD bid bst bi o = bid (BA bst bi j))) ob < ob
    · rw [if_pos h7, if_pos (decide_eq_true h7), if_neg (by omega)]
    · rw [if_neg h7]
      simp [h7]
  · rw [if_pos (hv.2 hP), if_pos (hc.2 hP)]
end JC
theorem cl_rel {lo bi ru ol ob : Nat} {fib gra res buy lst bst rea bid pri itm akf akg got : Nat → Nat} {pai : Nat → Int} {riv rf ro rs : Nat → Nat} {sc wc : Nat} {byr : Nat → Int} {reaC : Nat → Nat} {rvl pad gt : Nat → Int} {la ba : Nat → Nat} {v2 : Nat → Int} {k2 u2 : Nat → Nat} {P1 P2 By Gy V1 : Nat → Int} {R1 S2 S1 Ly R2 V2 T2 G2 B2 L2 : Nat → Nat} {sb mn : Nat} (hM : MIa lo bi ru ol ob fib gra res buy lst bst rea bid pri itm akf akg got pai riv rf ro rs) (hRel : RelL lo bi lst bst itm rea buy got riv pai sc wc byr reaC rvl pad gt) (hA : AllP lo bi ru ol ob fib gra res lst bst bid pri itm akf akg rf ro rs la ba v2) (hB : BestIs lo bi ru ol ob fib gra res lst bst bid pri itm akf akg rf ro rs (-1) sb) (hmn : mn = bsum sb.testBit (fBD itm bst bi) ob)
    (pA : ∀ x, (∀ j, j < ob → sb.testBit j = true → BA bst bi j ≠ x) → P1 x = pad x ∧ S1 x = bst x) (pB : ∀ j, j < ob → sb.testBit j = true → P1 (BA bst bi j) = (PAYc lo bi ru ol ob fib gra res lst bst bid pri itm akf akg rf ro rs sb j) ∧ S1 (BA bst bi j) = 119)
    (hHO : HO (UTc ob itm bst bi sb) (KTc lo bi ru ol ob fib gra res lst bst bid pri itm akf akg rf ro rs sb) gt byr lst Gy By Ly mn)
    (lA : ∀ x, (∀ j, j < ob → sb.testBit j = false → BA bst bi j ≠ x) → R1 x = reaC x ∧ V1 x = rvl x ∧ S2 x = S1 x) (lB : ∀ j, j < ob → sb.testBit j = false → R1 (BA bst bi j) = (whyN (itm (BA bst bi j)) (lcost (2 ^ j) ob ol (fBD bid bst bi) (fBD itm bst bi) (fFL fib gra rf ro rs ru akf akg lst lo bst bi ol) (fRS res lst lo)) (pri (BA bst bi j)) (WINc bid bst bi ob sb j)) ∧ V1 (BA bst bi j) = (WINc bid bst bi ob sb j) ∧ S2 (BA bst bi j) = 108)
    (m1 : ∀ x, x < mn → u2 x = UTc ob itm bst bi sb x) (m2 : ∀ x, x < mn → k2 x = KTc lo bi ru ol ob fib gra res lst bst bid pri itm akf akg rf ro rs sb x)
    (m3 : ∀ x, (∀ j, j < ob → ba j ≠ x) → P2 x = pai x ∧ R2 x = rea x ∧ V2 x = riv x ∧ T2 x = bst x) (m4 : ∀ j, j < ob → sb.testBit j = true → P2 (ba j) = ((((pri (ba j) : Nat) : Int) - v2 sb) + v2 (bsM v2 (fun k => bid (ba k)) ob ((bid (ba j) : Nat) : Int) 256)) ∧ T2 (ba j) = 119)
    (m5 : ∀ j, j < ob → sb.testBit j = false → R2 (ba j) = (whyC (fun k => itm (ba k)) v2 (fun k => bid (ba k)) ob sb j) ∧ ((whyC (fun k => itm (ba k)) v2 (fun k => bid (ba k)) ob sb j) = 98 → V2 (ba j) = ba (fst1 (fun o => sb.testBit o && decide (bid (ba o) = bid (ba j))) ob)) ∧ T2 (ba j) = 108)
    (m6 : ∀ x, x < mn → G2 (u2 x) = k2 x ∧ B2 (k2 x) = u2 x / 3 ∧ L2 (k2 x) = 115) (m7 : ∀ y, (∀ x, x < mn → u2 x ≠ y) → G2 y = got y) (m8 : ∀ y, (∀ x, x < mn → k2 x ≠ y) → B2 y = buy y ∧ L2 y = lst y) :
    T2 = S2 ∧ L2 = Ly ∧ RelL lo bi L2 T2 itm R2 B2 G2 V2 P2 (sc + mn) (wc + cntB sb.testBit ob) By R1 V1 P1 Gy := by
  obtain ⟨hlo, hbi, hru, hol, hob, hfib, hgra, hres, hbuy, hlst, hbst, hrea, hbid, hpri, hitm, hakf, hakg, hgot, hriv, hrf, hro, hrs, hpai, hcl9, hcb9⟩ := hM
  obtain ⟨hrC, hrB, hrR, hrV, hrP, hsc, hwc⟩ := hRel
  have hcb : cntB (isO bst) bi = ob := hcb9
  have hcl : cntB (isO lst) lo = ol := hcl9
  have hba : ∀ j, j < ob → ba j = BA bst bi j := hA.2.2.2.1
  have hbao : ∀ j, j < ob → BA bst bi j < bi ∧ bst (BA bst bi j) = 111 := fun j hj => by
    have := opn_in (p := isO bst) (n := bi) (t := j) (by rw [hcb]; exact hj)
    exact ⟨this.1, of_decide_eq_true this.2⟩
  obtain ⟨-, kt1, kt2⟩ := kt_ok (bid := bid) (pri := pri) (fib := fib) (gra := gra) (rf := rf) (ro := ro) (rs := rs) (ru := ru) (akf := akf) (akg := akg) hol hres hcl hB
  rw [← hmn] at kt1 kt2
  obtain ⟨o1, o2, o3⟩ := hHO
  have wS : ∀ j, j < ob → sb.testBit j = true → S2 (BA bst bi j) = 119 := fun j hj hs => by
    rw [(lA _ (fun i hi hf e => by have := ba_inj hcb hi hj e; subst this; rw [hs] at hf; cases hf)).2.2]
    exact (pB j hj hs).2
  have nS : ∀ x, (∀ j, j < ob → BA bst bi j ≠ x) → S2 x = bst x := fun x h => by
    rw [(lA x (fun j hj _ => h j hj)).2.2, (pA x (fun j hj _ => h j hj)).2]
  have nB : ∀ x, (∀ j, j < ob → BA bst bi j ≠ x) → ∀ j, j < ob → ba j ≠ x := fun x h j hj e => h j hj ((hba j hj).symm.trans e)
  have eT : T2 = S2 := by
    funext x
    by_cases h : ∃ j, j < ob ∧ BA bst bi j = x
    · obtain ⟨j, hj, rfl⟩ := h
      cases hs : sb.testBit j with
      | true => rw [wS j hj hs, ← hba j hj]; exact (m4 j hj hs).2
      | false => rw [(lB j hj hs).2.2, ← hba j hj]; exact (m5 j hj hs).2.2
    · have h2 : ∀ j, j < ob → BA bst bi j ≠ x := fun j hj e => h ⟨j, hj, e⟩
      rw [nS x h2]
      exact (m3 x (nB x h2)).2.2.2
  have kE : ∀ y, (∀ x, x < mn → KTc lo bi ru ol ob fib gra res lst bst bid pri itm akf akg rf ro rs sb x ≠ y) → ∀ x, x < mn → k2 x ≠ y := fun y h x hx e => h x hx ((m2 x hx).symm.trans e)
  have eL : L2 = Ly := by
    funext y
    by_cases h : ∃ x, x < mn ∧ KTc lo bi ru ol ob fib gra res lst bst bid pri itm akf akg rf ro rs sb x = y
    · obtain ⟨x, hx, rfl⟩ := h
      rw [(o1 x hx).2.2, ← m2 x hx]
      exact (m6 x hx).2.2
    · have h2 : ∀ x, x < mn → KTc lo bi ru ol ob fib gra res lst bst bid pri itm akf akg rf ro rs sb x ≠ y := fun x hx e => h ⟨x, hx, e⟩
      rw [(o3 y h2).2]
      exact (m8 y (kE y h2)).2
  refine ⟨eT, eL, ?_, ?_, ?_, ?_, ?_, ?_, ?_⟩
  · intro x
    by_cases h : ∃ j, j < ob ∧ sb.testBit j = false ∧ BA bst bi j = x
    · obtain ⟨j, hj, hs, rfl⟩ := h
      rw [(lB j hj hs).1]
      exact whyN_lt _ _ _ _
    · rw [(lA x (fun j hj hs e => h ⟨j, hj, hs, e⟩)).1]
      exact hrC x
  · intro y hy hl
    by_cases h : ∃ x, x < mn ∧ KTc lo bi ru ol ob fib gra res lst bst bid pri itm akf akg rf ro rs sb x = y
    · obtain ⟨x, hx, rfl⟩ := h
      rw [(o1 x hx).2.1, ← m2 x hx, (m6 x hx).2.1, m1 x hx]
    · have h2 : ∀ x, x < mn → KTc lo bi ru ol ob fib gra res lst bst bid pri itm akf akg rf ro rs sb x ≠ y := fun x hx e => h ⟨x, hx, e⟩
      rw [(o3 y h2).1, (m8 y (kE y h2)).1]
      rw [(m8 y (kE y h2)).2] at hl
      exact hrB y hy hl
  · intro x hx hs
    rw [eT] at hs
    by_cases h : ∃ j, j < ob ∧ BA bst bi j = x
    · obtain ⟨j, hj, rfl⟩ := h
      cases ht : sb.testBit j with
      | true => rw [wS j hj ht] at hs; omega
      | false =>
        rw [(lB j hj ht).1, ← j_why hitm hol hob hres hA hj]
        rw [← (m5 j hj ht).1, hba j hj]
    · have h2 : ∀ j, j < ob → BA bst bi j ≠ x := fun j hj e => h ⟨j, hj, e⟩
      rw [nS x h2] at hs
      rw [(lA x (fun j hj _ => h2 j hj)).1, (m3 x (nB x h2)).2.1]
      exact hrR x hx hs
  · intro x hx hs hr98
    rw [eT] at hs
    by_cases h : ∃ j, j < ob ∧ BA bst bi j = x
    · obtain ⟨j, hj, rfl⟩ := h
      cases ht : sb.testBit j with
      | true => rw [wS j hj ht] at hs; omega
      | false =>
        rw [← hba j hj] at hr98
        rw [(m5 j hj ht).1] at hr98
        have h9 := (m5 j hj ht).2.1 hr98
        have hw := j_why (sb := sb) hitm hol hob hres hA hj
        rw [hr98] at hw
        have hlt : fst1 (fun o => sb.testBit o && decide (fBD bid bst bi o = bid (BA bst bi j))) ob < ob := by
          by_cases q : fst1 (fun o => sb.testBit o && decide (fBD bid bst bi o = bid (BA bst bi j))) ob < ob
          · exact q
          · exfalso
            have e1 : WINc bid bst bi ob sb j = -1 := by
              unfold WINc orNo
              rw [if_neg (by rw [decide_eq_false q]; decide)]
            rw [e1] at hw
            unfold whyN at hw
            split at hw
            · omega
            · split at hw
              · omega
              · split at hw
                · omega
                · rw [if_pos rfl] at hw; omega
        rw [(lB j hj ht).2.1, ← hba j hj, h9, j_fst hA hj, hba _ hlt]
        unfold WINc orNo
        rw [if_pos (decide_eq_true hlt)]
    · have h2 : ∀ j, j < ob → BA bst bi j ≠ x := fun j hj e => h ⟨j, hj, e⟩
      rw [nS x h2] at hs
      rw [(m3 x (nB x h2)).2.1] at hr98
      rw [(lA x (fun j hj _ => h2 j hj)).2.1, (m3 x (nB x h2)).2.2.1]
      exact hrV x hx hs hr98
  · intro x hx hs
    rw [eT] at hs
    by_cases h : ∃ j, j < ob ∧ BA bst bi j = x
    · obtain ⟨j, hj, rfl⟩ := h
      cases ht : sb.testBit j with
      | false => rw [(lB j hj ht).2.2] at hs; omega
      | true =>
        refine ⟨?_, fun i hi => ?_⟩
        · rw [(pB j hj ht).1, ← j_pay hitm hob hA hB hj, ← (m4 j hj ht).1, hba j hj]
        · obtain ⟨u1, u3⟩ := ut_at (bst := bst) (bi := bi) hitm hj ht hi
          rw [← hmn] at u1
          rw [← u3, (o1 _ u1).1, ← m1 _ u1, (m6 _ u1).1, m2 _ u1]
    · have h2 : ∀ j, j < ob → BA bst bi j ≠ x := fun j hj e => h ⟨j, hj, e⟩
      rw [nS x h2] at hs
      rw [(pA x (fun j hj _ => h2 j hj)).1, (m3 x (nB x h2)).1]
      refine ⟨(hrP x hx hs).1, fun i hi => ?_⟩
      have hu : ∀ y, y < mn → UTc ob itm bst bi sb y ≠ 3 * x + i := fun y hy e => by
        rw [hmn] at hy
        obtain ⟨k, i2, q1, q2, q3, q4⟩ := its_dec hy
        rw [q4, (ut_at hitm q1 q2 q3).2] at e
        have h5 := hitm x
        have h6 := hitm (BA bst bi k)
        have h7 : i2 < itm (BA bst bi k) := q3
        exact h2 k q1 (by omega)
      rw [o2 _ hu, m7 _ (fun y hy e => hu y hy ((m1 y hy).symm.trans e))]
      exact (hrP x hx hs).2 i hi
  · rw [hsc, eL]
    have := cnt_put (T := KTc lo bi ru ol ob fib gra res lst bst bid pri itm akf akg rf ro rs sb) (st := lst) (p := fun _ => true) (v := 115) (N := lo) mn Ly kt2 (fun j hj => (kt1 j hj).1) (fun j hj => by rw [(kt1 j hj).2]; decide) (fun j hj _ => (o1 j hj).2.2) (fun y hy => by rw [(o3 y (fun x hx => hy x hx rfl)).2])
    rw [cntB_all] at this
    exact this.symm
  · rw [hwc, eT]
    exact (cnt_put (T := BA bst bi) (st := bst) (p := sb.testBit) (v := 119) (N := bi) ob S2 (fun x y hx hy e => ba_inj hcb hx hy e) (fun j hj => (hbao j hj).1) (fun j hj => by rw [(hbao j hj).2]; decide) (fun j hj hs => wS j hj hs) (fun y hy => by
      by_cases h : ∃ j, j < ob ∧ BA bst bi j = y
      · obtain ⟨j, hj, rfl⟩ := h
        cases ht : sb.testBit j with
        | true => exact absurd rfl (hy j hj ht)
        | false => rw [(lB j hj ht).2.2, (hbao j hj).2]; decide
      · rw [nS y (fun j hj e => h ⟨j, hj, e⟩)])).symm

section KCL
variable {p : Program} {l : Launch} {e : Env} {s : State} {m : MethodId} {args : Array Value} {below : List Frame} {meth : Method} {c : Code} {H : Heap} {locs : List Loc} {cells slots : Nat} {Q : State → Prop}
variable {ls : Array Slot} {rt : Option FieldType} {G : Gt} {A : Nat → Prop} {w : va_W} {b L i o1 o2 : Nat} {xs : Nat → Int32} {z f h a : Nat → Nat} {fl : Nat → Int64} {fd : Nat → UInt64} {k : Nat}
set_option maxRecDepth 100000 in
set_option maxHeartbeats 4000000 in
theorem k_lotFor (hl9 : l.stackTraces = false) (X : Cx p s m args meth c cL_law 9 RL rt G A) (hX : va_X b L xs s s.heap) (hbl : b < s.heap.size) (hbA : ¬ A b) (hL : L ≤ 2048) (hi : i + 4 ≤ L) (hcl : cells + 30 ≤ 603072) (hsl : slots + 400 ≤ 7215210) (hLI : LI G z f h a o1 o2 w) (hW : Wd G A s w H locs) (hl : lv_has ls 9 (LV6 b (z 0) (a 0) o1 o2 i)) (kk : ∀ (w : va_W) (H : Heap) (locs : List Loc) (ls : Array Slot), LI G z f h a o1 o2 w → Wd G A s w H locs → lv_has ls 9 (LV6 b (z 0) (a 0) o1 o2 i) → W p l e room_1 s m args below meth c H locs (cells + 30) (slots + 400) Q (F0 m 2290 ls [])) : W p l e room_1 s m args below meth c H locs cells slots Q (F0 m 2021 ls []) := by
  have hx := X.exec
  have hb := X.bytes
  obtain ⟨th, fl, fd, lo, bi, ru, ol, ob, tk, fib, gra, res, buy, lst, bst, rea, bid, pri, itm, akf, akg, got, pai, riv, rf, ro, rs, lat, bat, val, cos, row, ahe, wan, giv, sc, wc, byr, reaC, rvl, pad, gt, X1, hM, hSB, hRel, hC0, hp1⟩ := hLI
  have hC1 := cf_inn hC0 hp1
  have hm1 : outL G o1 fl ∈ w := cf_mem hC1 (List.mem_append_right _ List.mem_cons_self)
  have hCI := cia_of hM hRel.1
  obtain ⟨fs, hz0⟩ := cf_z hC1
  obtain ⟨hlo, hbi, hru, hol, hob, hfib, hgra, hres, hbuy, hlst, hbst, hrea, hbid, hpri, hitm, hakf, hakg, hgot, hriv, hrf, hro, hrs, hpai, hcl9, hcb9⟩ := id hM
  obtain ⟨hlat, hbat, hcos, hrow, hahe, hwan, hgiv⟩ := id hSB
  obtain ⟨hrC, hrB, hrR, hrV, hrP, hsc, hwc⟩ := id hRel
  obtain ⟨v1, hv1, hv1e⟩ := z_ex (xs (i + 1))
  obtain ⟨v2, hv2, hv2e⟩ := z_ex (xs (i + 2))
  refine lv_aload_n hx hb dL_law_2021 rfl (lv_at hl 1 rfl) ?_
  refine law_arg X hX hbl hbA hW (lv_at hl 0 rfl) (lv_at hl 5 rfl) 1 (by decide) hi hL (v := zI v1) hv1e (by decide) dL_law_2022 dL_law_2023 dL_law_2025 dL_law_2026 dL_law_2027 ?_
  refine law_arg X hX hbl hbA hW (lv_at hl 0 rfl) (lv_at hl 5 rfl) 2 (by decide) hi hL (v := zI v2) hv2e (by decide) dL_law_2028 dL_law_2029 dL_law_2031 dL_law_2032 dL_law_2033 ?_
  refine lv_aload_n hx hb dL_law_2034 rfl (lv_at hl 3 rfl) ?_
  refine go_i X hW (rest := []) (run_SW X hW (As := [.ref (z 0), .int (zI v1), .int (zI v2), .ref o1]) (rest := []) (h_lotFor l G w (z 0) o1 fs fl _ _ (c_X6_lotFor l hl9 G _ _ _ _ _ _ _ _ _ _ _ _ _ _ _ _ _ _ _ _ _ _ _ _ _ _ _ _ _ _ _ _ _ hCI hC1 hv1 hv2) hz0 (fun r w2 q => cf_mem q.2 (List.mem_append_right _ List.mem_cons_self)) (fun E w2 q => by rcases q with ⟨q, -⟩ | ⟨q, -⟩ | ⟨q, -⟩ | ⟨q, -⟩ <;> simp [q]) H.size) wq_1026 wq_1027 wq_1028 rfl hyL_lotFor rfl rfl hl.1 (Nat.le_of_ble_eq_true rfl) ⟨Nat.le_of_ble_eq_true rfl, Nat.le_of_ble_eq_true rfl⟩ ⟨by show cells + 8 ≤ 603072; omega, by show slots + 60 ≤ 7215210; omega⟩ dL_law_2035) (fun r6 w2 H locs hP hW => ?_)
  have hz1 := hz0
  rcases hP with ⟨h6, v0, w3, hpp, hF⟩ | ⟨h6, hxx⟩ | ⟨h6, hxx⟩ | ⟨h6, hxx⟩ | ⟨h6, hxx⟩
  · obtain ⟨⟨hc, bb, k9, hB, hk9, hBA, ht9, hr⟩, hC2⟩ := hpp
    obtain ⟨X2, hC3, hp2⟩ := cf_out (cf_upd hC2 hF)
    have hW := hW.perm hp2
    refine lv_istore (lv' := (6, .int r6) :: LV6 b (z 0) (a 0) o1 o2 i) hx hb dL_law_2038 hl (by decide) rfl (fun ls hl => ?_)
    refine lv_aload_n hx hb dL_law_2040 rfl (lv_at hl 3 rfl) ?_
    refine law_arg X hX hbl hbA hW (lv_at hl 1 rfl) (lv_at hl 6 rfl) 1 (by decide) hi hL (v := zI v1) hv1e (by decide) dL_law_2041 dL_law_2042 dL_law_2044 dL_law_2045 dL_law_2046 ?_
    refine law_arg X hX hbl hbA hW (lv_at hl 1 rfl) (lv_at hl 6 rfl) 2 (by decide) hi hL (v := zI v2) hv2e (by decide) dL_law_2047 dL_law_2048 dL_law_2050 dL_law_2051 dL_law_2052 ?_
    refine go_i X hW (rest := []) (run_V X hW (As := [.int (zI v1), .int (zI v2)]) (rest := []) 10 0 rfl (c_X7_lotFor l G a _ _ _ _ _ _ _ _ _ _ _ _ _ _ _ _ _ _ _ _ _ _ _ _ _ _ _ _ _ _ _ _ _ _ _ _ hM hlat hbat hcos hrow hahe hwan hgiv hv1 hv2 H.size) (gi_V wq_1398 wq_1399 wq_1400 wq_67 wq_1401) rfl hyX7_lotFor rfl rfl rfl hl.1 (Nat.le_of_ble_eq_true rfl) ⟨Nat.le_of_ble_eq_true rfl, Nat.le_of_ble_eq_true rfl⟩ ⟨by show cells + 8 + 0 ≤ 603072; omega, by show slots + 60 + 0 ≤ 7215210; omega⟩ dL_law_2053) (fun r7 w7 H locs hp7 hW => ?_)
    refine lv_istore (lv' := (7, .int r7) :: (6, .int r6) :: LV6 b (z 0) (a 0) o1 o2 i) hx hb dL_law_2056 hl (by decide) rfl (fun ls hl => ?_)
    rcases hp7 with ⟨hd, hr7, hw7⟩ | ⟨hd, hr7, hw7⟩ | ⟨hd, hr7, hw7⟩ | ⟨hd, la, ba, vv, g2, r2, hA, hg2, hr2, hn7, hr7, hw7⟩ | ⟨hd, la, ba, vv, g2, r2, hA, hg2, hr2, hn7, h2, u2, k2, hu2, hk2, hh9, hu9, hk9x, hr7, hw7⟩
    · exfalso; clear hM hSB hRel hCI hC1; omega
    · exfalso; clear hM hSB hRel hCI hC1; omega
    · exfalso; clear hM hSB hRel hCI hC1; omega
    · exact absurd (by rw [j_pl hcb9 hA hk9 hBA, j_best hitm hob hA hB]; exact ⟨hk9, ht9⟩) hn7
    · rw [hw7] at hW
      exact law_tailI X (k := 0) ⟨lo, bi, ru, ol, ob, tk, fib, gra, res, buy, lst, bst, rea, bid, pri, itm, akf, akg, got, pai, riv, rf, ro, rs, la, ba, vv, g2, r2, h2, u2, k2, sc, wc, byr, reaC, rvl, pad, gt, X2, hM, (sb_all2 hA hg2 hr2 hh9 hu9 hk9x), hRel, hC3, List.Perm.refl _⟩ hW hl h6 (fun _ => (if_pos rfl).trans (congrArg Int32.toInt64 (by rw [j_best hitm hob hA hB, j_pl hcb9 hA hk9 hBA] at hr7; rw [j_best hitm hob hA hB] at hk2; have u1 := (ut_at (bst := bst) (bi := bi) hitm hk9 ht9 (i := v2.toNat) (by rw [hBA]; omega)).1; rw [← j_sum hitm hA bb.testBit (Nat.le_of_lt hk9), ← j_sum hitm hA bb.testBit (Nat.le_refl ob)] at u1; rw [hr, hr7, hk2 _ u1, j_kt hitm hol hres hA hB u1, j_sum hitm hA bb.testBit (Nat.le_of_lt hk9)]; rfl))) ⟨by show cells + 8 + 0 + 0 ≤ 603072; omega, by show slots + 60 + 0 + 0 ≤ 7215210; omega⟩ 2058 dL_law_2058 dL_law_2059 dL_law_2062 dL_law_2064 dL_law_2069 dL_law_2071 dL_law_2074 dL_law_2075 dL_law_2076 dL_law_2077 dL_law_2079 dL_law_2080 dL_law_2081 dL_law_2086 rfl (fun w H1 locs1 q1 q2 q3 => W.widen (by show cells + 8 + 0 ≤ _; omega) (by show slots + 60 + 0 ≤ _; omega) (kk w H1 locs1 ls q1 q2 q3))
  · obtain ⟨hc, hC2⟩ : _ ∧ _ := by
      rcases hxx with ⟨hE, hc, hC2⟩ | ⟨hE, hc, hC2⟩ | ⟨hE, hc, hC2⟩ | ⟨hE, hc, hC2⟩
      · exact ⟨hc, hC2⟩
      · exact absurd hE (by decide)
      · exact absurd hE (by decide)
      · exact absurd hE (by decide)
    obtain ⟨X2, hC3, hp2⟩ := cf_out hC2
    have hW := hW.perm hp2
    refine lv_istore (lv' := (6, .int r6) :: LV6 b (z 0) (a 0) o1 o2 i) hx hb dL_law_2038 hl (by decide) rfl (fun ls hl => ?_)
    refine lv_aload_n hx hb dL_law_2040 rfl (lv_at hl 3 rfl) ?_
    refine law_arg X hX hbl hbA hW (lv_at hl 1 rfl) (lv_at hl 6 rfl) 1 (by decide) hi hL (v := zI v1) hv1e (by decide) dL_law_2041 dL_law_2042 dL_law_2044 dL_law_2045 dL_law_2046 ?_
    refine law_arg X hX hbl hbA hW (lv_at hl 1 rfl) (lv_at hl 6 rfl) 2 (by decide) hi hL (v := zI v2) hv2e (by decide) dL_law_2047 dL_law_2048 dL_law_2050 dL_law_2051 dL_law_2052 ?_
    refine go_i X hW (rest := []) (run_V X hW (As := [.int (zI v1), .int (zI v2)]) (rest := []) 10 0 rfl (c_X7_lotFor l G a _ _ _ _ _ _ _ _ _ _ _ _ _ _ _ _ _ _ _ _ _ _ _ _ _ _ _ _ _ _ _ _ _ _ _ _ hM hlat hbat hcos hrow hahe hwan hgiv hv1 hv2 H.size) (gi_V wq_1398 wq_1399 wq_1400 wq_67 wq_1401) rfl hyX7_lotFor rfl rfl rfl hl.1 (Nat.le_of_ble_eq_true rfl) ⟨Nat.le_of_ble_eq_true rfl, Nat.le_of_ble_eq_true rfl⟩ ⟨by show cells + 8 + 0 ≤ 603072; omega, by show slots + 60 + 0 ≤ 7215210; omega⟩ dL_law_2053) (fun r7 w7 H locs hp7 hW => ?_)
    refine lv_istore (lv' := (7, .int r7) :: (6, .int r6) :: LV6 b (z 0) (a 0) o1 o2 i) hx hb dL_law_2056 hl (by decide) rfl (fun ls hl => ?_)
    rcases hp7 with ⟨hd, hr7, hw7⟩ | ⟨hd, hr7, hw7⟩ | ⟨hd, hr7, hw7⟩ | ⟨hd, la, ba, vv, g2, r2, hA, hg2, hr2, hn7, hr7, hw7⟩ | ⟨hd, la, ba, vv, g2, r2, hA, hg2, hr2, hn7, h2, u2, k2, hu2, hk2, hh9, hu9, hk9x, hr7, hw7⟩
    · rw [hw7] at hW
      exact law_tailI X (k := 1) ⟨lo, bi, ru, ol, ob, tk, fib, gra, res, buy, lst, bst, rea, bid, pri, itm, akf, akg, got, pai, riv, rf, ro, rs, lat, bat, val, cos, row, ahe, wan, giv, sc, wc, byr, reaC, rvl, pad, gt, X2, hM, hSB, hRel, hC3, List.Perm.refl _⟩ hW hl h6 (fun q => absurd (h6.symm.trans q) (by decide)) ⟨by show cells + 8 + 0 + 0 ≤ 603072; omega, by show slots + 60 + 0 + 0 ≤ 7215210; omega⟩ 2058 dL_law_2058 dL_law_2059 dL_law_2062 dL_law_2064 dL_law_2069 dL_law_2071 dL_law_2074 dL_law_2075 dL_law_2076 dL_law_2077 dL_law_2079 dL_law_2080 dL_law_2081 dL_law_2086 rfl (fun w H1 locs1 q1 q2 q3 => W.widen (by show cells + 8 + 0 ≤ _; omega) (by show slots + 60 + 0 ≤ _; omega) (kk w H1 locs1 ls q1 q2 q3))
    · exfalso; clear hM hSB hRel hCI hC1; omega
    · exfalso; clear hM hSB hRel hCI hC1; omega
    · exfalso; clear hM hSB hRel hCI hC1; omega
    · exfalso; clear hM hSB hRel hCI hC1; omega
  · obtain ⟨hc, hC2⟩ : _ ∧ _ := by
      rcases hxx with ⟨hE, hc, hC2⟩ | ⟨hE, hc, hC2⟩ | ⟨hE, hc, hC2⟩ | ⟨hE, hc, hC2⟩
      · exact absurd hE (by decide)
      · exact ⟨hc, hC2⟩
      · exact absurd hE (by decide)
      · exact absurd hE (by decide)
    obtain ⟨X2, hC3, hp2⟩ := cf_out hC2
    have hW := hW.perm hp2
    refine lv_istore (lv' := (6, .int r6) :: LV6 b (z 0) (a 0) o1 o2 i) hx hb dL_law_2038 hl (by decide) rfl (fun ls hl => ?_)
    refine lv_aload_n hx hb dL_law_2040 rfl (lv_at hl 3 rfl) ?_
    refine law_arg X hX hbl hbA hW (lv_at hl 1 rfl) (lv_at hl 6 rfl) 1 (by decide) hi hL (v := zI v1) hv1e (by decide) dL_law_2041 dL_law_2042 dL_law_2044 dL_law_2045 dL_law_2046 ?_
    refine law_arg X hX hbl hbA hW (lv_at hl 1 rfl) (lv_at hl 6 rfl) 2 (by decide) hi hL (v := zI v2) hv2e (by decide) dL_law_2047 dL_law_2048 dL_law_2050 dL_law_2051 dL_law_2052 ?_
    refine go_i X hW (rest := []) (run_V X hW (As := [.int (zI v1), .int (zI v2)]) (rest := []) 10 0 rfl (c_X7_lotFor l G a _ _ _ _ _ _ _ _ _ _ _ _ _ _ _ _ _ _ _ _ _ _ _ _ _ _ _ _ _ _ _ _ _ _ _ _ hM hlat hbat hcos hrow hahe hwan hgiv hv1 hv2 H.size) (gi_V wq_1398 wq_1399 wq_1400 wq_67 wq_1401) rfl hyX7_lotFor rfl rfl rfl hl.1 (Nat.le_of_ble_eq_true rfl) ⟨Nat.le_of_ble_eq_true rfl, Nat.le_of_ble_eq_true rfl⟩ ⟨by show cells + 8 + 0 ≤ 603072; omega, by show slots + 60 + 0 ≤ 7215210; omega⟩ dL_law_2053) (fun r7 w7 H locs hp7 hW => ?_)
    refine lv_istore (lv' := (7, .int r7) :: (6, .int r6) :: LV6 b (z 0) (a 0) o1 o2 i) hx hb dL_law_2056 hl (by decide) rfl (fun ls hl => ?_)
    rcases hp7 with ⟨hd, hr7, hw7⟩ | ⟨hd, hr7, hw7⟩ | ⟨hd, hr7, hw7⟩ | ⟨hd, la, ba, vv, g2, r2, hA, hg2, hr2, hn7, hr7, hw7⟩ | ⟨hd, la, ba, vv, g2, r2, hA, hg2, hr2, hn7, h2, u2, k2, hu2, hk2, hh9, hu9, hk9x, hr7, hw7⟩
    · exfalso; clear hM hSB hRel hCI hC1; omega
    · rw [hw7] at hW
      exact law_tailI X (k := 2) ⟨lo, bi, ru, ol, ob, tk, fib, gra, res, buy, lst, bst, rea, bid, pri, itm, akf, akg, got, pai, riv, rf, ro, rs, lat, bat, val, cos, row, ahe, wan, giv, sc, wc, byr, reaC, rvl, pad, gt, X2, hM, hSB, hRel, hC3, List.Perm.refl _⟩ hW hl h6 (fun q => absurd (h6.symm.trans q) (by decide)) ⟨by show cells + 8 + 0 + 0 ≤ 603072; omega, by show slots + 60 + 0 + 0 ≤ 7215210; omega⟩ 2058 dL_law_2058 dL_law_2059 dL_law_2062 dL_law_2064 dL_law_2069 dL_law_2071 dL_law_2074 dL_law_2075 dL_law_2076 dL_law_2077 dL_law_2079 dL_law_2080 dL_law_2081 dL_law_2086 rfl (fun w H1 locs1 q1 q2 q3 => W.widen (by show cells + 8 + 0 ≤ _; omega) (by show slots + 60 + 0 ≤ _; omega) (kk w H1 locs1 ls q1 q2 q3))
    · exfalso; clear hM hSB hRel hCI hC1; omega
    · exfalso; clear hM hSB hRel hCI hC1; omega
    · exfalso; clear hM hSB hRel hCI hC1; omega
  · obtain ⟨hc, hC2⟩ : _ ∧ _ := by
      rcases hxx with ⟨hE, hc, hC2⟩ | ⟨hE, hc, hC2⟩ | ⟨hE, hc, hC2⟩ | ⟨hE, hc, hC2⟩
      · exact absurd hE (by decide)
      · exact absurd hE (by decide)
      · exact ⟨hc, hC2⟩
      · exact absurd hE (by decide)
    obtain ⟨X2, hC3, hp2⟩ := cf_out hC2
    have hW := hW.perm hp2
    refine lv_istore (lv' := (6, .int r6) :: LV6 b (z 0) (a 0) o1 o2 i) hx hb dL_law_2038 hl (by decide) rfl (fun ls hl => ?_)
    refine lv_aload_n hx hb dL_law_2040 rfl (lv_at hl 3 rfl) ?_
    refine law_arg X hX hbl hbA hW (lv_at hl 1 rfl) (lv_at hl 6 rfl) 1 (by decide) hi hL (v := zI v1) hv1e (by decide) dL_law_2041 dL_law_2042 dL_law_2044 dL_law_2045 dL_law_2046 ?_
    refine law_arg X hX hbl hbA hW (lv_at hl 1 rfl) (lv_at hl 6 rfl) 2 (by decide) hi hL (v := zI v2) hv2e (by decide) dL_law_2047 dL_law_2048 dL_law_2050 dL_law_2051 dL_law_2052 ?_
    refine go_i X hW (rest := []) (run_V X hW (As := [.int (zI v1), .int (zI v2)]) (rest := []) 10 0 rfl (c_X7_lotFor l G a _ _ _ _ _ _ _ _ _ _ _ _ _ _ _ _ _ _ _ _ _ _ _ _ _ _ _ _ _ _ _ _ _ _ _ _ hM hlat hbat hcos hrow hahe hwan hgiv hv1 hv2 H.size) (gi_V wq_1398 wq_1399 wq_1400 wq_67 wq_1401) rfl hyX7_lotFor rfl rfl rfl hl.1 (Nat.le_of_ble_eq_true rfl) ⟨Nat.le_of_ble_eq_true rfl, Nat.le_of_ble_eq_true rfl⟩ ⟨by show cells + 8 + 0 ≤ 603072; omega, by show slots + 60 + 0 ≤ 7215210; omega⟩ dL_law_2053) (fun r7 w7 H locs hp7 hW => ?_)
    refine lv_istore (lv' := (7, .int r7) :: (6, .int r6) :: LV6 b (z 0) (a 0) o1 o2 i) hx hb dL_law_2056 hl (by decide) rfl (fun ls hl => ?_)
    rcases hp7 with ⟨hd, hr7, hw7⟩ | ⟨hd, hr7, hw7⟩ | ⟨hd, hr7, hw7⟩ | ⟨hd, la, ba, vv, g2, r2, hA, hg2, hr2, hn7, hr7, hw7⟩ | ⟨hd, la, ba, vv, g2, r2, hA, hg2, hr2, hn7, h2, u2, k2, hu2, hk2, hh9, hu9, hk9x, hr7, hw7⟩
    · exfalso; clear hM hSB hRel hCI hC1; omega
    · exfalso; clear hM hSB hRel hCI hC1; omega
    · rw [hw7] at hW
      exact law_tailI X (k := 3) ⟨lo, bi, ru, ol, ob, tk, fib, gra, res, buy, lst, bst, rea, bid, pri, itm, akf, akg, got, pai, riv, rf, ro, rs, lat, bat, val, cos, row, ahe, wan, giv, sc, wc, byr, reaC, rvl, pad, gt, X2, hM, hSB, hRel, hC3, List.Perm.refl _⟩ hW hl h6 (fun q => absurd (h6.symm.trans q) (by decide)) ⟨by show cells + 8 + 0 + 0 ≤ 603072; omega, by show slots + 60 + 0 + 0 ≤ 7215210; omega⟩ 2058 dL_law_2058 dL_law_2059 dL_law_2062 dL_law_2064 dL_law_2069 dL_law_2071 dL_law_2074 dL_law_2075 dL_law_2076 dL_law_2077 dL_law_2079 dL_law_2080 dL_law_2081 dL_law_2086 rfl (fun w H1 locs1 q1 q2 q3 => W.widen (by show cells + 8 + 0 ≤ _; omega) (by show slots + 60 + 0 ≤ _; omega) (kk w H1 locs1 ls q1 q2 q3))
    · exfalso; clear hM hSB hRel hCI hC1; omega
    · exfalso; clear hM hSB hRel hCI hC1; omega
  · obtain ⟨hc, hC2⟩ : _ ∧ _ := by
      rcases hxx with ⟨hE, hc, hC2⟩ | ⟨hE, hc, hC2⟩ | ⟨hE, hc, hC2⟩ | ⟨hE, hc, hC2⟩
      · exact absurd hE (by decide)
      · exact absurd hE (by decide)
      · exact absurd hE (by decide)
      · exact ⟨hc, hC2⟩
    obtain ⟨X2, hC3, hp2⟩ := cf_out hC2
    have hW := hW.perm hp2
    refine lv_istore (lv' := (6, .int r6) :: LV6 b (z 0) (a 0) o1 o2 i) hx hb dL_law_2038 hl (by decide) rfl (fun ls hl => ?_)
    refine lv_aload_n hx hb dL_law_2040 rfl (lv_at hl 3 rfl) ?_
    refine law_arg X hX hbl hbA hW (lv_at hl 1 rfl) (lv_at hl 6 rfl) 1 (by decide) hi hL (v := zI v1) hv1e (by decide) dL_law_2041 dL_law_2042 dL_law_2044 dL_law_2045 dL_law_2046 ?_
    refine law_arg X hX hbl hbA hW (lv_at hl 1 rfl) (lv_at hl 6 rfl) 2 (by decide) hi hL (v := zI v2) hv2e (by decide) dL_law_2047 dL_law_2048 dL_law_2050 dL_law_2051 dL_law_2052 ?_
    refine go_i X hW (rest := []) (run_V X hW (As := [.int (zI v1), .int (zI v2)]) (rest := []) 10 0 rfl (c_X7_lotFor l G a _ _ _ _ _ _ _ _ _ _ _ _ _ _ _ _ _ _ _ _ _ _ _ _ _ _ _ _ _ _ _ _ _ _ _ _ hM hlat hbat hcos hrow hahe hwan hgiv hv1 hv2 H.size) (gi_V wq_1398 wq_1399 wq_1400 wq_67 wq_1401) rfl hyX7_lotFor rfl rfl rfl hl.1 (Nat.le_of_ble_eq_true rfl) ⟨Nat.le_of_ble_eq_true rfl, Nat.le_of_ble_eq_true rfl⟩ ⟨by show cells + 8 + 0 ≤ 603072; omega, by show slots + 60 + 0 ≤ 7215210; omega⟩ dL_law_2053) (fun r7 w7 H locs hp7 hW => ?_)
    refine lv_istore (lv' := (7, .int r7) :: (6, .int r6) :: LV6 b (z 0) (a 0) o1 o2 i) hx hb dL_law_2056 hl (by decide) rfl (fun ls hl => ?_)
    rcases hp7 with ⟨hd, hr7, hw7⟩ | ⟨hd, hr7, hw7⟩ | ⟨hd, hr7, hw7⟩ | ⟨hd, la, ba, vv, g2, r2, hA, hg2, hr2, hn7, hr7, hw7⟩ | ⟨hd, la, ba, vv, g2, r2, hA, hg2, hr2, hn7, h2, u2, k2, hu2, hk2, hh9, hu9, hk9x, hr7, hw7⟩
    · exfalso; clear hM hSB hRel hCI hC1; omega
    · exfalso; clear hM hSB hRel hCI hC1; omega
    · exfalso; clear hM hSB hRel hCI hC1; omega
    · rw [hw7] at hW
      exact law_tailI X (k := 4) ⟨lo, bi, ru, ol, ob, tk, fib, gra, res, buy, lst, bst, rea, bid, pri, itm, akf, akg, got, pai, riv, rf, ro, rs, la, ba, vv, g2, r2, ahe, wan, giv, sc, wc, byr, reaC, rvl, pad, gt, X2, hM, (sb_all hA hg2 hr2 hSB), hRel, hC3, List.Perm.refl _⟩ hW hl h6 (fun q => absurd (h6.symm.trans q) (by decide)) ⟨by show cells + 8 + 0 + 0 ≤ 603072; omega, by show slots + 60 + 0 + 0 ≤ 7215210; omega⟩ 2058 dL_law_2058 dL_law_2059 dL_law_2062 dL_law_2064 dL_law_2069 dL_law_2071 dL_law_2074 dL_law_2075 dL_law_2076 dL_law_2077 dL_law_2079 dL_law_2080 dL_law_2081 dL_law_2086 rfl (fun w H1 locs1 q1 q2 q3 => W.widen (by show cells + 8 + 0 ≤ _; omega) (by show slots + 60 + 0 ≤ _; omega) (kk w H1 locs1 ls q1 q2 q3))
    · obtain ⟨-, bb, k9, hB, hk9, hBA, ht9⟩ := hc; rw [j_pl hcb9 hA hk9 hBA, j_best hitm hob hA hB] at hn7; exact absurd hn7.2 ht9
set_option maxRecDepth 100000 in
set_option maxHeartbeats 4000000 in
theorem k_close (hl9 : l.stackTraces = false) (X : Cx p s m args meth c cL_law 9 RL rt G A) (hX : va_X b L xs s s.heap) (hbl : b < s.heap.size) (hbA : ¬ A b) (hL : L ≤ 2048) (hi : i + 4 ≤ L) (hcl : cells + 30 ≤ 603072) (hsl : slots + 400 ≤ 7215210) (hLI : LI G z f h a o1 o2 w) (hW : Wd G A s w H locs) (hl : lv_has ls 9 (LV6 b (z 0) (a 0) o1 o2 i)) (kk : ∀ (w : va_W) (H : Heap) (locs : List Loc) (ls : Array Slot), LI G z f h a o1 o2 w → Wd G A s w H locs → lv_has ls 9 (LV6 b (z 0) (a 0) o1 o2 i) → W p l e room_1 s m args below meth c H locs (cells + 30) (slots + 400) Q (F0 m 2290 ls [])) : W p l e room_1 s m args below meth c H locs cells slots Q (F0 m 752 ls []) := by
  have hx := X.exec
  have hb := X.bytes
  obtain ⟨th, fl, fd, lo, bi, ru, ol, ob, tk, fib, gra, res, buy, lst, bst, rea, bid, pri, itm, akf, akg, got, pai, riv, rf, ro, rs, lat, bat, val, cos, row, ahe, wan, giv, sc, wc, byr, reaC, rvl, pad, gt, X1, hM, hSB, hRel, hC0, hp1⟩ := hLI
  have hC1 := cf_inn hC0 hp1
  have hm1 : outL G o1 fl ∈ w := cf_mem hC1 (List.mem_append_right _ List.mem_cons_self)
  have hCI := cia_of hM hRel.1
  obtain ⟨fs, hz0⟩ := cf_z hC1
  obtain ⟨hlo, hbi, hru, hol, hob, hfib, hgra, hres, hbuy, hlst, hbst, hrea, hbid, hpri, hitm, hakf, hakg, hgot, hriv, hrf, hro, hrs, hpai, hcl9, hcb9⟩ := id hM
  obtain ⟨hlat, hbat, hcos, hrow, hahe, hwan, hgiv⟩ := id hSB
  obtain ⟨hrC, hrB, hrR, hrV, hrP, hsc, hwc⟩ := id hRel
  refine lv_aload_n hx hb dL_law_752 rfl (lv_at hl 1 rfl) ?_
  refine lv_aload_n hx hb dL_law_753 rfl (lv_at hl 3 rfl) ?_
  refine go_i X hW (rest := []) (run_SW X hW (As := [.ref (z 0), .ref o1]) (rest := []) (h_close l G w (z 0) o1 fs fl (c_X6_close l hl9 G _ _ _ _ _ _ _ _ _ _ _ _ _ _ _ _ _ _ _ _ _ _ _ _ _ _ _ _ _ _ _ hCI hC1) hz0 (fun r w2 q => by obtain ⟨-, sb, P1, By, Gy, V1, S1, Ly, R1, S2, t1, -, -, -, -, -, -, -, -, hC⟩ := q; exact cf_mem hC (List.mem_append_right _ List.mem_cons_self)) (fun E w2 q => q.1) H.size) wq_776 wq_777 wq_778 rfl hyL_close rfl rfl hl.1 (Nat.le_of_ble_eq_true rfl) ⟨Nat.le_of_ble_eq_true rfl, Nat.le_of_ble_eq_true rfl⟩ ⟨by show cells + 1 ≤ 603072; omega, by show slots + 6 ≤ 7215210; omega⟩ dL_law_754) (fun r6 w2 H locs hP hW => ?_)
  have hz1 := hz0
  rcases hP with ⟨h6, v0, w3, hpp, hF⟩ | ⟨h6, hxx⟩
  · obtain ⟨hob0, sb, P1, By, Gy, V1, S1, Ly, R1, S2, t1, hB, pA, pB, ht1, hHO, lA, lB, hr, hC2⟩ := hpp
    obtain ⟨X2, hC3, hp2⟩ := cf_out (cf_upd hC2 hF)
    have hW := hW.perm hp2
    refine lv_istore (lv' := (6, .int r6) :: LV6 b (z 0) (a 0) o1 o2 i) hx hb dL_law_757 hl (by decide) rfl (fun ls hl => ?_)
    refine lv_aload_n hx hb dL_law_759 rfl (lv_at hl 3 rfl) ?_
    refine go_i X hW (rest := []) (run_V X hW (As := []) (rest := []) 10 0 rfl (c_X7_close l G a _ _ _ _ _ _ _ _ _ _ _ _ _ _ _ _ _ _ _ _ _ _ _ _ _ _ _ _ _ _ _ _ _ _ hM hlat hbat hcos hrow hahe hwan hgiv H.size) (gi_V wq_1235 wq_1236 wq_1237 wq_67 wq_1238) rfl hyX7_close rfl rfl rfl hl.1 (Nat.le_of_ble_eq_true rfl) ⟨Nat.le_of_ble_eq_true rfl, Nat.le_of_ble_eq_true rfl⟩ ⟨by show cells + 1 + 0 ≤ 603072; omega, by show slots + 6 + 0 ≤ 7215210; omega⟩ dL_law_760) (fun r7 w7 H locs hp7 hW => ?_)
    refine lv_istore (lv' := (7, .int r7) :: (6, .int r6) :: LV6 b (z 0) (a 0) o1 o2 i) hx hb dL_law_763 hl (by decide) rfl (fun ls hl => ?_)
    rcases hp7 with ⟨hd, hr7, hw7⟩ | ⟨hd, la, ba, v2, g2, r2, h2, u2, k2, P2, R2, V2, T2, G2, B2, L2, t2, sb2, mn2, hA, hg2, hr2, esb, emn, hmo, hu2, hk2, hh9, hu9, hk9x, m3, m4, m5, et2, m6, m7, m8, hMI2, hr7, hw7⟩
    · exfalso; clear hM hSB hRel hCI hC1; omega
    · rw [hw7] at hW
      obtain rfl : sb = sb2 := (j_best hitm hob hA hB).symm.trans esb.symm
      have m2 : ∀ x, x < mn2 → k2 x = KTc lo bi ru ol ob fib gra res lst bst bid pri itm akf akg rf ro rs sb x := fun x hx => by
        rw [hk2 x hx]
        rw [emn] at hx ⊢
        exact j_kt hitm hol hres hA hB hx
      obtain rfl : bsum sb.testBit (fBD itm bst bi) ob = mn2 := (j_sum hitm hA sb.testBit (Nat.le_refl _)).symm.trans emn.symm
      obtain rfl : t1 = t2 := by
        rw [ht1, et2]
        exact congrArg (tk + ·) (isum_cg (fun k hk _ => (j_pay hitm hob hA hB hk).symm))
      obtain ⟨rfl, rfl, hR9⟩ := cl_rel hM hRel hA hB rfl pA pB hHO lA lB (fun x hx => (hu2 x hx).trans (j_ut hitm hA sb x)) m2 m3 m4 m5 m6 m7 m8
      exact law_tailI X (k := 0) ⟨lo, bi, ru, (ol - bsum sb.testBit (fBD itm bst bi) ob), 0, t1, fib, gra, res, B2, L2, T2, R2, bid, pri, itm, akf, akg, G2, P2, V2, rf, ro, rs, la, ba, v2, g2, r2, h2, u2, k2, (sc + bsum sb.testBit (fBD itm bst bi) ob), (wc + cntB sb.testBit ob), By, R1, V1, P1, Gy, X2, hMI2, (sb_all2 hA hg2 hr2 hh9 hu9 hk9x), hR9, hC3, List.Perm.refl _⟩ hW hl h6 (fun _ => (if_pos rfl).trans (congrArg Int32.toInt64 (hr.trans hr7.symm))) ⟨by show cells + 1 + 0 + 0 ≤ 603072; omega, by show slots + 6 + 0 + 0 ≤ 7215210; omega⟩ 765 dL_law_765 dL_law_766 dL_law_769 dL_law_771 dL_law_776 dL_law_778 dL_law_781 dL_law_782 dL_law_783 dL_law_784 dL_law_786 dL_law_787 dL_law_788 dL_law_793 rfl (fun w H1 locs1 q1 q2 q3 => W.widen (by show cells + 1 + 0 ≤ _; omega) (by show slots + 6 + 0 ≤ _; omega) (kk w H1 locs1 ls q1 q2 q3))
  · obtain ⟨hE, hc, hC2⟩ := hxx
    obtain ⟨X2, hC3, hp2⟩ := cf_out hC2
    have hW := hW.perm hp2
    refine lv_istore (lv' := (6, .int r6) :: LV6 b (z 0) (a 0) o1 o2 i) hx hb dL_law_757 hl (by decide) rfl (fun ls hl => ?_)
    refine lv_aload_n hx hb dL_law_759 rfl (lv_at hl 3 rfl) ?_
    refine go_i X hW (rest := []) (run_V X hW (As := []) (rest := []) 10 0 rfl (c_X7_close l G a _ _ _ _ _ _ _ _ _ _ _ _ _ _ _ _ _ _ _ _ _ _ _ _ _ _ _ _ _ _ _ _ _ _ hM hlat hbat hcos hrow hahe hwan hgiv H.size) (gi_V wq_1235 wq_1236 wq_1237 wq_67 wq_1238) rfl hyX7_close rfl rfl rfl hl.1 (Nat.le_of_ble_eq_true rfl) ⟨Nat.le_of_ble_eq_true rfl, Nat.le_of_ble_eq_true rfl⟩ ⟨by show cells + 1 + 0 ≤ 603072; omega, by show slots + 6 + 0 ≤ 7215210; omega⟩ dL_law_760) (fun r7 w7 H locs hp7 hW => ?_)
    refine lv_istore (lv' := (7, .int r7) :: (6, .int r6) :: LV6 b (z 0) (a 0) o1 o2 i) hx hb dL_law_763 hl (by decide) rfl (fun ls hl => ?_)
    rcases hp7 with ⟨hd, hr7, hw7⟩ | ⟨hd, la, ba, v2, g2, r2, h2, u2, k2, P2, R2, V2, T2, G2, B2, L2, t2, sb2, mn2, hA, hg2, hr2, esb, emn, hmo, hu2, hk2, hh9, hu9, hk9x, m3, m4, m5, et2, m6, m7, m8, hMI2, hr7, hw7⟩
    · rw [hw7] at hW
      exact law_tailI X (k := 1) ⟨lo, bi, ru, ol, ob, tk, fib, gra, res, buy, lst, bst, rea, bid, pri, itm, akf, akg, got, pai, riv, rf, ro, rs, lat, bat, val, cos, row, ahe, wan, giv, sc, wc, byr, reaC, rvl, pad, gt, X2, hM, hSB, hRel, hC3, List.Perm.refl _⟩ hW hl h6 (fun q => absurd (h6.symm.trans q) (by decide)) ⟨by show cells + 1 + 0 + 0 ≤ 603072; omega, by show slots + 6 + 0 + 0 ≤ 7215210; omega⟩ 765 dL_law_765 dL_law_766 dL_law_769 dL_law_771 dL_law_776 dL_law_778 dL_law_781 dL_law_782 dL_law_783 dL_law_784 dL_law_786 dL_law_787 dL_law_788 dL_law_793 rfl (fun w H1 locs1 q1 q2 q3 => W.widen (by show cells + 1 + 0 ≤ _; omega) (by show slots + 6 + 0 ≤ _; omega) (kk w H1 locs1 ls q1 q2 q3))
    · exfalso; clear hM hSB hRel hCI hC1; omega
end KCL
