theorem addI_cg {fl fl2 : Nat → Nat} {k n : Nat} {R : List Nat} (h : ∀ j, j < n → fl (k * 3 + j) = fl2 (k * 3 + j)) : addI fl k n R = addI fl2 k n R := by
  induction n with
  | zero => rfl
  | succ n ih => rw [addI, addI, ih (fun j hj => h j (by omega)), h n (by omega)]
theorem lmR_cg {p : Nat → Bool} {ic ic2 fl fl2 : Nat → Nat} {n : Nat} (h : ∀ k, k < n → ic k = ic2 k ∧ ∀ j, j < ic k → fl (k * 3 + j) = fl2 (k * 3 + j)) : lmR p ic fl n = lmR p ic2 fl2 n := by
  induction n with
  | zero => rfl
  | succ n ih =>
    obtain ⟨h1, h2⟩ := h n (by omega)
    rw [lmR, lmR, ih (fun k hk => h k (by omega)), addI_cg h2, h1]
theorem its_cg {p : Nat → Bool} {ic ic2 fl fl2 : Nat → Nat} {n : Nat} (h : ∀ k, k < n → ic k = ic2 k ∧ ∀ j, j < ic k → fl (k * 3 + j) = fl2 (k * 3 + j)) : its p ic fl n = its p ic2 fl2 n := by
  induction n with
  | zero => rfl
  | succ n ih =>
    obtain ⟨h1, h2⟩ := h n (by omega)
    have e : (List.range (ic n)).map (fun i => fl (n * 3 + i)) = (List.range (ic2 n)).map (fun i => fl2 (n * 3 + i)) := by
      rw [← h1]; exact List.map_congr_left (fun i hi => h2 i (List.mem_range.mp hi))
    rw [its, its, ih (fun k hk => h k (by omega)), e]
theorem okN_cg {p : Nat → Bool} {ic ic2 : Nat → Nat} {n : Nat} (h : ∀ k, k < n → ic k = ic2 k) : okN p ic n = okN p ic2 n := by
  induction n with
  | zero => rfl
  | succ n ih => rw [okN, okN, ih (fun k hk => h k (by omega)), h n (by omega)]
theorem sn_cg {p : Nat → Bool} {bd bd2 : Nat → Nat} {n : Nat} (h : ∀ k, k < n → bd k = bd2 k) : sn p bd n = sn p bd2 n := by
  induction n with
  | zero => rfl
  | succ n ih => rw [sn, sn, ih (fun k hk => h k (by omega)), h n (by omega)]
theorem okB_cg {p : Nat → Bool} {bd bd2 : Nat → Nat} {n : Nat} (h : ∀ k, k < n → bd k = bd2 k) : okB p bd n = okB p bd2 n := by
  induction n with
  | zero => rfl
  | succ n ih => rw [okB, okB, ih (fun k hk => h k (by omega)), h n (by omega), sn_cg (fun k hk => h k (by omega))]
theorem mnl_cg {it it2 : Nat} {rs rs2 g g2 : Nat → Nat} {t n : Nat} (h0 : it = it2) (h : ∀ l, l < n → rs l = rs2 l) (hg : ∀ l, l < n → g (t ||| 2 ^ l) = g2 (t ||| 2 ^ l)) : mnl it rs g t n = mnl it2 rs2 g2 t n := by
  subst h0
  induction n with
  | zero => rfl
  | succ n ih => rw [mnl, mnl, ih (fun l hl => h l (by omega)) (fun l hl => hg l (by omega)), h n (by omega), hg n (by omega)]
theorem rcv_cg {qu qu2 rs rs2 : Nat → Nat} {ql lc : Nat} (h : ∀ t, t < ql → qu t = qu2 t) (hr : ∀ l, l < lc → rs l = rs2 l) (d t : Nat) (hd : d ≤ ql) : rcv qu ql lc rs d t = rcv qu2 ql lc rs2 d t := by
  induction d generalizing t with
  | zero => rfl
  | succ d ih =>
    show mnl _ _ _ _ _ = mnl _ _ _ _ _
    exact mnl_cg (h _ (by omega)) hr (fun l _ => ih _ (by omega))
theorem gvP_cg {qu qu2 rs rs2 : Nat → Nat} {ql lc i t l : Nat} (h : ∀ t, t < ql → qu t = qu2 t) (hr : ∀ l, l < lc → rs l = rs2 l) (hi : i < ql) (hl : l < lc) : gvP qu ql lc rs i t l = gvP qu2 ql lc rs2 i t l := by
  unfold gvP
  rw [h i hi, hr l hl, rcv_cg h hr _ _ (by omega), rcv_cg h hr _ _ (by omega)]
theorem gvt_cg {qu qu2 rs rs2 : Nat → Nat} {ql lc i : Nat} (h : ∀ t, t < ql → qu t = qu2 t) (hr : ∀ l, l < lc → rs l = rs2 l) (hi : i ≤ ql) : gvt qu ql lc rs i = gvt qu2 ql lc rs2 i := by
  induction i with
  | zero => rfl
  | succ i ih =>
    rw [gvt, gvt, ih (by omega)]
    rw [fst1_congr (fun l hl => gvP_cg h hr (by omega) hl)]
theorem gvl_cg {qu qu2 rs rs2 : Nat → Nat} {ql lc i : Nat} (h : ∀ t, t < ql → qu t = qu2 t) (hr : ∀ l, l < lc → rs l = rs2 l) (hi : i < ql) : gvl qu ql lc rs i = gvl qu2 ql lc rs2 i := by
  unfold gvl
  rw [gvt_cg h hr (by omega)]
  exact fst1_congr (fun l hl => gvP_cg h hr hi hl)
theorem lmC_cg {ol : Nat} {rsv rsv2 : Nat → Nat} {L : List Nat} (h : ∀ l, l < ol → rsv l = rsv2 l) : lmC ol rsv L = lmC ol rsv2 L := by
  unfold lmC
  exact lmn_congr (fun m _ => by rw [bsum_congr (fun k hk => ⟨rfl, h k hk⟩)])
/-- two tellings agree on the open places -/
def Ag (ol ob : Nat) (rsv bd ic fl pr rsv2 bd2 ic2 fl2 pr2 : Nat → Nat) : Prop := (∀ l, l < ol → rsv l = rsv2 l) ∧ ∀ k, k < ob → bd k = bd2 k ∧ pr k = pr2 k ∧ ic k = ic2 k ∧ ∀ j, j < ic k → fl (k * 3 + j) = fl2 (k * 3 + j)
section XAG
variable {ol ob : Nat} {rsv bd ic fl pr rsv2 bd2 ic2 fl2 pr2 : Nat → Nat}
theorem Ag.symm (h : Ag ol ob rsv bd ic fl pr rsv2 bd2 ic2 fl2 pr2) : Ag ol ob rsv2 bd2 ic2 fl2 pr2 rsv bd ic fl pr :=
  ⟨fun l hl => (h.1 l hl).symm, fun k hk => ⟨(h.2 k hk).1.symm, (h.2 k hk).2.1.symm, (h.2 k hk).2.2.1.symm, fun j hj => ((h.2 k hk).2.2.2 j (by rw [(h.2 k hk).2.2.1]; exact hj)).symm⟩⟩
theorem Ag.itsE (h : Ag ol ob rsv bd ic fl pr rsv2 bd2 ic2 fl2 pr2) (p : Nat → Bool) : its p ic fl ob = its p ic2 fl2 ob := its_cg (fun k hk => (h.2 k hk).2.2)
theorem Ag.lmRE (h : Ag ol ob rsv bd ic fl pr rsv2 bd2 ic2 fl2 pr2) (p : Nat → Bool) : lmR p ic fl ob = lmR p ic2 fl2 ob := lmR_cg (fun k hk => (h.2 k hk).2.2)
theorem Ag.sum (h : Ag ol ob rsv bd ic fl pr rsv2 bd2 ic2 fl2 pr2) (p : Nat → Bool) {n : Nat} (hn : n ≤ ob) : bsum p ic n = bsum p ic2 n := bsum_congr (fun k hk => ⟨rfl, (h.2 k (by omega)).2.2.1⟩)
theorem Ag.ps (h : Ag ol ob rsv bd ic fl pr rsv2 bd2 ic2 fl2 pr2) (s : Nat) : PS ol bd ic fl s ob ↔ PS ol bd2 ic2 fl2 s ob := by
  unfold PS
  rw [okN_cg (fun k hk => (h.2 k hk).2.2.1), okB_cg (fun k hk => (h.2 k hk).1), h.lmRE]
theorem Ag.vs (h : Ag ol ob rsv bd ic fl pr rsv2 bd2 ic2 fl2 pr2) (s : Nat) : VS ol rsv ic fl pr s ob = VS ol rsv2 ic2 fl2 pr2 s ob := by
  unfold VS
  rw [h.lmRE, lmC_cg h.1, bsum_congr (fun k hk => ⟨rfl, (h.2 k hk).2.1⟩)]
theorem Ag.nw (h : Ag ol ob rsv bd ic fl pr rsv2 bd2 ic2 fl2 pr2) (wo : Int) (s : Nat) : nwP bd ob wo s ↔ nwP bd2 ob wo s := by
  unfold nwP
  constructor
  · intro q k hk hb
    rw [← (h.2 k hk).1]; exact q k hk hb
  · intro q k hk hb
    rw [(h.2 k hk).1]; exact q k hk hb
theorem Ag.isb (h : Ag ol ob rsv bd ic fl pr rsv2 bd2 ic2 fl2 pr2) {wo : Int} {b : Nat} (q : IsB ol bd ic fl rsv pr ob wo b) : IsB ol bd2 ic2 fl2 rsv2 pr2 ob wo b := by
  obtain ⟨q1, q2, q3, q4⟩ := q
  refine ⟨q1, (h.ps b).mp q2, (h.nw wo b).mp q3, fun s h1 h2 h3 => ?_⟩
  have := q4 s h1 ((h.ps s).mpr h2) ((h.nw wo s).mpr h3)
  rw [h.vs, h.vs] at this
  exact this
theorem Ag.qfE (h : Ag ol ob rsv bd ic fl pr rsv2 bd2 ic2 fl2 pr2) (p : Nat → Bool) : qf (its p ic fl ob) = qf (its p ic2 fl2 ob) := by rw [h.itsE]
theorem Ag.gvlE (h : Ag ol ob rsv bd ic fl pr rsv2 bd2 ic2 fl2 pr2) (p : Nat → Bool) {i : Nat} (hi : i < bsum p ic ob) : gvl (qf (its p ic fl ob)) (bsum p ic ob) ol rsv i = gvl (qf (its p ic2 fl2 ob)) (bsum p ic2 ob) ol rsv2 i := by
  rw [h.qfE, ← h.sum p (Nat.le_refl ob)]
  exact gvl_cg (fun _ _ => rfl) h.1 hi
end XAG
theorem mkm_congr {P P2 : Nat → Bool} {n : Nat} (h : ∀ k, k < n → P k = P2 k) : mkm P n = mkm P2 n := by
  induction n with
  | zero => rfl
  | succ n ih => rw [mkm, mkm, ih (fun k hk => h k (by omega)), h n (by omega)]
/-- the places of the open lots, of the open bids -/
abbrev LA (lst : Nat → Nat) (lo : Nat) : Nat → Nat := fun x => qf (opn (isO lst) lo) x
abbrev BA (bst : Nat → Nat) (bi : Nat) : Nat → Nat := fun x => qf (opn (isO bst) bi) x
abbrev fRS (res lst : Nat → Nat) (lo : Nat) : Nat → Nat := fun l => res (LA lst lo l)
abbrev fBD (bid bst : Nat → Nat) (bi : Nat) : Nat → Nat := fun k => bid (BA bst bi k)
abbrev fFL (fib gra rf ro rs : Nat → Nat) (ru : Nat) (akf akg lst : Nat → Nat) (lo : Nat) (bst : Nat → Nat) (bi ol : Nat) : Nat → Nat := flM fib gra rf ro rs ru akf akg (LA lst lo) (BA bst bi) ol
/-- the best set without a bidder -/
def BestIs (lo bi ru ol ob : Nat) (fib gra res lst bst bid pri itm akf akg rf ro rs : Nat → Nat) (wo : Int) (b : Nat) : Prop := IsB ol (fBD bid bst bi) (fBD itm bst bi) (fFL fib gra rf ro rs ru akf akg lst lo bst bi ol) (fRS res lst lo) (fBD pri bst bi) ob wo b
/-- its surplus -/
def Sur (lo bi ru ol ob : Nat) (fib gra res lst bst pri itm akf akg rf ro rs : Nat → Nat) (b : Nat) : Int := VS ol (fRS res lst lo) (fBD itm bst bi) (fFL fib gra rf ro rs ru akf akg lst lo bst bi ol) (fBD pri bst bi) b ob
theorem ag_of {lo bi ru ol ob : Nat} {fib gra res lst bst bid pri itm akf akg rf ro rs la ba : Nat → Nat} (hi3 : ∀ k, itm k ≤ 3) (h1 : ∀ x, x < ol → la x = LA lst lo x) (h2 : ∀ x, x < ob → ba x = BA bst bi x) :
    Ag ol ob (fun l => res (la l)) (fun k => bid (ba k)) (fun k => itm (ba k)) (flM fib gra rf ro rs ru akf akg la ba ol) (fun k => pri (ba k)) (fRS res lst lo) (fBD bid bst bi) (fBD itm bst bi) (fFL fib gra rf ro rs ru akf akg lst lo bst bi ol) (fBD pri bst bi) := by
  refine ⟨fun l hl => by show res (la l) = res (LA lst lo l); rw [h1 l hl], fun k hk => ⟨by show bid _ = bid _; rw [h2 k hk], by show pri _ = pri _; rw [h2 k hk], by show itm _ = itm _; rw [h2 k hk], fun j hj => ?_⟩⟩
  have h3 := hi3 (ba k)
  have hj3 : j < 3 := Nat.lt_of_lt_of_le hj h3
  show mkm _ ol = mkm _ ol
  refine mkm_congr (fun l hl => ?_)
  rw [h1 l hl, show (k * 3 + j) / 3 = k by omega, h2 k hk]
theorem allp_best {lo bi ru ol ob : Nat} {fib gra res lst bst bid pri itm akf akg rf ro rs la ba : Nat → Nat} {v : Nat → Int} (hi3 : ∀ k, itm k ≤ 3) (hob : ob ≤ 8) (h : AllP lo bi ru ol ob fib gra res lst bst bid pri itm akf akg rf ro rs la ba v) (wo : Int) :
    BestIs lo bi ru ol ob fib gra res lst bst bid pri itm akf akg rf ro rs wo (bsM v (fun k => bid (ba k)) ob wo 256) ∧ v (bsM v (fun k => bid (ba k)) ob wo 256) = Sur lo bi ru ol ob fib gra res lst bst pri itm akf akg rf ro rs (bsM v (fun k => bid (ba k)) ob wo 256) := by
  obtain ⟨-, -, h1, h2, -, hF⟩ := h
  have hA := ag_of (bid := bid) (pri := pri) (res := res) (fib := fib) (gra := gra) (rf := rf) (ro := ro) (rs := rs) (ru := ru) (akf := akf) (akg := akg) hi3 h1 h2
  have hB := bsM_best wo hob hF
  refine ⟨hA.isb hB, ?_⟩
  have h256 : bsM v (fun k => bid (ba k)) ob wo 256 < 256 := Nat.lt_of_lt_of_le hB.1 (p2_256 hob)
  rw [((hF _ h256).1 ⟨hB.1, hB.2.1⟩)]
  exact hA.vs _
theorem allp_v {lo bi ru ol ob : Nat} {fib gra res lst bst bid pri itm akf akg rf ro rs la ba : Nat → Nat} {v : Nat → Int} (hi3 : ∀ k, itm k ≤ 3) (h : AllP lo bi ru ol ob fib gra res lst bst bid pri itm akf akg rf ro rs la ba v) {s : Nat} (hs : s < 256) (hsb : s < 2 ^ ob) :
    (PS ol (fBD bid bst bi) (fBD itm bst bi) (fFL fib gra rf ro rs ru akf akg lst lo bst bi ol) s ob → v s = Sur lo bi ru ol ob fib gra res lst bst pri itm akf akg rf ro rs s) ∧ (¬ PS ol (fBD bid bst bi) (fBD itm bst bi) (fFL fib gra rf ro rs ru akf akg lst lo bst bi ol) s ob → v s = -1000000) := by
  obtain ⟨-, -, h1, h2, -, hF⟩ := h
  have hA := ag_of (bid := bid) (pri := pri) (res := res) (fib := fib) (gra := gra) (rf := rf) (ro := ro) (rs := rs) (ru := ru) (akf := akf) (akg := akg) hi3 h1 h2
  exact ⟨fun q => by rw [(hF s hs).1 ⟨hsb, (hA.ps s).mpr q⟩]; exact hA.vs s, fun q => (hF s hs).2 (fun k => q ((hA.ps s).mp k.2))⟩
