def fpl (n : Nat) (f : Nat → va_W) : va_W := (List.range n).flatMap f
def fpo (n i : Nat) (f : Nat → va_W) : va_W := ((List.range n).erase i).flatMap f
theorem fpl_at {n i : Nat} (f : Nat → va_W) (h : i < n) : (fpl n f).Perm (f i ++ fpo n i f) := by
  have h1 := (List.perm_cons_erase (List.mem_range.mpr h)).flatMap_right f
  rw [List.flatMap_cons] at h1
  exact h1
theorem fpo_congr {n i : Nat} {f g : Nat → va_W} (h : ∀ j, j < n → j ≠ i → f j = g j) : fpo n i f = fpo n i g := by
  show (List.map f _).flatten = (List.map g _).flatten
  congr 1
  refine List.map_congr_left (fun j hj => ?_)
  rw [List.Nodup.mem_erase_iff List.nodup_range] at hj
  exact h j (List.mem_range.mp hj.2) hj.1
theorem fpl_congr {n : Nat} {f g : Nat → va_W} (h : ∀ j, j < n → f j = g j) : fpl n f = fpl n g := by
  show (List.map f _).flatten = (List.map g _).flatten
  congr 1
  exact List.map_congr_left (fun j hj => h j (List.mem_range.mp hj))
theorem fpl_succ (n : Nat) (f : Nat → va_W) : fpl (n + 1) f = fpl n f ++ f n := by
  unfold fpl
  rw [List.range_succ, List.flatMap_append]
  simp
theorem fpl_mem {n i : Nat} {f : Nat → va_W} (h : i < n) {x : Nat × va_E} (hx : x ∈ f i) : x ∈ fpl n f := List.mem_flatMap.mpr ⟨i, List.mem_range.mpr h, hx⟩
theorem pool_mem {n i : Nat} {f : Nat → Nat × va_E} (h : i < n) : f i ∈ pool n f := List.mem_map.mpr ⟨i, List.mem_range.mpr h, rfl⟩
/-- the block b lies in w; with b2 in its stead it is w2 -/
def Fc (w b b2 w2 : va_W) : Prop := ∃ r, w.Perm (b ++ r) ∧ (b2 ++ r).Perm w2
theorem Fc.rfl' {b b2 : va_W} : Fc b b b2 b2 := ⟨[], by rw [List.append_nil], by rw [List.append_nil]⟩
theorem Fc.left {w b b2 w2 : va_W} (Z : va_W) (h : Fc w b b2 w2) : Fc (w ++ Z) b b2 (w2 ++ Z) := by
  obtain ⟨r, h1, h2⟩ := h
  exact ⟨r ++ Z, by rw [← List.append_assoc]; exact h1.append_right Z, by rw [← List.append_assoc]; exact h2.append_right Z⟩
theorem Fc.app {w b b2 w2 : va_W} (A : va_W) (h : Fc w b b2 w2) : Fc (A ++ w) b b2 (A ++ w2) := by
  obtain ⟨r, h1, h2⟩ := h
  refine ⟨A ++ r, (h1.append_left A).trans ?_, List.Perm.trans ?_ (h2.append_left A)⟩
  · rw [← List.append_assoc, ← List.append_assoc]; exact List.perm_append_comm.append_right r
  · rw [← List.append_assoc, ← List.append_assoc]; exact List.perm_append_comm.append_right r
theorem Fc.pool {n i : Nat} {f g : Nat → Nat × va_E} (h : i < n) (hg : ∀ j, j < n → j ≠ i → f j = g j) : Fc (pool n f) [f i] [g i] (pool n g) := ⟨po n i f, pool_at f h, pool_up h hg⟩
theorem Fc.fpl {n i : Nat} {f g : Nat → va_W} {b b2 : va_W} (h : i < n) (hg : ∀ j, j < n → j ≠ i → f j = g j) (hb : Fc (f i) b b2 (g i)) : Fc (fpl n f) b b2 (fpl n g) := by
  obtain ⟨r, h1, h2⟩ := hb
  refine ⟨r ++ fpo n i f, ?_, ?_⟩
  · rw [← List.append_assoc]
    exact (fpl_at f h).trans (h1.append_right _)
  · rw [← List.append_assoc, fpo_congr hg]
    exact (h2.append_right _).trans (fpl_at g h).symm
theorem Fc.to {w b b2 w2 v : va_W} (h : Fc w b b2 w2) (hv : v.Perm w) : Fc v b b2 w2 := by
  obtain ⟨r, h1, h2⟩ := h
  exact ⟨r, hv.trans h1, h2⟩
theorem set_split {w : va_W} {x y : Nat × va_E} {q0 : Nat} (hq : w[q0]? = some x) : ∃ a b, w = a ++ x :: b ∧ w.set q0 y = a ++ y :: b := by
  induction w generalizing q0 with
  | nil => simp at hq
  | cons c w ih =>
    cases q0 with
    | zero =>
      rw [List.getElem?_cons_zero] at hq
      cases hq
      exact ⟨[], w, rfl, rfl⟩
    | succ q =>
      rw [List.getElem?_cons_succ] at hq
      obtain ⟨a, b, h1, h2⟩ := ih hq
      exact ⟨c :: a, b, congrArg (c :: ·) h1, congrArg (c :: ·) h2⟩
/-- a write in any order -/
theorem Fc.set {w w2 : va_W} {x y : Nat × va_E} {q0 : Nat} (h : Fc w [x] [y] w2) (hq : w[q0]? = some x) : (w.set q0 y).Perm w2 := by
  obtain ⟨r, h1, h2⟩ := h
  obtain ⟨a, b, h3, h4⟩ := set_split (y := y) hq
  rw [h3] at h1
  have h5 : (a ++ b).Perm r := (List.perm_middle.symm.trans h1).cons_inv
  rw [h4]
  exact List.perm_middle.trans ((h5.cons y).trans h2)
theorem Fc.mem {w w2 b2 : va_W} {x : Nat × va_E} (h : Fc w [x] b2 w2) : x ∈ w := by
  obtain ⟨r, h1, -⟩ := h
  exact h1.mem_iff.mpr List.mem_cons_self
/-- the cells of the market -/
def mkC (z f h : Nat → Nat) (ol ob sc wc : Nat) (tk : Int) : Nat × va_E := (z 0, .inr (9, [.ref (z 1), .ref (z 2), .ref (z 3), .ref (f 0), .ref (h 0), .int (nI ol), .int (nI ob), .int (nI sc), .int (nI wc), .long (lZ tk)]))
def lotC (la fib gra res lst : Nat → Nat) (byr : Nat → Int) (i : Nat) : Nat × va_E := (la i, .inr (6, [.int (nI (fib i)), .int (nI (gra i)), .int (nI (res i)), .int (nI (lst i)), .int (zI (byr i))]))
def rulC (ra rf ro rs : Nat → Nat) (i : Nat) : Nat × va_E := (ra i, .inr (7, [.int (nI (rf i)), .int (nI (ro i)), .int (nI (rs i))]))
def bidC (ba bid wo pri bst rea : Nat → Nat) (rvl pad : Nat → Int) (b : Nat) : Nat × va_E := (ba b, .inr (3, [.int (nI (bid b)), .ref (wo b), .int (nI (pri b)), .int (nI (bst b)), .int (nI (rea b)), .int (zI (rvl b)), .int (zI (pad b))]))
def itmC (ia akf akg : Nat → Nat) (gt : Nat → Int) (q : Nat) : Nat × va_E := (ia q, .inr (5, [.int (nI (akf q)), .int (nI (akg q)), .int (zI (gt q))]))
/-- a bid with its list of wishes and their cells -/
def wlW (G : Gt) (wo we wk wm itm ia : Nat → Nat) (b : Nat) : va_W := lsW G (wo b) (we b) (wk b) (wm b) (itm b) (fun j => ia (3 * b + j))
def bidG (G : Gt) (ba bid wo pri bst rea : Nat → Nat) (rvl pad : Nat → Int) (we wk wm itm ia akf akg : Nat → Nat) (gt : Nat → Int) (b : Nat) : va_W := [bidC ba bid wo pri bst rea rvl pad b] ++ (wlW G wo we wk wm itm ia b ++ pool (itm b) (fun j => itmC ia akf akg gt (3 * b + j)))
def CW (G : Gt) (z f h : Nat → Nat) (ol ob sc wc : Nat) (tk : Int) (e0 k0 m0 e1 k1 m1 e2 k2 m2 lo bi ru : Nat) (la fib gra res lst : Nat → Nat) (byr : Nat → Int) (ra rf ro rs : Nat → Nat) (ba bid wo pri bst rea : Nat → Nat) (rvl pad : Nat → Int) (we wk wm itm ia akf akg : Nat → Nat) (gt : Nat → Int) (Y : va_W) : va_W := [mkC z f h ol ob sc wc tk] ++ (lsW G (z 1) e0 k0 m0 lo la ++ (lsW G (z 2) e1 k1 m1 bi ba ++ (lsW G (z 3) e2 k2 m2 ru ra ++ (pool lo (lotC la fib gra res lst byr) ++ (pool ru (rulC ra rf ro rs) ++ (fpl bi (bidG G ba bid wo pri bst rea rvl pad we wk wm itm ia akf akg gt) ++ Y))))))
section XCW
variable {G : Gt} {z f h : Nat → Nat} {ol ob sc wc : Nat} {tk : Int} {e0 k0 m0 e1 k1 m1 e2 k2 m2 lo bi ru : Nat} {la fib gra res lst : Nat → Nat} {byr : Nat → Int} {ra rf ro rs : Nat → Nat} {ba bid wo pri bst rea : Nat → Nat} {rvl pad : Nat → Int} {we wk wm itm ia akf akg : Nat → Nat} {gt : Nat → Int} {Y w : va_W}
theorem cw_mk (hc : w.Perm (CW G z f h ol ob sc wc tk e0 k0 m0 e1 k1 m1 e2 k2 m2 lo bi ru la fib gra res lst byr ra rf ro rs ba bid wo pri bst rea rvl pad we wk wm itm ia akf akg gt Y)) : mkC z f h ol ob sc wc tk ∈ w := hc.mem_iff.mpr (List.mem_append_left _ List.mem_cons_self)
theorem cw_lot (hc : w.Perm (CW G z f h ol ob sc wc tk e0 k0 m0 e1 k1 m1 e2 k2 m2 lo bi ru la fib gra res lst byr ra rf ro rs ba bid wo pri bst rea rvl pad we wk wm itm ia akf akg gt Y)) {i : Nat} (hi : i < lo) : lotC la fib gra res lst byr i ∈ w := hc.mem_iff.mpr (List.mem_append_right _ (List.mem_append_right _ (List.mem_append_right _ (List.mem_append_right _ (List.mem_append_left _ (pool_mem hi))))))
theorem cw_rul (hc : w.Perm (CW G z f h ol ob sc wc tk e0 k0 m0 e1 k1 m1 e2 k2 m2 lo bi ru la fib gra res lst byr ra rf ro rs ba bid wo pri bst rea rvl pad we wk wm itm ia akf akg gt Y)) {i : Nat} (hi : i < ru) : rulC ra rf ro rs i ∈ w := hc.mem_iff.mpr (List.mem_append_right _ (List.mem_append_right _ (List.mem_append_right _ (List.mem_append_right _ (List.mem_append_right _ (List.mem_append_left _ (pool_mem hi)))))))
theorem cw_bid (hc : w.Perm (CW G z f h ol ob sc wc tk e0 k0 m0 e1 k1 m1 e2 k2 m2 lo bi ru la fib gra res lst byr ra rf ro rs ba bid wo pri bst rea rvl pad we wk wm itm ia akf akg gt Y)) {b : Nat} (hb : b < bi) : bidC ba bid wo pri bst rea rvl pad b ∈ w := hc.mem_iff.mpr (List.mem_append_right _ (List.mem_append_right _ (List.mem_append_right _ (List.mem_append_right _ (List.mem_append_right _ (List.mem_append_right _ (List.mem_append_left _ (fpl_mem hb (List.mem_append_left _ List.mem_cons_self)))))))))
theorem cw_itm (hc : w.Perm (CW G z f h ol ob sc wc tk e0 k0 m0 e1 k1 m1 e2 k2 m2 lo bi ru la fib gra res lst byr ra rf ro rs ba bid wo pri bst rea rvl pad we wk wm itm ia akf akg gt Y)) {b j : Nat} (hb : b < bi) (hj : j < itm b) : itmC ia akf akg gt (3 * b + j) ∈ w := hc.mem_iff.mpr (List.mem_append_right _ (List.mem_append_right _ (List.mem_append_right _ (List.mem_append_right _ (List.mem_append_right _ (List.mem_append_right _ (List.mem_append_left _ (fpl_mem hb (List.mem_append_right _ (List.mem_append_right _ (pool_mem (f := fun j => itmC ia akf akg gt (3 * b + j)) hj)))))))))))
theorem cw_l0 (hc : w.Perm (CW G z f h ol ob sc wc tk e0 k0 m0 e1 k1 m1 e2 k2 m2 lo bi ru la fib gra res lst byr ra rf ro rs ba bid wo pri bst rea rvl pad we wk wm itm ia akf akg gt Y)) : ∃ r, w.Perm (lsW G (z 1) e0 k0 m0 lo la ++ r) := by
  obtain ⟨r, h1, -⟩ := ((Fc.app _ (Fc.left _ Fc.rfl')) : Fc (CW G z f h ol ob sc wc tk e0 k0 m0 e1 k1 m1 e2 k2 m2 lo bi ru la fib gra res lst byr ra rf ro rs ba bid wo pri bst rea rvl pad we wk wm itm ia akf akg gt Y) (lsW G (z 1) e0 k0 m0 lo la) [] _)
  exact ⟨r, hc.trans h1⟩
theorem cw_l1 (hc : w.Perm (CW G z f h ol ob sc wc tk e0 k0 m0 e1 k1 m1 e2 k2 m2 lo bi ru la fib gra res lst byr ra rf ro rs ba bid wo pri bst rea rvl pad we wk wm itm ia akf akg gt Y)) : ∃ r, w.Perm (lsW G (z 2) e1 k1 m1 bi ba ++ r) := by
  obtain ⟨r, h1, -⟩ := ((Fc.app _ (Fc.app _ (Fc.left _ Fc.rfl'))) : Fc (CW G z f h ol ob sc wc tk e0 k0 m0 e1 k1 m1 e2 k2 m2 lo bi ru la fib gra res lst byr ra rf ro rs ba bid wo pri bst rea rvl pad we wk wm itm ia akf akg gt Y) (lsW G (z 2) e1 k1 m1 bi ba) [] _)
  exact ⟨r, hc.trans h1⟩
theorem cw_l2 (hc : w.Perm (CW G z f h ol ob sc wc tk e0 k0 m0 e1 k1 m1 e2 k2 m2 lo bi ru la fib gra res lst byr ra rf ro rs ba bid wo pri bst rea rvl pad we wk wm itm ia akf akg gt Y)) : ∃ r, w.Perm (lsW G (z 3) e2 k2 m2 ru ra ++ r) := by
  obtain ⟨r, h1, -⟩ := ((Fc.app _ (Fc.app _ (Fc.app _ (Fc.left _ Fc.rfl')))) : Fc (CW G z f h ol ob sc wc tk e0 k0 m0 e1 k1 m1 e2 k2 m2 lo bi ru la fib gra res lst byr ra rf ro rs ba bid wo pri bst rea rvl pad we wk wm itm ia akf akg gt Y) (lsW G (z 3) e2 k2 m2 ru ra) [] _)
  exact ⟨r, hc.trans h1⟩
theorem cw_wl (hc : w.Perm (CW G z f h ol ob sc wc tk e0 k0 m0 e1 k1 m1 e2 k2 m2 lo bi ru la fib gra res lst byr ra rf ro rs ba bid wo pri bst rea rvl pad we wk wm itm ia akf akg gt Y)) {b : Nat} (hb : b < bi) : ∃ r, w.Perm (wlW G wo we wk wm itm ia b ++ r) := by
  obtain ⟨r, h1, -⟩ := ((Fc.app _ (Fc.app _ (Fc.app _ (Fc.app _ (Fc.app _ (Fc.app _ (Fc.left _ (Fc.fpl (g := bidG G ba bid wo pri bst rea rvl pad we wk wm itm ia akf akg gt) hb (fun _ _ _ => rfl) (Fc.app _ (Fc.left _ Fc.rfl')))))))))) : Fc (CW G z f h ol ob sc wc tk e0 k0 m0 e1 k1 m1 e2 k2 m2 lo bi ru la fib gra res lst byr ra rf ro rs ba bid wo pri bst rea rvl pad we wk wm itm ia akf akg gt Y) (wlW G wo we wk wm itm ia b) (wlW G wo we wk wm itm ia b) _)
  exact ⟨r, hc.trans h1⟩
theorem cw_mkU (hc : w.Perm (CW G z f h ol ob sc wc tk e0 k0 m0 e1 k1 m1 e2 k2 m2 lo bi ru la fib gra res lst byr ra rf ro rs ba bid wo pri bst rea rvl pad we wk wm itm ia akf akg gt Y)) (ol2 ob2 sc2 wc2 : Nat) (tk2 : Int) : Fc w [mkC z f h ol ob sc wc tk] [mkC z f h ol2 ob2 sc2 wc2 tk2] (CW G z f h ol2 ob2 sc2 wc2 tk2 e0 k0 m0 e1 k1 m1 e2 k2 m2 lo bi ru la fib gra res lst byr ra rf ro rs ba bid wo pri bst rea rvl pad we wk wm itm ia akf akg gt Y) := Fc.to (Fc.left _ Fc.rfl') hc
theorem cw_lotU (hc : w.Perm (CW G z f h ol ob sc wc tk e0 k0 m0 e1 k1 m1 e2 k2 m2 lo bi ru la fib gra res lst byr ra rf ro rs ba bid wo pri bst rea rvl pad we wk wm itm ia akf akg gt Y)) {i : Nat} (hi : i < lo) (v : Nat) (u : Int) : Fc w [lotC la fib gra res lst byr i] [lotC la fib gra res (va_up lst i v) (va_up byr i u) i] (CW G z f h ol ob sc wc tk e0 k0 m0 e1 k1 m1 e2 k2 m2 lo bi ru la fib gra res (va_up lst i v) (va_up byr i u) ra rf ro rs ba bid wo pri bst rea rvl pad we wk wm itm ia akf akg gt Y) :=
  Fc.to (Fc.app _ (Fc.app _ (Fc.app _ (Fc.app _ (Fc.left _ (Fc.pool hi (fun j _ hj => by simp only [lotC, va_up_ne _ _ hj]))))))) hc
theorem cw_bidU (hc : w.Perm (CW G z f h ol ob sc wc tk e0 k0 m0 e1 k1 m1 e2 k2 m2 lo bi ru la fib gra res lst byr ra rf ro rs ba bid wo pri bst rea rvl pad we wk wm itm ia akf akg gt Y)) {b : Nat} (hb : b < bi) (p2 b2 r2 : Nat) (v2 d2 : Int) : Fc w [bidC ba bid wo pri bst rea rvl pad b] [bidC ba bid wo (va_up pri b p2) (va_up bst b b2) (va_up rea b r2) (va_up rvl b v2) (va_up pad b d2) b] (CW G z f h ol ob sc wc tk e0 k0 m0 e1 k1 m1 e2 k2 m2 lo bi ru la fib gra res lst byr ra rf ro rs ba bid wo (va_up pri b p2) (va_up bst b b2) (va_up rea b r2) (va_up rvl b v2) (va_up pad b d2) we wk wm itm ia akf akg gt Y) :=
  Fc.to (Fc.app _ (Fc.app _ (Fc.app _ (Fc.app _ (Fc.app _ (Fc.app _ (Fc.left _ (Fc.fpl hb (fun j _ hj => by simp only [bidG, bidC, va_up_ne _ _ hj]) (Fc.left _ Fc.rfl'))))))))) hc
theorem cw_itmU (hc : w.Perm (CW G z f h ol ob sc wc tk e0 k0 m0 e1 k1 m1 e2 k2 m2 lo bi ru la fib gra res lst byr ra rf ro rs ba bid wo pri bst rea rvl pad we wk wm itm ia akf akg gt Y)) {b j : Nat} (hb : b < bi) (hj : j < itm b) (hi3 : ∀ k, itm k ≤ 3) (v : Int) : Fc w [itmC ia akf akg gt (3 * b + j)] [itmC ia akf akg (va_up gt (3 * b + j) v) (3 * b + j)] (CW G z f h ol ob sc wc tk e0 k0 m0 e1 k1 m1 e2 k2 m2 lo bi ru la fib gra res lst byr ra rf ro rs ba bid wo pri bst rea rvl pad we wk wm itm ia akf akg (va_up gt (3 * b + j) v) Y) :=
  Fc.to (Fc.app _ (Fc.app _ (Fc.app _ (Fc.app _ (Fc.app _ (Fc.app _ (Fc.left _ (Fc.fpl hb (fun j2 _ h2 => by unfold bidG; rw [pool_congr (f := fun k => itmC ia akf akg gt (3 * j2 + k)) (g := fun k => itmC ia akf akg (va_up gt (3 * b + j) v) (3 * j2 + k)) (fun k hk => by have := hi3 j2; have := hi3 b; simp only [itmC]; rw [va_up_ne _ _ (show 3 * j2 + k ≠ 3 * b + j by omega)])]) (Fc.app _ (Fc.app _ (Fc.pool (f := fun k => itmC ia akf akg gt (3 * b + k)) (g := fun k => itmC ia akf akg (va_up gt (3 * b + j) v) (3 * b + k)) hj (fun k _ hk => by simp only [itmC]; rw [va_up_ne _ _ (show 3 * b + k ≠ 3 * b + j by omega)])))))))))))) hc
theorem cw_out (F : va_W) : (CW G z f h ol ob sc wc tk e0 k0 m0 e1 k1 m1 e2 k2 m2 lo bi ru la fib gra res lst byr ra rf ro rs ba bid wo pri bst rea rvl pad we wk wm itm ia akf akg gt (F ++ Y)).Perm (F ++ CW G z f h ol ob sc wc tk e0 k0 m0 e1 k1 m1 e2 k2 m2 lo bi ru la fib gra res lst byr ra rf ro rs ba bid wo pri bst rea rvl pad we wk wm itm ia akf akg gt Y) := by
  unfold CW
  have sw : ∀ (A Z Z2 : va_W), Z.Perm (F ++ Z2) → (A ++ Z).Perm (F ++ (A ++ Z2)) := fun A Z Z2 h => by
    refine (h.append_left A).trans ?_
    rw [← List.append_assoc, ← List.append_assoc]
    exact List.perm_append_comm.append_right Z2
  exact sw _ _ _ (sw _ _ _ (sw _ _ _ (sw _ _ _ (sw _ _ _ (sw _ _ _ (sw _ _ _ (List.Perm.refl _)))))))
theorem cw_out2 (F S : va_W) : (CW G z f h ol ob sc wc tk e0 k0 m0 e1 k1 m1 e2 k2 m2 lo bi ru la fib gra res lst byr ra rf ro rs ba bid wo pri bst rea rvl pad we wk wm itm ia akf akg gt (F ++ (S ++ Y))).Perm (F ++ (S ++ CW G z f h ol ob sc wc tk e0 k0 m0 e1 k1 m1 e2 k2 m2 lo bi ru la fib gra res lst byr ra rf ro rs ba bid wo pri bst rea rvl pad we wk wm itm ia akf akg gt Y)) := (cw_out F).trans ((cw_out S).append_left F)
theorem cw_Y {Y2 : va_W} (hY : Y.Perm Y2) : (CW G z f h ol ob sc wc tk e0 k0 m0 e1 k1 m1 e2 k2 m2 lo bi ru la fib gra res lst byr ra rf ro rs ba bid wo pri bst rea rvl pad we wk wm itm ia akf akg gt Y).Perm (CW G z f h ol ob sc wc tk e0 k0 m0 e1 k1 m1 e2 k2 m2 lo bi ru la fib gra res lst byr ra rf ro rs ba bid wo pri bst rea rvl pad we wk wm itm ia akf akg gt Y2) := by
  unfold CW
  exact ((((((hY.append_left _).append_left _).append_left _).append_left _).append_left _).append_left _).append_left _
end XCW
/-- the market, its lists' rooms and all addresses but the first six hidden -/
def CR (G : Gt) (z f h : Nat → Nat) (ol ob sc wc : Nat) (tk : Int) (lo bi ru : Nat) (fib gra res lst : Nat → Nat) (byr : Nat → Int) (rf ro rs bid pri bst rea : Nat → Nat) (rvl pad : Nat → Int) (itm akf akg : Nat → Nat) (gt : Nat → Int) (Y w : va_W) : Prop := ∃ (e0 k0 m0 e1 k1 m1 e2 k2 m2 : Nat) (la ra ba wo we wk wm ia : Nat → Nat), LsOK G e0 k0 lo ∧ LsOK G e1 k1 bi ∧ LsOK G e2 k2 ru ∧ (∀ b, b < bi → LsOK G (we b) (wk b) (itm b)) ∧ w.Perm (CW G z f h ol ob sc wc tk e0 k0 m0 e1 k1 m1 e2 k2 m2 lo bi ru la fib gra res lst byr ra rf ro rs ba bid wo pri bst rea rvl pad we wk wm itm ia akf akg gt Y)
