theorem and_pow (n j : Nat) : n &&& 2 ^ j = 0 ↔ n.testBit j = false := by
  constructor
  · intro h
    have h1 : (n &&& 2 ^ j).testBit j = false := by rw [h]; exact Nat.zero_testBit j
    rw [Nat.testBit_and, Nat.testBit_two_pow_self, Bool.and_true] at h1
    exact h1
  · intro h
    apply Nat.eq_of_testBit_eq
    intro i
    rw [Nat.testBit_and, Nat.zero_testBit]
    by_cases hi : j = i
    · subst hi; rw [h]; rfl
    · rw [Nat.testBit_two_pow_of_ne hi, Bool.and_false]
theorem bit_t {n j : Nat} (h : ¬ n &&& 2 ^ j = 0) : n.testBit j = true := by
  cases q : n.testBit j with
  | false => exact absurd ((and_pow _ _).mpr q) h
  | true => rfl
theorem bit_f {n j : Nat} (h : n &&& 2 ^ j = 0) : n.testBit j = false := (and_pow _ _).mp h
theorem p2_le {k : Nat} (h : k < 8) : 2 ^ k ≤ 128 := by
  have : 2 ^ k ≤ 2 ^ 7 := Nat.pow_le_pow_right (by decide) (by omega)
  exact this
theorem and_lt {a b n : Nat} (h : a < n) : a &&& b < n := Nat.lt_of_le_of_lt Nat.and_le_left h
theorem or_lt {a b : Nat} (ha : a < 256) (hb : b < 256) : a ||| b < 256 := Nat.or_lt_two_pow (n := 8) ha hb
/-- the sum of g over the places below n that are in p -/
def bsum (p : Nat → Bool) (g : Nat → Nat) (n : Nat) : Nat := match n with
  | 0 => 0
  | n + 1 => bsum p g n + (if p n = true then g n else 0)
theorem bsum_le {p : Nat → Bool} {g : Nat → Nat} {c : Nat} (n : Nat) (h : ∀ k, g k ≤ c) : bsum p g n ≤ n * c := by
  induction n with
  | zero => simp [bsum]
  | succ n ih =>
    have h2 := h n
    rw [bsum, Nat.succ_mul]
    split <;> omega
theorem bsum_f {p : Nat → Bool} {g : Nat → Nat} {n : Nat} (h : p n = false) : bsum p g (n + 1) = bsum p g n := by rw [bsum, if_neg (by rw [h]; decide), Nat.add_zero]
theorem bsum_t {p : Nat → Bool} {g : Nat → Nat} {n : Nat} (h : p n = true) : bsum p g (n + 1) = bsum p g n + g n := by rw [bsum, if_pos h]
/-- the first place below n with P, or n -/
def fst1 (P : Nat → Bool) (n : Nat) : Nat := match n with
  | 0 => 0
  | n + 1 => if fst1 P n < n then fst1 P n else if P n = true then n else n + 1
theorem fst1_no {P : Nat → Bool} {n : Nat} (h : ∀ k, k < n → P k = false) : fst1 P n = n := by
  induction n with
  | zero => rfl
  | succ n ih => rw [fst1, ih (fun k hk => h k (by omega)), if_neg (Nat.lt_irrefl n), if_neg (by rw [h n (by omega)]; decide)]
theorem fst1_at {P : Nat → Bool} {n k : Nat} (hk : k < n) (h : ∀ j, j < k → P j = false) (hP : P k = true) : fst1 P n = k := by
  induction n with
  | zero => omega
  | succ n ih =>
    rw [fst1]
    by_cases q : k = n
    · subst q
      rw [fst1_no h, if_neg (Nat.lt_irrefl k), if_pos hP]
    · rw [ih (by omega), if_pos (by omega)]
theorem fst1_le (P : Nat → Bool) (n : Nat) : fst1 P n ≤ n := by
  induction n with
  | zero => exact Nat.le_refl 0
  | succ n ih => rw [fst1]; split <;> (try split) <;> omega
/-- a place as the class says it: minus one where there is none -/
def orNo (b : Bool) (x : Nat) : Int := if b = true then (x : Int) else -1
/-- the set of bidders of the bids below n that are in p; whether no two of them have one bidder -/
def sn (p : Nat → Bool) (bd : Nat → Nat) (n : Nat) : Nat := match n with
  | 0 => 0
  | n + 1 => if p n = true then sn p bd n ||| 2 ^ bd n else sn p bd n
def okB (p : Nat → Bool) (bd : Nat → Nat) (n : Nat) : Bool := match n with
  | 0 => true
  | n + 1 => okB p bd n && !(p n && (sn p bd n).testBit (bd n))
theorem sn_lt {p : Nat → Bool} {bd : Nat → Nat} (h : ∀ k, bd k < 8) (n : Nat) : sn p bd n < 256 := by
  induction n with
  | zero => exact Nat.zero_lt_succ _
  | succ n ih =>
    rw [sn]
    split
    · exact or_lt ih (by have := p2_le (h n); omega)
    · exact ih
/-- a conflict stays one -/
theorem okB_no {p : Nat → Bool} {bd : Nat → Nat} {k n : Nat} (h : okB p bd k = false) (hk : k ≤ n) : okB p bd n = false := by
  induction n with
  | zero => rw [show k = 0 by omega] at h; exact h
  | succ n ih =>
    by_cases q : k = n + 1
    · subst q; exact h
    · rw [okB, ih (by omega)]; rfl
/-- the counts of items fit, one after the other -/
def okQ (p : Nat → Bool) (ic : Nat → Nat) (lc : Nat) (n : Nat) : Bool := match n with
  | 0 => true
  | n + 1 => okQ p ic lc n && (!p n || (decide (ic n ≠ 0) && decide (bsum p ic n + ic n ≤ lc)))
theorem okQ_no {p : Nat → Bool} {ic : Nat → Nat} {lc k n : Nat} (h : okQ p ic lc k = false) (hk : k ≤ n) : okQ p ic lc n = false := by
  induction n with
  | zero => rw [show k = 0 by omega] at h; exact h
  | succ n ih =>
    by_cases q : k = n + 1
    · subst q; exact h
    · rw [okQ, ih (by omega)]; rfl
set_option maxRecDepth 100000 in
set_option maxHeartbeats 4000000 in
theorem c_X1_priceSum (l : Launch) (G : Gt) (f : Nat → Nat) (lc bc ql : Nat) (ln rs rm bn bd pr ic fl qu rc : Nat → Nat) (gp : Nat → Int) (Y : va_W) (set : Nat) (hset : set < 256) (hbc : bc ≤ 8) (hpr : ∀ k, pr k ≤ 9999) : Ci l G yX1_priceSum (ww yX1_priceSum cX1_priceSum 4 (some FieldType.int)) (RM 0 0 0) [.ref (f 0), .int (nI set)] (fW G f lc bc ql ln rs rm bn bd pr ic fl qu rc gp ++ Y) (fun r w2 => r = nI (bsum set.testBit pr bc) ∧ w2 = (fW G f lc bc ql ln rs rm bn bd pr ic fl qu rc gp ++ Y)) := by
  refine Ci.intro (by decide) (Nat.le_of_ble_eq_true rfl) ?_
  intro p e s m args below meth c A X hW ls hl
  have hx := X.exec
  have hb := X.bytes
  have hl : lv_has ls 4 [(0, .ref (f 0)), (1, .int (nI set))] := hl
  have loop : ∀ (n : Nat) (k : Nat), bc + 1 ≤ k + n → k ≤ bc → ∀ (H : Heap) (locs : List Loc) (ls : Array Slot), Wd G A s (fW G f lc bc ql ln rs rm bn bd pr ic fl qu rc gp ++ Y) H locs → lv_has ls 4 [(0, .ref (f 0)), (1, .int (nI set)), (2, .int (nI (bsum set.testBit pr k))), (3, .int (nI k))] → W p l e (RM 0 0 0) s m args below meth c H locs 0 0 (MQ below (Qi G A (fun r w2 => r = nI (bsum set.testBit pr bc) ∧ w2 = (fW G f lc bc ql ln rs rm bn bd pr ic fl qu rc gp ++ Y))) args s (RM 0 0 0).cells (RM 0 0 0).slots A) (F0 m 4 ls []) := by
    intro n
    induction n with
    | zero => intro k h1 h2; exact absurd h1 (by omega)
    | succ n ih =>
      intro k h1 h2 H locs ls hW hl
      have hs := bsum_le (p := set.testBit) k hpr
      have hpk := hpr k
      have hp2 := fun (h : k < 8) => p2_le h
      refine lv_iload_n hx hb dX1_priceSum_4 rfl (lv_at hl 3 rfl) ?_
      refine lv_aload_n hx hb dX1_priceSum_5 rfl (lv_at hl 0 rfl) ?_
      refine x_get X hW 0 rfl 12 rfl rfl iwX1 (by decide) wq_151 rfl dX1_priceSum_6 ?_
      refine n_icmp_ge hx hb rfl rfl (by omega) (by omega) (tgt := 35) dX1_priceSum_9 (by decide) (fun c_9 => ?_) (fun c_9 => ?_)
      · refine lv_iload_n hx hb dX1_priceSum_35 rfl (lv_at hl 2 rfl) ?_
        exact ret_i X hW (v := (nI (bsum set.testBit pr k))) (⟨by rw [show k = bc by omega], rfl⟩) rfl (by decide) (by decide) dX1_priceSum_36
      · refine lv_iload_n hx hb dX1_priceSum_12 rfl (lv_at hl 1 rfl) ?_
        refine lv_iconst (v := nI 1) hx hb dX1_priceSum_13 (by decide) ?_
        refine lv_iload_n hx hb dX1_priceSum_14 rfl (lv_at hl 3 rfl) ?_
        refine n_ishl1 hx hb (by omega) dX1_priceSum_15 ?_
        refine n_iand hx hb dX1_priceSum_16 ?_
        refine n_if_eq hx hb rfl (by have := @and_lt set (2 ^ k) 256 hset; omega) (tgt := 29) dX1_priceSum_17 (by decide) (fun c_17 => ?_) (fun c_17 => ?_)
        · refine lv_iinc (v := (nI (k + 1))) (lv' := [(3, .int (nI (k + 1))), (0, .ref (f 0)), (1, .int (nI set)), (2, .int (nI (bsum set.testBit pr k)))]) hx hb dX1_priceSum_29 hl (k := 3) rfl (nI_add _ _) (by decide) rfl (fun ls hl => ?_)
          refine lv_goto (tgt := 4) hx hb dX1_priceSum_32 (by decide) ?_
          exact ih (k + 1) (by omega) (by omega) _ _ _ hW (by rw [show bsum set.testBit pr (k + 1) = (bsum set.testBit pr k) from bsum_f (bit_f c_17)]; exact lv_sub hl [1, 2, 3, 0] rfl)
        · refine lv_iload_n hx hb dX1_priceSum_20 rfl (lv_at hl 2 rfl) ?_
          refine lv_aload_n hx hb dX1_priceSum_21 rfl (lv_at hl 0 rfl) ?_
          refine x_get X hW 0 rfl 5 rfl rfl iwX1 (by decide) wq_139 rfl dX1_priceSum_22 ?_
          refine lv_iload_n hx hb dX1_priceSum_25 rfl (lv_at hl 3 rfl) ?_
          refine n_iald X hW (n := 8) (f := pr) 6 rfl (by omega) (by decide) dX1_priceSum_26 ?_
          refine n_iadd hx hb dX1_priceSum_27 ?_
          refine lv_istore_n (lv' := [(2, .int (nI ((bsum set.testBit pr k) + (pr k)))), (0, .ref (f 0)), (1, .int (nI set)), (3, .int (nI k))]) hx hb dX1_priceSum_28 rfl hl (by decide) rfl (fun ls hl => ?_)
          refine lv_iinc (v := (nI (k + 1))) (lv' := [(3, .int (nI (k + 1))), (2, .int (nI ((bsum set.testBit pr k) + (pr k)))), (0, .ref (f 0)), (1, .int (nI set))]) hx hb dX1_priceSum_29 hl (k := 3) rfl (nI_add _ _) (by decide) rfl (fun ls hl => ?_)
          refine lv_goto (tgt := 4) hx hb dX1_priceSum_32 (by decide) ?_
          exact ih (k + 1) (by omega) (by omega) _ _ _ hW (by rw [show bsum set.testBit pr (k + 1) = ((bsum set.testBit pr k) + (pr k)) from bsum_t (bit_t c_17)]; exact lv_sub hl [2, 3, 1, 0] rfl)
  refine lv_iconst (v := nI 0) hx hb dX1_priceSum_0 (by decide) ?_
  refine lv_istore_n (lv' := [(2, .int (nI 0)), (0, .ref (f 0)), (1, .int (nI set))]) hx hb dX1_priceSum_1 rfl hl (by decide) rfl (fun ls hl => ?_)
  refine lv_iconst (v := nI 0) hx hb dX1_priceSum_2 (by decide) ?_
  refine lv_istore_n (lv' := [(3, .int (nI 0)), (2, .int (nI 0)), (0, .ref (f 0)), (1, .int (nI set))]) hx hb dX1_priceSum_3 rfl hl (by decide) rfl (fun ls hl => ?_)
  exact loop (bc + 1) 0 (by omega) (by omega) _ _ _ hW (lv_sub hl [2, 3, 1, 0] rfl)

set_option maxRecDepth 100000 in
set_option maxHeartbeats 4000000 in
theorem c_X1_placeOf (l : Launch) (G : Gt) (f : Nat → Nat) (lc bc ql : Nat) (ln rs rm bn bd pr ic fl qu rc : Nat → Nat) (gp : Nat → Int) (Y : va_W) (no : Nat) (hno : no < 2 ^ 31) (hbc : bc ≤ 8) (hbn : ∀ k, bn k < 2 ^ 31) : Ci l G yX1_placeOf (ww yX1_placeOf cX1_placeOf 3 (some FieldType.int)) (RM 0 0 0) [.ref (f 0), .int (nI no)] (fW G f lc bc ql ln rs rm bn bd pr ic fl qu rc gp ++ Y) (fun r w2 => r = zI (orNo (decide (fst1 (fun k => decide (bn k = no)) bc < bc)) (fst1 (fun k => decide (bn k = no)) bc)) ∧ w2 = (fW G f lc bc ql ln rs rm bn bd pr ic fl qu rc gp ++ Y)) := by
  refine Ci.intro (by decide) (Nat.le_of_ble_eq_true rfl) ?_
  intro p e s m args below meth c A X hW ls hl
  have hx := X.exec
  have hb := X.bytes
  have hl : lv_has ls 3 [(0, .ref (f 0)), (1, .int (nI no))] := hl
  have loop : ∀ (n : Nat) (k : Nat), bc + 1 ≤ k + n → k ≤ bc → (∀ j, j < k → ¬ bn j = no) → ∀ (H : Heap) (locs : List Loc) (ls : Array Slot), Wd G A s (fW G f lc bc ql ln rs rm bn bd pr ic fl qu rc gp ++ Y) H locs → lv_has ls 3 [(0, .ref (f 0)), (1, .int (nI no)), (2, .int (nI k))] → W p l e (RM 0 0 0) s m args below meth c H locs 0 0 (MQ below (Qi G A (fun r w2 => r = zI (orNo (decide (fst1 (fun k => decide (bn k = no)) bc < bc)) (fst1 (fun k => decide (bn k = no)) bc)) ∧ w2 = (fW G f lc bc ql ln rs rm bn bd pr ic fl qu rc gp ++ Y))) args s (RM 0 0 0).cells (RM 0 0 0).slots A) (F0 m 2 ls []) := by
    intro n
    induction n with
    | zero => intro k h1 h2 h3; exact absurd h1 (by omega)
    | succ n ih =>
      intro k h1 h2 h3 H locs ls hW hl
      refine lv_iload_n hx hb dX1_placeOf_2 rfl (lv_at hl 2 rfl) ?_
      refine lv_aload_n hx hb dX1_placeOf_3 rfl (lv_at hl 0 rfl) ?_
      refine x_get X hW 0 rfl 12 rfl rfl iwX1 (by decide) wq_151 rfl dX1_placeOf_4 ?_
      refine n_icmp_ge hx hb rfl rfl (by omega) (by omega) (tgt := 28) dX1_placeOf_7 (by decide) (fun c_7 => ?_) (fun c_7 => ?_)
      · refine lv_iconst (v := zI (-1)) hx hb dX1_placeOf_28 (by decide) ?_
        exact ret_i X hW (v := (zI (-1))) (⟨by rw [fst1_no (fun j hj => by simpa using h3 j (by omega)), decide_eq_false (by omega)]; rfl, rfl⟩) rfl (by decide) (by decide) dX1_placeOf_29
      · refine lv_aload_n hx hb dX1_placeOf_10 rfl (lv_at hl 0 rfl) ?_
        refine x_get X hW 0 rfl 3 rfl rfl iwX1 (by decide) wq_135 rfl dX1_placeOf_11 ?_
        refine lv_iload_n hx hb dX1_placeOf_14 rfl (lv_at hl 2 rfl) ?_
        refine n_iald X hW (n := 8) (f := bn) 4 rfl (by omega) (by decide) dX1_placeOf_15 ?_
        refine lv_iload_n hx hb dX1_placeOf_16 rfl (lv_at hl 1 rfl) ?_
        refine n_icmp_ne hx hb rfl rfl (hbn k) hno (tgt := 22) dX1_placeOf_17 (by decide) (fun c_17 => ?_) (fun c_17 => ?_)
        · refine lv_iinc (v := (nI (k + 1))) (lv' := [(2, .int (nI (k + 1))), (0, .ref (f 0)), (1, .int (nI no))]) hx hb dX1_placeOf_22 hl (k := 2) rfl (nI_add _ _) (by decide) rfl (fun ls hl => ?_)
          refine lv_goto (tgt := 2) hx hb dX1_placeOf_25 (by decide) ?_
          exact ih (k + 1) (by omega) (by omega) (fun j hj => by rcases Nat.lt_or_ge j k with q | q; exact h3 j q; rw [show j = k by omega]; exact c_17) _ _ _ hW (lv_sub hl [1, 2, 0] rfl)
        · refine lv_iload_n hx hb dX1_placeOf_20 rfl (lv_at hl 2 rfl) ?_
          exact ret_i X hW (v := (nI k)) (⟨by rw [fst1_at (k := k) (by omega) (fun j hj => by simpa using h3 j hj) (by simpa using c_17), decide_eq_true (by omega)]; exact nZ k, rfl⟩) rfl (by decide) (by decide) dX1_placeOf_21
  refine lv_iconst (v := nI 0) hx hb dX1_placeOf_0 (by decide) ?_
  refine lv_istore_n (lv' := [(2, .int (nI 0)), (0, .ref (f 0)), (1, .int (nI no))]) hx hb dX1_placeOf_1 rfl hl (by decide) rfl (fun ls hl => ?_)
  exact loop (bc + 1) 0 (by omega) (by omega) (fun j hj => absurd hj (by omega)) _ _ _ hW (lv_sub hl [1, 2, 0] rfl)

set_option maxRecDepth 100000 in
set_option maxHeartbeats 4000000 in
theorem c_X1_bidOfBidderIn (l : Launch) (G : Gt) (f : Nat → Nat) (lc bc ql : Nat) (ln rs rm bn bd pr ic fl qu rc : Nat → Nat) (gp : Nat → Int) (Y : va_W) (set who : Nat) (hset : set < 256) (hwho : who < 2 ^ 31) (hbc : bc ≤ 8) (hbd : ∀ k, bd k < 8) : Ci l G yX1_bidOfBidderIn (ww yX1_bidOfBidderIn cX1_bidOfBidderIn 4 (some FieldType.int)) (RM 0 0 0) [.ref (f 0), .int (nI set), .int (nI who)] (fW G f lc bc ql ln rs rm bn bd pr ic fl qu rc gp ++ Y) (fun r w2 => r = zI (orNo (decide (fst1 (fun k => set.testBit k && decide (bd k = who)) bc < bc)) (bn (fst1 (fun k => set.testBit k && decide (bd k = who)) bc))) ∧ w2 = (fW G f lc bc ql ln rs rm bn bd pr ic fl qu rc gp ++ Y)) := by
  refine Ci.intro (by decide) (Nat.le_of_ble_eq_true rfl) ?_
  intro p e s m args below meth c A X hW ls hl
  have hx := X.exec
  have hb := X.bytes
  have hl : lv_has ls 4 [(0, .ref (f 0)), (1, .int (nI set)), (2, .int (nI who))] := hl
  have loop : ∀ (n : Nat) (k : Nat), bc + 1 ≤ k + n → k ≤ bc → (∀ j, j < k → (fun k => set.testBit k && decide (bd k = who)) j = false) → ∀ (H : Heap) (locs : List Loc) (ls : Array Slot), Wd G A s (fW G f lc bc ql ln rs rm bn bd pr ic fl qu rc gp ++ Y) H locs → lv_has ls 4 [(0, .ref (f 0)), (1, .int (nI set)), (2, .int (nI who)), (3, .int (nI k))] → W p l e (RM 0 0 0) s m args below meth c H locs 0 0 (MQ below (Qi G A (fun r w2 => r = zI (orNo (decide (fst1 (fun k => set.testBit k && decide (bd k = who)) bc < bc)) (bn (fst1 (fun k => set.testBit k && decide (bd k = who)) bc))) ∧ w2 = (fW G f lc bc ql ln rs rm bn bd pr ic fl qu rc gp ++ Y))) args s (RM 0 0 0).cells (RM 0 0 0).slots A) (F0 m 2 ls []) := by
    intro n
    induction n with
    | zero => intro k h1 h2 h3; exact absurd h1 (by omega)
    | succ n ih =>
      intro k h1 h2 h3 H locs ls hW hl
      have hp2 := fun (h : k < 8) => p2_le h
      refine lv_iload_n hx hb dX1_bidOfBidderIn_2 rfl (lv_at hl 3 rfl) ?_
      refine lv_aload_n hx hb dX1_bidOfBidderIn_3 rfl (lv_at hl 0 rfl) ?_
      refine x_get X hW 0 rfl 12 rfl rfl iwX1 (by decide) wq_151 rfl dX1_bidOfBidderIn_4 ?_
      refine n_icmp_ge hx hb rfl rfl (by omega) (by omega) (tgt := 41) dX1_bidOfBidderIn_7 (by decide) (fun c_7 => ?_) (fun c_7 => ?_)
      · refine lv_iconst (v := zI (-1)) hx hb dX1_bidOfBidderIn_41 (by decide) ?_
        exact ret_i X hW (v := (zI (-1))) (⟨by rw [fst1_no (fun j hj => h3 j (by omega)), decide_eq_false (by omega)]; rfl, rfl⟩) rfl (by decide) (by decide) dX1_bidOfBidderIn_42
      · refine lv_iload_n hx hb dX1_bidOfBidderIn_10 rfl (lv_at hl 1 rfl) ?_
        refine lv_iconst (v := nI 1) hx hb dX1_bidOfBidderIn_11 (by decide) ?_
        refine lv_iload_n hx hb dX1_bidOfBidderIn_12 rfl (lv_at hl 3 rfl) ?_
        refine n_ishl1 hx hb (by omega) dX1_bidOfBidderIn_13 ?_
        refine n_iand hx hb dX1_bidOfBidderIn_14 ?_
        refine n_if_eq hx hb rfl (by have := @and_lt set (2 ^ k) 256 hset; omega) (tgt := 35) dX1_bidOfBidderIn_15 (by decide) (fun c_15 => ?_) (fun c_15 => ?_)
        · refine lv_iinc (v := (nI (k + 1))) (lv' := [(3, .int (nI (k + 1))), (0, .ref (f 0)), (1, .int (nI set)), (2, .int (nI who))]) hx hb dX1_bidOfBidderIn_35 hl (k := 3) rfl (nI_add _ _) (by decide) rfl (fun ls hl => ?_)
          refine lv_goto (tgt := 2) hx hb dX1_bidOfBidderIn_38 (by decide) ?_
          exact ih (k + 1) (by omega) (by omega) (fun j hj => by rcases Nat.lt_or_ge j k with q | q; exact h3 j q; rw [show j = k by omega]; show (set.testBit k && decide (bd k = who)) = false; rw [bit_f c_15]; rfl) _ _ _ hW (lv_sub hl [1, 2, 3, 0] rfl)
        · refine lv_aload_n hx hb dX1_bidOfBidderIn_18 rfl (lv_at hl 0 rfl) ?_
          refine x_get X hW 0 rfl 4 rfl rfl iwX1 (by decide) wq_137 rfl dX1_bidOfBidderIn_19 ?_
          refine lv_iload_n hx hb dX1_bidOfBidderIn_22 rfl (lv_at hl 3 rfl) ?_
          refine n_iald X hW (n := 8) (f := bd) 5 rfl (by omega) (by decide) dX1_bidOfBidderIn_23 ?_
          refine lv_iload_n hx hb dX1_bidOfBidderIn_24 rfl (lv_at hl 2 rfl) ?_
          refine n_icmp_ne hx hb rfl rfl (by have := hbd k; omega) hwho (tgt := 35) dX1_bidOfBidderIn_25 (by decide) (fun c_25 => ?_) (fun c_25 => ?_)
          · refine lv_iinc (v := (nI (k + 1))) (lv' := [(3, .int (nI (k + 1))), (0, .ref (f 0)), (1, .int (nI set)), (2, .int (nI who))]) hx hb dX1_bidOfBidderIn_35 hl (k := 3) rfl (nI_add _ _) (by decide) rfl (fun ls hl => ?_)
            refine lv_goto (tgt := 2) hx hb dX1_bidOfBidderIn_38 (by decide) ?_
            exact ih (k + 1) (by omega) (by omega) (fun j hj => by rcases Nat.lt_or_ge j k with q | q; exact h3 j q; rw [show j = k by omega]; show (set.testBit k && decide (bd k = who)) = false; rw [decide_eq_false c_25, Bool.and_false]) _ _ _ hW (lv_sub hl [1, 2, 3, 0] rfl)
          · refine lv_aload_n hx hb dX1_bidOfBidderIn_28 rfl (lv_at hl 0 rfl) ?_
            refine x_get X hW 0 rfl 3 rfl rfl iwX1 (by decide) wq_135 rfl dX1_bidOfBidderIn_29 ?_
            refine lv_iload_n hx hb dX1_bidOfBidderIn_32 rfl (lv_at hl 3 rfl) ?_
            refine n_iald X hW (n := 8) (f := bn) 4 rfl (by omega) (by decide) dX1_bidOfBidderIn_33 ?_
            exact ret_i X hW (v := (nI (bn k))) (⟨by rw [fst1_at (k := k) (by omega) h3 (by rw [bit_t c_15, decide_eq_true c_25]; rfl), decide_eq_true (by omega)]; exact nZ (bn k), rfl⟩) rfl (by decide) (by decide) dX1_bidOfBidderIn_34
  refine lv_iconst (v := nI 0) hx hb dX1_bidOfBidderIn_0 (by decide) ?_
  refine lv_istore_n (lv' := [(3, .int (nI 0)), (0, .ref (f 0)), (1, .int (nI set)), (2, .int (nI who))]) hx hb dX1_bidOfBidderIn_1 rfl hl (by decide) rfl (fun ls hl => ?_)
  exact loop (bc + 1) 0 (by omega) (by omega) (fun j hj => absurd hj (by omega)) _ _ _ hW (lv_sub hl [1, 2, 3, 0] rfl)

set_option maxRecDepth 100000 in
set_option maxHeartbeats 4000000 in
theorem c_X1_hasOneBidPerBidder (l : Launch) (G : Gt) (f : Nat → Nat) (lc bc ql : Nat) (ln rs rm bn bd pr ic fl qu rc : Nat → Nat) (gp : Nat → Int) (Y : va_W) (set : Nat) (hset : set < 256) (hbc : bc ≤ 8) (hbd : ∀ k, bd k < 8) : Ci l G yX1_hasOneBidPerBidder (ww yX1_hasOneBidPerBidder cX1_hasOneBidPerBidder 5 (some FieldType.boolean)) (RM 0 0 0) [.ref (f 0), .int (nI set)] (fW G f lc bc ql ln rs rm bn bd pr ic fl qu rc gp ++ Y) (fun r w2 => r = nI (if okB set.testBit bd bc = true then 1 else 0) ∧ w2 = (fW G f lc bc ql ln rs rm bn bd pr ic fl qu rc gp ++ Y)) := by
  refine Ci.intro (by decide) (Nat.le_of_ble_eq_true rfl) ?_
  intro p e s m args below meth c A X hW ls hl
  have hx := X.exec
  have hb := X.bytes
  have hl : lv_has ls 5 [(0, .ref (f 0)), (1, .int (nI set))] := hl
  have loop : ∀ (n : Nat) (k : Nat), bc + 1 ≤ k + n → k ≤ bc → okB set.testBit bd k = true → ∀ (H : Heap) (locs : List Loc) (ls : Array Slot), Wd G A s (fW G f lc bc ql ln rs rm bn bd pr ic fl qu rc gp ++ Y) H locs → lv_has ls 5 [(0, .ref (f 0)), (1, .int (nI set)), (2, .int (nI (sn set.testBit bd k))), (3, .int (nI k))] → W p l e (RM 0 0 0) s m args below meth c H locs 0 0 (MQ below (Qi G A (fun r w2 => r = nI (if okB set.testBit bd bc = true then 1 else 0) ∧ w2 = (fW G f lc bc ql ln rs rm bn bd pr ic fl qu rc gp ++ Y))) args s (RM 0 0 0).cells (RM 0 0 0).slots A) (F0 m 4 ls []) := by
    intro n
    induction n with
    | zero => intro k h1 h2 h3; exact absurd h1 (by omega)
    | succ n ih =>
      intro k h1 h2 h3 H locs ls hW hl
      have hp2 := fun (h : k < 8) => p2_le h
      refine lv_iload_n hx hb dX1_hasOneBidPerBidder_4 rfl (lv_at hl 3 rfl) ?_
      refine lv_aload_n hx hb dX1_hasOneBidPerBidder_5 rfl (lv_at hl 0 rfl) ?_
      refine x_get X hW 0 rfl 12 rfl rfl iwX1 (by decide) wq_151 rfl dX1_hasOneBidPerBidder_6 ?_
      refine n_icmp_ge hx hb rfl rfl (by omega) (by omega) (tgt := 50) dX1_hasOneBidPerBidder_9 (by decide) (fun c_9 => ?_) (fun c_9 => ?_)
      · refine lv_iconst (v := nI 1) hx hb dX1_hasOneBidPerBidder_50 (by decide) ?_
        exact ret_z X hW (v := (nI 1)) (⟨by rw [if_pos (by rw [show bc = k by omega]; exact h3)], rfl⟩) rfl (by first | rfl | exact (pk_charN (by omega)).1) (by decide) (by decide) dX1_hasOneBidPerBidder_51
      · refine lv_iload_n hx hb dX1_hasOneBidPerBidder_12 rfl (lv_at hl 1 rfl) ?_
        refine lv_iconst (v := nI 1) hx hb dX1_hasOneBidPerBidder_13 (by decide) ?_
        refine lv_iload_n hx hb dX1_hasOneBidPerBidder_14 rfl (lv_at hl 3 rfl) ?_
        refine n_ishl1 hx hb (by omega) dX1_hasOneBidPerBidder_15 ?_
        refine n_iand hx hb dX1_hasOneBidPerBidder_16 ?_
        refine n_if_eq hx hb rfl (by have := @and_lt set (2 ^ k) 256 hset; omega) (tgt := 44) dX1_hasOneBidPerBidder_17 (by decide) (fun c_17 => ?_) (fun c_17 => ?_)
        · refine lv_iinc (v := (nI (k + 1))) (lv' := [(3, .int (nI (k + 1))), (0, .ref (f 0)), (1, .int (nI set)), (2, .int (nI (sn set.testBit bd k)))]) hx hb dX1_hasOneBidPerBidder_44 hl (k := 3) rfl (nI_add _ _) (by decide) rfl (fun ls hl => ?_)
          refine lv_goto (tgt := 4) hx hb dX1_hasOneBidPerBidder_47 (by decide) ?_
          exact ih (k + 1) (by omega) (by omega) (by rw [okB, h3, bit_f c_17]; rfl) _ _ _ hW (by rw [show sn set.testBit bd (k + 1) = (sn set.testBit bd k) by rw [sn, if_neg (by rw [bit_f c_17]; decide)]]; exact lv_sub hl [1, 2, 3, 0] rfl)
        · refine lv_iconst (v := nI 1) hx hb dX1_hasOneBidPerBidder_20 (by decide) ?_
          refine lv_aload_n hx hb dX1_hasOneBidPerBidder_21 rfl (lv_at hl 0 rfl) ?_
          refine x_get X hW 0 rfl 4 rfl rfl iwX1 (by decide) wq_137 rfl dX1_hasOneBidPerBidder_22 ?_
          refine lv_iload_n hx hb dX1_hasOneBidPerBidder_25 rfl (lv_at hl 3 rfl) ?_
          refine n_iald X hW (n := 8) (f := bd) 5 rfl (by omega) (by decide) dX1_hasOneBidPerBidder_26 ?_
          refine n_ishl1 hx hb (by have := hbd k; omega) dX1_hasOneBidPerBidder_27 ?_
          refine lv_istore (lv' := [(4, .int (nI (2 ^ (bd k)))), (0, .ref (f 0)), (1, .int (nI set)), (2, .int (nI (sn set.testBit bd k))), (3, .int (nI k))]) hx hb dX1_hasOneBidPerBidder_28 hl (by decide) rfl (fun ls hl => ?_)
          refine lv_iload_n hx hb dX1_hasOneBidPerBidder_30 rfl (lv_at hl 3 rfl) ?_
          refine lv_iload hx hb dX1_hasOneBidPerBidder_31 (lv_at hl 0 rfl) ?_
          refine n_iand hx hb dX1_hasOneBidPerBidder_33 ?_
          refine n_if_eq hx hb rfl (by have := @and_lt (sn set.testBit bd k) (2 ^ bd k) 256 (sn_lt hbd k); omega) (tgt := 39) dX1_hasOneBidPerBidder_34 (by decide) (fun c_34 => ?_) (fun c_34 => ?_)
          · refine lv_iload_n hx hb dX1_hasOneBidPerBidder_39 rfl (lv_at hl 3 rfl) ?_
            refine lv_iload hx hb dX1_hasOneBidPerBidder_40 (lv_at hl 0 rfl) ?_
            refine n_ior hx hb dX1_hasOneBidPerBidder_42 ?_
            refine lv_istore_n (lv' := [(2, .int (nI ((sn set.testBit bd k) ||| (2 ^ (bd k))))), (4, .int (nI (2 ^ (bd k)))), (0, .ref (f 0)), (1, .int (nI set)), (3, .int (nI k))]) hx hb dX1_hasOneBidPerBidder_43 rfl hl (by decide) rfl (fun ls hl => ?_)
            refine lv_iinc (v := (nI (k + 1))) (lv' := [(3, .int (nI (k + 1))), (2, .int (nI ((sn set.testBit bd k) ||| (2 ^ (bd k))))), (4, .int (nI (2 ^ (bd k)))), (0, .ref (f 0)), (1, .int (nI set))]) hx hb dX1_hasOneBidPerBidder_44 hl (k := 4) rfl (nI_add _ _) (by decide) rfl (fun ls hl => ?_)
            refine lv_goto (tgt := 4) hx hb dX1_hasOneBidPerBidder_47 (by decide) ?_
            exact ih (k + 1) (by omega) (by omega) (by rw [okB, h3, bit_t c_17, bit_f c_34]; rfl) _ _ _ hW (by rw [show sn set.testBit bd (k + 1) = ((sn set.testBit bd k) ||| (2 ^ (bd k))) by rw [sn, if_pos (bit_t c_17)]]; exact lv_sub hl [3, 4, 1, 0] rfl)
          · refine lv_iconst (v := nI 0) hx hb dX1_hasOneBidPerBidder_37 (by decide) ?_
            exact ret_z X hW (v := (nI 0)) (⟨by rw [if_neg (by rw [okB_no (k := k + 1) (by rw [okB, bit_t c_17, bit_t c_34]; simp) (by omega)]; decide)], rfl⟩) rfl (by first | rfl | exact (pk_charN (by omega)).1) (by decide) (by decide) dX1_hasOneBidPerBidder_38
  refine lv_iconst (v := nI 0) hx hb dX1_hasOneBidPerBidder_0 (by decide) ?_
  refine lv_istore_n (lv' := [(2, .int (nI 0)), (0, .ref (f 0)), (1, .int (nI set))]) hx hb dX1_hasOneBidPerBidder_1 rfl hl (by decide) rfl (fun ls hl => ?_)
  refine lv_iconst (v := nI 0) hx hb dX1_hasOneBidPerBidder_2 (by decide) ?_
  refine lv_istore_n (lv' := [(3, .int (nI 0)), (2, .int (nI 0)), (0, .ref (f 0)), (1, .int (nI set))]) hx hb dX1_hasOneBidPerBidder_3 rfl hl (by decide) rfl (fun ls hl => ?_)
  exact loop (bc + 1) 0 (by omega) (by omega) rfl _ _ _ hW (lv_sub hl [2, 3, 1, 0] rfl)

