set_option maxRecDepth 100000 in
set_option maxHeartbeats 4000000 in
theorem c_X5_forgetBest (l : Launch) (G : Gt) (f h : Nat → Nat) (lc bc ql : Nat) (ln rs rm bn bd pr ic fl qu rc : Nat → Nat) (gp : Nat → Int) (bs : Nat) (bv : Int) (cf wt ho : Nat → Nat) (Y : va_W)  : Cv l G yX5_forgetBest (ww yX5_forgetBest cX5_forgetBest 1 (none : Option ClassFile.FieldType)) (RM 0 0 0) [.ref (h 0)] (fW G f lc bc ql ln rs rm bn bd pr ic fl qu rc gp ++ (sW G h bs bv cf wt ho ++ Y)) (fun w2 => w2 = (fW G f lc bc ql ln rs rm bn bd pr ic fl qu rc gp ++ (sW G h 0 (-1) cf wt ho ++ Y))) := by
  refine Cv.intro (by decide) (Nat.le_of_ble_eq_true rfl) ?_
  intro p e s m args below meth c A X hW ls hl
  have hx := X.exec
  have hb := X.bytes
  have hl : lv_has ls 1 [(0, .ref (h 0))] := hl
  refine lv_aload_n hx hb dX5_forgetBest_0 rfl (lv_at hl 0 rfl) ?_
  refine lv_iconst (v := nI 0) hx hb dX5_forgetBest_1 (by decide) ?_
  refine x_put X hW 12 rfl 3 (w2 := (fW G f lc bc ql ln rs rm bn bd pr ic fl qu rc gp ++ (sW G h 0 bv cf wt ho ++ Y))) rfl rfl iwX5 tyX5_ok nmX5 (by decide) wq_194 rfl rfl rfl rfl (Nat.le_of_ble_eq_true rfl) dX5_forgetBest_2 (fun H locs hW => ?_)
  refine lv_aload_n hx hb dX5_forgetBest_5 rfl (lv_at hl 0 rfl) ?_
  refine lv_iconst (v := zI (-1)) hx hb dX5_forgetBest_6 (by decide) ?_
  refine x_put X hW 12 rfl 4 (w2 := (fW G f lc bc ql ln rs rm bn bd pr ic fl qu rc gp ++ (sW G h 0 (-1) cf wt ho ++ Y))) rfl rfl iwX5 tyX5_ok nmX5 (by decide) wq_196 rfl rfl rfl rfl (Nat.le_of_ble_eq_true rfl) dX5_forgetBest_7 (fun H locs hW => ?_)
  exact ret_v X hW (rfl) rfl (by decide) (by decide) dX5_forgetBest_10

theorem low_all : ∀ d, d < 256 → (nI d &&& -nI d) = if d = 0 then nI 0 else nI (2 ^ fst1 d.testBit 8) := by decide +kernel
/-- the first place in which two sets differ is in the first one -/
def ahd (x y : Nat) : Bool := decide (fst1 (x ^^^ y).testBit 8 < 8) && x.testBit (fst1 (x ^^^ y).testBit 8)
theorem xor_lt {a b : Nat} (ha : a < 256) (hb : b < 256) : a ^^^ b < 256 := Nat.xor_lt_two_pow (n := 8) ha hb
theorem low_ahd {x y : Nat} (hx : x < 256) (hy : y < 256) : ((nI (x ^^^ y) &&& -nI (x ^^^ y)) &&& nI x = 0) ↔ ahd x y = false := by
  have hd := xor_lt hx hy
  rw [low_all _ hd]
  by_cases q : x ^^^ y = 0
  · rw [if_pos q, ahd, q, fst1_no (fun k _ => Nat.zero_testBit k)]
    constructor
    · intro _; rfl
    · intro _
      rw [nI_and, Nat.zero_and]; rfl
  · rw [if_neg q, nI_and, Nat.and_comm]
    obtain ⟨k, hk, hk2⟩ : ∃ k, k < 8 ∧ (x ^^^ y).testBit k = true := by
      rcases Classical.em (∃ k, k < 8 ∧ (x ^^^ y).testBit k = true) with r | r
      · exact r
      · exfalso
        refine q (Nat.eq_of_testBit_eq (fun i => ?_))
        rw [Nat.zero_testBit]
        by_cases hi : i < 8
        · cases hb : (x ^^^ y).testBit i with
          | false => rfl
          | true => exact absurd ⟨i, hi, hb⟩ r
        · have : (x ^^^ y) < 2 ^ i := Nat.lt_of_lt_of_le hd (Nat.pow_le_pow_right (n := 2) (i := 8) (by decide) (by omega))
          exact Nat.testBit_lt_two_pow this
    obtain ⟨f1, f2⟩ := fst1_lt (P := (x ^^^ y).testBit) hk hk2
    rw [ahd, decide_eq_true f1, Bool.true_and, ← and_pow, show (0 : Int32) = nI 0 from rfl, nI_eq (by have := @and_lt x (2 ^ fst1 (x ^^^ y).testBit 8) 256 hx; omega) (by decide)]
set_option maxRecDepth 100000 in
set_option maxHeartbeats 4000000 in
theorem c_X5_hasLowestOfDifferent (l : Launch) (G : Gt) (x y : Nat) (w : va_W) (hx8 : x < 256) (hy8 : y < 256) : Ci l G yX5_hasLowestOfDifferent (ww yX5_hasLowestOfDifferent cX5_hasLowestOfDifferent 3 (some FieldType.boolean)) (RM 0 0 0) [.int (nI x), .int (nI y)] w (fun r w2 => r = nI (if ahd x y = true then 1 else 0) ∧ w2 = w) := by
  refine Ci.intro (by decide) (Nat.le_of_ble_eq_true rfl) ?_
  intro p e s m args below meth c A X hW ls hl
  have hx := X.exec
  have hb := X.bytes
  have hl : lv_has ls 3 [(0, .int (nI x)), (1, .int (nI y))] := hl
  refine lv_iload_n hx hb dX5_hasLowestOfDifferent_0 rfl (lv_at hl 0 rfl) ?_
  refine lv_iload_n hx hb dX5_hasLowestOfDifferent_1 rfl (lv_at hl 1 rfl) ?_
  refine n_ixor hx hb dX5_hasLowestOfDifferent_2 ?_
  refine lv_istore_n (lv' := [(2, .int (nI (x ^^^ y))), (0, .int (nI x)), (1, .int (nI y))]) hx hb dX5_hasLowestOfDifferent_3 rfl hl (by decide) rfl (fun ls hl => ?_)
  refine lv_iload_n hx hb dX5_hasLowestOfDifferent_4 rfl (lv_at hl 0 rfl) ?_
  refine lv_iload_n hx hb dX5_hasLowestOfDifferent_5 rfl (lv_at hl 0 rfl) ?_
  refine lv_ineg hx hb dX5_hasLowestOfDifferent_6 ?_
  refine lv_iand hx hb dX5_hasLowestOfDifferent_7 ?_
  refine lv_iload_n hx hb dX5_hasLowestOfDifferent_8 rfl (lv_at hl 1 rfl) ?_
  refine lv_iand hx hb dX5_hasLowestOfDifferent_9 ?_
  refine lv_if_eq (tgt := 17) hx hb dX5_hasLowestOfDifferent_10 (by decide) (fun c_10 => ?_) (fun c_10 => ?_)
  · have hf := (low_ahd hx8 hy8).mp c_10
    refine lv_iconst (v := nI 0) hx hb dX5_hasLowestOfDifferent_17 (by decide) ?_
    exact ret_z X hW (v := (nI 0)) (⟨by rw [if_neg (by rw [hf]; decide)], rfl⟩) rfl (by first | rfl | exact (pk_charN (by omega)).1) (by decide) (by decide) dX5_hasLowestOfDifferent_18
  · have hf : ahd x y = true := by cases h : ahd x y with | true => rfl | false => exact absurd ((low_ahd hx8 hy8).mpr h) c_10
    refine lv_iconst (v := nI 1) hx hb dX5_hasLowestOfDifferent_13 (by decide) ?_
    refine lv_goto (tgt := 18) hx hb dX5_hasLowestOfDifferent_14 (by decide) ?_
    exact ret_z X hW (v := (nI 1)) (⟨by rw [if_pos hf], rfl⟩) rfl (by first | rfl | exact (pk_charN (by omega)).1) (by decide) (by decide) dX5_hasLowestOfDifferent_18

set_option maxRecDepth 100000 in
set_option maxHeartbeats 4000000 in
theorem c_X5_compareWithBest (l : Launch) (G : Gt) (f h : Nat → Nat) (lc bc ql : Nat) (ln rs rm bn bd pr ic fl qu rc : Nat → Nat) (gp : Nat → Int) (bs : Nat) (bv : Int) (cf wt ho : Nat → Nat) (Y : va_W) (set : Nat) (sv : Int) (hset : set < 256) (hbs : bs < 256) (hsv : -2147483648 ≤ sv ∧ sv < 2147483648) (hbv : -2147483648 ≤ bv ∧ bv < 2147483648) : Cv l G yX5_compareWithBest (ww yX5_compareWithBest cX5_compareWithBest 3 (none : Option ClassFile.FieldType)) (RM 1 0 0) [.ref (h 0), .int (nI set), .int (zI sv)] (fW G f lc bc ql ln rs rm bn bd pr ic fl qu rc gp ++ (sW G h bs bv cf wt ho ++ Y)) (fun w2 => w2 = (fW G f lc bc ql ln rs rm bn bd pr ic fl qu rc gp ++ (sW G h (if bv < sv ∨ (sv = bv ∧ ahd set bs = true) then set else bs) (if bv < sv ∨ (sv = bv ∧ ahd set bs = true) then sv else bv) cf wt ho ++ Y))) := by
  refine Cv.intro (by decide) (Nat.le_of_ble_eq_true rfl) ?_
  intro p e s m args below meth c A X hW ls hl
  have hx := X.exec
  have hb := X.bytes
  have hl : lv_has ls 3 [(0, .ref (h 0)), (1, .int (nI set)), (2, .int (zI sv))] := hl
  refine lv_iload_n hx hb dX5_compareWithBest_0 rfl (lv_at hl 2 rfl) ?_
  refine lv_aload_n hx hb dX5_compareWithBest_1 rfl (lv_at hl 0 rfl) ?_
  refine x_get X hW 12 rfl 4 rfl rfl iwX5 (by decide) wq_196 rfl dX5_compareWithBest_2 ?_
  refine z_icmp_gt hx hb rfl rfl hsv hbv (tgt := 27) dX5_compareWithBest_5 (by decide) (fun c_5 => ?_) (fun c_5 => ?_)
  · refine lv_aload_n hx hb dX5_compareWithBest_27 rfl (lv_at hl 0 rfl) ?_
    refine lv_iload_n hx hb dX5_compareWithBest_28 rfl (lv_at hl 1 rfl) ?_
    refine x_put X hW 12 rfl 3 (w2 := (fW G f lc bc ql ln rs rm bn bd pr ic fl qu rc gp ++ (sW G h set bv cf wt ho ++ Y))) rfl rfl iwX5 tyX5_ok nmX5 (by decide) wq_194 rfl rfl rfl rfl (Nat.le_of_ble_eq_true rfl) dX5_compareWithBest_29 (fun H locs hW => ?_)
    refine lv_aload_n hx hb dX5_compareWithBest_32 rfl (lv_at hl 0 rfl) ?_
    refine lv_iload_n hx hb dX5_compareWithBest_33 rfl (lv_at hl 2 rfl) ?_
    refine x_put X hW 12 rfl 4 (w2 := (fW G f lc bc ql ln rs rm bn bd pr ic fl qu rc gp ++ (sW G h set sv cf wt ho ++ Y))) rfl rfl iwX5 tyX5_ok nmX5 (by decide) wq_196 rfl rfl rfl rfl (Nat.le_of_ble_eq_true rfl) dX5_compareWithBest_34 (fun H locs hW => ?_)
    exact ret_v X hW (by rw [if_pos (Or.inl c_5), if_pos (Or.inl c_5)]) rfl (by decide) (by decide) dX5_compareWithBest_37
  · refine lv_iload_n hx hb dX5_compareWithBest_8 rfl (lv_at hl 2 rfl) ?_
    refine lv_aload_n hx hb dX5_compareWithBest_9 rfl (lv_at hl 0 rfl) ?_
    refine x_get X hW 12 rfl 4 rfl rfl iwX5 (by decide) wq_196 rfl dX5_compareWithBest_10 ?_
    refine z_icmp_ne hx hb rfl rfl hsv hbv (tgt := 37) dX5_compareWithBest_13 (by decide) (fun c_13 => ?_) (fun c_13 => ?_)
    · exact ret_v X hW (by rw [if_neg (by omega), if_neg (by omega)]) rfl (by decide) (by decide) dX5_compareWithBest_37
    · refine lv_iload_n hx hb dX5_compareWithBest_16 rfl (lv_at hl 1 rfl) ?_
      refine lv_aload_n hx hb dX5_compareWithBest_17 rfl (lv_at hl 0 rfl) ?_
      refine x_get X hW 12 rfl 3 rfl rfl iwX5 (by decide) wq_194 rfl dX5_compareWithBest_18 ?_
      refine go_i X hW (run_S X hW (As := [.int (nI set), .int (nI bs)]) (rest := []) (c_X5_hasLowestOfDifferent l G set bs (fW G f lc bc ql ln rs rm bn bd pr ic fl qu rc gp ++ (sW G h bs bv cf wt ho ++ Y)) hset hbs _) (gi_S wq_399 wq_400 wq_66 wq_401) hyX5_hasLowestOfDifferent rfl rfl hl.1 (Nat.le_of_ble_eq_true rfl) ⟨Nat.le_of_ble_eq_true rfl, Nat.le_of_ble_eq_true rfl⟩ ⟨by decide, by decide⟩ dX5_compareWithBest_21) (fun r w2 H locs hp hW => ?_)
      obtain ⟨rfl, rfl⟩ := hp
      refine n_if_eq hx hb rfl (by split <;> decide) (tgt := 37) dX5_compareWithBest_24 (by decide) (fun c_24 => ?_) (fun c_24 => ?_)
      · have hf : ahd set bs = false := by cases h : ahd set bs with | false => rfl | true => rw [h] at c_24; exact absurd c_24 (by decide)
        exact ret_v X hW (by rw [hf, if_neg (by simp; omega), if_neg (by simp; omega)]) rfl (by decide) (by decide) dX5_compareWithBest_37
      · refine lv_aload_n hx hb dX5_compareWithBest_27 rfl (lv_at hl 0 rfl) ?_
        refine lv_iload_n hx hb dX5_compareWithBest_28 rfl (lv_at hl 1 rfl) ?_
        refine x_put X hW 12 rfl 3 (w2 := (fW G f lc bc ql ln rs rm bn bd pr ic fl qu rc gp ++ (sW G h set bv cf wt ho ++ Y))) rfl rfl iwX5 tyX5_ok nmX5 (by decide) wq_194 rfl rfl rfl rfl (Nat.le_of_ble_eq_true rfl) dX5_compareWithBest_29 (fun H locs hW => ?_)
        refine lv_aload_n hx hb dX5_compareWithBest_32 rfl (lv_at hl 0 rfl) ?_
        refine lv_iload_n hx hb dX5_compareWithBest_33 rfl (lv_at hl 2 rfl) ?_
        refine x_put X hW 12 rfl 4 (w2 := (fW G f lc bc ql ln rs rm bn bd pr ic fl qu rc gp ++ (sW G h set sv cf wt ho ++ Y))) rfl rfl iwX5 tyX5_ok nmX5 (by decide) wq_196 rfl rfl rfl rfl (Nat.le_of_ble_eq_true rfl) dX5_compareWithBest_34 (fun H locs hW => ?_)
        have hf : ahd set bs = true := by cases h : ahd set bs with | true => rfl | false => rw [h] at c_24; exact absurd rfl c_24
        exact ret_v X hW (by rw [if_pos (Or.inr ⟨c_13, hf⟩), if_pos (Or.inr ⟨c_13, hf⟩)]) rfl (by decide) (by decide) dX5_compareWithBest_37

/-- a lot of the set fits, and the others can be filled -/
def cfP (lots fit : Nat) (cf : Nat → Nat) : Nat → Bool := fun k => (lots.testBit k && fit.testBit k) && decide (cf (lots ^^^ 2 ^ k) ≠ 0)
theorem and3 {a b k : Nat} : (a &&& b &&& 2 ^ k = 0) ↔ (a.testBit k && b.testBit k) = false := by rw [and_pow, Nat.testBit_and]
theorem and3t {a b k : Nat} (h : ¬ a &&& b &&& 2 ^ k = 0) : (a.testBit k && b.testBit k) = true := by
  cases q : (a.testBit k && b.testBit k) with
  | true => rfl
  | false => exact absurd (and3.mpr q) h
set_option maxRecDepth 100000 in
set_option maxHeartbeats 4000000 in
theorem c_X5_canFillWithLast (l : Launch) (G : Gt) (f h : Nat → Nat) (lc bc ql : Nat) (ln rs rm bn bd pr ic fl qu rc : Nat → Nat) (gp : Nat → Int) (bs : Nat) (bv : Int) (cf wt ho : Nat → Nat) (Y : va_W) (lots fit : Nat) (hlo : lots < 256) (hfi : fit < 256) (hlc : lc ≤ 8) (hcf : ∀ k, cf k < 2) : Ci l G yX5_canFillWithLast (ww yX5_canFillWithLast cX5_canFillWithLast 5 (some FieldType.boolean)) (RM 0 0 0) [.ref (h 0), .ref (f 0), .int (nI lots), .int (nI fit)] (fW G f lc bc ql ln rs rm bn bd pr ic fl qu rc gp ++ (sW G h bs bv cf wt ho ++ Y)) (fun r w2 => r = nI (if (fst1 (cfP lots fit cf) lc < lc) then 1 else 0) ∧ w2 = (fW G f lc bc ql ln rs rm bn bd pr ic fl qu rc gp ++ (sW G h bs bv cf wt ho ++ Y))) := by
  refine Ci.intro (by decide) (Nat.le_of_ble_eq_true rfl) ?_
  intro p e s m args below meth c A X hW ls hl
  have hx := X.exec
  have hb := X.bytes
  have hl : lv_has ls 5 [(0, .ref (h 0)), (1, .ref (f 0)), (2, .int (nI lots)), (3, .int (nI fit))] := hl
  have loop : ∀ (n : Nat) (k : Nat), lc + 1 ≤ k + n → k ≤ lc → (∀ j, j < k → cfP lots fit cf j = false) → ∀ (H : Heap) (locs : List Loc) (ls : Array Slot), Wd G A s (fW G f lc bc ql ln rs rm bn bd pr ic fl qu rc gp ++ (sW G h bs bv cf wt ho ++ Y)) H locs → lv_has ls 5 [(0, .ref (h 0)), (1, .ref (f 0)), (2, .int (nI lots)), (3, .int (nI fit)), (4, .int (nI k))] → W p l e (RM 0 0 0) s m args below meth c H locs 0 0 (MQ below (Qi G A (fun r w2 => r = nI (if (fst1 (cfP lots fit cf) lc < lc) then 1 else 0) ∧ w2 = (fW G f lc bc ql ln rs rm bn bd pr ic fl qu rc gp ++ (sW G h bs bv cf wt ho ++ Y)))) args s (RM 0 0 0).cells (RM 0 0 0).slots A) (F0 m 3 ls []) := by
    intro n
    induction n with
    | zero => intro k h1 h2 h3; exact absurd h1 (by omega)
    | succ n ih =>
      intro k h1 h2 h3 H locs ls hW hl
      have hp2 := fun (h : k < 8) => p2_le h
      refine lv_iload hx hb dX5_canFillWithLast_3 (lv_at hl 4 rfl) ?_
      refine lv_aload_n hx hb dX5_canFillWithLast_5 rfl (lv_at hl 1 rfl) ?_
      refine x_getN X hW 0 rfl 11 rfl rfl iwX1 (by decide) wq_149 rfl dX5_canFillWithLast_6 ?_
      refine n_icmp_ge hx hb rfl rfl (by omega) (by omega) (tgt := 45) dX5_canFillWithLast_9 (by decide) (fun c_9 => ?_) (fun c_9 => ?_)
      · refine lv_iconst (v := nI 0) hx hb dX5_canFillWithLast_45 (by decide) ?_
        exact ret_z X hW (v := (nI 0)) (⟨by rw [if_neg (by rw [fst1_no (fun j hj => h3 j (by omega))]; omega)], rfl⟩) rfl (by first | rfl | exact (pk_charN (by omega)).1) (by decide) (by decide) dX5_canFillWithLast_46
      · refine lv_iload_n hx hb dX5_canFillWithLast_12 rfl (lv_at hl 2 rfl) ?_
        refine lv_iload_n hx hb dX5_canFillWithLast_13 rfl (lv_at hl 3 rfl) ?_
        refine n_iand hx hb dX5_canFillWithLast_14 ?_
        refine lv_iconst (v := nI 1) hx hb dX5_canFillWithLast_15 (by decide) ?_
        refine lv_iload hx hb dX5_canFillWithLast_16 (lv_at hl 4 rfl) ?_
        refine n_ishl1 hx hb (by omega) dX5_canFillWithLast_18 ?_
        refine n_iand hx hb dX5_canFillWithLast_19 ?_
        refine n_if_eq hx hb rfl (by have := @and_lt (lots &&& fit) (2 ^ k) 256 (and_lt hlo); omega) (tgt := 39) dX5_canFillWithLast_20 (by decide) (fun c_20 => ?_) (fun c_20 => ?_)
        · refine lv_iinc (v := (nI (k + 1))) (lv' := [(4, .int (nI (k + 1))), (0, .ref (h 0)), (1, .ref (f 0)), (2, .int (nI lots)), (3, .int (nI fit))]) hx hb dX5_canFillWithLast_39 hl (k := 4) rfl (nI_add _ _) (by decide) rfl (fun ls hl => ?_)
          refine lv_goto (tgt := 3) hx hb dX5_canFillWithLast_42 (by decide) ?_
          exact ih (k + 1) (by omega) (by omega) (fun j hj => by rcases Nat.lt_or_ge j k with q | q; exact h3 j q; rw [show j = k by omega]; rw [cfP, and3.mp c_20]; rfl) _ _ _ hW (lv_sub hl [1, 2, 3, 4, 0] rfl)
        · refine lv_aload_n hx hb dX5_canFillWithLast_23 rfl (lv_at hl 0 rfl) ?_
          refine x_get X hW 12 rfl 0 rfl rfl iwX5 (by decide) wq_191 rfl dX5_canFillWithLast_24 ?_
          refine lv_iload_n hx hb dX5_canFillWithLast_27 rfl (lv_at hl 2 rfl) ?_
          refine lv_iconst (v := nI 1) hx hb dX5_canFillWithLast_28 (by decide) ?_
          refine lv_iload hx hb dX5_canFillWithLast_29 (lv_at hl 4 rfl) ?_
          refine n_ishl1 hx hb (by omega) dX5_canFillWithLast_31 ?_
          refine n_ixor hx hb dX5_canFillWithLast_32 ?_
          refine n_zald X hW (n := 256) (f := cf) 13 rfl (xor_lt hlo (by omega)) (by decide) dX5_canFillWithLast_33 ?_
          refine n_if_eq hx hb rfl (by have := hcf (lots ^^^ 2 ^ k); omega) (tgt := 39) dX5_canFillWithLast_34 (by decide) (fun c_34 => ?_) (fun c_34 => ?_)
          · refine lv_iinc (v := (nI (k + 1))) (lv' := [(4, .int (nI (k + 1))), (0, .ref (h 0)), (1, .ref (f 0)), (2, .int (nI lots)), (3, .int (nI fit))]) hx hb dX5_canFillWithLast_39 hl (k := 4) rfl (nI_add _ _) (by decide) rfl (fun ls hl => ?_)
            refine lv_goto (tgt := 3) hx hb dX5_canFillWithLast_42 (by decide) ?_
            exact ih (k + 1) (by omega) (by omega) (fun j hj => by rcases Nat.lt_or_ge j k with q | q; exact h3 j q; rw [show j = k by omega]; rw [cfP, decide_eq_false (fun q => q c_34), Bool.and_false]) _ _ _ hW (lv_sub hl [1, 2, 3, 4, 0] rfl)
          · refine lv_iconst (v := nI 1) hx hb dX5_canFillWithLast_37 (by decide) ?_
            exact ret_z X hW (v := (nI 1)) (⟨by rw [if_pos (fst1_lt (k := k) (by omega) (by rw [cfP, and3t c_20, decide_eq_true c_34]; rfl)).1], rfl⟩) rfl (by first | rfl | exact (pk_charN (by omega)).1) (by decide) (by decide) dX5_canFillWithLast_38
  refine lv_iconst (v := nI 0) hx hb dX5_canFillWithLast_0 (by decide) ?_
  refine lv_istore (lv' := [(4, .int (nI 0)), (0, .ref (h 0)), (1, .ref (f 0)), (2, .int (nI lots)), (3, .int (nI fit))]) hx hb dX5_canFillWithLast_1 hl (by decide) rfl (fun ls hl => ?_)
  exact loop (lc + 1) 0 (by omega) (by omega) (fun j hj => absurd hj (by omega)) _ _ _ hW (lv_sub hl [1, 2, 3, 4, 0] rfl)

theorem pop_xor : ∀ t, t < 256 → ∀ l, l < 8 → t.testBit l = true → pop (t ^^^ 2 ^ l) + 1 = pop t ∧ t ^^^ 2 ^ l < t := by decide +kernel
theorem cfP_congr {lots fit lc : Nat} {cf cf2 : Nat → Nat} (hlo : lots < 256) (hlc : lc ≤ 8) (h : ∀ m, m < 256 → pop m + 1 = pop lots → cf m = cf2 m) : fst1 (cfP lots fit cf) lc = fst1 (cfP lots fit cf2) lc := by
  refine fst1_congr (fun k hk => ?_)
  rw [cfP, cfP]
  cases hb : lots.testBit k with
  | false => rfl
  | true =>
    have hx := pop_xor lots hlo k (by omega) hb
    rw [h _ (by omega) hx.1]
set_option maxRecDepth 100000 in
set_option maxHeartbeats 4000000 in
theorem c_X5_fillWithItem (l : Launch) (G : Gt) (f h : Nat → Nat) (lc bc ql : Nat) (ln rs rm bn bd pr ic fl qu rc : Nat → Nat) (gp : Nat → Int) (bs : Nat) (bv : Int) (cf wt ho : Nat → Nat) (Y : va_W) (fit size : Nat) (hfi : fit < 256) (hsz : size < 256) (hlc : lc ≤ 8) (hcf : ∀ k, cf k < 2) : Cv l G yX5_fillWithItem (ww yX5_fillWithItem cX5_fillWithItem 5 (none : Option ClassFile.FieldType)) (RM 1 0 0) [.ref (h 0), .ref (f 0), .int (nI fit), .int (nI size)] (fW G f lc bc ql ln rs rm bn bd pr ic fl qu rc gp ++ (sW G h bs bv cf wt ho ++ Y)) (fun w2 => ∃ g : Nat → Nat, (∀ k, g k < 2) ∧ (∀ m, pop m ≠ size → g m = cf m) ∧ (∀ m, m < 2 ^ lc → pop m = size → g m = if fst1 (cfP m fit cf) lc < lc then 1 else 0) ∧ w2 = (fW G f lc bc ql ln rs rm bn bd pr ic fl qu rc gp ++ (sW G h bs bv g wt ho ++ Y))) := by
  refine Cv.intro (by decide) (Nat.le_of_ble_eq_true rfl) ?_
  intro p e s m args below meth c A X hW ls hl
  have hx := X.exec
  have hb := X.bytes
  have hl : lv_has ls 5 [(0, .ref (h 0)), (1, .ref (f 0)), (2, .int (nI fit)), (3, .int (nI size))] := hl
  have h256 := p2_256 hlc
  have hpos := Nat.two_pow_pos lc
  have loop : ∀ (n : Nat) (k : Nat) (g : Nat → Nat), 2 ^ lc + 1 ≤ k + n → k ≤ 2 ^ lc → (∀ m, g m < 2) → (∀ m, pop m ≠ size → g m = cf m) → (∀ m, m < k → pop m = size → g m = if fst1 (cfP m fit cf) lc < lc then 1 else 0) → (∀ m, k ≤ m → pop m = size → g m = cf m) → ∀ (H : Heap) (locs : List Loc) (ls : Array Slot), Wd G A s (fW G f lc bc ql ln rs rm bn bd pr ic fl qu rc gp ++ (sW G h bs bv g wt ho ++ Y)) H locs → lv_has ls 5 [(0, .ref (h 0)), (1, .ref (f 0)), (2, .int (nI fit)), (3, .int (nI size)), (4, .int (nI k))] → W p l e (RM 1 0 0) s m args below meth c H locs 0 0 (MQ below (Qv G A (fun w2 => ∃ g : Nat → Nat, (∀ k, g k < 2) ∧ (∀ m, pop m ≠ size → g m = cf m) ∧ (∀ m, m < 2 ^ lc → pop m = size → g m = if fst1 (cfP m fit cf) lc < lc then 1 else 0) ∧ w2 = (fW G f lc bc ql ln rs rm bn bd pr ic fl qu rc gp ++ (sW G h bs bv g wt ho ++ Y)))) args s (RM 1 0 0).cells (RM 1 0 0).slots A) (F0 m 3 ls []) := by
    intro n
    induction n with
    | zero => intro k g h1 h2 h3 h4 h5 h6; exact absurd h1 (by omega)
    | succ n ih =>
      intro k g h1 h2 h3 h4 h5 h6 H locs ls hW hl
      refine lv_iload hx hb dX5_fillWithItem_3 (lv_at hl 4 rfl) ?_
      refine lv_iconst (v := nI 1) hx hb dX5_fillWithItem_5 (by decide) ?_
      refine lv_aload_n hx hb dX5_fillWithItem_6 rfl (lv_at hl 1 rfl) ?_
      refine x_getN X hW 0 rfl 11 rfl rfl iwX1 (by decide) wq_149 rfl dX5_fillWithItem_7 ?_
      refine n_ishl1 hx hb (by omega) dX5_fillWithItem_10 ?_
      refine n_icmp_ge hx hb rfl rfl (by omega) (by omega) (tgt := 44) dX5_fillWithItem_11 (by decide) (fun c_11 => ?_) (fun c_11 => ?_)
      · exact ret_v X hW (⟨g, h3, h4, fun m hm => h5 m (by omega), rfl⟩) rfl (by decide) (by decide) dX5_fillWithItem_44
      · refine lv_iload hx hb dX5_fillWithItem_14 (lv_at hl 4 rfl) ?_
        refine go_i X hW (run_S X hW (As := [.int (nI k)]) (rest := []) (c_J6_bitCount_0f7a4 l G k (fW G f lc bc ql ln rs rm bn bd pr ic fl qu rc gp ++ (sW G h bs bv g wt ho ++ Y)) (by omega) _) (gi_S wq_372 wq_348 wq_84 wq_349) hyJ6_bitCount_0f7a4 rfl rfl hl.1 (Nat.le_of_ble_eq_true rfl) ⟨Nat.le_of_ble_eq_true rfl, Nat.le_of_ble_eq_true rfl⟩ ⟨by decide, by decide⟩ dX5_fillWithItem_16) (fun r w2 H locs hp hW => ?_)
        obtain ⟨rfl, rfl⟩ := hp
        refine lv_iload_n hx hb dX5_fillWithItem_19 rfl (lv_at hl 3 rfl) ?_
        refine n_icmp_ne hx hb rfl rfl (by have := pop_le k; omega) (by omega) (tgt := 38) dX5_fillWithItem_20 (by decide) (fun c_20 => ?_) (fun c_20 => ?_)
        · refine lv_iinc (v := (nI (k + 1))) (lv' := [(4, .int (nI (k + 1))), (0, .ref (h 0)), (1, .ref (f 0)), (2, .int (nI fit)), (3, .int (nI size))]) hx hb dX5_fillWithItem_38 hl (k := 4) rfl (nI_add _ _) (by decide) rfl (fun ls hl => ?_)
          refine lv_goto (tgt := 3) hx hb dX5_fillWithItem_41 (by decide) ?_
          exact ih (k + 1) g (by omega) (by omega) h3 h4 (fun m hm hs => by rcases Nat.lt_or_ge m k with q | q; exact h5 m q hs; exact absurd (by rw [show k = m by omega]; exact hs) c_20) (fun m hm hs => h6 m (by omega) hs) _ _ _ hW (lv_sub hl [1, 2, 3, 4, 0] rfl)
        · refine lv_aload_n hx hb dX5_fillWithItem_23 rfl (lv_at hl 0 rfl) ?_
          refine x_get X hW 12 rfl 0 rfl rfl iwX5 (by decide) wq_191 rfl dX5_fillWithItem_24 ?_
          refine lv_iload hx hb dX5_fillWithItem_27 (lv_at hl 4 rfl) ?_
          refine lv_aload_n hx hb dX5_fillWithItem_29 rfl (lv_at hl 0 rfl) ?_
          refine lv_aload_n hx hb dX5_fillWithItem_30 rfl (lv_at hl 1 rfl) ?_
          refine lv_iload hx hb dX5_fillWithItem_31 (lv_at hl 4 rfl) ?_
          refine lv_iload_n hx hb dX5_fillWithItem_33 rfl (lv_at hl 2 rfl) ?_
          refine go_i X hW (run_V X hW (As := [.ref (f 0), .int (nI k), .int (nI fit)]) (rest := [.int (nI k), .ref (h 1)]) 8 12 rfl (c_X5_canFillWithLast l G f h lc bc ql ln rs rm bn bd pr ic fl qu rc gp bs bv g wt ho Y k fit (by omega) hfi hlc h3 _) (gi_V wq_373 wq_375 wq_19 wq_66 wq_376) rfl hyX5_canFillWithLast rfl rfl rfl hl.1 (Nat.le_of_ble_eq_true rfl) ⟨Nat.le_of_ble_eq_true rfl, Nat.le_of_ble_eq_true rfl⟩ ⟨by decide, by decide⟩ dX5_fillWithItem_34) (fun r w2 H locs hp hW => ?_)
          obtain ⟨rfl, rfl⟩ := hp
          refine n_zast X hW (n := 256) (f := g) 13 rfl (w2 := (fW G f lc bc ql ln rs rm bn bd pr ic fl qu rc gp ++ (sW G h bs bv (va_up g k (if fst1 (cfP k fit g) lc < lc then 1 else 0)) wt ho ++ Y))) rfl (by omega) (by decide) (by split <;> decide) dX5_fillWithItem_37 (fun H locs hW => ?_)
          refine lv_iinc (v := (nI (k + 1))) (lv' := [(4, .int (nI (k + 1))), (0, .ref (h 0)), (1, .ref (f 0)), (2, .int (nI fit)), (3, .int (nI size))]) hx hb dX5_fillWithItem_38 hl (k := 4) rfl (nI_add _ _) (by decide) rfl (fun ls hl => ?_)
          refine lv_goto (tgt := 3) hx hb dX5_fillWithItem_41 (by decide) ?_
          have ec := cfP_congr (lots := k) (fit := fit) (lc := lc) (cf := g) (cf2 := cf) (by omega) hlc (fun m _ hs => h4 m (by omega))
          exact ih (k + 1) _ (by omega) (by omega) (fun m => by unfold va_up; split; (split <;> decide); exact h3 m) (fun m hm => by unfold va_up; split; rename_i q; rw [q] at hm; exact absurd c_20 hm; exact h4 m hm) (fun m hm hs => by unfold va_up; split; rename_i q; rw [q, ec]; exact h5 m (by omega) hs) (fun m hm hs => by unfold va_up; split; omega; exact h6 m (by omega) hs) _ _ _ hW (lv_sub hl [1, 2, 3, 4, 0] rfl)
  refine lv_iconst (v := nI 0) hx hb dX5_fillWithItem_0 (by decide) ?_
  refine lv_istore (lv' := [(4, .int (nI 0)), (0, .ref (h 0)), (1, .ref (f 0)), (2, .int (nI fit)), (3, .int (nI size))]) hx hb dX5_fillWithItem_1 hl (by decide) rfl (fun ls hl => ?_)
  exact loop (2 ^ lc + 1) 0 cf (by omega) (by omega) hcf (fun _ _ => rfl) (fun m hm => absurd hm (by omega)) (fun _ _ _ => rfl) _ _ _ hW (lv_sub hl [1, 2, 3, 4, 0] rfl)

/-- the least sum of reserves over the sets of lots below n that are of a size and can be filled -/
def lfl (cf rm : Nat → Nat) (size n : Nat) : Nat := match n with
  | 0 => 1000000
  | n + 1 => if cf n ≠ 0 ∧ pop n = size then min (lfl cf rm size n) (rm n) else lfl cf rm size n
theorem lfl_le (cf rm : Nat → Nat) (size n : Nat) : lfl cf rm size n ≤ 1000000 := by
  induction n with
  | zero => exact Nat.le_refl _
  | succ n ih => rw [lfl]; split <;> omega
set_option maxRecDepth 100000 in
set_option maxHeartbeats 4000000 in
theorem c_X5_leastFilled (l : Launch) (G : Gt) (f h : Nat → Nat) (lc bc ql : Nat) (ln rs rm bn bd pr ic fl qu rc : Nat → Nat) (gp : Nat → Int) (bs : Nat) (bv : Int) (cf wt ho : Nat → Nat) (Y : va_W) (size : Nat) (hsz : size < 256) (hlc : lc ≤ 8) (hcf : ∀ k, cf k < 2) (hrm : ∀ k, k < 2 ^ lc → rm k < 1000000) : Ci l G yX5_leastFilled (ww yX5_leastFilled cX5_leastFilled 5 (some FieldType.int)) (RM 1 0 0) [.ref (h 0), .ref (f 0), .int (nI size)] (fW G f lc bc ql ln rs rm bn bd pr ic fl qu rc gp ++ (sW G h bs bv cf wt ho ++ Y)) (fun r w2 => r = zI (if (lfl cf rm size (2 ^ lc)) < 1000000 then (((lfl cf rm size (2 ^ lc)) : Nat) : Int) else -1) ∧ w2 = (fW G f lc bc ql ln rs rm bn bd pr ic fl qu rc gp ++ (sW G h bs bv cf wt ho ++ Y))) := by
  refine Ci.intro (by decide) (Nat.le_of_ble_eq_true rfl) ?_
  intro p e s m args below meth c A X hW ls hl
  have hx := X.exec
  have hb := X.bytes
  have hl : lv_has ls 5 [(0, .ref (h 0)), (1, .ref (f 0)), (2, .int (nI size))] := hl
  have h256 := p2_256 hlc
  have hpos := Nat.two_pow_pos lc
  have loop : ∀ (n : Nat) (k : Nat), 2 ^ lc + 1 ≤ k + n → k ≤ 2 ^ lc → ∀ (H : Heap) (locs : List Loc) (ls : Array Slot), Wd G A s (fW G f lc bc ql ln rs rm bn bd pr ic fl qu rc gp ++ (sW G h bs bv cf wt ho ++ Y)) H locs → lv_has ls 5 [(0, .ref (h 0)), (1, .ref (f 0)), (2, .int (nI size)), (3, .int (nI (lfl cf rm size k))), (4, .int (nI k))] → W p l e (RM 1 0 0) s m args below meth c H locs 0 0 (MQ below (Qi G A (fun r w2 => r = zI (if (lfl cf rm size (2 ^ lc)) < 1000000 then (((lfl cf rm size (2 ^ lc)) : Nat) : Int) else -1) ∧ w2 = (fW G f lc bc ql ln rs rm bn bd pr ic fl qu rc gp ++ (sW G h bs bv cf wt ho ++ Y)))) args s (RM 1 0 0).cells (RM 1 0 0).slots A) (F0 m 6 ls []) := by
    intro n
    induction n with
    | zero => intro k h1 h2; exact absurd h1 (by omega)
    | succ n ih =>
      intro k h1 h2 H locs ls hW hl
      refine lv_iload hx hb dX5_leastFilled_6 (lv_at hl 4 rfl) ?_
      refine lv_iconst (v := nI 1) hx hb dX5_leastFilled_8 (by decide) ?_
      refine lv_aload_n hx hb dX5_leastFilled_9 rfl (lv_at hl 1 rfl) ?_
      refine x_getN X hW 0 rfl 11 rfl rfl iwX1 (by decide) wq_149 rfl dX5_leastFilled_10 ?_
      refine n_ishl1 hx hb (by omega) dX5_leastFilled_13 ?_
      refine n_icmp_ge hx hb rfl rfl (by omega) (by omega) (tgt := 54) dX5_leastFilled_14 (by decide) (fun c_14 => ?_) (fun c_14 => ?_)
      · refine lv_iload_n hx hb dX5_leastFilled_54 rfl (lv_at hl 3 rfl) ?_
        refine lv_ldc (v := (nI 1000000)) hx hb X.own (X.ws _ wq_381) dX5_leastFilled_55 ?_
        refine n_icmp_ge hx hb rfl rfl (by have := lfl_le cf rm size k; omega) (by omega) (tgt := 64) dX5_leastFilled_57 (by decide) (fun c_57 => ?_) (fun c_57 => ?_)
        · refine lv_iconst (v := zI (-1)) hx hb dX5_leastFilled_64 (by decide) ?_
          exact ret_i X hW (v := (zI (-1))) (⟨by rw [if_neg (by rw [show 2 ^ lc = k by omega]; omega)], rfl⟩) rfl (by decide) (by decide) dX5_leastFilled_65
        · refine lv_iload_n hx hb dX5_leastFilled_60 rfl (lv_at hl 3 rfl) ?_
          refine lv_goto (tgt := 65) hx hb dX5_leastFilled_61 (by decide) ?_
          exact ret_i X hW (v := (nI (lfl cf rm size k))) (⟨by rw [if_pos (by rw [show 2 ^ lc = k by omega]; omega), show 2 ^ lc = k by omega]; exact nZ _, rfl⟩) rfl (by decide) (by decide) dX5_leastFilled_65
      · refine lv_aload_n hx hb dX5_leastFilled_17 rfl (lv_at hl 0 rfl) ?_
        refine x_get X hW 12 rfl 0 rfl rfl iwX5 (by decide) wq_191 rfl dX5_leastFilled_18 ?_
        refine lv_iload hx hb dX5_leastFilled_21 (lv_at hl 4 rfl) ?_
        refine n_zald X hW (n := 256) (f := cf) 13 rfl (by omega) (by decide) dX5_leastFilled_23 ?_
        refine n_if_eq hx hb rfl (by have := hcf k; omega) (tgt := 48) dX5_leastFilled_24 (by decide) (fun c_24 => ?_) (fun c_24 => ?_)
        · refine lv_iinc (v := (nI (k + 1))) (lv' := [(4, .int (nI (k + 1))), (0, .ref (h 0)), (1, .ref (f 0)), (2, .int (nI size)), (3, .int (nI (lfl cf rm size k)))]) hx hb dX5_leastFilled_48 hl (k := 4) rfl (nI_add _ _) (by decide) rfl (fun ls hl => ?_)
          refine lv_goto (tgt := 6) hx hb dX5_leastFilled_51 (by decide) ?_
          exact ih (k + 1) (by omega) (by omega) _ _ _ hW (by rw [show lfl cf rm size (k + 1) = (lfl cf rm size k) by rw [lfl, if_neg (by rw [c_24]; exact fun q => q.1 rfl)]]; exact lv_sub hl [1, 2, 3, 4, 0] rfl)
        · refine lv_iload hx hb dX5_leastFilled_27 (lv_at hl 4 rfl) ?_
          refine go_i X hW (run_S X hW (As := [.int (nI k)]) (rest := []) (c_J6_bitCount_0f7a4 l G k (fW G f lc bc ql ln rs rm bn bd pr ic fl qu rc gp ++ (sW G h bs bv cf wt ho ++ Y)) (by omega) _) (gi_S wq_372 wq_348 wq_84 wq_349) hyJ6_bitCount_0f7a4 rfl rfl hl.1 (Nat.le_of_ble_eq_true rfl) ⟨Nat.le_of_ble_eq_true rfl, Nat.le_of_ble_eq_true rfl⟩ ⟨by decide, by decide⟩ dX5_leastFilled_29) (fun r w2 H locs hp hW => ?_)
          obtain ⟨rfl, rfl⟩ := hp
          refine lv_iload_n hx hb dX5_leastFilled_32 rfl (lv_at hl 2 rfl) ?_
          refine n_icmp_ne hx hb rfl rfl (by have := pop_le k; omega) (by omega) (tgt := 48) dX5_leastFilled_33 (by decide) (fun c_33 => ?_) (fun c_33 => ?_)
          · refine lv_iinc (v := (nI (k + 1))) (lv' := [(4, .int (nI (k + 1))), (0, .ref (h 0)), (1, .ref (f 0)), (2, .int (nI size)), (3, .int (nI (lfl cf rm size k)))]) hx hb dX5_leastFilled_48 hl (k := 4) rfl (nI_add _ _) (by decide) rfl (fun ls hl => ?_)
            refine lv_goto (tgt := 6) hx hb dX5_leastFilled_51 (by decide) ?_
            exact ih (k + 1) (by omega) (by omega) _ _ _ hW (by rw [show lfl cf rm size (k + 1) = (lfl cf rm size k) by rw [lfl, if_neg (fun q => c_33 q.2)]]; exact lv_sub hl [1, 2, 3, 4, 0] rfl)
          · refine lv_iload_n hx hb dX5_leastFilled_36 rfl (lv_at hl 3 rfl) ?_
            refine lv_aload_n hx hb dX5_leastFilled_37 rfl (lv_at hl 1 rfl) ?_
            refine x_getN X hW 0 rfl 2 rfl rfl iwX1 (by decide) wq_134 rfl dX5_leastFilled_38 ?_
            refine lv_iload hx hb dX5_leastFilled_41 (lv_at hl 4 rfl) ?_
            refine n_iald X hW (n := 256) (f := rm) 3 rfl (by omega) (by decide) dX5_leastFilled_43 ?_
            refine x_min X hl.1 (by have := lfl_le cf rm size k; omega) (by have := hrm k c_14; omega) wq_382 (Nat.le_of_ble_eq_true rfl) (Nat.le_of_ble_eq_true rfl) (by decide) (by decide) dX5_leastFilled_44 ?_
            refine lv_istore_n (lv' := [(3, .int (nI (min (lfl cf rm size k) (rm k)))), (0, .ref (h 0)), (1, .ref (f 0)), (2, .int (nI size)), (4, .int (nI k))]) hx hb dX5_leastFilled_47 rfl hl (by decide) rfl (fun ls hl => ?_)
            refine lv_iinc (v := (nI (k + 1))) (lv' := [(4, .int (nI (k + 1))), (3, .int (nI (min (lfl cf rm size k) (rm k)))), (0, .ref (h 0)), (1, .ref (f 0)), (2, .int (nI size))]) hx hb dX5_leastFilled_48 hl (k := 4) rfl (nI_add _ _) (by decide) rfl (fun ls hl => ?_)
            refine lv_goto (tgt := 6) hx hb dX5_leastFilled_51 (by decide) ?_
            exact ih (k + 1) (by omega) (by omega) _ _ _ hW (by rw [show lfl cf rm size (k + 1) = (min (lfl cf rm size k) (rm k)) by rw [lfl, if_pos ⟨c_24, c_33⟩]]; exact lv_sub hl [2, 3, 4, 1, 0] rfl)
  refine lv_ldc (v := (nI 1000000)) hx hb X.own (X.ws _ wq_381) dX5_leastFilled_0 ?_
  refine lv_istore_n (lv' := [(3, .int (nI 1000000)), (0, .ref (h 0)), (1, .ref (f 0)), (2, .int (nI size))]) hx hb dX5_leastFilled_2 rfl hl (by decide) rfl (fun ls hl => ?_)
  refine lv_iconst (v := nI 0) hx hb dX5_leastFilled_3 (by decide) ?_
  refine lv_istore (lv' := [(4, .int (nI 0)), (3, .int (nI 1000000)), (0, .ref (h 0)), (1, .ref (f 0)), (2, .int (nI size))]) hx hb dX5_leastFilled_4 hl (by decide) rfl (fun ls hl => ?_)
  exact loop (2 ^ lc + 1) 0 (by omega) (by omega) _ _ _ hW (lv_sub hl [2, 3, 4, 1, 0] rfl)

