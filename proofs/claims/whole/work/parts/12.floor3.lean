def inB (bn : Nat → Nat) (bc no : Nat) : Nat := if fst1 (fun k => decide (bn k = no)) bc < bc then 2 ^ fst1 (fun k => decide (bn k = no)) bc else 0
set_option maxRecDepth 100000 in
set_option maxHeartbeats 4000000 in
theorem c_X1_setOf (l : Launch) (G : Gt) (f : Nat → Nat) (lc bc ql : Nat) (ln rs rm bn bd pr ic fl qu rc : Nat → Nat) (gp : Nat → Int) (Y : va_W) (no : Nat) (hno : no < 2 ^ 31) (hbc : bc ≤ 8) (hbn : ∀ k, bn k < 2 ^ 31) : Ci l G yX1_setOf (ww yX1_setOf cX1_setOf 3 (some FieldType.int)) (RM 1 0 0) [.ref (f 0), .int (nI no)] (fW G f lc bc ql ln rs rm bn bd pr ic fl qu rc gp ++ Y) (fun r w2 => r = nI (inB bn bc no) ∧ w2 = (fW G f lc bc ql ln rs rm bn bd pr ic fl qu rc gp ++ Y)) := by
  refine Ci.intro (by decide) (Nat.le_of_ble_eq_true rfl) ?_
  intro p e s m args below meth c A X hW ls hl
  have hx := X.exec
  have hb := X.bytes
  have hl : lv_has ls 3 [(0, .ref (f 0)), (1, .int (nI no))] := hl
  refine lv_aload_n hx hb dX1_setOf_0 rfl (lv_at hl 0 rfl) ?_
  refine lv_iload_n hx hb dX1_setOf_1 rfl (lv_at hl 1 rfl) ?_
  refine go_i X hW (run_V X hW (As := [.int (nI no)]) (rest := []) 4 0 rfl (c_X1_placeOf l G f lc bc ql ln rs rm bn bd pr ic fl qu rc gp Y no hno hbc hbn _) (gi_V wq_980 wq_982 wq_42 wq_65 wq_983) rfl hyX1_placeOf rfl rfl rfl hl.1 (Nat.le_of_ble_eq_true rfl) ⟨Nat.le_of_ble_eq_true rfl, Nat.le_of_ble_eq_true rfl⟩ ⟨by decide, by decide⟩ dX1_setOf_2) (fun r w2 H locs hp hW => ?_)
  obtain ⟨rfl, rfl⟩ := hp
  refine lv_istore_n (lv' := [(2, .int (zI (orNo (decide ((fst1 (fun k => decide (bn k = no)) bc) < bc)) (fst1 (fun k => decide (bn k = no)) bc)))), (0, .ref (f 0)), (1, .int (nI no))]) hx hb dX1_setOf_5 rfl hl (by decide) rfl (fun ls hl => ?_)
  have hF := fst1_le (fun k => decide (bn k = no)) bc
  have hO : orNo (decide ((fst1 (fun k => decide (bn k = no)) bc) < bc)) (fst1 (fun k => decide (bn k = no)) bc) = if (fst1 (fun k => decide (bn k = no)) bc) < bc then (((fst1 (fun k => decide (bn k = no)) bc) : Nat) : Int) else -1 := by unfold orNo; split <;> simp_all
  refine lv_iload_n hx hb dX1_setOf_6 rfl (lv_at hl 0 rfl) ?_
  refine z_if_ge hx hb rfl (by rw [hO]; split <;> omega) (tgt := 14) dX1_setOf_7 (by decide) (fun c_7 => ?_) (fun c_7 => ?_)
  · have hlt : (fst1 (fun k => decide (bn k = no)) bc) < bc := by rw [hO] at c_7; split at c_7 <;> omega
    rw [hO, if_pos hlt, ← nZ] at hl
    refine lv_iconst (v := nI 1) hx hb dX1_setOf_14 (by decide) ?_
    refine lv_iload_n hx hb dX1_setOf_15 rfl (lv_at hl 0 rfl) ?_
    refine n_ishl1 hx hb (by omega) dX1_setOf_16 ?_
    exact ret_i X hW (v := (nI (2 ^ (fst1 (fun k => decide (bn k = no)) bc)))) (⟨by rw [inB, if_pos hlt], rfl⟩) rfl (by decide) (by decide) dX1_setOf_17
  · have hge : ¬ (fst1 (fun k => decide (bn k = no)) bc) < bc := by rw [hO] at c_7; split at c_7 <;> omega
    refine lv_iconst (v := nI 0) hx hb dX1_setOf_10 (by decide) ?_
    refine lv_goto (tgt := 17) hx hb dX1_setOf_11 (by decide) ?_
    exact ret_i X hW (v := (nI 0)) (⟨by rw [inB, if_neg hge], rfl⟩) rfl (by decide) (by decide) dX1_setOf_17

set_option maxRecDepth 100000 in
set_option maxHeartbeats 4000000 in
theorem c_X1_lotGiven (l : Launch) (G : Gt) (f : Nat → Nat) (lc bc ql : Nat) (ln rs rm bn bd pr ic fl qu rc : Nat → Nat) (gp : Nat → Int) (Y : va_W) (set bp item : Nat) (hset : set < 256) (hbp : bp < 2 ^ 31) (hit : item < 8) (hbc : bc ≤ 8) (hql : ql ≤ 8) (hic : ∀ k, ic k ≤ 3) (hgp : ∀ k, -1 ≤ gp k ∧ gp k < 8) : Ci l G yX1_lotGiven (ww yX1_lotGiven cX1_lotGiven 6 (some FieldType.int)) (RM 0 0 0) [.ref (f 0), .int (nI set), .int (nI bp), .int (nI item)] (fW G f lc bc ql ln rs rm bn bd pr ic fl qu rc gp ++ Y) (fun r w2 => r = (if (item + bsum set.testBit ic (min bp bc)) < ql ∧ 0 ≤ gp (item + bsum set.testBit ic (min bp bc)) then nI (ln (gp (item + bsum set.testBit ic (min bp bc))).toNat) else zI (-1)) ∧ w2 = (fW G f lc bc ql ln rs rm bn bd pr ic fl qu rc gp ++ Y)) := by
  refine Ci.intro (by decide) (Nat.le_of_ble_eq_true rfl) ?_
  intro p e s m args below meth c A X hW ls hl
  have hx := X.exec
  have hb := X.bytes
  have hl : lv_has ls 6 [(0, .ref (f 0)), (1, .int (nI set)), (2, .int (nI bp)), (3, .int (nI item))] := hl
  have loop : ∀ (n : Nat) (k : Nat), bc + 1 ≤ k + n → k ≤ bc → k ≤ bp → ∀ (H : Heap) (locs : List Loc) (ls : Array Slot), Wd G A s (fW G f lc bc ql ln rs rm bn bd pr ic fl qu rc gp ++ Y) H locs → lv_has ls 6 [(0, .ref (f 0)), (1, .int (nI set)), (2, .int (nI bp)), (3, .int (nI item)), (4, .int (nI (item + bsum set.testBit ic k))), (5, .int (nI k))] → W p l e (RM 0 0 0) s m args below meth c H locs 0 0 (MQ below (Qi G A (fun r w2 => r = (if (item + bsum set.testBit ic (min bp bc)) < ql ∧ 0 ≤ gp (item + bsum set.testBit ic (min bp bc)) then nI (ln (gp (item + bsum set.testBit ic (min bp bc))).toNat) else zI (-1)) ∧ w2 = (fW G f lc bc ql ln rs rm bn bd pr ic fl qu rc gp ++ Y))) args s (RM 0 0 0).cells (RM 0 0 0).slots A) (F0 m 6 ls []) := by
    intro n
    induction n with
    | zero => intro k h1 h2 h3; exact absurd h1 (by omega)
    | succ n ih =>
      intro k h1 h2 h3 H locs ls hW hl
      have hp2 := fun (h : k < 8) => p2_le h
      have hs := bsum_le (p := set.testBit) k hic
      refine lv_iload hx hb dX1_lotGiven_6 (lv_at hl 5 rfl) ?_
      refine lv_iload_n hx hb dX1_lotGiven_8 rfl (lv_at hl 2 rfl) ?_
      refine n_icmp_ge hx hb rfl rfl (by omega) (by omega) (tgt := 48) dX1_lotGiven_9 (by decide) (fun c_9 => ?_) (fun c_9 => ?_)
      · have ek : min bp bc = k := by omega
        refine lv_iload hx hb dX1_lotGiven_48 (lv_at hl 4 rfl) ?_
        refine n_if_lt hx hb rfl (by omega) (tgt := 72) dX1_lotGiven_50 (by decide) (fun c_50 => absurd c_50 (by omega)) (fun c_50 => ?_)
        refine lv_iload hx hb dX1_lotGiven_53 (lv_at hl 4 rfl) ?_
        refine lv_aload_n hx hb dX1_lotGiven_55 rfl (lv_at hl 0 rfl) ?_
        refine x_get X hW 0 rfl 13 rfl rfl iwX1 (by decide) wq_154 rfl dX1_lotGiven_56 ?_
        refine n_icmp_ge hx hb rfl rfl (by omega) (by omega) (tgt := 72) dX1_lotGiven_59 (by decide) (fun c_59 => ?_) (fun c_59 => ?_)
        · refine lv_iconst (v := zI (-1)) hx hb dX1_lotGiven_72 (by decide) ?_
          exact ret_i X hW (v := (zI (-1))) (⟨by rw [ek, if_neg (by omega)], rfl⟩) rfl (by decide) (by decide) dX1_lotGiven_73
        · refine lv_aload_n hx hb dX1_lotGiven_62 rfl (lv_at hl 0 rfl) ?_
          refine x_get X hW 0 rfl 10 rfl rfl iwX1 (by decide) wq_147 rfl dX1_lotGiven_63 ?_
          refine lv_iload hx hb dX1_lotGiven_66 (lv_at hl 4 rfl) ?_
          refine z_iald X hW (n := 8) (f := gp) 11 rfl (by omega) (by decide) dX1_lotGiven_68 ?_
          refine z_if_ge hx hb rfl (by have := hgp (item + bsum set.testBit ic k); omega) (tgt := 74) dX1_lotGiven_69 (by decide) (fun c_69 => ?_) (fun c_69 => ?_)
          · refine lv_aload_n hx hb dX1_lotGiven_74 rfl (lv_at hl 0 rfl) ?_
            refine x_get X hW 0 rfl 0 rfl rfl iwX1 (by decide) wq_130 rfl dX1_lotGiven_75 ?_
            refine lv_aload_n hx hb dX1_lotGiven_78 rfl (lv_at hl 0 rfl) ?_
            refine x_get X hW 0 rfl 10 rfl rfl iwX1 (by decide) wq_147 rfl dX1_lotGiven_79 ?_
            refine lv_iload hx hb dX1_lotGiven_82 (lv_at hl 4 rfl) ?_
            refine z_iald X hW (n := 8) (f := gp) 11 rfl (by omega) (by decide) dX1_lotGiven_84 ?_
            refine r_zn (a := (gp (item + bsum set.testBit ic k)).toNat) (by omega) ?_
            refine n_iald X hW (n := 8) (f := ln) 1 rfl (by have := hgp (item + bsum set.testBit ic k); omega) (by decide) dX1_lotGiven_85 ?_
            exact ret_i X hW (v := (nI (ln ((gp (item + bsum set.testBit ic k)).toNat)))) (⟨by rw [ek, if_pos ⟨by omega, by omega⟩], rfl⟩) rfl (by decide) (by decide) dX1_lotGiven_86
          · refine lv_iconst (v := zI (-1)) hx hb dX1_lotGiven_72 (by decide) ?_
            exact ret_i X hW (v := (zI (-1))) (⟨by rw [ek, if_neg (by omega)], rfl⟩) rfl (by decide) (by decide) dX1_lotGiven_73
      · refine lv_iload hx hb dX1_lotGiven_12 (lv_at hl 5 rfl) ?_
        refine lv_aload_n hx hb dX1_lotGiven_14 rfl (lv_at hl 0 rfl) ?_
        refine x_get X hW 0 rfl 12 rfl rfl iwX1 (by decide) wq_151 rfl dX1_lotGiven_15 ?_
        refine n_icmp_ge hx hb rfl rfl (by omega) (by omega) (tgt := 48) dX1_lotGiven_18 (by decide) (fun c_18 => ?_) (fun c_18 => ?_)
        · have ek : min bp bc = k := by omega
          refine lv_iload hx hb dX1_lotGiven_48 (lv_at hl 4 rfl) ?_
          refine n_if_lt hx hb rfl (by omega) (tgt := 72) dX1_lotGiven_50 (by decide) (fun c_50 => absurd c_50 (by omega)) (fun c_50 => ?_)
          refine lv_iload hx hb dX1_lotGiven_53 (lv_at hl 4 rfl) ?_
          refine lv_aload_n hx hb dX1_lotGiven_55 rfl (lv_at hl 0 rfl) ?_
          refine x_get X hW 0 rfl 13 rfl rfl iwX1 (by decide) wq_154 rfl dX1_lotGiven_56 ?_
          refine n_icmp_ge hx hb rfl rfl (by omega) (by omega) (tgt := 72) dX1_lotGiven_59 (by decide) (fun c_59 => ?_) (fun c_59 => ?_)
          · refine lv_iconst (v := zI (-1)) hx hb dX1_lotGiven_72 (by decide) ?_
            exact ret_i X hW (v := (zI (-1))) (⟨by rw [ek, if_neg (by omega)], rfl⟩) rfl (by decide) (by decide) dX1_lotGiven_73
          · refine lv_aload_n hx hb dX1_lotGiven_62 rfl (lv_at hl 0 rfl) ?_
            refine x_get X hW 0 rfl 10 rfl rfl iwX1 (by decide) wq_147 rfl dX1_lotGiven_63 ?_
            refine lv_iload hx hb dX1_lotGiven_66 (lv_at hl 4 rfl) ?_
            refine z_iald X hW (n := 8) (f := gp) 11 rfl (by omega) (by decide) dX1_lotGiven_68 ?_
            refine z_if_ge hx hb rfl (by have := hgp (item + bsum set.testBit ic k); omega) (tgt := 74) dX1_lotGiven_69 (by decide) (fun c_69 => ?_) (fun c_69 => ?_)
            · refine lv_aload_n hx hb dX1_lotGiven_74 rfl (lv_at hl 0 rfl) ?_
              refine x_get X hW 0 rfl 0 rfl rfl iwX1 (by decide) wq_130 rfl dX1_lotGiven_75 ?_
              refine lv_aload_n hx hb dX1_lotGiven_78 rfl (lv_at hl 0 rfl) ?_
              refine x_get X hW 0 rfl 10 rfl rfl iwX1 (by decide) wq_147 rfl dX1_lotGiven_79 ?_
              refine lv_iload hx hb dX1_lotGiven_82 (lv_at hl 4 rfl) ?_
              refine z_iald X hW (n := 8) (f := gp) 11 rfl (by omega) (by decide) dX1_lotGiven_84 ?_
              refine r_zn (a := (gp (item + bsum set.testBit ic k)).toNat) (by omega) ?_
              refine n_iald X hW (n := 8) (f := ln) 1 rfl (by have := hgp (item + bsum set.testBit ic k); omega) (by decide) dX1_lotGiven_85 ?_
              exact ret_i X hW (v := (nI (ln ((gp (item + bsum set.testBit ic k)).toNat)))) (⟨by rw [ek, if_pos ⟨by omega, by omega⟩], rfl⟩) rfl (by decide) (by decide) dX1_lotGiven_86
            · refine lv_iconst (v := zI (-1)) hx hb dX1_lotGiven_72 (by decide) ?_
              exact ret_i X hW (v := (zI (-1))) (⟨by rw [ek, if_neg (by omega)], rfl⟩) rfl (by decide) (by decide) dX1_lotGiven_73
        · refine lv_iload_n hx hb dX1_lotGiven_21 rfl (lv_at hl 1 rfl) ?_
          refine lv_iconst (v := nI 1) hx hb dX1_lotGiven_22 (by decide) ?_
          refine lv_iload hx hb dX1_lotGiven_23 (lv_at hl 5 rfl) ?_
          refine n_ishl1 hx hb (by omega) dX1_lotGiven_25 ?_
          refine n_iand hx hb dX1_lotGiven_26 ?_
          refine n_if_eq hx hb rfl (by have := @and_lt set (2 ^ k) 256 hset; omega) (tgt := 42) dX1_lotGiven_27 (by decide) (fun c_27 => ?_) (fun c_27 => ?_)
          · refine lv_iinc (v := (nI (k + 1))) (lv' := [(5, .int (nI (k + 1))), (0, .ref (f 0)), (1, .int (nI set)), (2, .int (nI bp)), (3, .int (nI item)), (4, .int (nI (item + bsum set.testBit ic k)))]) hx hb dX1_lotGiven_42 hl (k := 5) rfl (nI_add _ _) (by decide) rfl (fun ls hl => ?_)
            refine lv_goto (tgt := 6) hx hb dX1_lotGiven_45 (by decide) ?_
            exact ih (k + 1) (by omega) (by omega) (by omega) _ _ _ hW (by rw [show item + bsum set.testBit ic (k + 1) = (item + bsum set.testBit ic k) by rw [bsum_f (bit_f c_27)]]; exact lv_sub hl [1, 2, 3, 4, 5, 0] rfl)
          · refine lv_iload hx hb dX1_lotGiven_30 (lv_at hl 4 rfl) ?_
            refine lv_aload_n hx hb dX1_lotGiven_32 rfl (lv_at hl 0 rfl) ?_
            refine x_get X hW 0 rfl 6 rfl rfl iwX1 (by decide) wq_141 rfl dX1_lotGiven_33 ?_
            refine lv_iload hx hb dX1_lotGiven_36 (lv_at hl 5 rfl) ?_
            refine n_iald X hW (n := 8) (f := ic) 7 rfl (by omega) (by decide) dX1_lotGiven_38 ?_
            refine n_iadd hx hb dX1_lotGiven_39 ?_
            refine lv_istore (lv' := [(4, .int (nI ((item + bsum set.testBit ic k) + (ic k)))), (0, .ref (f 0)), (1, .int (nI set)), (2, .int (nI bp)), (3, .int (nI item)), (5, .int (nI k))]) hx hb dX1_lotGiven_40 hl (by decide) rfl (fun ls hl => ?_)
            refine lv_iinc (v := (nI (k + 1))) (lv' := [(5, .int (nI (k + 1))), (4, .int (nI ((item + bsum set.testBit ic k) + (ic k)))), (0, .ref (f 0)), (1, .int (nI set)), (2, .int (nI bp)), (3, .int (nI item))]) hx hb dX1_lotGiven_42 hl (k := 5) rfl (nI_add _ _) (by decide) rfl (fun ls hl => ?_)
            refine lv_goto (tgt := 6) hx hb dX1_lotGiven_45 (by decide) ?_
            exact ih (k + 1) (by omega) (by omega) (by omega) _ _ _ hW (by rw [show item + bsum set.testBit ic (k + 1) = ((item + bsum set.testBit ic k) + (ic k)) by rw [bsum_t (bit_t c_27), ← Nat.add_assoc]]; exact lv_sub hl [2, 3, 4, 5, 1, 0] rfl)
  refine lv_iload_n hx hb dX1_lotGiven_0 rfl (lv_at hl 3 rfl) ?_
  refine lv_istore (lv' := [(4, .int (nI item)), (0, .ref (f 0)), (1, .int (nI set)), (2, .int (nI bp)), (3, .int (nI item))]) hx hb dX1_lotGiven_1 hl (by decide) rfl (fun ls hl => ?_)
  refine lv_iconst (v := nI 0) hx hb dX1_lotGiven_3 (by decide) ?_
  refine lv_istore (lv' := [(5, .int (nI 0)), (4, .int (nI item)), (0, .ref (f 0)), (1, .int (nI set)), (2, .int (nI bp)), (3, .int (nI item))]) hx hb dX1_lotGiven_4 hl (by decide) rfl (fun ls hl => ?_)
  exact loop (bc + 1) 0 (by omega) (by omega) (by omega) _ _ _ hW (lv_sub hl [2, 3, 4, 5, 1, 0] rfl)

theorem tp_or {n b : Nat} (h : b < 2 ^ n) : 2 ^ n ||| b = 2 ^ n + b := by
  have := Nat.two_pow_add_eq_or_of_lt h 1
  rw [Nat.mul_one] at this
  exact this.symm
theorem bsum_congr {p q : Nat → Bool} {g g2 : Nat → Nat} {n : Nat} (h : ∀ k, k < n → p k = q k ∧ g k = g2 k) : bsum p g n = bsum q g2 n := by
  induction n with
  | zero => rfl
  | succ n ih => rw [bsum, bsum, ih (fun k hk => h k (by omega)), (h n (by omega)).1, (h n (by omega)).2]
/-- the sums of reserves of all sets of the first n lots -/
def RS (rm rs : Nat → Nat) (n : Nat) : Prop := ∀ m, m < 2 ^ n → rm m = bsum m.testBit rs n
theorem RS_add {rm rm2 rs : Nat → Nat} {n r : Nat} (h : RS rm rs n) (h1 : ∀ m, m < 2 ^ n → rm2 m = rm m) (h2 : ∀ m, m < 2 ^ n → rm2 (2 ^ n + m) = rm m + r) : RS rm2 (va_up rs n r) (n + 1) := by
  intro m hm
  have hc : ∀ b, bsum b (va_up rs n r) n = bsum b rs n := fun b => bsum_congr (fun k hk => ⟨rfl, by unfold va_up; rw [if_neg (by omega)]⟩)
  rw [bsum, hc]
  by_cases q : m < 2 ^ n
  · rw [h1 m q, h m q, if_neg (by rw [Nat.testBit_lt_two_pow q]; decide), Nat.add_zero]
  · obtain ⟨j, rfl⟩ : ∃ j, m = 2 ^ n + j := ⟨m - 2 ^ n, by omega⟩
    have hj : j < 2 ^ n := by rw [Nat.pow_succ] at hm; omega
    rw [h2 j hj, h j hj, Nat.testBit_two_pow_add_eq, Nat.testBit_lt_two_pow hj, if_pos (by rfl)]
    unfold va_up
    rw [if_pos rfl]
    congr 1
    exact bsum_congr (fun k hk => ⟨(Nat.testBit_two_pow_add_gt hk j).symm, rfl⟩)
set_option maxRecDepth 100000 in
set_option maxHeartbeats 4000000 in
theorem c_X1_addLot (l : Launch) (G : Gt) (f : Nat → Nat) (lc bc ql : Nat) (ln rs rm bn bd pr ic fl qu rc : Nat → Nat) (gp : Nat → Int) (Y : va_W) (no res : Nat) (hlc : lc < 8) (hRS : RS rm rs lc) : Cv l G yX1_addLot (ww yX1_addLot cX1_addLot 5 (none : Option ClassFile.FieldType)) (RM 0 0 0) [.ref (f 0), .int (nI no), .int (nI res)] (fW G f lc bc ql ln rs rm bn bd pr ic fl qu rc gp ++ Y) (fun w2 => ∃ rm2, RS rm2 (va_up rs lc res) (lc + 1) ∧ w2 = (fW G f (lc + 1) bc ql (va_up ln lc no) (va_up rs lc res) rm2 bn bd pr ic fl qu rc gp ++ Y)) := by
  refine Cv.intro (by decide) (Nat.le_of_ble_eq_true rfl) ?_
  intro p e s m args below meth c A X hW ls hl
  have hx := X.exec
  have hb := X.bytes
  have hl : lv_has ls 5 [(0, .ref (f 0)), (1, .int (nI no)), (2, .int (nI res))] := hl
  have hp := p2_le hlc
  have hpos := Nat.two_pow_pos lc
  have loop : ∀ (n : Nat) (b : Nat) (rmk : Nat → Nat), 2 ^ lc + 1 ≤ b + n → b ≤ 2 ^ lc → (∀ m, m < 2 ^ lc → rmk m = rm m) → (∀ m, m < b → rmk (2 ^ lc + m) = rm m + res) → ∀ (H : Heap) (locs : List Loc) (ls : Array Slot), Wd G A s (fW G f lc bc ql ln rs rmk bn bd pr ic fl qu rc gp ++ Y) H locs → lv_has ls 5 [(0, .ref (f 0)), (1, .int (nI no)), (2, .int (nI res)), (3, .int (nI (2 ^ lc))), (4, .int (nI b))] → W p l e (RM 0 0 0) s m args below meth c H locs 0 0 (MQ below (Qv G A (fun w2 => ∃ rm2, RS rm2 (va_up rs lc res) (lc + 1) ∧ w2 = (fW G f (lc + 1) bc ql (va_up ln lc no) (va_up rs lc res) rm2 bn bd pr ic fl qu rc gp ++ Y))) args s (RM 0 0 0).cells (RM 0 0 0).slots A) (F0 m 20 ls []) := by
    intro n
    induction n with
    | zero => intro b rmk h1 h2 h3 h4; exact absurd h1 (by omega)
    | succ n ih =>
      intro b rmk h1 h2 h3 h4 H locs ls hW hl
      refine lv_iload hx hb dX1_addLot_20 (lv_at hl 4 rfl) ?_
      refine lv_iload_n hx hb dX1_addLot_22 rfl (lv_at hl 3 rfl) ?_
      refine n_icmp_ge hx hb rfl rfl (by omega) (by omega) (tgt := 50) dX1_addLot_23 (by decide) (fun c_23 => ?_) (fun c_23 => ?_)
      · refine lv_aload_n hx hb dX1_addLot_50 rfl (lv_at hl 0 rfl) ?_
        refine x_get X hW 0 rfl 0 rfl rfl iwX1 (by decide) wq_130 rfl dX1_addLot_51 ?_
        refine lv_aload_n hx hb dX1_addLot_54 rfl (lv_at hl 0 rfl) ?_
        refine x_get X hW 0 rfl 11 rfl rfl iwX1 (by decide) wq_148 rfl dX1_addLot_55 ?_
        refine lv_iload_n hx hb dX1_addLot_58 rfl (lv_at hl 1 rfl) ?_
        refine n_iast X hW (n := 8) (f := ln) 1 rfl (w2 := (fW G f lc bc ql (va_up ln lc no) rs rmk bn bd pr ic fl qu rc gp ++ Y)) rfl (by omega) (by decide) dX1_addLot_59 (fun H locs hW => ?_)
        refine lv_aload_n hx hb dX1_addLot_60 rfl (lv_at hl 0 rfl) ?_
        refine x_get X hW 0 rfl 1 rfl rfl iwX1 (by decide) wq_132 rfl dX1_addLot_61 ?_
        refine lv_aload_n hx hb dX1_addLot_64 rfl (lv_at hl 0 rfl) ?_
        refine x_get X hW 0 rfl 11 rfl rfl iwX1 (by decide) wq_148 rfl dX1_addLot_65 ?_
        refine lv_iload_n hx hb dX1_addLot_68 rfl (lv_at hl 2 rfl) ?_
        refine n_iast X hW (n := 8) (f := rs) 2 rfl (w2 := (fW G f lc bc ql (va_up ln lc no) (va_up rs lc res) rmk bn bd pr ic fl qu rc gp ++ Y)) rfl (by omega) (by decide) dX1_addLot_69 (fun H locs hW => ?_)
        refine lv_aload_n hx hb dX1_addLot_70 rfl (lv_at hl 0 rfl) ?_
        refine lv_dup hx hb dX1_addLot_71 rfl ?_
        refine x_get X hW 0 rfl 11 rfl rfl iwX1 (by decide) wq_148 rfl dX1_addLot_72 ?_
        refine lv_iconst (v := nI 1) hx hb dX1_addLot_75 (by decide) ?_
        refine n_iadd hx hb dX1_addLot_76 ?_
        refine x_put X hW 0 rfl 11 (w2 := (fW G f (lc + 1) bc ql (va_up ln lc no) (va_up rs lc res) rmk bn bd pr ic fl qu rc gp ++ Y)) rfl rfl iwX1 tyX1_ok nmX1 (by decide) wq_148 rfl rfl rfl rfl (Nat.le_of_ble_eq_true rfl) dX1_addLot_77 (fun H locs hW => ?_)
        exact ret_v X hW (⟨rmk, RS_add hRS h3 (fun m hm => h4 m (by omega)), rfl⟩) rfl (by decide) (by decide) dX1_addLot_80
      · refine lv_aload_n hx hb dX1_addLot_26 rfl (lv_at hl 0 rfl) ?_
        refine x_get X hW 0 rfl 2 rfl rfl iwX1 (by decide) wq_133 rfl dX1_addLot_27 ?_
        refine lv_iload_n hx hb dX1_addLot_30 rfl (lv_at hl 3 rfl) ?_
        refine lv_iload hx hb dX1_addLot_31 (lv_at hl 4 rfl) ?_
        refine n_ior hx hb dX1_addLot_33 ?_
        refine lv_aload_n hx hb dX1_addLot_34 rfl (lv_at hl 0 rfl) ?_
        refine x_get X hW 0 rfl 2 rfl rfl iwX1 (by decide) wq_133 rfl dX1_addLot_35 ?_
        refine lv_iload hx hb dX1_addLot_38 (lv_at hl 4 rfl) ?_
        refine n_iald X hW (n := 256) (f := rmk) 3 rfl (by omega) (by decide) dX1_addLot_40 ?_
        refine lv_iload_n hx hb dX1_addLot_41 rfl (lv_at hl 2 rfl) ?_
        refine n_iadd hx hb dX1_addLot_42 ?_
        refine n_iast X hW (n := 256) (f := rmk) 3 rfl (w2 := (fW G f lc bc ql ln rs (va_up rmk ((2 ^ lc) ||| b) ((rmk b) + res)) bn bd pr ic fl qu rc gp ++ Y)) rfl (or_lt (by omega) (by omega)) (by decide) dX1_addLot_43 (fun H locs hW => ?_)
        refine lv_iinc (v := (nI (b + 1))) (lv' := [(4, .int (nI (b + 1))), (0, .ref (f 0)), (1, .int (nI no)), (2, .int (nI res)), (3, .int (nI (2 ^ lc)))]) hx hb dX1_addLot_44 hl (k := 4) rfl (nI_add _ _) (by decide) rfl (fun ls hl => ?_)
        refine lv_goto (tgt := 20) hx hb dX1_addLot_47 (by decide) ?_
        exact ih (b + 1) _ (by omega) (by omega) (fun m hm => by unfold va_up; rw [if_neg (by rw [tp_or (by omega)]; omega)]; exact h3 m hm) (fun m hm => by unfold va_up; rw [tp_or (by omega)]; split; rw [h3 b (by omega)]; rw [show m = b by omega]; exact h4 m (by omega)) _ _ _ hW (lv_sub hl [1, 2, 3, 4, 0] rfl)
  refine lv_aload_n hx hb dX1_addLot_0 rfl (lv_at hl 0 rfl) ?_
  refine x_get X hW 0 rfl 11 rfl rfl iwX1 (by decide) wq_148 rfl dX1_addLot_1 ?_
  refine lv_bipush (v := nI 8) hx hb dX1_addLot_4 (by decide) ?_
  refine n_icmp_lt hx hb rfl rfl (by omega) (by omega) (tgt := 10) dX1_addLot_6 (by decide) (fun c_6 => ?_) (fun c_6 => absurd c_6 (by omega))
  refine lv_iconst (v := nI 1) hx hb dX1_addLot_10 (by decide) ?_
  refine lv_aload_n hx hb dX1_addLot_11 rfl (lv_at hl 0 rfl) ?_
  refine x_get X hW 0 rfl 11 rfl rfl iwX1 (by decide) wq_148 rfl dX1_addLot_12 ?_
  refine n_ishl1 hx hb (by omega) dX1_addLot_15 ?_
  refine lv_istore_n (lv' := [(3, .int (nI (2 ^ lc))), (0, .ref (f 0)), (1, .int (nI no)), (2, .int (nI res))]) hx hb dX1_addLot_16 rfl hl (by decide) rfl (fun ls hl => ?_)
  refine lv_iconst (v := nI 0) hx hb dX1_addLot_17 (by decide) ?_
  refine lv_istore (lv' := [(4, .int (nI 0)), (3, .int (nI (2 ^ lc))), (0, .ref (f 0)), (1, .int (nI no)), (2, .int (nI res))]) hx hb dX1_addLot_18 hl (by decide) rfl (fun ls hl => ?_)
  exact loop (2 ^ lc + 1) 0 rm (by omega) (by omega) (fun _ _ => rfl) (fun m hm => absurd hm (by omega)) _ _ _ hW (lv_sub hl [2, 3, 4, 1, 0] rfl)

set_option maxRecDepth 100000 in
set_option maxHeartbeats 4000000 in
theorem c_X1_addBid (l : Launch) (G : Gt) (f : Nat → Nat) (lc bc ql : Nat) (ln rs rm bn bd pr ic fl qu rc : Nat → Nat) (gp : Nat → Int) (Y : va_W) (no who price : Nat) (hbc : bc < 8) : Cv l G yX1_addBid (ww yX1_addBid cX1_addBid 4 (none : Option ClassFile.FieldType)) (RM 0 0 0) [.ref (f 0), .int (nI no), .int (nI who), .int (nI price)] (fW G f lc bc ql ln rs rm bn bd pr ic fl qu rc gp ++ Y) (fun w2 => w2 = (fW G f lc (bc + 1) ql ln rs rm (va_up bn bc no) (va_up bd bc who) (va_up pr bc price) (va_up ic bc 0) fl qu rc gp ++ Y)) := by
  refine Cv.intro (by decide) (Nat.le_of_ble_eq_true rfl) ?_
  intro p e s m args below meth c A X hW ls hl
  have hx := X.exec
  have hb := X.bytes
  have hl : lv_has ls 4 [(0, .ref (f 0)), (1, .int (nI no)), (2, .int (nI who)), (3, .int (nI price))] := hl
  refine lv_aload_n hx hb dX1_addBid_0 rfl (lv_at hl 0 rfl) ?_
  refine x_get X hW 0 rfl 12 rfl rfl iwX1 (by decide) wq_151 rfl dX1_addBid_1 ?_
  refine lv_bipush (v := nI 8) hx hb dX1_addBid_4 (by decide) ?_
  refine n_icmp_lt hx hb rfl rfl (by omega) (by omega) (tgt := 10) dX1_addBid_6 (by decide) (fun c_6 => ?_) (fun c_6 => absurd c_6 (by omega))
  refine lv_aload_n hx hb dX1_addBid_10 rfl (lv_at hl 0 rfl) ?_
  refine x_get X hW 0 rfl 3 rfl rfl iwX1 (by decide) wq_135 rfl dX1_addBid_11 ?_
  refine lv_aload_n hx hb dX1_addBid_14 rfl (lv_at hl 0 rfl) ?_
  refine x_get X hW 0 rfl 12 rfl rfl iwX1 (by decide) wq_151 rfl dX1_addBid_15 ?_
  refine lv_iload_n hx hb dX1_addBid_18 rfl (lv_at hl 1 rfl) ?_
  refine n_iast X hW (n := 8) (f := bn) 4 rfl (w2 := (fW G f lc bc ql ln rs rm (va_up bn bc no) bd pr ic fl qu rc gp ++ Y)) rfl (by omega) (by decide) dX1_addBid_19 (fun H locs hW => ?_)
  refine lv_aload_n hx hb dX1_addBid_20 rfl (lv_at hl 0 rfl) ?_
  refine x_get X hW 0 rfl 4 rfl rfl iwX1 (by decide) wq_137 rfl dX1_addBid_21 ?_
  refine lv_aload_n hx hb dX1_addBid_24 rfl (lv_at hl 0 rfl) ?_
  refine x_get X hW 0 rfl 12 rfl rfl iwX1 (by decide) wq_151 rfl dX1_addBid_25 ?_
  refine lv_iload_n hx hb dX1_addBid_28 rfl (lv_at hl 2 rfl) ?_
  refine n_iast X hW (n := 8) (f := bd) 5 rfl (w2 := (fW G f lc bc ql ln rs rm (va_up bn bc no) (va_up bd bc who) pr ic fl qu rc gp ++ Y)) rfl (by omega) (by decide) dX1_addBid_29 (fun H locs hW => ?_)
  refine lv_aload_n hx hb dX1_addBid_30 rfl (lv_at hl 0 rfl) ?_
  refine x_get X hW 0 rfl 5 rfl rfl iwX1 (by decide) wq_139 rfl dX1_addBid_31 ?_
  refine lv_aload_n hx hb dX1_addBid_34 rfl (lv_at hl 0 rfl) ?_
  refine x_get X hW 0 rfl 12 rfl rfl iwX1 (by decide) wq_151 rfl dX1_addBid_35 ?_
  refine lv_iload_n hx hb dX1_addBid_38 rfl (lv_at hl 3 rfl) ?_
  refine n_iast X hW (n := 8) (f := pr) 6 rfl (w2 := (fW G f lc bc ql ln rs rm (va_up bn bc no) (va_up bd bc who) (va_up pr bc price) ic fl qu rc gp ++ Y)) rfl (by omega) (by decide) dX1_addBid_39 (fun H locs hW => ?_)
  refine lv_aload_n hx hb dX1_addBid_40 rfl (lv_at hl 0 rfl) ?_
  refine x_get X hW 0 rfl 6 rfl rfl iwX1 (by decide) wq_141 rfl dX1_addBid_41 ?_
  refine lv_aload_n hx hb dX1_addBid_44 rfl (lv_at hl 0 rfl) ?_
  refine x_get X hW 0 rfl 12 rfl rfl iwX1 (by decide) wq_151 rfl dX1_addBid_45 ?_
  refine lv_iconst (v := nI 0) hx hb dX1_addBid_48 (by decide) ?_
  refine n_iast X hW (n := 8) (f := ic) 7 rfl (w2 := (fW G f lc bc ql ln rs rm (va_up bn bc no) (va_up bd bc who) (va_up pr bc price) (va_up ic bc 0) fl qu rc gp ++ Y)) rfl (by omega) (by decide) dX1_addBid_49 (fun H locs hW => ?_)
  refine lv_aload_n hx hb dX1_addBid_50 rfl (lv_at hl 0 rfl) ?_
  refine lv_dup hx hb dX1_addBid_51 rfl ?_
  refine x_get X hW 0 rfl 12 rfl rfl iwX1 (by decide) wq_151 rfl dX1_addBid_52 ?_
  refine lv_iconst (v := nI 1) hx hb dX1_addBid_55 (by decide) ?_
  refine n_iadd hx hb dX1_addBid_56 ?_
  refine x_put X hW 0 rfl 12 (w2 := (fW G f lc (bc + 1) ql ln rs rm (va_up bn bc no) (va_up bd bc who) (va_up pr bc price) (va_up ic bc 0) fl qu rc gp ++ Y)) rfl rfl iwX1 tyX1_ok nmX1 (by decide) wq_151 rfl rfl rfl rfl (Nat.le_of_ble_eq_true rfl) dX1_addBid_57 (fun H locs hW => ?_)
  exact ret_v X hW (rfl) rfl (by decide) (by decide) dX1_addBid_60

set_option maxRecDepth 100000 in
set_option maxHeartbeats 4000000 in
theorem c_X1_addItem (l : Launch) (G : Gt) (f : Nat → Nat) (lc bc ql : Nat) (ln rs rm bn bd pr ic fl qu rc : Nat → Nat) (gp : Nat → Int) (Y : va_W) (fit : Nat) (hbc : bc < 8) (hic : ic bc < 3) : Cv l G yX1_addItem (ww yX1_addItem cX1_addItem 3 (none : Option ClassFile.FieldType)) (RM 0 0 0) [.ref (f 0), .int (nI fit)] (fW G f lc (bc + 1) ql ln rs rm bn bd pr ic fl qu rc gp ++ Y) (fun w2 => w2 = (fW G f lc (bc + 1) ql ln rs rm bn bd pr (va_up ic bc (ic bc + 1)) (va_up fl (bc * 3 + ic bc) fit) qu rc gp ++ Y)) := by
  refine Cv.intro (by decide) (Nat.le_of_ble_eq_true rfl) ?_
  intro p e s m args below meth c A X hW ls hl
  have hx := X.exec
  have hb := X.bytes
  have hl : lv_has ls 3 [(0, .ref (f 0)), (1, .int (nI fit))] := hl
  refine lv_aload_n hx hb dX1_addItem_0 rfl (lv_at hl 0 rfl) ?_
  refine x_get X hW 0 rfl 12 rfl rfl iwX1 (by decide) wq_151 rfl dX1_addItem_1 ?_
  refine lv_iconst (v := nI 1) hx hb dX1_addItem_4 (by decide) ?_
  refine n_isub hx hb (by omega) dX1_addItem_5 ?_
  refine r_n (Nat.add_sub_cancel bc 1) ?_
  refine lv_istore_n (lv' := [(2, .int (nI bc)), (0, .ref (f 0)), (1, .int (nI fit))]) hx hb dX1_addItem_6 rfl hl (by decide) rfl (fun ls hl => ?_)
  refine lv_iload_n hx hb dX1_addItem_7 rfl (lv_at hl 0 rfl) ?_
  refine n_if_lt hx hb rfl (by omega) (tgt := 21) dX1_addItem_8 (by decide) (fun c_8 => absurd c_8 (by omega)) (fun c_8 => ?_)
  refine lv_aload_n hx hb dX1_addItem_11 rfl (lv_at hl 1 rfl) ?_
  refine x_get X hW 0 rfl 6 rfl rfl iwX1 (by decide) wq_141 rfl dX1_addItem_12 ?_
  refine lv_iload_n hx hb dX1_addItem_15 rfl (lv_at hl 0 rfl) ?_
  refine n_iald X hW (n := 8) (f := ic) 7 rfl (by omega) (by decide) dX1_addItem_16 ?_
  refine lv_iconst (v := nI 3) hx hb dX1_addItem_17 (by decide) ?_
  refine n_icmp_lt hx hb rfl rfl (by omega) (by omega) (tgt := 22) dX1_addItem_18 (by decide) (fun c_18 => ?_) (fun c_18 => absurd c_18 (by omega))
  refine lv_aload_n hx hb dX1_addItem_22 rfl (lv_at hl 1 rfl) ?_
  refine x_get X hW 0 rfl 7 rfl rfl iwX1 (by decide) wq_143 rfl dX1_addItem_23 ?_
  refine lv_iload_n hx hb dX1_addItem_26 rfl (lv_at hl 0 rfl) ?_
  refine lv_iconst (v := nI 3) hx hb dX1_addItem_27 (by decide) ?_
  refine n_imul hx hb dX1_addItem_28 ?_
  refine lv_aload_n hx hb dX1_addItem_29 rfl (lv_at hl 1 rfl) ?_
  refine x_get X hW 0 rfl 6 rfl rfl iwX1 (by decide) wq_141 rfl dX1_addItem_30 ?_
  refine lv_iload_n hx hb dX1_addItem_33 rfl (lv_at hl 0 rfl) ?_
  refine n_iald X hW (n := 8) (f := ic) 7 rfl (by omega) (by decide) dX1_addItem_34 ?_
  refine n_iadd hx hb dX1_addItem_35 ?_
  refine lv_iload_n hx hb dX1_addItem_36 rfl (lv_at hl 2 rfl) ?_
  refine n_iast X hW (n := 24) (f := fl) 8 rfl (w2 := (fW G f lc (bc + 1) ql ln rs rm bn bd pr ic (va_up fl ((bc * 3) + (ic bc)) fit) qu rc gp ++ Y)) rfl (by omega) (by decide) dX1_addItem_37 (fun H locs hW => ?_)
  refine lv_aload_n hx hb dX1_addItem_38 rfl (lv_at hl 1 rfl) ?_
  refine x_get X hW 0 rfl 6 rfl rfl iwX1 (by decide) wq_141 rfl dX1_addItem_39 ?_
  refine lv_iload_n hx hb dX1_addItem_42 rfl (lv_at hl 0 rfl) ?_
  refine lv_dup2_11 hx hb dX1_addItem_43 rfl rfl ?_
  refine n_iald X hW (n := 8) (f := ic) 7 rfl (by omega) (by decide) dX1_addItem_44 ?_
  refine lv_iconst (v := nI 1) hx hb dX1_addItem_45 (by decide) ?_
  refine n_iadd hx hb dX1_addItem_46 ?_
  refine n_iast X hW (n := 8) (f := ic) 7 rfl (w2 := (fW G f lc (bc + 1) ql ln rs rm bn bd pr (va_up ic bc ((ic bc) + 1)) (va_up fl ((bc * 3) + (ic bc)) fit) qu rc gp ++ Y)) rfl (by omega) (by decide) dX1_addItem_47 (fun H locs hW => ?_)
  exact ret_v X hW (rfl) rfl (by decide) (by decide) dX1_addItem_48

