theorem low_ahd2 {x y : Nat} (hx : x < 256) (hy : y < 256) : (nI x &&& (nI (x ^^^ y) &&& -nI (x ^^^ y)) = 0) ↔ ahd x y = false := by
  rw [show nI x &&& (nI (x ^^^ y) &&& -nI (x ^^^ y)) = (nI (x ^^^ y) &&& -nI (x ^^^ y)) &&& nI x from Int32.and_comm _ _]
  exact low_ahd hx hy
set_option maxRecDepth 100000 in
set_option maxHeartbeats 4000000 in
theorem c_X7_isAhead (l : Launch) (G : Gt) (x y : Nat) (w : va_W) (hx8 : x < 256) (hy8 : y < 256) : Ci l G yX7_isAhead (ww yX7_isAhead cX7_isAhead 3 (some FieldType.boolean)) (RM 0 0 0) [.int (nI x), .int (nI y)] w (fun r w2 => r = nI (if ahd x y = true then 1 else 0) ∧ w2 = w) := by
  refine Ci.intro (by decide) (Nat.le_of_ble_eq_true rfl) ?_
  intro p e s m args below meth c A X hW ls hl
  have hx := X.exec
  have hb := X.bytes
  have hl : lv_has ls 3 [(0, .int (nI x)), (1, .int (nI y))] := hl
  refine lv_iload_n hx hb dX7_isAhead_0 rfl (lv_at hl 0 rfl) ?_
  refine lv_iload_n hx hb dX7_isAhead_1 rfl (lv_at hl 1 rfl) ?_
  refine n_ixor hx hb dX7_isAhead_2 ?_
  refine lv_istore_n (lv' := [(2, .int (nI (x ^^^ y))), (0, .int (nI x)), (1, .int (nI y))]) hx hb dX7_isAhead_3 rfl hl (by decide) rfl (fun ls hl => ?_)
  refine lv_iload_n hx hb dX7_isAhead_4 rfl (lv_at hl 1 rfl) ?_
  refine lv_iload_n hx hb dX7_isAhead_5 rfl (lv_at hl 0 rfl) ?_
  refine lv_iload_n hx hb dX7_isAhead_6 rfl (lv_at hl 0 rfl) ?_
  refine lv_ineg hx hb dX7_isAhead_7 ?_
  refine lv_iand hx hb dX7_isAhead_8 ?_
  refine lv_iand hx hb dX7_isAhead_9 ?_
  refine lv_if_eq (tgt := 17) hx hb dX7_isAhead_10 (by decide) (fun c_10 => ?_) (fun c_10 => ?_)
  · have hf := (low_ahd2 hx8 hy8).mp c_10
    refine lv_iconst (v := nI 0) hx hb dX7_isAhead_17 (by decide) ?_
    exact ret_z X hW (v := (nI 0)) (⟨by rw [if_neg (by rw [hf]; decide)], rfl⟩) rfl (by first | rfl | exact (pk_charN (by omega)).1) (by decide) (by decide) dX7_isAhead_18
  · have hf : ahd x y = true := by cases h : ahd x y with | true => rfl | false => exact absurd ((low_ahd2 hx8 hy8).mpr h) c_10
    refine lv_iconst (v := nI 1) hx hb dX7_isAhead_13 (by decide) ?_
    refine lv_goto (tgt := 18) hx hb dX7_isAhead_14 (by decide) ?_
    exact ret_z X hW (v := (nI 1)) (⟨by rw [if_pos hf], rfl⟩) rfl (by first | rfl | exact (pk_charN (by omega)).1) (by decide) (by decide) dX7_isAhead_18

/-- a bid of the bidder is in the set -/
def hasW (bd : Nat → Nat) (ob : Nat) (wo : Int) (s : Nat) : Prop := fst1 (fun k => s.testBit k && decide ((bd k : Int) = wo)) ob < ob
/-- the best of the sets below n without a bidder, by v their values -/
def bsM (v : Nat → Int) (bd : Nat → Nat) (ob : Nat) (wo : Int) (n : Nat) : Nat := match n with
  | 0 => 0
  | n + 1 => if n = 0 ∨ v n < v (bsM v bd ob wo n) ∨ (v n = v (bsM v bd ob wo n) ∧ ahd n (bsM v bd ob wo n) = false) ∨ fst1 (fun k => n.testBit k && decide ((bd k : Int) = wo)) ob < ob then bsM v bd ob wo n else n
theorem bsM_lt (v : Nat → Int) (bd : Nat → Nat) (ob : Nat) (wo : Int) {n : Nat} (h : 0 < n) : bsM v bd ob wo n < n := by
  induction n with
  | zero => omega
  | succ n ih =>
    rw [bsM]
    split
    · rcases Nat.eq_zero_or_pos n with q | q
      · rw [q]; exact Nat.zero_lt_one
      · have := ih q; omega
    · omega
theorem fst1_ifF {P : Nat → Bool} {n : Nat} (h : P n = false) : (if fst1 P (n + 1) < n + 1 then 1 else 0) = (if fst1 P n < n then 1 else 0) := by
  have := fst1_le P n
  rw [fst1]
  by_cases q : fst1 P n < n
  · rw [if_pos q, if_pos (show fst1 P n < n + 1 by omega), if_pos q]
  · rw [if_neg q, if_neg (show ¬ P n = true by rw [h]; decide), if_neg (Nat.lt_irrefl _), if_neg q]
theorem fst1_ifT {P : Nat → Bool} {n : Nat} (h : P n = true) : (if fst1 P (n + 1) < n + 1 then 1 else 0) = 1 := by
  have := fst1_le P n
  rw [fst1]
  split
  · rw [if_pos (by omega)]
  · first | (rw [if_pos h, if_pos (by omega)]) | (rw [if_pos (by omega)])
set_option maxRecDepth 100000 in
set_option maxHeartbeats 4000000 in
theorem c_X7_best (l : Launch) (G : Gt) (a : Nat → Nat) (th lo bi ru ol ob : Nat) (tk : Int) (fib gra res buy lst bst rea bid pri itm akf akg got : Nat → Nat) (pai : Nat → Int) (riv rf ro rs lat bat : Nat → Nat) (val : Nat → Int) (cos row ahe wan giv : Nat → Nat) (Y : va_W) (wo : Int) (hI : MIa lo bi ru ol ob fib gra res buy lst bst rea bid pri itm akf akg got pai riv rf ro rs) (hwo : -1 ≤ wo ∧ wo < 8) (hbat : ∀ k, bat k < 40) (hval : ∀ x, x < 256 → -2000000 ≤ val x ∧ val x ≤ 2000000) : Ci l G yX7_best (ww yX7_best cX7_best 6 (some FieldType.int)) (RM 1 0 0) [.ref (a 0), .int (zI wo)] (mW G a th lo bi ru ol ob tk fib gra res buy lst bst rea bid pri itm akf akg got pai riv rf ro rs lat bat val cos row ahe wan giv ++ Y) (fun r w2 => r = nI (bsM val (fun k => bid (bat k)) ob wo 256) ∧ w2 = (mW G a th lo bi ru ol ob tk fib gra res buy lst bst rea bid pri itm akf akg got pai riv rf ro rs lat bat val cos row ahe wan giv ++ Y)) := by
  refine Ci.intro (by decide) (Nat.le_of_ble_eq_true rfl) ?_
  intro p e s m args below meth c A X hW ls hl
  have hx := X.exec
  have hb := X.bytes
  have hl : lv_has ls 6 [(0, .ref (a 0)), (1, .int (zI wo))] := hl
  obtain ⟨hlo, hbi, hru, hol, hob, hfib, hgra, hres, hbuy, hlst, hbst, hrea, hbid, hpri, hitm, hakf, hakg, hgot, hriv, hrf, hro, hrs, hpai, hcl, hcb⟩ := id hI
  refine lv_iconst (v := nI 0) hx hb dX7_best_0 (by decide) ?_
  refine lv_istore_n (lv' := [(2, .int (nI 0)), (0, .ref (a 0)), (1, .int (zI wo))]) hx hb dX7_best_1 rfl hl (by decide) rfl (fun ls hl => ?_)
  refine lv_iconst (v := nI 1) hx hb dX7_best_2 (by decide) ?_
  refine lv_istore_n (lv' := [(3, .int (nI 1)), (2, .int (nI 0)), (0, .ref (a 0)), (1, .int (zI wo))]) hx hb dX7_best_3 rfl hl (by decide) rfl (fun ls hl => ?_)
  have loop : ∀ (n : Nat) (k : Nat), 256 + 1 ≤ k + n → k ≤ 256 → 1 ≤ k → ∀ (H : Heap) (locs : List Loc) (ls : Array Slot), Wd G A s (mW G a th lo bi ru ol ob tk fib gra res buy lst bst rea bid pri itm akf akg got pai riv rf ro rs lat bat val cos row ahe wan giv ++ Y) H locs → lv_has ls 6 [(0, .ref (a 0)), (1, .int (zI wo)), (2, .int (nI (bsM val (fun k => bid (bat k)) ob wo k))), (3, .int (nI k))] → W p l e (RM 1 0 0) s m args below meth c H locs 0 0 (MQ below (Qi G A (fun r w2 => r = nI (bsM val (fun k => bid (bat k)) ob wo 256) ∧ w2 = (mW G a th lo bi ru ol ob tk fib gra res buy lst bst rea bid pri itm akf akg got pai riv rf ro rs lat bat val cos row ahe wan giv ++ Y))) args s (RM 1 0 0).cells (RM 1 0 0).slots A) (F0 m 4 ls []) := by
    intro n
    induction n with
    | zero => intro k h1 h2 h3; exact absurd h1 (by omega)
    | succ n ih =>
      intro k h1 h2 h3 H locs ls hW hl
      have hbl := bsM_lt val (fun k => bid (bat k)) ob wo (n := k) (by omega)
      refine lv_iload_n hx hb dX7_best_4 rfl (lv_at hl 3 rfl) ?_
      refine lv_sipush (v := nI 256) hx hb dX7_best_5 (by decide) ?_
      refine n_icmp_ge hx hb rfl rfl (by omega) (by omega) (tgt := 115) dX7_best_8 (by decide) (fun c_8 => ?_) (fun c_8 => ?_)
      · refine lv_iload_n hx hb dX7_best_115 rfl (lv_at hl 2 rfl) ?_
        exact ret_i X hW (v := (nI (bsM val (fun k => bid (bat k)) ob wo k))) (⟨by rw [show k = 256 by omega], rfl⟩) rfl (by decide) (by decide) dX7_best_116
      · refine lv_aload_n hx hb dX7_best_11 rfl (lv_at hl 0 rfl) ?_
        refine x_get X hW 0 rfl 27 rfl rfl iwX7 (by decide) wq_1107 rfl dX7_best_12 ?_
        refine lv_iload_n hx hb dX7_best_15 rfl (lv_at hl 3 rfl) ?_
        refine z_iald X hW (n := 256) (f := val) 21 rfl (by omega) (by decide) dX7_best_16 ?_
        refine lv_aload_n hx hb dX7_best_17 rfl (lv_at hl 0 rfl) ?_
        refine x_get X hW 0 rfl 27 rfl rfl iwX7 (by decide) wq_1107 rfl dX7_best_18 ?_
        refine lv_iload_n hx hb dX7_best_21 rfl (lv_at hl 2 rfl) ?_
        refine z_iald X hW (n := 256) (f := val) 21 rfl (by omega) (by decide) dX7_best_22 ?_
        refine z_icmp_lt hx hb rfl rfl (by have := hval k (by omega); omega) (by have := hval (bsM val (fun k => bid (bat k)) ob wo k) (by omega); omega) (tgt := 109) dX7_best_23 (by decide) (fun c_23 => ?_) (fun c_23 => ?_)
        · refine lv_iinc (v := (nI (k + 1))) (lv' := [(3, .int (nI (k + 1))), (0, .ref (a 0)), (1, .int (zI wo)), (2, .int (nI (bsM val (fun k => bid (bat k)) ob wo k)))]) hx hb dX7_best_109 hl (k := 3) rfl (nI_add _ _) (by decide) rfl (fun ls hl => ?_)
          refine lv_goto (tgt := 4) hx hb dX7_best_112 (by decide) ?_
          exact ih (k + 1) (by omega) (by omega) (by omega) _ _ _ hW (by rw [show (bsM val (fun k => bid (bat k)) ob wo (k + 1)) = (bsM val (fun k => bid (bat k)) ob wo k) by rw [bsM, if_pos (Or.inr (Or.inl c_23))]]; exact lv_sub hl [1, 2, 3, 0] rfl)
        · refine lv_aload_n hx hb dX7_best_26 rfl (lv_at hl 0 rfl) ?_
          refine x_get X hW 0 rfl 27 rfl rfl iwX7 (by decide) wq_1107 rfl dX7_best_27 ?_
          refine lv_iload_n hx hb dX7_best_30 rfl (lv_at hl 3 rfl) ?_
          refine z_iald X hW (n := 256) (f := val) 21 rfl (by omega) (by decide) dX7_best_31 ?_
          refine lv_aload_n hx hb dX7_best_32 rfl (lv_at hl 0 rfl) ?_
          refine x_get X hW 0 rfl 27 rfl rfl iwX7 (by decide) wq_1107 rfl dX7_best_33 ?_
          refine lv_iload_n hx hb dX7_best_36 rfl (lv_at hl 2 rfl) ?_
          refine z_iald X hW (n := 256) (f := val) 21 rfl (by omega) (by decide) dX7_best_37 ?_
          refine z_icmp_ne hx hb rfl rfl (by have := hval k (by omega); omega) (by have := hval (bsM val (fun k => bid (bat k)) ob wo k) (by omega); omega) (tgt := 52) dX7_best_38 (by decide) (fun c_38 => ?_) (fun c_38 => ?_)
          · refine lv_iconst (v := nI 0) hx hb dX7_best_52 (by decide) ?_
            refine lv_istore (lv' := [(4, .int (nI 0)), (0, .ref (a 0)), (1, .int (zI wo)), (2, .int (nI (bsM val (fun k => bid (bat k)) ob wo k))), (3, .int (nI k))]) hx hb dX7_best_53 hl (by decide) rfl (fun ls hl => ?_)
            refine lv_iconst (v := nI 0) hx hb dX7_best_55 (by decide) ?_
            refine lv_istore (lv' := [(5, .int (nI 0)), (4, .int (nI 0)), (0, .ref (a 0)), (1, .int (zI wo)), (2, .int (nI (bsM val (fun k => bid (bat k)) ob wo k))), (3, .int (nI k))]) hx hb dX7_best_56 hl (by decide) rfl (fun ls hl => ?_)
            have loopJ : ∀ (n : Nat) (j : Nat), ob + 1 ≤ j + n → j ≤ ob → ∀ (H : Heap) (locs : List Loc) (ls : Array Slot), Wd G A s (mW G a th lo bi ru ol ob tk fib gra res buy lst bst rea bid pri itm akf akg got pai riv rf ro rs lat bat val cos row ahe wan giv ++ Y) H locs → lv_has ls 6 [(0, .ref (a 0)), (1, .int (zI wo)), (2, .int (nI (bsM val (fun k => bid (bat k)) ob wo k))), (3, .int (nI k)), (4, .int (nI (if fst1 (fun i => k.testBit i && decide ((bid (bat i) : Int) = wo)) j < j then 1 else 0))), (5, .int (nI j))] → W p l e (RM 1 0 0) s m args below meth c H locs 0 0 (MQ below (Qi G A (fun r w2 => r = nI (bsM val (fun k => bid (bat k)) ob wo 256) ∧ w2 = (mW G a th lo bi ru ol ob tk fib gra res buy lst bst rea bid pri itm akf akg got pai riv rf ro rs lat bat val cos row ahe wan giv ++ Y))) args s (RM 1 0 0).cells (RM 1 0 0).slots A) (F0 m 58 ls []) := by
              intro n
              induction n with
              | zero => intro j j1 j2; exact absurd j1 (by omega)
              | succ n ihJ =>
                intro j j1 j2 H locs ls hW hl
                refine lv_iload hx hb dX7_best_58 (lv_at hl 5 rfl) ?_
                refine lv_aload_n hx hb dX7_best_60 rfl (lv_at hl 0 rfl) ?_
                refine x_get X hW 0 rfl 5 rfl rfl iwX7 (by decide) wq_1085 rfl dX7_best_61 ?_
                refine n_icmp_ge hx hb rfl rfl (by omega) (by omega) (tgt := 102) dX7_best_64 (by decide) (fun c_64 => ?_) (fun c_64 => ?_)
                · refine lv_iload hx hb dX7_best_102 (lv_at hl 4 rfl) ?_
                  refine p_if_ne hx hb (tgt := 109) dX7_best_104 (by decide) (fun c_104 => ?_) (fun c_104 => ?_)
                  · refine lv_iinc (v := (nI (k + 1))) (lv' := [(3, .int (nI (k + 1))), (0, .ref (a 0)), (1, .int (zI wo)), (2, .int (nI (bsM val (fun k => bid (bat k)) ob wo k))), (4, .int (nI (if fst1 (fun i => k.testBit i && decide ((bid (bat i) : Int) = wo)) j < j then 1 else 0))), (5, .int (nI j))]) hx hb dX7_best_109 hl (k := 3) rfl (nI_add _ _) (by decide) rfl (fun ls hl => ?_)
                    refine lv_goto (tgt := 4) hx hb dX7_best_112 (by decide) ?_
                    exact ih (k + 1) (by omega) (by omega) (by omega) _ _ _ hW (by rw [show (bsM val (fun k => bid (bat k)) ob wo (k + 1)) = (bsM val (fun k => bid (bat k)) ob wo k) by rw [bsM, if_pos (Or.inr (Or.inr (Or.inr (by rw [show ob = j by omega]; exact c_104))))]]; exact lv_sub hl [1, 2, 3, 0] rfl)
                  · refine lv_iload_n hx hb dX7_best_107 rfl (lv_at hl 3 rfl) ?_
                    refine lv_istore_n (lv' := [(2, .int (nI k)), (0, .ref (a 0)), (1, .int (zI wo)), (3, .int (nI k)), (4, .int (nI (if fst1 (fun i => k.testBit i && decide ((bid (bat i) : Int) = wo)) j < j then 1 else 0))), (5, .int (nI j))]) hx hb dX7_best_108 rfl hl (by decide) rfl (fun ls hl => ?_)
                    refine lv_iinc (v := (nI (k + 1))) (lv' := [(3, .int (nI (k + 1))), (2, .int (nI k)), (0, .ref (a 0)), (1, .int (zI wo)), (4, .int (nI (if fst1 (fun i => k.testBit i && decide ((bid (bat i) : Int) = wo)) j < j then 1 else 0))), (5, .int (nI j))]) hx hb dX7_best_109 hl (k := 3) rfl (nI_add _ _) (by decide) rfl (fun ls hl => ?_)
                    refine lv_goto (tgt := 4) hx hb dX7_best_112 (by decide) ?_
                    exact ih (k + 1) (by omega) (by omega) (by omega) _ _ _ hW (by rw [show (bsM val (fun k => bid (bat k)) ob wo (k + 1)) = k by rw [bsM, if_neg (fun q => q.elim (fun z => absurd z (by omega)) (fun q => q.elim (fun z => absurd z (by omega)) (fun q => q.elim (fun q => c_38 q.1) (fun q => c_104 (by rw [show j = ob by omega]; exact q)))))]]; exact lv_sub hl [2, 3, 1, 0] rfl)
                · refine lv_iload_n hx hb dX7_best_67 rfl (lv_at hl 3 rfl) ?_
                  refine lv_iload hx hb dX7_best_68 (lv_at hl 5 rfl) ?_
                  refine n_ishr hx hb (by omega) (by omega) dX7_best_70 ?_
                  refine lv_iconst (v := nI 1) hx hb dX7_best_71 (by decide) ?_
                  refine n_iand hx hb dX7_best_72 ?_
                  refine lv_iconst (v := nI 1) hx hb dX7_best_73 (by decide) ?_
                  refine n_icmp_ne hx hb rfl rfl (by have := sh1_le k j; omega) (by omega) (tgt := 96) dX7_best_74 (by decide) (fun c_74 => ?_) (fun c_74 => ?_)
                  · refine lv_iinc (v := (nI (j + 1))) (lv' := [(5, .int (nI (j + 1))), (0, .ref (a 0)), (1, .int (zI wo)), (2, .int (nI (bsM val (fun k => bid (bat k)) ob wo k))), (3, .int (nI k)), (4, .int (nI (if fst1 (fun i => k.testBit i && decide ((bid (bat i) : Int) = wo)) j < j then 1 else 0)))]) hx hb dX7_best_96 hl (k := 5) rfl (nI_add _ _) (by decide) rfl (fun ls hl => ?_)
                    refine lv_goto (tgt := 58) hx hb dX7_best_99 (by decide) ?_
                    exact ihJ (j + 1) (by omega) (by omega) _ _ _ hW (by rw [show (if fst1 (fun i => k.testBit i && decide ((bid (bat i) : Int) = wo)) (j + 1) < j + 1 then 1 else 0) = (if fst1 (fun i => k.testBit i && decide ((bid (bat i) : Int) = wo)) j < j then 1 else 0) from fst1_ifF (by show (_ && _) = false; rw [sh1_f c_74]; rfl)]; exact lv_sub hl [1, 2, 3, 4, 5, 0] rfl)
                  · refine lv_aload_n hx hb dX7_best_77 rfl (lv_at hl 0 rfl) ?_
                    refine x_get X hW 0 rfl 14 rfl rfl iwX7 (by decide) wq_1094 rfl dX7_best_78 ?_
                    refine lv_aload_n hx hb dX7_best_81 rfl (lv_at hl 0 rfl) ?_
                    refine x_get X hW 0 rfl 26 rfl rfl iwX7 (by decide) wq_1106 rfl dX7_best_82 ?_
                    refine lv_iload hx hb dX7_best_85 (lv_at hl 5 rfl) ?_
                    refine n_iald X hW (n := 8) (f := bat) 20 rfl (by omega) (by decide) dX7_best_87 ?_
                    refine n_iald X hW (n := 40) (f := bid) 8 rfl (by have := hbat j; omega) (by decide) dX7_best_88 ?_
                    refine lv_iload_n hx hb dX7_best_89 rfl (lv_at hl 1 rfl) ?_
                    refine z_icmp_ne hx hb (nZ _) rfl (by have := hbid (bat j); omega) (by omega) (tgt := 96) dX7_best_90 (by decide) (fun c_90 => ?_) (fun c_90 => ?_)
                    · refine lv_iinc (v := (nI (j + 1))) (lv' := [(5, .int (nI (j + 1))), (0, .ref (a 0)), (1, .int (zI wo)), (2, .int (nI (bsM val (fun k => bid (bat k)) ob wo k))), (3, .int (nI k)), (4, .int (nI (if fst1 (fun i => k.testBit i && decide ((bid (bat i) : Int) = wo)) j < j then 1 else 0)))]) hx hb dX7_best_96 hl (k := 5) rfl (nI_add _ _) (by decide) rfl (fun ls hl => ?_)
                      refine lv_goto (tgt := 58) hx hb dX7_best_99 (by decide) ?_
                      exact ihJ (j + 1) (by omega) (by omega) _ _ _ hW (by rw [show (if fst1 (fun i => k.testBit i && decide ((bid (bat i) : Int) = wo)) (j + 1) < j + 1 then 1 else 0) = (if fst1 (fun i => k.testBit i && decide ((bid (bat i) : Int) = wo)) j < j then 1 else 0) from fst1_ifF (by show (_ && _) = false; rw [decide_eq_false c_90, Bool.and_false])]; exact lv_sub hl [1, 2, 3, 4, 5, 0] rfl)
                    · refine lv_iconst (v := nI 1) hx hb dX7_best_93 (by decide) ?_
                      refine lv_istore (lv' := [(4, .int (nI 1)), (0, .ref (a 0)), (1, .int (zI wo)), (2, .int (nI (bsM val (fun k => bid (bat k)) ob wo k))), (3, .int (nI k)), (5, .int (nI j))]) hx hb dX7_best_94 hl (by decide) rfl (fun ls hl => ?_)
                      refine lv_iinc (v := (nI (j + 1))) (lv' := [(5, .int (nI (j + 1))), (4, .int (nI 1)), (0, .ref (a 0)), (1, .int (zI wo)), (2, .int (nI (bsM val (fun k => bid (bat k)) ob wo k))), (3, .int (nI k))]) hx hb dX7_best_96 hl (k := 5) rfl (nI_add _ _) (by decide) rfl (fun ls hl => ?_)
                      refine lv_goto (tgt := 58) hx hb dX7_best_99 (by decide) ?_
                      exact ihJ (j + 1) (by omega) (by omega) _ _ _ hW (by rw [show (if fst1 (fun i => k.testBit i && decide ((bid (bat i) : Int) = wo)) (j + 1) < j + 1 then 1 else 0) = 1 from fst1_ifT (by show (_ && _) = true; rw [sh1_t c_74, decide_eq_true c_90]; rfl)]; exact lv_sub hl [2, 3, 4, 5, 1, 0] rfl)
            exact loopJ (ob + 1) 0 (by omega) (by omega) _ _ _ hW (lv_sub hl [2, 3, 4, 5, 1, 0] rfl)
          · refine lv_iload_n hx hb dX7_best_41 rfl (lv_at hl 3 rfl) ?_
            refine lv_iload_n hx hb dX7_best_42 rfl (lv_at hl 2 rfl) ?_
            refine go_i X hW (run_S X hW (As := [.int (nI k), .int (nI (bsM val (fun k => bid (bat k)) ob wo k))]) (rest := []) (c_X7_isAhead l G k (bsM val (fun k => bid (bat k)) ob wo k) (mW G a th lo bi ru ol ob tk fib gra res buy lst bst rea bid pri itm akf akg got pai riv rf ro rs lat bat val cos row ahe wan giv ++ Y) (by omega) (by omega) _) (gi_S wq_1269 wq_1270 wq_67 wq_1271) hyX7_isAhead rfl rfl hl.1 (Nat.le_of_ble_eq_true rfl) ⟨Nat.le_of_ble_eq_true rfl, Nat.le_of_ble_eq_true rfl⟩ ⟨by decide, by decide⟩ dX7_best_43) (fun r w2 H locs hp hW => ?_)
            obtain ⟨rfl, rfl⟩ := hp
            refine p_if_ne hx hb (tgt := 52) dX7_best_46 (by decide) (fun c_46 => ?_) (fun c_46 => ?_)
            · refine lv_iconst (v := nI 0) hx hb dX7_best_52 (by decide) ?_
              refine lv_istore (lv' := [(4, .int (nI 0)), (0, .ref (a 0)), (1, .int (zI wo)), (2, .int (nI (bsM val (fun k => bid (bat k)) ob wo k))), (3, .int (nI k))]) hx hb dX7_best_53 hl (by decide) rfl (fun ls hl => ?_)
              refine lv_iconst (v := nI 0) hx hb dX7_best_55 (by decide) ?_
              refine lv_istore (lv' := [(5, .int (nI 0)), (4, .int (nI 0)), (0, .ref (a 0)), (1, .int (zI wo)), (2, .int (nI (bsM val (fun k => bid (bat k)) ob wo k))), (3, .int (nI k))]) hx hb dX7_best_56 hl (by decide) rfl (fun ls hl => ?_)
              have loopJ : ∀ (n : Nat) (j : Nat), ob + 1 ≤ j + n → j ≤ ob → ∀ (H : Heap) (locs : List Loc) (ls : Array Slot), Wd G A s (mW G a th lo bi ru ol ob tk fib gra res buy lst bst rea bid pri itm akf akg got pai riv rf ro rs lat bat val cos row ahe wan giv ++ Y) H locs → lv_has ls 6 [(0, .ref (a 0)), (1, .int (zI wo)), (2, .int (nI (bsM val (fun k => bid (bat k)) ob wo k))), (3, .int (nI k)), (4, .int (nI (if fst1 (fun i => k.testBit i && decide ((bid (bat i) : Int) = wo)) j < j then 1 else 0))), (5, .int (nI j))] → W p l e (RM 1 0 0) s m args below meth c H locs 0 0 (MQ below (Qi G A (fun r w2 => r = nI (bsM val (fun k => bid (bat k)) ob wo 256) ∧ w2 = (mW G a th lo bi ru ol ob tk fib gra res buy lst bst rea bid pri itm akf akg got pai riv rf ro rs lat bat val cos row ahe wan giv ++ Y))) args s (RM 1 0 0).cells (RM 1 0 0).slots A) (F0 m 58 ls []) := by
                intro n
                induction n with
                | zero => intro j j1 j2; exact absurd j1 (by omega)
                | succ n ihJ =>
                  intro j j1 j2 H locs ls hW hl
                  refine lv_iload hx hb dX7_best_58 (lv_at hl 5 rfl) ?_
                  refine lv_aload_n hx hb dX7_best_60 rfl (lv_at hl 0 rfl) ?_
                  refine x_get X hW 0 rfl 5 rfl rfl iwX7 (by decide) wq_1085 rfl dX7_best_61 ?_
                  refine n_icmp_ge hx hb rfl rfl (by omega) (by omega) (tgt := 102) dX7_best_64 (by decide) (fun c_64 => ?_) (fun c_64 => ?_)
                  · refine lv_iload hx hb dX7_best_102 (lv_at hl 4 rfl) ?_
                    refine p_if_ne hx hb (tgt := 109) dX7_best_104 (by decide) (fun c_104 => ?_) (fun c_104 => ?_)
                    · refine lv_iinc (v := (nI (k + 1))) (lv' := [(3, .int (nI (k + 1))), (0, .ref (a 0)), (1, .int (zI wo)), (2, .int (nI (bsM val (fun k => bid (bat k)) ob wo k))), (4, .int (nI (if fst1 (fun i => k.testBit i && decide ((bid (bat i) : Int) = wo)) j < j then 1 else 0))), (5, .int (nI j))]) hx hb dX7_best_109 hl (k := 3) rfl (nI_add _ _) (by decide) rfl (fun ls hl => ?_)
                      refine lv_goto (tgt := 4) hx hb dX7_best_112 (by decide) ?_
                      exact ih (k + 1) (by omega) (by omega) (by omega) _ _ _ hW (by rw [show (bsM val (fun k => bid (bat k)) ob wo (k + 1)) = (bsM val (fun k => bid (bat k)) ob wo k) by rw [bsM, if_pos (Or.inr (Or.inr (Or.inr (by rw [show ob = j by omega]; exact c_104))))]]; exact lv_sub hl [1, 2, 3, 0] rfl)
                    · refine lv_iload_n hx hb dX7_best_107 rfl (lv_at hl 3 rfl) ?_
                      refine lv_istore_n (lv' := [(2, .int (nI k)), (0, .ref (a 0)), (1, .int (zI wo)), (3, .int (nI k)), (4, .int (nI (if fst1 (fun i => k.testBit i && decide ((bid (bat i) : Int) = wo)) j < j then 1 else 0))), (5, .int (nI j))]) hx hb dX7_best_108 rfl hl (by decide) rfl (fun ls hl => ?_)
                      refine lv_iinc (v := (nI (k + 1))) (lv' := [(3, .int (nI (k + 1))), (2, .int (nI k)), (0, .ref (a 0)), (1, .int (zI wo)), (4, .int (nI (if fst1 (fun i => k.testBit i && decide ((bid (bat i) : Int) = wo)) j < j then 1 else 0))), (5, .int (nI j))]) hx hb dX7_best_109 hl (k := 3) rfl (nI_add _ _) (by decide) rfl (fun ls hl => ?_)
                      refine lv_goto (tgt := 4) hx hb dX7_best_112 (by decide) ?_
                      exact ih (k + 1) (by omega) (by omega) (by omega) _ _ _ hW (by rw [show (bsM val (fun k => bid (bat k)) ob wo (k + 1)) = k by rw [bsM, if_neg (fun q => q.elim (fun z => absurd z (by omega)) (fun q => q.elim (fun z => absurd z (by omega)) (fun q => q.elim (fun q => by rw [c_46] at q; exact absurd q.2 (by decide)) (fun q => c_104 (by rw [show j = ob by omega]; exact q)))))]]; exact lv_sub hl [2, 3, 1, 0] rfl)
                  · refine lv_iload_n hx hb dX7_best_67 rfl (lv_at hl 3 rfl) ?_
                    refine lv_iload hx hb dX7_best_68 (lv_at hl 5 rfl) ?_
                    refine n_ishr hx hb (by omega) (by omega) dX7_best_70 ?_
                    refine lv_iconst (v := nI 1) hx hb dX7_best_71 (by decide) ?_
                    refine n_iand hx hb dX7_best_72 ?_
                    refine lv_iconst (v := nI 1) hx hb dX7_best_73 (by decide) ?_
                    refine n_icmp_ne hx hb rfl rfl (by have := sh1_le k j; omega) (by omega) (tgt := 96) dX7_best_74 (by decide) (fun c_74 => ?_) (fun c_74 => ?_)
                    · refine lv_iinc (v := (nI (j + 1))) (lv' := [(5, .int (nI (j + 1))), (0, .ref (a 0)), (1, .int (zI wo)), (2, .int (nI (bsM val (fun k => bid (bat k)) ob wo k))), (3, .int (nI k)), (4, .int (nI (if fst1 (fun i => k.testBit i && decide ((bid (bat i) : Int) = wo)) j < j then 1 else 0)))]) hx hb dX7_best_96 hl (k := 5) rfl (nI_add _ _) (by decide) rfl (fun ls hl => ?_)
                      refine lv_goto (tgt := 58) hx hb dX7_best_99 (by decide) ?_
                      exact ihJ (j + 1) (by omega) (by omega) _ _ _ hW (by rw [show (if fst1 (fun i => k.testBit i && decide ((bid (bat i) : Int) = wo)) (j + 1) < j + 1 then 1 else 0) = (if fst1 (fun i => k.testBit i && decide ((bid (bat i) : Int) = wo)) j < j then 1 else 0) from fst1_ifF (by show (_ && _) = false; rw [sh1_f c_74]; rfl)]; exact lv_sub hl [1, 2, 3, 4, 5, 0] rfl)
                    · refine lv_aload_n hx hb dX7_best_77 rfl (lv_at hl 0 rfl) ?_
                      refine x_get X hW 0 rfl 14 rfl rfl iwX7 (by decide) wq_1094 rfl dX7_best_78 ?_
                      refine lv_aload_n hx hb dX7_best_81 rfl (lv_at hl 0 rfl) ?_
                      refine x_get X hW 0 rfl 26 rfl rfl iwX7 (by decide) wq_1106 rfl dX7_best_82 ?_
                      refine lv_iload hx hb dX7_best_85 (lv_at hl 5 rfl) ?_
                      refine n_iald X hW (n := 8) (f := bat) 20 rfl (by omega) (by decide) dX7_best_87 ?_
                      refine n_iald X hW (n := 40) (f := bid) 8 rfl (by have := hbat j; omega) (by decide) dX7_best_88 ?_
                      refine lv_iload_n hx hb dX7_best_89 rfl (lv_at hl 1 rfl) ?_
                      refine z_icmp_ne hx hb (nZ _) rfl (by have := hbid (bat j); omega) (by omega) (tgt := 96) dX7_best_90 (by decide) (fun c_90 => ?_) (fun c_90 => ?_)
                      · refine lv_iinc (v := (nI (j + 1))) (lv' := [(5, .int (nI (j + 1))), (0, .ref (a 0)), (1, .int (zI wo)), (2, .int (nI (bsM val (fun k => bid (bat k)) ob wo k))), (3, .int (nI k)), (4, .int (nI (if fst1 (fun i => k.testBit i && decide ((bid (bat i) : Int) = wo)) j < j then 1 else 0)))]) hx hb dX7_best_96 hl (k := 5) rfl (nI_add _ _) (by decide) rfl (fun ls hl => ?_)
                        refine lv_goto (tgt := 58) hx hb dX7_best_99 (by decide) ?_
                        exact ihJ (j + 1) (by omega) (by omega) _ _ _ hW (by rw [show (if fst1 (fun i => k.testBit i && decide ((bid (bat i) : Int) = wo)) (j + 1) < j + 1 then 1 else 0) = (if fst1 (fun i => k.testBit i && decide ((bid (bat i) : Int) = wo)) j < j then 1 else 0) from fst1_ifF (by show (_ && _) = false; rw [decide_eq_false c_90, Bool.and_false])]; exact lv_sub hl [1, 2, 3, 4, 5, 0] rfl)
                      · refine lv_iconst (v := nI 1) hx hb dX7_best_93 (by decide) ?_
                        refine lv_istore (lv' := [(4, .int (nI 1)), (0, .ref (a 0)), (1, .int (zI wo)), (2, .int (nI (bsM val (fun k => bid (bat k)) ob wo k))), (3, .int (nI k)), (5, .int (nI j))]) hx hb dX7_best_94 hl (by decide) rfl (fun ls hl => ?_)
                        refine lv_iinc (v := (nI (j + 1))) (lv' := [(5, .int (nI (j + 1))), (4, .int (nI 1)), (0, .ref (a 0)), (1, .int (zI wo)), (2, .int (nI (bsM val (fun k => bid (bat k)) ob wo k))), (3, .int (nI k))]) hx hb dX7_best_96 hl (k := 5) rfl (nI_add _ _) (by decide) rfl (fun ls hl => ?_)
                        refine lv_goto (tgt := 58) hx hb dX7_best_99 (by decide) ?_
                        exact ihJ (j + 1) (by omega) (by omega) _ _ _ hW (by rw [show (if fst1 (fun i => k.testBit i && decide ((bid (bat i) : Int) = wo)) (j + 1) < j + 1 then 1 else 0) = 1 from fst1_ifT (by show (_ && _) = true; rw [sh1_t c_74, decide_eq_true c_90]; rfl)]; exact lv_sub hl [2, 3, 4, 5, 1, 0] rfl)
              exact loopJ (ob + 1) 0 (by omega) (by omega) _ _ _ hW (lv_sub hl [2, 3, 4, 5, 1, 0] rfl)
            · refine lv_goto (tgt := 109) hx hb dX7_best_49 (by decide) ?_
              refine lv_iinc (v := (nI (k + 1))) (lv' := [(3, .int (nI (k + 1))), (0, .ref (a 0)), (1, .int (zI wo)), (2, .int (nI (bsM val (fun k => bid (bat k)) ob wo k)))]) hx hb dX7_best_109 hl (k := 3) rfl (nI_add _ _) (by decide) rfl (fun ls hl => ?_)
              refine lv_goto (tgt := 4) hx hb dX7_best_112 (by decide) ?_
              exact ih (k + 1) (by omega) (by omega) (by omega) _ _ _ hW (by rw [show (bsM val (fun k => bid (bat k)) ob wo (k + 1)) = (bsM val (fun k => bid (bat k)) ob wo k) by rw [bsM, if_pos (Or.inr (Or.inr (Or.inl ⟨c_38, Bool.eq_false_iff.mpr c_46⟩)))]]; exact lv_sub hl [1, 2, 3, 0] rfl)
  exact loop (256 + 1) 1 (by omega) (by omega) (by omega) _ _ _ hW (lv_sub hl [2, 3, 1, 0] rfl)

set_option maxRecDepth 100000 in
set_option maxHeartbeats 4000000 in
theorem c_X7_pays (l : Launch) (G : Gt) (a : Nat → Nat) (th lo bi ru ol ob : Nat) (tk : Int) (fib gra res buy lst bst rea bid pri itm akf akg got : Nat → Nat) (pai : Nat → Int) (riv rf ro rs lat bat : Nat → Nat) (val : Nat → Int) (cos row ahe wan giv : Nat → Nat) (Y : va_W) (set b : Nat) (hI : MIa lo bi ru ol ob fib gra res buy lst bst rea bid pri itm akf akg got pai riv rf ro rs) (hset : set < 256) (hb40 : b < 40) (hbat : ∀ k, bat k < 40) (hval : ∀ x, x < 256 → -2000000 ≤ val x ∧ val x ≤ 2000000) : Ci l G yX7_pays (ww yX7_pays cX7_pays 3 (some FieldType.int)) (RM 2 0 0) [.ref (a 0), .int (nI set), .int (nI b)] (mW G a th lo bi ru ol ob tk fib gra res buy lst bst rea bid pri itm akf akg got pai riv rf ro rs lat bat val cos row ahe wan giv ++ Y) (fun r w2 => r = zI ((((pri b : Nat) : Int) - val set) + val (bsM val (fun k => bid (bat k)) ob ((bid b : Nat) : Int) 256)) ∧ w2 = (mW G a th lo bi ru ol ob tk fib gra res buy lst bst rea bid pri itm akf akg got pai riv rf ro rs lat bat val cos row ahe wan giv ++ Y)) := by
  refine Ci.intro (by decide) (Nat.le_of_ble_eq_true rfl) ?_
  intro p e s m args below meth c A X hW ls hl
  have hx := X.exec
  have hb := X.bytes
  have hl : lv_has ls 3 [(0, .ref (a 0)), (1, .int (nI set)), (2, .int (nI b))] := hl
  obtain ⟨hlo, hbi, hru, hol, hob, hfib, hgra, hres, hbuy, hlst, hbst, hrea, hbid, hpri, hitm, hakf, hakg, hgot, hriv, hrf, hro, hrs, hpai, hcl, hcb⟩ := id hI
  refine lv_aload_n hx hb dX7_pays_0 rfl (lv_at hl 0 rfl) ?_
  refine x_get X hW 0 rfl 15 rfl rfl iwX7 (by decide) wq_1095 rfl dX7_pays_1 ?_
  refine lv_iload_n hx hb dX7_pays_4 rfl (lv_at hl 2 rfl) ?_
  refine n_iald X hW (n := 40) (f := pri) 9 rfl (by omega) (by decide) dX7_pays_5 ?_
  refine lv_aload_n hx hb dX7_pays_6 rfl (lv_at hl 0 rfl) ?_
  refine x_get X hW 0 rfl 27 rfl rfl iwX7 (by decide) wq_1107 rfl dX7_pays_7 ?_
  refine lv_iload_n hx hb dX7_pays_10 rfl (lv_at hl 1 rfl) ?_
  refine z_iald X hW (n := 256) (f := val) 21 rfl (by omega) (by decide) dX7_pays_11 ?_
  refine z_isub hx hb (nZ _) rfl dX7_pays_12 ?_
  refine lv_aload_n hx hb dX7_pays_13 rfl (lv_at hl 0 rfl) ?_
  refine x_get X hW 0 rfl 27 rfl rfl iwX7 (by decide) wq_1107 rfl dX7_pays_14 ?_
  refine lv_aload_n hx hb dX7_pays_17 rfl (lv_at hl 0 rfl) ?_
  refine lv_aload_n hx hb dX7_pays_18 rfl (lv_at hl 0 rfl) ?_
  refine x_get X hW 0 rfl 14 rfl rfl iwX7 (by decide) wq_1094 rfl dX7_pays_19 ?_
  refine lv_iload_n hx hb dX7_pays_22 rfl (lv_at hl 2 rfl) ?_
  refine n_iald X hW (n := 40) (f := bid) 8 rfl (by omega) (by decide) dX7_pays_23 ?_
  refine r_nz ?_
  refine go_i X hW (run_V X hW (As := [.int (zI (((bid b) : Nat) : Int))]) (rest := [.ref (a 21), .int (zI ((((pri b) : Nat) : Int) - ((val set) : Int)))]) 10 0 rfl (c_X7_best l G a th lo bi ru ol ob tk fib gra res buy lst bst rea bid pri itm akf akg got pai riv rf ro rs lat bat val cos row ahe wan giv Y ((bid b : Nat) : Int) hI (by have := hbid b; omega) hbat hval _) (gi_V wq_1265 wq_1267 wq_53 wq_67 wq_1268) rfl hyX7_best rfl rfl rfl hl.1 (Nat.le_of_ble_eq_true rfl) ⟨Nat.le_of_ble_eq_true rfl, Nat.le_of_ble_eq_true rfl⟩ ⟨by decide, by decide⟩ dX7_pays_24) (fun r w2 H locs hp hW => ?_)
  obtain ⟨rfl, rfl⟩ := hp
  have hb256 := bsM_lt val (fun k => bid (bat k)) ob ((bid b : Nat) : Int) (n := 256) (by decide)
  refine z_iald X hW (n := 256) (f := val) 21 rfl (by omega) (by decide) dX7_pays_27 ?_
  refine z_iadd hx hb rfl rfl dX7_pays_28 ?_
  exact ret_i X hW (v := (zI (((((pri b) : Nat) : Int) - ((val set) : Int)) + ((val (bsM val (fun k => bid (bat k)) ob ((bid b : Nat) : Int) 256)) : Int)))) (⟨rfl, rfl⟩) rfl (by decide) (by decide) dX7_pays_29

set_option maxRecDepth 100000 in
set_option maxHeartbeats 4000000 in
theorem c_X7_isInSet (l : Launch) (G : Gt) (a : Nat → Nat) (th lo bi ru ol ob : Nat) (tk : Int) (fib gra res buy lst bst rea bid pri itm akf akg got : Nat → Nat) (pai : Nat → Int) (riv rf ro rs lat bat : Nat → Nat) (val : Nat → Int) (cos row ahe wan giv : Nat → Nat) (Y : va_W) (set b : Nat) (hI : MIa lo bi ru ol ob fib gra res buy lst bst rea bid pri itm akf akg got pai riv rf ro rs) (hset : set < 256) (hb40 : b < 40) (hbat : ∀ k, bat k < 40) : Ci l G yX7_isInSet (ww yX7_isInSet cX7_isInSet 4 (some FieldType.boolean)) (RM 0 0 0) [.ref (a 0), .int (nI set), .int (nI b)] (mW G a th lo bi ru ol ob tk fib gra res buy lst bst rea bid pri itm akf akg got pai riv rf ro rs lat bat val cos row ahe wan giv ++ Y) (fun r w2 => r = nI (if (fst1 (fun k => decide (bat k = b)) ob) < ob ∧ set.testBit (fst1 (fun k => decide (bat k = b)) ob) = true then 1 else 0) ∧ w2 = (mW G a th lo bi ru ol ob tk fib gra res buy lst bst rea bid pri itm akf akg got pai riv rf ro rs lat bat val cos row ahe wan giv ++ Y)) := by
  refine Ci.intro (by decide) (Nat.le_of_ble_eq_true rfl) ?_
  intro p e s m args below meth c A X hW ls hl
  have hx := X.exec
  have hb := X.bytes
  have hl : lv_has ls 4 [(0, .ref (a 0)), (1, .int (nI set)), (2, .int (nI b))] := hl
  obtain ⟨hlo, hbi, hru, hol, hob, hfib, hgra, hres, hbuy, hlst, hbst, hrea, hbid, hpri, hitm, hakf, hakg, hgot, hriv, hrf, hro, hrs, hpai, hcl, hcb⟩ := id hI
  refine lv_iconst (v := nI 0) hx hb dX7_isInSet_0 (by decide) ?_
  refine lv_istore_n (lv' := [(3, .int (nI 0)), (0, .ref (a 0)), (1, .int (nI set)), (2, .int (nI b))]) hx hb dX7_isInSet_1 rfl hl (by decide) rfl (fun ls hl => ?_)
  have loop : ∀ (n : Nat) (k : Nat), ob + 1 ≤ k + n → k ≤ ob → (∀ j, j < k → ¬ bat j = b) → ∀ (H : Heap) (locs : List Loc) (ls : Array Slot), Wd G A s (mW G a th lo bi ru ol ob tk fib gra res buy lst bst rea bid pri itm akf akg got pai riv rf ro rs lat bat val cos row ahe wan giv ++ Y) H locs → lv_has ls 4 [(0, .ref (a 0)), (1, .int (nI set)), (2, .int (nI b)), (3, .int (nI k))] → W p l e (RM 0 0 0) s m args below meth c H locs 0 0 (MQ below (Qi G A (fun r w2 => r = nI (if (fst1 (fun k => decide (bat k = b)) ob) < ob ∧ set.testBit (fst1 (fun k => decide (bat k = b)) ob) = true then 1 else 0) ∧ w2 = (mW G a th lo bi ru ol ob tk fib gra res buy lst bst rea bid pri itm akf akg got pai riv rf ro rs lat bat val cos row ahe wan giv ++ Y))) args s (RM 0 0 0).cells (RM 0 0 0).slots A) (F0 m 2 ls []) := by
    intro n
    induction n with
    | zero => intro k h1 h2 h3; exact absurd h1 (by omega)
    | succ n ih =>
      intro k h1 h2 h3 H locs ls hW hl
      refine lv_iload_n hx hb dX7_isInSet_2 rfl (lv_at hl 3 rfl) ?_
      refine lv_aload_n hx hb dX7_isInSet_3 rfl (lv_at hl 0 rfl) ?_
      refine x_get X hW 0 rfl 5 rfl rfl iwX7 (by decide) wq_1085 rfl dX7_isInSet_4 ?_
      refine n_icmp_ge hx hb rfl rfl (by omega) (by omega) (tgt := 41) dX7_isInSet_7 (by decide) (fun c_7 => ?_) (fun c_7 => ?_)
      · refine lv_iconst (v := nI 0) hx hb dX7_isInSet_41 (by decide) ?_
        exact ret_z X hW (v := (nI 0)) (⟨by rw [if_neg (by rw [fst1_no (fun j hj => decide_eq_false (h3 j (by omega)))]; omega)], rfl⟩) rfl (by first | rfl | exact (pk_charN (by omega)).1) (by decide) (by decide) dX7_isInSet_42
      · refine lv_aload_n hx hb dX7_isInSet_10 rfl (lv_at hl 0 rfl) ?_
        refine x_get X hW 0 rfl 26 rfl rfl iwX7 (by decide) wq_1106 rfl dX7_isInSet_11 ?_
        refine lv_iload_n hx hb dX7_isInSet_14 rfl (lv_at hl 3 rfl) ?_
        refine n_iald X hW (n := 8) (f := bat) 20 rfl (by omega) (by decide) dX7_isInSet_15 ?_
        refine lv_iload_n hx hb dX7_isInSet_16 rfl (lv_at hl 2 rfl) ?_
        refine n_icmp_ne hx hb rfl rfl (by have := hbat k; omega) (by omega) (tgt := 35) dX7_isInSet_17 (by decide) (fun c_17 => ?_) (fun c_17 => ?_)
        · refine lv_iinc (v := (nI (k + 1))) (lv' := [(3, .int (nI (k + 1))), (0, .ref (a 0)), (1, .int (nI set)), (2, .int (nI b))]) hx hb dX7_isInSet_35 hl (k := 3) rfl (nI_add _ _) (by decide) rfl (fun ls hl => ?_)
          refine lv_goto (tgt := 2) hx hb dX7_isInSet_38 (by decide) ?_
          exact ih (k + 1) (by omega) (by omega) (fun j hj => by rcases Nat.lt_or_ge j k with q | q; exact h3 j q; rw [show j = k by omega]; exact c_17) _ _ _ hW (lv_sub hl [1, 2, 3, 0] rfl)
        · refine lv_iload_n hx hb dX7_isInSet_20 rfl (lv_at hl 1 rfl) ?_
          refine lv_iload_n hx hb dX7_isInSet_21 rfl (lv_at hl 3 rfl) ?_
          refine n_ishr hx hb (by omega) (by omega) dX7_isInSet_22 ?_
          refine lv_iconst (v := nI 1) hx hb dX7_isInSet_23 (by decide) ?_
          refine n_iand hx hb dX7_isInSet_24 ?_
          refine lv_iconst (v := nI 1) hx hb dX7_isInSet_25 (by decide) ?_
          refine n_icmp_ne hx hb rfl rfl (by have := sh1_le set k; omega) (by omega) (tgt := 33) dX7_isInSet_26 (by decide) (fun c_26 => ?_) (fun c_26 => ?_)
          · refine lv_iconst (v := nI 0) hx hb dX7_isInSet_33 (by decide) ?_
            have ef : (fst1 (fun k => decide (bat k = b)) ob) = k := fst1_at (by omega) (fun j hj => decide_eq_false (h3 j hj)) (decide_eq_true c_17)
            exact ret_z X hW (v := (nI 0)) (⟨by rw [ef, if_neg (fun q => by rw [sh1_f c_26] at q; exact absurd q.2 (by decide))], rfl⟩) rfl (by first | rfl | exact (pk_charN (by omega)).1) (by decide) (by decide) dX7_isInSet_34
          · refine lv_iconst (v := nI 1) hx hb dX7_isInSet_29 (by decide) ?_
            refine lv_goto (tgt := 34) hx hb dX7_isInSet_30 (by decide) ?_
            have ef : (fst1 (fun k => decide (bat k = b)) ob) = k := fst1_at (by omega) (fun j hj => decide_eq_false (h3 j hj)) (decide_eq_true c_17)
            exact ret_z X hW (v := (nI 1)) (⟨by rw [ef, if_pos ⟨by omega, sh1_t c_26⟩], rfl⟩) rfl (by first | rfl | exact (pk_charN (by omega)).1) (by decide) (by decide) dX7_isInSet_34
  exact loop (ob + 1) 0 (by omega) (by omega) (fun j hj => absurd hj (by omega)) _ _ _ hW (lv_sub hl [1, 2, 3, 0] rfl)

