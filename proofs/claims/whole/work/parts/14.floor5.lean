set_option maxRecDepth 100000 in
set_option maxHeartbeats 4000000 in
theorem c_X1_leastCost (l : Launch) (G : Gt) (f : Nat → Nat) (lc bc ql : Nat) (ln rs rm bn bd pr ic fl qu rc : Nat → Nat) (gp : Nat → Int) (Y : va_W) (set : Nat) (hset : set < 256) (hlc : lc ≤ 8) (hbc : bc ≤ 8) (hql : ql ≤ 8) (hbd : ∀ k, bd k < 8) (hic : ∀ k, ic k ≤ 3) (hfl : ∀ k, fl k < 256) (hrs : ∀ k, rs k ≤ 999) (hqu : ∀ k, qu k < 256) (hrc : ∀ k, rc k ≤ 1000000) : Ci l G yX1_leastCost (ww yX1_leastCost cX1_leastCost 3 (some FieldType.int)) (RM 2 0 0) [.ref (f 0), .int (nI set)] (fW G f lc bc ql ln rs rm bn bd pr ic fl qu rc gp ++ Y) (fun r w2 => ∃ (q : Nat) (u v : Nat → Nat), r = zI (lcost set bc lc bd ic fl rs) ∧ q ≤ 8 ∧ (∀ i, u i < 256) ∧ (∀ i, v i ≤ 1000000) ∧ (okB set.testBit bd bc = true ∧ okQ set.testBit ic lc bc = true → q = (bsum set.testBit ic bc) ∧ (∀ t, t < q → u t = qf (its set.testBit ic fl bc) t) ∧ ∀ t, t < 2 ^ lc → v t = rcv (qf (its set.testBit ic fl bc)) q lc rs (q - pop t) t) ∧ w2 = (fW G f lc bc q ln rs rm bn bd pr ic fl u v gp ++ Y)) := by
  refine Ci.intro (by decide) (Nat.le_of_ble_eq_true rfl) ?_
  intro p e s m args below meth c A X hW ls hl
  have hx := X.exec
  have hb := X.bytes
  have hl : lv_has ls 3 [(0, .ref (f 0)), (1, .int (nI set))] := hl
  have h256 := p2_256 hlc
  refine lv_aload_n hx hb dX1_leastCost_0 rfl (lv_at hl 0 rfl) ?_
  refine lv_iload_n hx hb dX1_leastCost_1 rfl (lv_at hl 1 rfl) ?_
  refine go_i X hW (run_V X hW (As := [.int (nI set)]) (rest := []) 4 0 rfl (c_X1_hasOneBidPerBidder l G f lc bc ql ln rs rm bn bd pr ic fl qu rc gp Y set hset hbc hbd _) (gi_V wq_335 wq_337 wq_13 wq_65 wq_338) rfl hyX1_hasOneBidPerBidder rfl rfl rfl hl.1 (Nat.le_of_ble_eq_true rfl) ⟨Nat.le_of_ble_eq_true rfl, Nat.le_of_ble_eq_true rfl⟩ ⟨by decide, by decide⟩ dX1_leastCost_2) (fun r w2 H locs hp hW => ?_)
  obtain ⟨rfl, rfl⟩ := hp
  refine n_if_eq hx hb rfl (by split <;> decide) (tgt := 16) dX1_leastCost_5 (by decide) (fun c_5 => ?_) (fun c_5 => ?_)
  · have hB : okB set.testBit bd bc = false := by cases h : okB set.testBit bd bc with | false => rfl | true => rw [h] at c_5; exact absurd c_5 (by decide)
    refine lv_iconst (v := zI (-1)) hx hb dX1_leastCost_16 (by decide) ?_
    exact ret_i X hW (v := (zI (-1))) (⟨ql, qu, rc, by rw [lcost, if_neg (by rw [hB]; exact fun h => absurd h.1 (by decide))], hql, hqu, hrc, (fun h => absurd h.1 (by rw [hB]; decide)), rfl⟩) rfl (by decide) (by decide) dX1_leastCost_17
  · have hB : okB set.testBit bd bc = true := by cases h : okB set.testBit bd bc with | true => rfl | false => rw [h] at c_5; exact absurd rfl c_5
    refine lv_aload_n hx hb dX1_leastCost_8 rfl (lv_at hl 0 rfl) ?_
    refine lv_iload_n hx hb dX1_leastCost_9 rfl (lv_at hl 1 rfl) ?_
    refine go_i X hW (run_V X hW (As := [.int (nI set)]) (rest := []) 4 0 rfl (c_X1_queueItems l G f lc bc ql ln rs rm bn bd pr ic fl qu rc gp Y set hset hlc hbc hic hfl hqu _) (gi_V wq_339 wq_341 wq_14 wq_65 wq_342) rfl hyX1_queueItems rfl rfl rfl hl.1 (Nat.le_of_ble_eq_true rfl) ⟨Nat.le_of_ble_eq_true rfl, Nat.le_of_ble_eq_true rfl⟩ ⟨by decide, by decide⟩ dX1_leastCost_10) (fun r w2 H locs hp hW => ?_)
    obtain ⟨q, u, rfl, hq, hu, hQ, rfl⟩ := hp
    refine n_if_ne hx hb rfl (by split <;> decide) (tgt := 18) dX1_leastCost_13 (by decide) (fun c_13 => ?_) (fun c_13 => ?_)
    · have hQ2 : okQ set.testBit ic lc bc = true := by cases h : okQ set.testBit ic lc bc with | true => rfl | false => rw [h] at c_13; exact absurd rfl c_13
      obtain ⟨hq1, hq2⟩ := hQ hQ2
      refine lv_iconst (v := nI 1) hx hb dX1_leastCost_18 (by decide) ?_
      refine lv_aload_n hx hb dX1_leastCost_19 rfl (lv_at hl 0 rfl) ?_
      refine x_get X hW 0 rfl 11 rfl rfl iwX1 (by decide) wq_148 rfl dX1_leastCost_20 ?_
      refine n_ishl1 hx hb (by omega) dX1_leastCost_23 ?_
      refine lv_iconst (v := nI 1) hx hb dX1_leastCost_24 (by decide) ?_
      refine n_isub hx hb (Nat.two_pow_pos lc) dX1_leastCost_25 ?_
      refine lv_istore_n (lv' := [(2, .int (nI ((2 ^ lc) - 1))), (0, .ref (f 0)), (1, .int (nI set))]) hx hb dX1_leastCost_26 rfl hl (by decide) rfl (fun ls hl => ?_)
      have loop : ∀ (n : Nat) (mm : Nat) (v : Nat → Nat), mm + 1 ≤ n → mm ≤ 2 ^ lc → (∀ t, mm ≤ t → t < 2 ^ lc → v t = rcv (qf (its set.testBit ic fl bc)) q lc rs (q - pop t) t) → (∀ t, v t ≤ 1000000) → ∀ (H : Heap) (locs : List Loc) (ls : Array Slot), Wd G A s (fW G f lc bc q ln rs rm bn bd pr ic fl u v gp ++ Y) H locs → lv_has ls 3 [(0, .ref (f 0)), (1, .int (nI set)), (2, .int (zI (((mm : Nat) : Int) + (-1))))] → W p l e (RM 2 0 0) s m args below meth c H locs 0 0 (MQ below (Qi G A (fun r w2 => ∃ (q : Nat) (u v : Nat → Nat), r = zI (lcost set bc lc bd ic fl rs) ∧ q ≤ 8 ∧ (∀ i, u i < 256) ∧ (∀ i, v i ≤ 1000000) ∧ (okB set.testBit bd bc = true ∧ okQ set.testBit ic lc bc = true → q = (bsum set.testBit ic bc) ∧ (∀ t, t < q → u t = qf (its set.testBit ic fl bc) t) ∧ ∀ t, t < 2 ^ lc → v t = rcv (qf (its set.testBit ic fl bc)) q lc rs (q - pop t) t) ∧ w2 = (fW G f lc bc q ln rs rm bn bd pr ic fl u v gp ++ Y))) args s (RM 2 0 0).cells (RM 2 0 0).slots A) (F0 m 27 ls []) := by
        intro n
        induction n with
        | zero => intro mm v h1 h2 h3 h4; exact absurd h1 (by omega)
        | succ n ih =>
          intro mm v h1 h2 h3 h4 H locs ls hW hl
          refine lv_iload_n hx hb dX1_leastCost_27 rfl (lv_at hl 2 rfl) ?_
          refine z_if_lt hx hb rfl (by omega) (tgt := 48) dX1_leastCost_28 (by decide) (fun c_28 => ?_) (fun c_28 => ?_)
          · have h00 : v 0 = rcv (qf (its set.testBit ic fl bc)) q lc rs q 0 := by have := h3 0 (by omega) (Nat.two_pow_pos lc); rw [pop_0] at this; exact this
            refine lv_aload_n hx hb dX1_leastCost_48 rfl (lv_at hl 0 rfl) ?_
            refine x_get X hW 0 rfl 9 rfl rfl iwX1 (by decide) wq_146 rfl dX1_leastCost_49 ?_
            refine lv_iconst (v := nI 0) hx hb dX1_leastCost_52 (by decide) ?_
            refine n_iald X hW (n := 256) (f := v) 10 rfl (by decide) (by decide) dX1_leastCost_53 ?_
            refine lv_ldc (v := (nI 1000000)) hx hb X.own (X.ws _ wq_353) dX1_leastCost_54 ?_
            refine n_icmp_ge hx hb rfl rfl (by have := h4 0; omega) (by omega) (tgt := 68) dX1_leastCost_56 (by decide) (fun c_56 => ?_) (fun c_56 => ?_)
            · refine lv_iconst (v := zI (-1)) hx hb dX1_leastCost_68 (by decide) ?_
              exact ret_i X hW (v := (zI (-1))) (⟨q, u, v, by rw [lcost, if_neg (by rw [← hq1, ← h00]; omega)], by omega, hu, h4, (fun _ => ⟨hq1, hq2, fun t ht => h3 t (by omega) ht⟩), rfl⟩) rfl (by decide) (by decide) dX1_leastCost_69
            · refine lv_aload_n hx hb dX1_leastCost_59 rfl (lv_at hl 0 rfl) ?_
              refine x_get X hW 0 rfl 9 rfl rfl iwX1 (by decide) wq_146 rfl dX1_leastCost_60 ?_
              refine lv_iconst (v := nI 0) hx hb dX1_leastCost_63 (by decide) ?_
              refine n_iald X hW (n := 256) (f := v) 10 rfl (by omega) (by decide) dX1_leastCost_64 ?_
              refine lv_goto (tgt := 69) hx hb dX1_leastCost_65 (by decide) ?_
              exact ret_i X hW (v := (nI (v 0))) (⟨q, u, v, by rw [lcost, if_pos ⟨hB, hQ2, by rw [← hq1, ← h00]; omega⟩, ← hq1, ← h00]; exact nZ _, by omega, hu, h4, (fun _ => ⟨hq1, hq2, fun t ht => h3 t (by omega) ht⟩), rfl⟩) rfl (by decide) (by decide) dX1_leastCost_69
          · have hm : 0 < mm := by omega
            rw [zpred hm] at hl
            refine lv_aload_n hx hb dX1_leastCost_31 rfl (lv_at hl 0 rfl) ?_
            refine x_get X hW 0 rfl 9 rfl rfl iwX1 (by decide) wq_146 rfl dX1_leastCost_32 ?_
            refine lv_iload_n hx hb dX1_leastCost_35 rfl (lv_at hl 2 rfl) ?_
            refine lv_aload_n hx hb dX1_leastCost_36 rfl (lv_at hl 0 rfl) ?_
            refine lv_iload_n hx hb dX1_leastCost_37 rfl (lv_at hl 2 rfl) ?_
            refine go_i X hW (run_V X hW (As := [.int (nI (mm - 1))]) (rest := [.int (nI (mm - 1)), .ref (f 10)]) 4 0 rfl (c_X1_restCost l G f lc bc q ln rs rm bn bd pr ic fl u v gp Y (mm - 1) (by omega) hlc (by omega) hrs h4 hu _) (gi_V wq_343 wq_345 wq_15 wq_65 wq_346) rfl hyX1_restCost rfl rfl rfl hl.1 (Nat.le_of_ble_eq_true rfl) ⟨Nat.le_of_ble_eq_true rfl, Nat.le_of_ble_eq_true rfl⟩ ⟨by decide, by decide⟩ dX1_leastCost_38) (fun r w2 H locs hp hW => ?_)
            obtain ⟨rfl, rfl⟩ := hp
            refine n_iast X hW (n := 256) (f := v) 10 rfl (w2 := (fW G f lc bc q ln rs rm bn bd pr ic fl u (va_up v (mm - 1) (if q ≤ pop (mm - 1) then 0 else mnl (u (pop (mm - 1))) rs v (mm - 1) lc)) gp ++ Y)) rfl (by omega) (by decide) dX1_leastCost_41 (fun H locs hW => ?_)
            refine lv_iinc (v := (zI ((((mm - 1) : Nat) : Int) + (-1)))) (lv' := [(2, .int (zI ((((mm - 1) : Nat) : Int) + (-1)))), (0, .ref (f 0)), (1, .int (nI set))]) hx hb dX1_leastCost_42 hl (k := 2) rfl ((by rw [nZ]; exact zI_add _ _)) (by decide) rfl (fun ls hl => ?_)
            refine lv_goto (tgt := 27) hx hb dX1_leastCost_45 (by decide) ?_
            have hst := rc_step (qu := u) (rc := v) (rs := rs) (ql := q) hlc (show mm - 1 < 2 ^ lc by omega) (fun u2 hu2 hu3 => by rw [h3 u2 (by omega) hu3]; exact (rcv_congr hq2 _ _ (Nat.sub_le _ _)).symm)
            have hlev : ∀ x, (va_up v (mm - 1) (if q ≤ pop (mm - 1) then 0 else mnl (u (pop (mm - 1))) rs v (mm - 1) lc)) x ≤ 1000000 := fun x => by unfold va_up; split; rw [hst]; exact rcv_le _ _ _ _ _ _; exact h4 x
            exact ih (mm - 1) _ (by omega) (by omega) (fun t ht ht2 => by unfold va_up; split; rename_i e; rw [hst, e]; exact rcv_congr hq2 _ _ (Nat.sub_le _ _); exact h3 t (by omega) ht2) hlev _ _ _ hW (lv_sub hl [1, 2, 0] rfl)
      exact loop (2 ^ lc + 1) (2 ^ lc) rc (by omega) (by omega) (fun t h1 h2 => absurd h1 (by omega)) hrc _ _ _ hW (by rw [zpred (Nat.two_pow_pos lc)]; exact lv_sub hl [1, 2, 0] rfl)
    · have hQ2 : okQ set.testBit ic lc bc = false := by cases h : okQ set.testBit ic lc bc with | false => rfl | true => rw [h] at c_13; exact absurd c_13 (by decide)
      refine lv_iconst (v := zI (-1)) hx hb dX1_leastCost_16 (by decide) ?_
      exact ret_i X hW (v := (zI (-1))) (⟨q, u, rc, by rw [lcost, if_neg (by rw [hQ2]; exact fun h => absurd h.2.1 (by decide))], by omega, hu, hrc, (fun h => absurd h.2 (by rw [hQ2]; decide)), rfl⟩) rfl (by decide) (by decide) dX1_leastCost_17

theorem mnl_at {it : Nat} {rs g : Nat → Nat} {t n : Nat} (h : mnl it rs g t n < 1000000) : ∃ l, l < n ∧ it.testBit l = true ∧ t.testBit l = false ∧ rs l + g (t ||| 2 ^ l) = mnl it rs g t n := by
  induction n with
  | zero => exact absurd h (by rw [mnl]; omega)
  | succ n ih =>
    rw [mnl] at h ⊢
    split
    · rename_i hc
      rw [if_pos hc] at h
      rw [Bool.and_eq_true, Bool.not_eq_true'] at hc
      by_cases q : mnl it rs g t n ≤ rs n + g (t ||| 2 ^ n)
      · rw [Nat.min_eq_left q] at h ⊢
        obtain ⟨l, h1, h2⟩ := ih h
        exact ⟨l, by omega, h2⟩
      · rw [Nat.min_eq_right (by omega)]
        exact ⟨n, by omega, hc.1, hc.2, rfl⟩
    · rename_i hc
      rw [if_neg hc] at h
      obtain ⟨l, h1, h2⟩ := ih h
      exact ⟨l, by omega, h2⟩
theorem fst1_of_lt {P : Nat → Bool} {n : Nat} (h : fst1 P n < n) : P (fst1 P n) = true := by
  induction n with
  | zero => exact absurd h (Nat.not_lt_zero _)
  | succ n ih =>
    rw [fst1] at h ⊢
    split at h
    · rename_i q
      rw [if_pos q]; exact ih q
    · rename_i q
      rw [if_neg q]
      split at h
      · rename_i hp; rw [if_pos hp]; exact hp
      · exact absurd h (Nat.lt_irrefl _)
theorem fst1_lt {P : Nat → Bool} {n k : Nat} (hk : k < n) (hP : P k = true) : fst1 P n < n ∧ P (fst1 P n) = true := by
  induction n with
  | zero => omega
  | succ n ih =>
    rw [fst1]
    by_cases q : k = n
    · subst q
      have := fst1_le P k
      split
      · rename_i hlt
        refine ⟨by omega, ?_⟩
        rcases Nat.lt_or_ge 0 k with q | q
        · exact (fst1_of_lt hlt)
        · omega
      · first | exact ⟨by omega, hP⟩ | (rw [if_pos hP]; exact ⟨by omega, hP⟩)
    · obtain ⟨h1, h2⟩ := ih (by omega)
      rw [if_pos h1]; exact ⟨by omega, h2⟩
theorem fst1_congr {P P2 : Nat → Bool} {n : Nat} (h : ∀ k, k < n → P k = P2 k) : fst1 P n = fst1 P2 n := by
  induction n with
  | zero => rfl
  | succ n ih => rw [fst1, fst1, ih (fun k hk => h k (by omega)), h n (by omega)]
/-- which lot fits item i, is free, and begins a cheapest way for it and those behind it -/
def gvP (qu : Nat → Nat) (ql lc : Nat) (rs : Nat → Nat) (i t : Nat) : Nat → Bool := fun l => ((qu i).testBit l && !t.testBit l) && decide (rs l + rcv qu ql lc rs (ql - (i + 1)) (t ||| 2 ^ l) = rcv qu ql lc rs (ql - i) t)
/-- the lots taken by the first i items; the lot of item i -/
def gvt (qu : Nat → Nat) (ql lc : Nat) (rs : Nat → Nat) (i : Nat) : Nat := match i with
  | 0 => 0
  | i + 1 => gvt qu ql lc rs i ||| 2 ^ fst1 (gvP qu ql lc rs i (gvt qu ql lc rs i)) lc
def gvl (qu : Nat → Nat) (ql lc : Nat) (rs : Nat → Nat) (i : Nat) : Nat := fst1 (gvP qu ql lc rs i (gvt qu ql lc rs i)) lc
theorem gv_step {qu rs : Nat → Nat} {ql lc i t : Nat} (hi : i < ql) (h : rcv qu ql lc rs (ql - i) t < 1000000) : fst1 (gvP qu ql lc rs i t) lc < lc ∧ gvP qu ql lc rs i t (fst1 (gvP qu ql lc rs i t) lc) = true := by
  obtain ⟨d, hd⟩ : ∃ d, ql - i = d + 1 := ⟨ql - i - 1, by omega⟩
  have h0 := h
  rw [hd] at h
  obtain ⟨l, h1, h2, h3, h4⟩ := mnl_at (it := qu (ql - (d + 1))) (rs := rs) (g := rcv qu ql lc rs d) (t := t) (n := lc) h
  refine fst1_lt h1 ?_
  rw [show ql - (d + 1) = i by omega] at h2 h4
  rw [gvP, h2, h3, decide_eq_true]
  · rfl
  · rw [show ql - (i + 1) = d by omega, h4, hd]
    show _ = mnl (qu (ql - (d + 1))) rs (rcv qu ql lc rs d) t lc
    rw [show ql - (d + 1) = i by omega]
theorem gv_ok {qu rs : Nat → Nat} {ql lc : Nat} (hlc : lc ≤ 8) (h : rcv qu ql lc rs ql 0 < 1000000) (i : Nat) (hi : i ≤ ql) : gvt qu ql lc rs i < 2 ^ lc ∧ pop (gvt qu ql lc rs i) = i ∧ rcv qu ql lc rs (ql - i) (gvt qu ql lc rs i) < 1000000 := by
  have h256 := p2_256 hlc
  induction i with
  | zero => exact ⟨Nat.two_pow_pos lc, pop_0, h⟩
  | succ i ih =>
    obtain ⟨a1, a2, a3⟩ := ih (by omega)
    obtain ⟨b1, b2⟩ := gv_step (by omega) a3
    rw [gvP, Bool.and_eq_true, Bool.and_eq_true, Bool.not_eq_true'] at b2
    obtain ⟨⟨b3, b4⟩, b5⟩ := b2
    have b5 := of_decide_eq_true b5
    rw [gvt]
    refine ⟨or_p2 a1 b1, ?_, ?_⟩
    · rw [(pop_or _ (by omega) _ (by omega) b4).1, a2]
    · omega
theorem lcost_ok {set bc lc : Nat} {bd ic fl rs : Nat → Nat} (h : lcost set bc lc bd ic fl rs ≠ -1) : okB set.testBit bd bc = true ∧ okQ set.testBit ic lc bc = true ∧ rcv (qf (its set.testBit ic fl bc)) (bsum set.testBit ic bc) lc rs (bsum set.testBit ic bc) 0 < 1000000 := by
  unfold lcost at h
  split at h
  · assumption
  · exact absurd rfl h
set_option maxRecDepth 100000 in
set_option maxHeartbeats 4000000 in
theorem c_X1_giveLots (l : Launch) (G : Gt) (f : Nat → Nat) (lc bc ql : Nat) (ln rs rm bn bd pr ic fl qu rc : Nat → Nat) (gp : Nat → Int) (Y : va_W) (set : Nat) (hset : set < 256) (hlc : lc ≤ 8) (hbc : bc ≤ 8) (hql : ql ≤ 8) (hbd : ∀ k, bd k < 8) (hic : ∀ k, ic k ≤ 3) (hfl : ∀ k, fl k < 256) (hrs : ∀ k, rs k ≤ 999) (hqu : ∀ k, qu k < 256) (hrc : ∀ k, rc k ≤ 1000000) (hgp : ∀ k, -1 ≤ gp k ∧ gp k < 8) (hfe : (lcost set bc lc bd ic fl rs) ≠ -1) : Cv l G yX1_giveLots (ww yX1_giveLots cX1_giveLots 5 (none : Option ClassFile.FieldType)) (RM 3 0 0) [.ref (f 0), .int (nI set)] (fW G f lc bc ql ln rs rm bn bd pr ic fl qu rc gp ++ Y) (fun w2 => ∃ (u v : Nat → Nat) (gp2 : Nat → Int), (∀ i, u i < 256) ∧ (∀ i, v i ≤ 1000000) ∧ (∀ i, -1 ≤ gp2 i ∧ gp2 i < 8) ∧ (∀ i, i < (bsum set.testBit ic bc) → gp2 i = ((gvl (qf (its set.testBit ic fl bc)) (bsum set.testBit ic bc) lc rs i : Nat) : Int)) ∧ w2 = (fW G f lc bc (bsum set.testBit ic bc) ln rs rm bn bd pr ic fl u v gp2 ++ Y)) := by
  refine Cv.intro (by decide) (Nat.le_of_ble_eq_true rfl) ?_
  intro p e s m args below meth c A X hW ls hl
  have hx := X.exec
  have hb := X.bytes
  have hl : lv_has ls 5 [(0, .ref (f 0)), (1, .int (nI set))] := hl
  have h256 := p2_256 hlc
  refine lv_aload_n hx hb dX1_giveLots_0 rfl (lv_at hl 0 rfl) ?_
  refine lv_iload_n hx hb dX1_giveLots_1 rfl (lv_at hl 1 rfl) ?_
  refine go_i X hW (run_V X hW (As := [.int (nI set)]) (rest := []) 4 0 rfl (c_X1_leastCost l G f lc bc ql ln rs rm bn bd pr ic fl qu rc gp Y set hset hlc hbc hql hbd hic hfl hrs hqu hrc _) (gi_V wq_796 wq_333 wq_12 wq_65 wq_334) rfl hyX1_leastCost rfl rfl rfl hl.1 (Nat.le_of_ble_eq_true rfl) ⟨Nat.le_of_ble_eq_true rfl, Nat.le_of_ble_eq_true rfl⟩ ⟨by decide, by decide⟩ dX1_giveLots_2) (fun r w2 H locs hp hW => ?_)
  obtain ⟨q, u, v, rfl, hq, hu, hv, hF, rfl⟩ := hp
  have hok := lcost_ok hfe
  obtain ⟨hq1, hq2, hq3⟩ := hF ⟨hok.1, hok.2.1⟩
  subst hq1
  have hgv := gv_ok (qu := qf (its set.testBit ic fl bc)) (rs := rs) hlc hok.2.2
  refine lv_iconst (v := zI (-1)) hx hb dX1_giveLots_5 (by decide) ?_
  refine z_icmp_ne hx hb rfl rfl (by have := lcost_rng set bc lc bd ic fl rs; omega) (by omega) (tgt := 15) dX1_giveLots_6 (by decide) (fun c_6 => ?_) (fun c_6 => absurd c_6 hfe)
  refine lv_iconst (v := nI 0) hx hb dX1_giveLots_15 (by decide) ?_
  refine lv_istore_n (lv' := [(2, .int (nI 0)), (0, .ref (f 0)), (1, .int (nI set))]) hx hb dX1_giveLots_16 rfl hl (by decide) rfl (fun ls hl => ?_)
  refine lv_iconst (v := nI 0) hx hb dX1_giveLots_17 (by decide) ?_
  refine lv_istore_n (lv' := [(3, .int (nI 0)), (2, .int (nI 0)), (0, .ref (f 0)), (1, .int (nI set))]) hx hb dX1_giveLots_18 rfl hl (by decide) rfl (fun ls hl => ?_)
  have loop : ∀ (n : Nat) (i : Nat) (gp2 : Nat → Int), (bsum set.testBit ic bc) + 1 ≤ i + n → i ≤ (bsum set.testBit ic bc) → (∀ j, -1 ≤ gp2 j ∧ gp2 j < 8) → (∀ j, j < i → gp2 j = ((gvl (qf (its set.testBit ic fl bc)) (bsum set.testBit ic bc) lc rs j : Nat) : Int)) → ∀ (H : Heap) (locs : List Loc) (ls : Array Slot), Wd G A s (fW G f lc bc (bsum set.testBit ic bc) ln rs rm bn bd pr ic fl u v gp2 ++ Y) H locs → lv_has ls 5 [(0, .ref (f 0)), (1, .int (nI set)), (2, .int (nI (gvt (qf (its set.testBit ic fl bc)) (bsum set.testBit ic bc) lc rs i))), (3, .int (nI i))] → W p l e (RM 3 0 0) s m args below meth c H locs 0 0 (MQ below (Qv G A (fun w2 => ∃ (u v : Nat → Nat) (gp2 : Nat → Int), (∀ i, u i < 256) ∧ (∀ i, v i ≤ 1000000) ∧ (∀ i, -1 ≤ gp2 i ∧ gp2 i < 8) ∧ (∀ i, i < (bsum set.testBit ic bc) → gp2 i = ((gvl (qf (its set.testBit ic fl bc)) (bsum set.testBit ic bc) lc rs i : Nat) : Int)) ∧ w2 = (fW G f lc bc (bsum set.testBit ic bc) ln rs rm bn bd pr ic fl u v gp2 ++ Y))) args s (RM 3 0 0).cells (RM 3 0 0).slots A) (F0 m 19 ls []) := by
    intro n
    induction n with
    | zero => intro i gp2 h1 h2 h3 h4; exact absurd h1 (by omega)
    | succ n ih =>
      intro i gp2 h1 h2 h3 h4 H locs ls hW hl
      obtain ⟨a1, a2, a3⟩ := hgv i h2
      have g1 : i < (bsum set.testBit ic bc) → fst1 (gvP (qf (its set.testBit ic fl bc)) (bsum set.testBit ic bc) lc rs i (gvt (qf (its set.testBit ic fl bc)) (bsum set.testBit ic bc) lc rs i)) lc < lc := fun h => (gv_step h a3).1
      refine lv_iload_n hx hb dX1_giveLots_19 rfl (lv_at hl 3 rfl) ?_
      refine lv_aload_n hx hb dX1_giveLots_20 rfl (lv_at hl 0 rfl) ?_
      refine x_get X hW 0 rfl 13 rfl rfl iwX1 (by decide) wq_154 rfl dX1_giveLots_21 ?_
      refine n_icmp_ge hx hb rfl rfl (by omega) (by omega) (tgt := 70) dX1_giveLots_24 (by decide) (fun c_24 => ?_) (fun c_24 => ?_)
      · exact ret_v X hW (⟨u, v, gp2, hu, hv, h3, fun j hj => h4 j (by omega), rfl⟩) rfl (by decide) (by decide) dX1_giveLots_70
      · have g1 := g1 c_24
        refine lv_aload_n hx hb dX1_giveLots_27 rfl (lv_at hl 0 rfl) ?_
        refine lv_aload_n hx hb dX1_giveLots_28 rfl (lv_at hl 0 rfl) ?_
        refine x_get X hW 0 rfl 8 rfl rfl iwX1 (by decide) wq_145 rfl dX1_giveLots_29 ?_
        refine lv_iload_n hx hb dX1_giveLots_32 rfl (lv_at hl 3 rfl) ?_
        refine n_iald X hW (n := 8) (f := u) 9 rfl (by omega) (by decide) dX1_giveLots_33 ?_
        refine lv_iload_n hx hb dX1_giveLots_34 rfl (lv_at hl 2 rfl) ?_
        refine lv_iconst (v := zI (-1)) hx hb dX1_giveLots_35 (by decide) ?_
        refine lv_ixor hx hb dX1_giveLots_36 ?_
        refine n_andnot hx hb (hu _) (by omega) dX1_giveLots_37 ?_
        refine lv_iload_n hx hb dX1_giveLots_38 rfl (lv_at hl 2 rfl) ?_
        refine go_i X hW (run_V X hW (As := [.int (nI ((u i) &&& ((gvt (qf (its set.testBit ic fl bc)) (bsum set.testBit ic bc) lc rs i) ^^^ 255))), .int (nI (gvt (qf (its set.testBit ic fl bc)) (bsum set.testBit ic bc) lc rs i))]) (rest := []) 4 0 rfl (c_X1_firstCheapest l G f lc bc (bsum set.testBit ic bc) ln rs rm bn bd pr ic fl u v gp2 Y ((u i) &&& ((gvt (qf (its set.testBit ic fl bc)) (bsum set.testBit ic bc) lc rs i) ^^^ 255)) (gvt (qf (its set.testBit ic fl bc)) (bsum set.testBit ic bc) lc rs i) (and_lt (hu _)) (by omega) hlc hrs hv _) (gi_V wq_797 wq_799 wq_36 wq_65 wq_800) rfl hyX1_firstCheapest rfl rfl rfl hl.1 (Nat.le_of_ble_eq_true rfl) ⟨Nat.le_of_ble_eq_true rfl, Nat.le_of_ble_eq_true rfl⟩ ⟨by decide, by decide⟩ dX1_giveLots_39) (fun r w2 H locs hp hW => ?_)
        obtain ⟨rfl, rfl⟩ := hp
        have hfc : (fst1 (fcP ((u i) &&& ((gvt (qf (its set.testBit ic fl bc)) (bsum set.testBit ic bc) lc rs i) ^^^ 255)) rs v (gvt (qf (its set.testBit ic fl bc)) (bsum set.testBit ic bc) lc rs i)) lc) = gvl (qf (its set.testBit ic fl bc)) (bsum set.testBit ic bc) lc rs i := fst1_congr (fun k hk => by rw [fcP, gvP, bit_andnot (by omega), hq2 i (by omega)]; cases hb : (gvt (qf (its set.testBit ic fl bc)) (bsum set.testBit ic bc) lc rs i).testBit k with | true => rw [Bool.not_true, Bool.and_false]; rfl | false => rw [hq3 _ (or_p2 a1 hk), hq3 _ a1, (pop_or _ (by omega) k (by omega) hb).1, a2])
        have hfl2 : gvl (qf (its set.testBit ic fl bc)) (bsum set.testBit ic bc) lc rs i < lc := g1
        rw [hfc, orNo, if_pos (decide_eq_true hfl2), ← nZ]
        refine lv_istore (lv' := [(4, .int (nI (gvl (qf (its set.testBit ic fl bc)) (bsum set.testBit ic bc) lc rs i))), (0, .ref (f 0)), (1, .int (nI set)), (2, .int (nI (gvt (qf (its set.testBit ic fl bc)) (bsum set.testBit ic bc) lc rs i))), (3, .int (nI i))]) hx hb dX1_giveLots_42 hl (by decide) rfl (fun ls hl => ?_)
        refine lv_aload_n hx hb dX1_giveLots_44 rfl (lv_at hl 1 rfl) ?_
        refine x_get X hW 0 rfl 10 rfl rfl iwX1 (by decide) wq_147 rfl dX1_giveLots_45 ?_
        refine lv_iload_n hx hb dX1_giveLots_48 rfl (lv_at hl 4 rfl) ?_
        refine lv_iload hx hb dX1_giveLots_49 (lv_at hl 0 rfl) ?_
        refine r_nz ?_
        refine z_iast X hW (n := 8) (f := gp2) 11 rfl (w2 := (fW G f lc bc (bsum set.testBit ic bc) ln rs rm bn bd pr ic fl u v (va_up gp2 i (((gvl (qf (its set.testBit ic fl bc)) (bsum set.testBit ic bc) lc rs i) : Nat) : Int)) ++ Y)) rfl (by omega) (by decide) dX1_giveLots_51 (fun H locs hW => ?_)
        refine lv_iload hx hb dX1_giveLots_52 (lv_at hl 0 rfl) ?_
        refine n_if_lt hx hb rfl (by omega) (tgt := 64) dX1_giveLots_54 (by decide) (fun c_54 => absurd c_54 (by omega)) (fun c_54 => ?_)
        refine lv_iload_n hx hb dX1_giveLots_57 rfl (lv_at hl 3 rfl) ?_
        refine lv_iconst (v := nI 1) hx hb dX1_giveLots_58 (by decide) ?_
        refine lv_iload hx hb dX1_giveLots_59 (lv_at hl 0 rfl) ?_
        refine n_ishl1 hx hb (by omega) dX1_giveLots_61 ?_
        refine n_ior hx hb dX1_giveLots_62 ?_
        refine lv_istore_n (lv' := [(2, .int (nI ((gvt (qf (its set.testBit ic fl bc)) (bsum set.testBit ic bc) lc rs i) ||| (2 ^ (gvl (qf (its set.testBit ic fl bc)) (bsum set.testBit ic bc) lc rs i))))), (4, .int (nI (gvl (qf (its set.testBit ic fl bc)) (bsum set.testBit ic bc) lc rs i))), (0, .ref (f 0)), (1, .int (nI set)), (3, .int (nI i))]) hx hb dX1_giveLots_63 rfl hl (by decide) rfl (fun ls hl => ?_)
        refine lv_iinc (v := (nI (i + 1))) (lv' := [(3, .int (nI (i + 1))), (2, .int (nI ((gvt (qf (its set.testBit ic fl bc)) (bsum set.testBit ic bc) lc rs i) ||| (2 ^ (gvl (qf (its set.testBit ic fl bc)) (bsum set.testBit ic bc) lc rs i))))), (4, .int (nI (gvl (qf (its set.testBit ic fl bc)) (bsum set.testBit ic bc) lc rs i))), (0, .ref (f 0)), (1, .int (nI set))]) hx hb dX1_giveLots_64 hl (k := 4) rfl (nI_add _ _) (by decide) rfl (fun ls hl => ?_)
        refine lv_goto (tgt := 19) hx hb dX1_giveLots_67 (by decide) ?_
        exact ih (i + 1) _ (by omega) (by omega) (fun j => by unfold va_up; split; omega; exact h3 j) (fun j hj => by unfold va_up; split; rename_i e; rw [e]; exact h4 j (by omega)) _ _ _ hW (by rw [show gvt (qf (its set.testBit ic fl bc)) (bsum set.testBit ic bc) lc rs (i + 1) = ((gvt (qf (its set.testBit ic fl bc)) (bsum set.testBit ic bc) lc rs i) ||| (2 ^ (gvl (qf (its set.testBit ic fl bc)) (bsum set.testBit ic bc) lc rs i))) from rfl]; exact lv_sub hl [3, 4, 1, 0] rfl)
  exact loop ((bsum set.testBit ic bc) + 1) 0 gp (by omega) (by omega) hgp (fun j hj => absurd hj (by omega)) _ _ _ hW (lv_sub hl [2, 3, 1, 0] rfl)

