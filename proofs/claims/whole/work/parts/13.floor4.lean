/-- the items of the bids below n that are in p, each as the set of lots that fit it -/
def its (p : Nat → Bool) (ic fl : Nat → Nat) (n : Nat) : List Nat := match n with
  | 0 => []
  | n + 1 => its p ic fl n ++ (if p n = true then (List.range (ic n)).map (fun i => fl (n * 3 + i)) else [])
theorem its_len (p : Nat → Bool) (ic fl : Nat → Nat) (n : Nat) : (its p ic fl n).length = bsum p ic n := by
  induction n with
  | zero => rfl
  | succ n ih =>
    rw [its, bsum, List.length_append, ih]
    split <;> simp
def qf (L : List Nat) : Nat → Nat := fun t => L.getD t 0
theorem qf_l {L M : List Nat} {t : Nat} (h : t < L.length) : qf (L ++ M) t = qf L t := by
  unfold qf; rw [List.getD_eq_getElem?_getD, List.getD_eq_getElem?_getD, List.getElem?_append_left h]
theorem qf_r {L M : List Nat} {t : Nat} : qf (L ++ M) (L.length + t) = qf M t := by
  unfold qf; rw [List.getD_eq_getElem?_getD, List.getD_eq_getElem?_getD, List.getElem?_append_right (by omega), Nat.add_sub_cancel_left]
theorem its_old {p : Nat → Bool} {ic fl : Nat → Nat} {n t : Nat} (h : t < bsum p ic n) : qf (its p ic fl (n + 1)) t = qf (its p ic fl n) t := by
  rw [its]; exact qf_l (by rw [its_len]; exact h)
theorem its_new {p : Nat → Bool} {ic fl : Nat → Nat} {n i : Nat} (hp : p n = true) (h : i < ic n) : qf (its p ic fl (n + 1)) (bsum p ic n + i) = fl (n * 3 + i) := by
  rw [its, ← its_len p ic fl n, qf_r, if_pos hp]
  unfold qf
  rw [List.getD_eq_getElem?_getD, List.getElem?_map, List.getElem?_range h]
  rfl
/-- the least cost of the last d of ql items, when the lots t are taken -/
def rcv (qu : Nat → Nat) (ql lc : Nat) (rs : Nat → Nat) (d : Nat) : Nat → Nat := match d with
  | 0 => fun _ => 0
  | d + 1 => fun t => mnl (qu (ql - (d + 1))) rs (rcv qu ql lc rs d) t lc
theorem mnl_congr {it : Nat} {rs g g2 : Nat → Nat} {t n : Nat} (h : ∀ l, l < n → it.testBit l = true → t.testBit l = false → g (t ||| 2 ^ l) = g2 (t ||| 2 ^ l)) : mnl it rs g t n = mnl it rs g2 t n := by
  induction n with
  | zero => rfl
  | succ n ih =>
    rw [mnl, mnl, ih (fun l hl => h l (by omega))]
    split
    · rename_i hc
      rw [Bool.and_eq_true, Bool.not_eq_true'] at hc
      rw [h n (by omega) hc.1 hc.2]
    · rfl
theorem rcv_le (qu : Nat → Nat) (ql lc : Nat) (rs : Nat → Nat) (d t : Nat) : rcv qu ql lc rs d t ≤ 1000000 := by
  cases d with
  | zero => exact Nat.zero_le _
  | succ d => exact mnl_le _ _ _ _ _
theorem rcv_congr {qu qu2 : Nat → Nat} {ql lc : Nat} {rs : Nat → Nat} (h : ∀ t, t < ql → qu t = qu2 t) (d t : Nat) (hd : d ≤ ql) : rcv qu ql lc rs d t = rcv qu2 ql lc rs d t := by
  induction d generalizing t with
  | zero => rfl
  | succ d ih =>
    show mnl _ _ _ _ _ = mnl _ _ _ _ _
    rw [h (ql - (d + 1)) (by omega)]
    exact mnl_congr (fun l _ _ _ => ih _ (by omega))
theorem pop_or : ∀ t, t < 256 → ∀ l, l < 8 → t.testBit l = false → pop (t ||| 2 ^ l) = pop t + 1 ∧ t < t ||| 2 ^ l := by decide +kernel
theorem pop_0 : pop 0 = 0 := by decide
theorem or_p2 {t l n : Nat} (ht : t < 2 ^ n) (hl : l < n) : t ||| 2 ^ l < 2 ^ n := Nat.or_lt_two_pow ht (Nat.pow_lt_pow_right (by decide) hl)
theorem p2_256 {n : Nat} (h : n ≤ 8) : 2 ^ n ≤ 256 := by
  have : 2 ^ n ≤ 2 ^ 8 := Nat.pow_le_pow_right (by decide) h
  exact this
theorem rc_step {qu rc rs : Nat → Nat} {ql lc t : Nat} (hlc : lc ≤ 8) (ht : t < 2 ^ lc) (h : ∀ u, t < u → u < 2 ^ lc → rc u = rcv qu ql lc rs (ql - pop u) u) : (if ql ≤ pop t then 0 else mnl (qu (pop t)) rs rc t lc) = rcv qu ql lc rs (ql - pop t) t := by
  have h256 := p2_256 hlc
  by_cases q : ql ≤ pop t
  · rw [if_pos q, show ql - pop t = 0 by omega]; rfl
  · rw [if_neg q]
    obtain ⟨d, hd⟩ : ∃ d, ql - pop t = d + 1 := ⟨ql - pop t - 1, by omega⟩
    rw [hd]
    show _ = mnl (qu (ql - (d + 1))) rs (rcv qu ql lc rs d) t lc
    rw [show ql - (d + 1) = pop t by omega]
    refine mnl_congr (fun l hl _ htl => ?_)
    obtain ⟨p1, p2⟩ := pop_or t (by omega) l (by omega) htl
    rw [h _ p2 (or_p2 ht hl), p1, show ql - (pop t + 1) = d by omega]
theorem zpred {m : Nat} (h : 0 < m) : zI (((m : Nat) : Int) + (-1)) = nI (m - 1) := by rw [nZ]; congr 1; omega
/-- the least cost of a set as a whole number; minus one where the set is not possible -/
def lcost (set bc lc : Nat) (bd ic fl rs : Nat → Nat) : Int := if okB set.testBit bd bc = true ∧ okQ set.testBit ic lc bc = true ∧ rcv (qf (its set.testBit ic fl bc)) (bsum set.testBit ic bc) lc rs (bsum set.testBit ic bc) 0 < 1000000 then ((rcv (qf (its set.testBit ic fl bc)) (bsum set.testBit ic bc) lc rs (bsum set.testBit ic bc) 0 : Nat) : Int) else -1
theorem lcost_rng (set bc lc : Nat) (bd ic fl rs : Nat → Nat) : -1 ≤ lcost set bc lc bd ic fl rs ∧ lcost set bc lc bd ic fl rs < 1000000 := by
  unfold lcost
  split
  · rename_i h; constructor; omega; have := h.2.2; omega
  · constructor <;> omega
set_option maxRecDepth 100000 in
set_option maxHeartbeats 4000000 in
theorem c_X1_queueItems (l : Launch) (G : Gt) (f : Nat → Nat) (lc bc ql : Nat) (ln rs rm bn bd pr ic fl qu rc : Nat → Nat) (gp : Nat → Int) (Y : va_W) (set : Nat) (hset : set < 256) (hlc : lc ≤ 8) (hbc : bc ≤ 8) (hic : ∀ k, ic k ≤ 3) (hfl : ∀ k, fl k < 256) (hqu : ∀ k, qu k < 256) : Ci l G yX1_queueItems (ww yX1_queueItems cX1_queueItems 5 (some FieldType.boolean)) (RM 0 0 0) [.ref (f 0), .int (nI set)] (fW G f lc bc ql ln rs rm bn bd pr ic fl qu rc gp ++ Y) (fun r w2 => ∃ (q : Nat) (u : Nat → Nat), r = nI (if okQ set.testBit ic lc bc = true then 1 else 0) ∧ q ≤ lc ∧ (∀ i, u i < 256) ∧ (okQ set.testBit ic lc bc = true → q = bsum set.testBit ic bc ∧ ∀ t, t < q → u t = qf (its set.testBit ic fl bc) t) ∧ w2 = (fW G f lc bc q ln rs rm bn bd pr ic fl u rc gp ++ Y)) := by
  refine Ci.intro (by decide) (Nat.le_of_ble_eq_true rfl) ?_
  intro p e s m args below meth c A X hW ls hl
  have hx := X.exec
  have hb := X.bytes
  have hl : lv_has ls 5 [(0, .ref (f 0)), (1, .int (nI set))] := hl
  have loop : ∀ (n : Nat) (k : Nat) (u : Nat → Nat), bc + 1 ≤ k + n → k ≤ bc → okQ set.testBit ic lc k = true → bsum set.testBit ic k ≤ lc → (∀ t, t < bsum set.testBit ic k → u t = qf (its set.testBit ic fl k) t) → (∀ t, u t < 256) → ∀ (H : Heap) (locs : List Loc) (ls : Array Slot), Wd G A s (fW G f lc bc (bsum set.testBit ic k) ln rs rm bn bd pr ic fl u rc gp ++ Y) H locs → lv_has ls 5 [(0, .ref (f 0)), (1, .int (nI set)), (2, .int (nI k))] → W p l e (RM 0 0 0) s m args below meth c H locs 0 0 (MQ below (Qi G A (fun r w2 => ∃ (q : Nat) (u : Nat → Nat), r = nI (if okQ set.testBit ic lc bc = true then 1 else 0) ∧ q ≤ lc ∧ (∀ i, u i < 256) ∧ (okQ set.testBit ic lc bc = true → q = bsum set.testBit ic bc ∧ ∀ t, t < q → u t = qf (its set.testBit ic fl bc) t) ∧ w2 = (fW G f lc bc q ln rs rm bn bd pr ic fl u rc gp ++ Y))) args s (RM 0 0 0).cells (RM 0 0 0).slots A) (F0 m 7 ls []) := by
    intro n
    induction n with
    | zero => intro k u h1 h2 h3 h4 h5 h6; exact absurd h1 (by omega)
    | succ n ih =>
      intro k u h1 h2 h3 h4 h5 h6 H locs ls hW hl
      have hp2 := fun (h : k < 8) => p2_le h
      have hik := hic k
      refine lv_iload_n hx hb dX1_queueItems_7 rfl (lv_at hl 2 rfl) ?_
      refine lv_aload_n hx hb dX1_queueItems_8 rfl (lv_at hl 0 rfl) ?_
      refine x_get X hW 0 rfl 12 rfl rfl iwX1 (by decide) wq_151 rfl dX1_queueItems_9 ?_
      refine n_icmp_ge hx hb rfl rfl (by omega) (by omega) (tgt := 100) dX1_queueItems_12 (by decide) (fun c_12 => ?_) (fun c_12 => ?_)
      · refine lv_iconst (v := nI 1) hx hb dX1_queueItems_100 (by decide) ?_
        exact ret_z X hW (v := (nI 1)) (⟨_, u, by rw [if_pos (by rw [show bc = k by omega]; exact h3)], h4, h6, fun _ => ⟨by rw [show bc = k by omega], by rw [show bc = k by omega]; exact h5⟩, rfl⟩) rfl (by first | rfl | exact (pk_charN (by omega)).1) (by decide) (by decide) dX1_queueItems_101
      · refine lv_iload_n hx hb dX1_queueItems_15 rfl (lv_at hl 1 rfl) ?_
        refine lv_iconst (v := nI 1) hx hb dX1_queueItems_16 (by decide) ?_
        refine lv_iload_n hx hb dX1_queueItems_17 rfl (lv_at hl 2 rfl) ?_
        refine n_ishl1 hx hb (by omega) dX1_queueItems_18 ?_
        refine n_iand hx hb dX1_queueItems_19 ?_
        refine n_if_eq hx hb rfl (by have := @and_lt set (2 ^ k) 256 hset; omega) (tgt := 94) dX1_queueItems_20 (by decide) (fun c_20 => ?_) (fun c_20 => ?_)
        · refine lv_iinc (v := (nI (k + 1))) (lv' := [(2, .int (nI (k + 1))), (0, .ref (f 0)), (1, .int (nI set))]) hx hb dX1_queueItems_94 hl (k := 2) rfl (nI_add _ _) (by decide) rfl (fun ls hl => ?_)
          refine lv_goto (tgt := 7) hx hb dX1_queueItems_97 (by decide) ?_
          exact ih (k + 1) u (by omega) (by omega) (by rw [okQ, h3, bit_f c_20]; rfl) (by rw [bsum_f (bit_f c_20)]; exact h4) (fun t ht => by rw [bsum_f (bit_f c_20)] at ht; rw [its_old ht]; exact h5 t ht) h6 _ _ _ (by rw [bsum_f (bit_f c_20)]; exact hW) (lv_sub hl [1, 2, 0] rfl)
        · refine lv_aload_n hx hb dX1_queueItems_23 rfl (lv_at hl 0 rfl) ?_
          refine x_get X hW 0 rfl 6 rfl rfl iwX1 (by decide) wq_141 rfl dX1_queueItems_24 ?_
          refine lv_iload_n hx hb dX1_queueItems_27 rfl (lv_at hl 2 rfl) ?_
          refine n_iald X hW (n := 8) (f := ic) 7 rfl (by omega) (by decide) dX1_queueItems_28 ?_
          refine lv_istore_n (lv' := [(3, .int (nI (ic k))), (0, .ref (f 0)), (1, .int (nI set)), (2, .int (nI k))]) hx hb dX1_queueItems_29 rfl hl (by decide) rfl (fun ls hl => ?_)
          refine lv_iload_n hx hb dX1_queueItems_30 rfl (lv_at hl 0 rfl) ?_
          refine n_if_eq hx hb rfl (by omega) (tgt := 47) dX1_queueItems_31 (by decide) (fun c_31 => ?_) (fun c_31 => ?_)
          · refine lv_iconst (v := nI 0) hx hb dX1_queueItems_47 (by decide) ?_
            exact ret_z X hW (v := (nI 0)) (⟨_, u, by rw [if_neg (by rw [okQ_no (k := k + 1) (by rw [okQ, h3, bit_t c_20]; simp [c_31]) (by omega)]; decide)], h4, h6, fun h => by rw [okQ_no (k := k + 1) (by rw [okQ, h3, bit_t c_20]; simp [c_31]) (by omega)] at h; exact absurd h (by decide), rfl⟩) rfl (by first | rfl | exact (pk_charN (by omega)).1) (by decide) (by decide) dX1_queueItems_48
          · refine lv_aload_n hx hb dX1_queueItems_34 rfl (lv_at hl 1 rfl) ?_
            refine x_get X hW 0 rfl 13 rfl rfl iwX1 (by decide) wq_154 rfl dX1_queueItems_35 ?_
            refine lv_iload_n hx hb dX1_queueItems_38 rfl (lv_at hl 0 rfl) ?_
            refine n_iadd hx hb dX1_queueItems_39 ?_
            refine lv_aload_n hx hb dX1_queueItems_40 rfl (lv_at hl 1 rfl) ?_
            refine x_get X hW 0 rfl 11 rfl rfl iwX1 (by decide) wq_148 rfl dX1_queueItems_41 ?_
            refine n_icmp_le hx hb rfl rfl (by omega) (by omega) (tgt := 49) dX1_queueItems_44 (by decide) (fun c_44 => ?_) (fun c_44 => ?_)
            · refine lv_iconst (v := nI 0) hx hb dX1_queueItems_49 (by decide) ?_
              refine lv_istore (lv' := [(4, .int (nI 0)), (3, .int (nI (ic k))), (0, .ref (f 0)), (1, .int (nI set)), (2, .int (nI k))]) hx hb dX1_queueItems_50 hl (by decide) rfl (fun ls hl => ?_)
              have loop2 : ∀ (n : Nat) (i : Nat) (u2 : Nat → Nat), ic k + 1 ≤ i + n → i ≤ ic k → (∀ t, t < bsum set.testBit ic k + i → u2 t = qf (its set.testBit ic fl (k + 1)) t) → (∀ t, u2 t < 256) → ∀ (H : Heap) (locs : List Loc) (ls : Array Slot), Wd G A s (fW G f lc bc (bsum set.testBit ic k + i) ln rs rm bn bd pr ic fl u2 rc gp ++ Y) H locs → lv_has ls 5 [(0, .ref (f 0)), (1, .int (nI set)), (2, .int (nI k)), (3, .int (nI (ic k))), (4, .int (nI i))] → W p l e (RM 0 0 0) s m args below meth c H locs 0 0 (MQ below (Qi G A (fun r w2 => ∃ (q : Nat) (u : Nat → Nat), r = nI (if okQ set.testBit ic lc bc = true then 1 else 0) ∧ q ≤ lc ∧ (∀ i, u i < 256) ∧ (okQ set.testBit ic lc bc = true → q = bsum set.testBit ic bc ∧ ∀ t, t < q → u t = qf (its set.testBit ic fl bc) t) ∧ w2 = (fW G f lc bc q ln rs rm bn bd pr ic fl u rc gp ++ Y))) args s (RM 0 0 0).cells (RM 0 0 0).slots A) (F0 m 52 ls []) := by
                intro n
                induction n with
                | zero => intro i u2 g1 g2 g3 g4; exact absurd g1 (by omega)
                | succ n ih2 =>
                  intro i u2 g1 g2 g3 g4 H locs ls hW hl
                  refine lv_iload hx hb dX1_queueItems_52 (lv_at hl 4 rfl) ?_
                  refine lv_iload_n hx hb dX1_queueItems_54 rfl (lv_at hl 3 rfl) ?_
                  refine n_icmp_ge hx hb rfl rfl (by omega) (by omega) (tgt := 94) dX1_queueItems_55 (by decide) (fun c_55 => ?_) (fun c_55 => ?_)
                  · refine lv_iinc (v := (nI (k + 1))) (lv' := [(2, .int (nI (k + 1))), (0, .ref (f 0)), (1, .int (nI set)), (3, .int (nI (ic k))), (4, .int (nI i))]) hx hb dX1_queueItems_94 hl (k := 2) rfl (nI_add _ _) (by decide) rfl (fun ls hl => ?_)
                    refine lv_goto (tgt := 7) hx hb dX1_queueItems_97 (by decide) ?_
                    have ei : i = ic k := by omega
                    have eb := bsum_t (g := ic) (bit_t c_20)
                    exact ih (k + 1) u2 (by omega) (by omega) (by rw [okQ, h3, bit_t c_20]; simp; omega) (by omega) (fun t ht => g3 t (by omega)) g4 _ _ _ (by rw [eb, ← ei]; exact hW) (lv_sub hl [1, 2, 0] rfl)
                  · refine lv_aload_n hx hb dX1_queueItems_58 rfl (lv_at hl 0 rfl) ?_
                    refine x_get X hW 0 rfl 8 rfl rfl iwX1 (by decide) wq_145 rfl dX1_queueItems_59 ?_
                    refine lv_aload_n hx hb dX1_queueItems_62 rfl (lv_at hl 0 rfl) ?_
                    refine x_get X hW 0 rfl 13 rfl rfl iwX1 (by decide) wq_154 rfl dX1_queueItems_63 ?_
                    refine lv_aload_n hx hb dX1_queueItems_66 rfl (lv_at hl 0 rfl) ?_
                    refine x_get X hW 0 rfl 7 rfl rfl iwX1 (by decide) wq_143 rfl dX1_queueItems_67 ?_
                    refine lv_iload_n hx hb dX1_queueItems_70 rfl (lv_at hl 2 rfl) ?_
                    refine lv_iconst (v := nI 3) hx hb dX1_queueItems_71 (by decide) ?_
                    refine n_imul hx hb dX1_queueItems_72 ?_
                    refine lv_iload hx hb dX1_queueItems_73 (lv_at hl 4 rfl) ?_
                    refine n_iadd hx hb dX1_queueItems_75 ?_
                    refine n_iald X hW (n := 24) (f := fl) 8 rfl (by omega) (by decide) dX1_queueItems_76 ?_
                    refine n_iast X hW (n := 8) (f := u2) 9 rfl (w2 := (fW G f lc bc (bsum set.testBit ic k + i) ln rs rm bn bd pr ic fl (va_up u2 (bsum set.testBit ic k + i) (fl ((k * 3) + i))) rc gp ++ Y)) rfl (by omega) (by decide) dX1_queueItems_77 (fun H locs hW => ?_)
                    refine lv_aload_n hx hb dX1_queueItems_78 rfl (lv_at hl 0 rfl) ?_
                    refine lv_dup hx hb dX1_queueItems_79 rfl ?_
                    refine x_get X hW 0 rfl 13 rfl rfl iwX1 (by decide) wq_154 rfl dX1_queueItems_80 ?_
                    refine lv_iconst (v := nI 1) hx hb dX1_queueItems_83 (by decide) ?_
                    refine n_iadd hx hb dX1_queueItems_84 ?_
                    refine x_put X hW 0 rfl 13 (w2 := (fW G f lc bc ((bsum set.testBit ic k + i) + 1) ln rs rm bn bd pr ic fl (va_up u2 (bsum set.testBit ic k + i) (fl ((k * 3) + i))) rc gp ++ Y)) rfl rfl iwX1 tyX1_ok nmX1 (by decide) wq_154 rfl rfl rfl rfl (Nat.le_of_ble_eq_true rfl) dX1_queueItems_85 (fun H locs hW => ?_)
                    refine lv_iinc (v := (nI (i + 1))) (lv' := [(4, .int (nI (i + 1))), (0, .ref (f 0)), (1, .int (nI set)), (2, .int (nI k)), (3, .int (nI (ic k)))]) hx hb dX1_queueItems_88 hl (k := 4) rfl (nI_add _ _) (by decide) rfl (fun ls hl => ?_)
                    refine lv_goto (tgt := 52) hx hb dX1_queueItems_91 (by decide) ?_
                    exact ih2 (i + 1) _ (by omega) (by omega) (fun t ht => by unfold va_up; split; rename_i e; rw [e, its_new (bit_t c_20) (by omega)]; exact g3 t (by omega)) (fun t => by unfold va_up; split; exact hfl _; exact g4 t) _ _ _ hW (lv_sub hl [1, 2, 3, 4, 0] rfl)
              exact loop2 (ic k + 1) 0 u (by omega) (by omega) (fun t ht => by rw [its_old (by omega)]; exact h5 t (by omega)) h6 _ _ _ hW (lv_sub hl [2, 3, 4, 1, 0] rfl)
            · refine lv_iconst (v := nI 0) hx hb dX1_queueItems_47 (by decide) ?_
              exact ret_z X hW (v := (nI 0)) (⟨_, u, by rw [if_neg (by rw [okQ_no (k := k + 1) (by rw [okQ, h3, bit_t c_20]; simp; omega) (by omega)]; decide)], h4, h6, fun h => by rw [okQ_no (k := k + 1) (by rw [okQ, h3, bit_t c_20]; simp; omega) (by omega)] at h; exact absurd h (by decide), rfl⟩) rfl (by first | rfl | exact (pk_charN (by omega)).1) (by decide) (by decide) dX1_queueItems_48
  refine lv_aload_n hx hb dX1_queueItems_0 rfl (lv_at hl 0 rfl) ?_
  refine lv_iconst (v := nI 0) hx hb dX1_queueItems_1 (by decide) ?_
  refine x_put X hW 0 rfl 13 (w2 := (fW G f lc bc 0 ln rs rm bn bd pr ic fl qu rc gp ++ Y)) rfl rfl iwX1 tyX1_ok nmX1 (by decide) wq_154 rfl rfl rfl rfl (Nat.le_of_ble_eq_true rfl) dX1_queueItems_2 (fun H locs hW => ?_)
  refine lv_iconst (v := nI 0) hx hb dX1_queueItems_5 (by decide) ?_
  refine lv_istore_n (lv' := [(2, .int (nI 0)), (0, .ref (f 0)), (1, .int (nI set))]) hx hb dX1_queueItems_6 rfl hl (by decide) rfl (fun ls hl => ?_)
  exact loop (bc + 1) 0 qu (by omega) (by omega) rfl (Nat.zero_le _) (fun t ht => absurd ht (Nat.not_lt_zero _)) hqu _ _ _ hW (lv_sub hl [1, 2, 0] rfl)

