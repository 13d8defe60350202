theorem rm_room {d d2 mc ms mc2 ms2 n : Nat} (h : d + 1 ≤ d2) (hn : n ≤ 9) : (RM d mc ms).frames + 1 ≤ (RM d2 mc2 ms2).frames ∧ 8 + (n + 11) + (RM d mc ms).locals ≤ (RM d2 mc2 ms2).locals := by
  unfold RM
  simp only
  omega
/-- the items (the last one first) can have just these lots -/
def fil (lc : Nat) (L : List Nat) : Nat → Bool := match L with
  | [] => fun m => decide (m = 0)
  | it :: r => fun m => decide (fst1 (fun k => (m.testBit k && it.testBit k) && fil lc r (m ^^^ 2 ^ k)) lc < lc)
def filN (lc : Nat) (L : List Nat) (m : Nat) : Nat := if fil lc L m = true then 1 else 0
/-- the first n items of bid k, put before those of R -/
def addI (fl : Nat → Nat) (k n : Nat) (R : List Nat) : List Nat := match n with
  | 0 => R
  | n + 1 => fl (k * 3 + n) :: addI fl k n R
theorem fil_step {lc fit j : Nat} {g : Nat → Nat} {R : List Nat} {m : Nat} (hlc : lc ≤ 8) (hm : m < 2 ^ lc) (hp : pop m = j + 1) (h : ∀ m, m < 2 ^ lc → pop m = j → g m = filN lc R m) : (if fst1 (cfP m fit g) lc < lc then 1 else 0) = filN lc (fit :: R) m := by
  have h256 := p2_256 hlc
  have e : fst1 (cfP m fit g) lc = fst1 (fun k => (m.testBit k && fit.testBit k) && fil lc R (m ^^^ 2 ^ k)) lc := by
    refine fst1_congr (fun k hk => ?_)
    rw [cfP]
    cases hb : m.testBit k with
    | false => rfl
    | true =>
      have hx := pop_xor m (by omega) k (by omega) hb
      rw [h _ (by omega) (by omega), filN]
      cases fil lc R (m ^^^ 2 ^ k) <;> rfl
  rw [e, filN, fil]
  simp only [decide_eq_true_eq]
theorem lfl_congr {cf cf2 rm : Nat → Nat} {size n : Nat} (h : ∀ m, m < n → pop m = size → cf m = cf2 m) : lfl cf rm size n = lfl cf2 rm size n := by
  induction n with
  | zero => rfl
  | succ n ih =>
    rw [lfl, lfl, ih (fun m hm => h m (by omega))]
    by_cases hs : pop n = size
    · rw [h n (by omega) hs]
    · rw [if_neg (fun q => hs q.2), if_neg (fun q => hs q.2)]
theorem filN_lt (lc : Nat) (L : List Nat) (m : Nat) : filN lc L m < 2 := by unfold filN; split <;> decide
/-- what the items of bid k and those of R, i in number, cost together; minus one if they can't be had -/
def joinC (lc : Nat) (rm fl : Nat → Nat) (k i cnt : Nat) (R : List Nat) : Int := if i + cnt ≤ lc ∧ lfl (filN lc (addI fl k cnt R)) rm (i + cnt) (2 ^ lc) < 1000000 then ((lfl (filN lc (addI fl k cnt R)) rm (i + cnt) (2 ^ lc) : Nat) : Int) else -1
theorem joinC_rng (lc : Nat) (rm fl : Nat → Nat) (k i cnt : Nat) (R : List Nat) : -1 ≤ joinC lc rm fl k i cnt R ∧ joinC lc rm fl k i cnt R < 1000000 := by
  unfold joinC
  split
  · rename_i h; have := h.2; omega
  · omega
set_option maxRecDepth 100000 in
set_option maxHeartbeats 4000000 in
theorem c_X5_costWith (l : Launch) (G : Gt) (f h : Nat → Nat) (lc bc ql : Nat) (ln rs rm bn bd pr ic fl qu rc : Nat → Nat) (gp : Nat → Int) (bs : Nat) (bv : Int) (cf wt ho : Nat → Nat) (Y : va_W) (k i : Nat) (R : List Nat) (hlc : lc ≤ 8) (hic : ∀ k, ic k ≤ 3) (hfl : ∀ k, fl k < 256) (hrm : ∀ k, k < 2 ^ lc → rm k < 1000000) (hk : k < 8) (hi : i ≤ 8) (hcf : ∀ m, cf m < 2) (hR : ∀ m, m < 2 ^ lc → pop m = i → cf m = filN lc R m) : Ci l G yX5_costWith (ww yX5_costWith cX5_costWith 6 (some FieldType.int)) (RM 2 0 0) [.ref (h 0), .ref (f 0), .int (nI k), .int (nI i)] (fW G f lc bc ql ln rs rm bn bd pr ic fl qu rc gp ++ (sW G h bs bv cf wt ho ++ Y)) (fun r w2 => ∃ g : Nat → Nat, r = zI (joinC lc rm fl k i (ic k) R) ∧ (∀ m, g m < 2) ∧ (∀ m, pop m ≤ i → g m = cf m) ∧ (i + ic k ≤ lc → ∀ m, m < 2 ^ lc → pop m = i + ic k → g m = filN lc (addI fl k (ic k) R) m) ∧ w2 = (fW G f lc bc ql ln rs rm bn bd pr ic fl qu rc gp ++ (sW G h bs bv g wt ho ++ Y))) := by
  refine Ci.intro (by decide) (Nat.le_of_ble_eq_true rfl) ?_
  intro p e s m args below meth c A X hW ls hl
  have hx := X.exec
  have hb := X.bytes
  have hl : lv_has ls 6 [(0, .ref (h 0)), (1, .ref (f 0)), (2, .int (nI k)), (3, .int (nI i))] := hl
  have hick := hic k
  refine lv_iload_n hx hb dX5_costWith_0 rfl (lv_at hl 3 rfl) ?_
  refine lv_aload_n hx hb dX5_costWith_1 rfl (lv_at hl 1 rfl) ?_
  refine x_getN X hW 0 rfl 6 rfl rfl iwX1 (by decide) wq_142 rfl dX5_costWith_2 ?_
  refine lv_iload_n hx hb dX5_costWith_5 rfl (lv_at hl 2 rfl) ?_
  refine n_iald X hW (n := 8) (f := ic) 7 rfl (by omega) (by decide) dX5_costWith_6 ?_
  refine n_iadd hx hb dX5_costWith_7 ?_
  refine lv_istore (lv' := [(4, .int (nI (i + (ic k)))), (0, .ref (h 0)), (1, .ref (f 0)), (2, .int (nI k)), (3, .int (nI i))]) hx hb dX5_costWith_8 hl (by decide) rfl (fun ls hl => ?_)
  refine lv_iload hx hb dX5_costWith_10 (lv_at hl 0 rfl) ?_
  refine lv_aload_n hx hb dX5_costWith_12 rfl (lv_at hl 2 rfl) ?_
  refine x_getN X hW 0 rfl 11 rfl rfl iwX1 (by decide) wq_149 rfl dX5_costWith_13 ?_
  refine n_icmp_le hx hb rfl rfl (by omega) (by omega) (tgt := 21) dX5_costWith_16 (by decide) (fun c_16 => ?_) (fun c_16 => ?_)
  · refine lv_iconst (v := nI 0) hx hb dX5_costWith_21 (by decide) ?_
    refine lv_istore (lv' := [(5, .int (nI 0)), (4, .int (nI (i + (ic k)))), (0, .ref (h 0)), (1, .ref (f 0)), (2, .int (nI k)), (3, .int (nI i))]) hx hb dX5_costWith_22 hl (by decide) rfl (fun ls hl => ?_)
    have loop : ∀ (n : Nat) (j : Nat) (g : Nat → Nat), ic k + 1 ≤ j + n → j ≤ ic k → (∀ m, g m < 2) → (∀ m, pop m ≤ i → g m = cf m) → (∀ m, m < 2 ^ lc → pop m = i + j → g m = filN lc (addI fl k j R) m) → ∀ (H : Heap) (locs : List Loc) (ls : Array Slot), Wd G A s (fW G f lc bc ql ln rs rm bn bd pr ic fl qu rc gp ++ (sW G h bs bv g wt ho ++ Y)) H locs → lv_has ls 6 [(0, .ref (h 0)), (1, .ref (f 0)), (2, .int (nI k)), (3, .int (nI i)), (4, .int (nI (i + (ic k)))), (5, .int (nI j))] → W p l e (RM 2 0 0) s m args below meth c H locs 0 0 (MQ below (Qi G A (fun r w2 => ∃ g : Nat → Nat, r = zI (joinC lc rm fl k i (ic k) R) ∧ (∀ m, g m < 2) ∧ (∀ m, pop m ≤ i → g m = cf m) ∧ (i + ic k ≤ lc → ∀ m, m < 2 ^ lc → pop m = i + ic k → g m = filN lc (addI fl k (ic k) R) m) ∧ w2 = (fW G f lc bc ql ln rs rm bn bd pr ic fl qu rc gp ++ (sW G h bs bv g wt ho ++ Y)))) args s (RM 2 0 0).cells (RM 2 0 0).slots A) (F0 m 24 ls []) := by
      intro n
      induction n with
      | zero => intro j g h1 h2 h3 h4 h5; exact absurd h1 (by omega)
      | succ n ih =>
        intro j g h1 h2 h3 h4 h5 H locs ls hW hl
        refine lv_iload_n hx hb dX5_costWith_24 rfl (lv_at hl 3 rfl) ?_
        refine lv_iload hx hb dX5_costWith_25 (lv_at hl 5 rfl) ?_
        refine n_iadd hx hb dX5_costWith_27 ?_
        refine lv_iload hx hb dX5_costWith_28 (lv_at hl 4 rfl) ?_
        refine n_icmp_ge hx hb rfl rfl (by omega) (by omega) (tgt := 61) dX5_costWith_30 (by decide) (fun c_30 => ?_) (fun c_30 => ?_)
        · refine lv_aload_n hx hb dX5_costWith_61 rfl (lv_at hl 0 rfl) ?_
          refine lv_aload_n hx hb dX5_costWith_62 rfl (lv_at hl 1 rfl) ?_
          refine lv_iload hx hb dX5_costWith_63 (lv_at hl 4 rfl) ?_
          refine go_i X hW (run_V X hW (As := [.ref (f 0), .int (nI (i + (ic k)))]) (rest := []) 8 12 rfl (c_X5_leastFilled l G f h lc bc ql ln rs rm bn bd pr ic fl qu rc gp bs bv g wt ho Y (i + (ic k)) (by omega) hlc h3 hrm _) (gi_V wq_377 wq_379 wq_20 wq_66 wq_380) rfl hyX5_leastFilled rfl rfl rfl hl.1 (Nat.le_of_ble_eq_true rfl) ⟨Nat.le_of_ble_eq_true rfl, Nat.le_of_ble_eq_true rfl⟩ ⟨by decide, by decide⟩ dX5_costWith_65) (fun r w2 H locs hp hW => ?_)
          obtain ⟨rfl, rfl⟩ := hp
          have hcw : zI (if (lfl g rm (i + (ic k)) (2 ^ lc)) < 1000000 then (((lfl g rm (i + (ic k)) (2 ^ lc)) : Nat) : Int) else -1) = zI (joinC lc rm fl k i (ic k) R) := by rw [lfl_congr (cf2 := filN lc (addI fl k (ic k) R)) (fun m hm hp => by rw [show ic k = j by omega] at hp ⊢; exact h5 m hm hp), joinC]; congr 1; split; rename_i q; rw [if_pos ⟨c_16, q⟩]; rename_i q; rw [if_neg (fun r => q r.2)]
          exact ret_i X hW (v := (zI (if (lfl g rm (i + (ic k)) (2 ^ lc)) < 1000000 then (((lfl g rm (i + (ic k)) (2 ^ lc)) : Nat) : Int) else -1))) (⟨g, hcw, h3, h4, fun _ m hm hp => by rw [show ic k = j by omega] at hp ⊢; exact h5 m hm hp, rfl⟩) rfl (by decide) (by decide) dX5_costWith_68
        · refine lv_aload_n hx hb dX5_costWith_33 rfl (lv_at hl 0 rfl) ?_
          refine lv_aload_n hx hb dX5_costWith_34 rfl (lv_at hl 1 rfl) ?_
          refine lv_aload_n hx hb dX5_costWith_35 rfl (lv_at hl 1 rfl) ?_
          refine x_getN X hW 0 rfl 7 rfl rfl iwX1 (by decide) wq_144 rfl dX5_costWith_36 ?_
          refine lv_iload_n hx hb dX5_costWith_39 rfl (lv_at hl 2 rfl) ?_
          refine lv_iconst (v := nI 3) hx hb dX5_costWith_40 (by decide) ?_
          refine n_imul hx hb dX5_costWith_41 ?_
          refine lv_iload hx hb dX5_costWith_42 (lv_at hl 5 rfl) ?_
          refine n_iadd hx hb dX5_costWith_44 ?_
          refine n_iald X hW (n := 24) (f := fl) 8 rfl (by omega) (by decide) dX5_costWith_45 ?_
          refine lv_iload_n hx hb dX5_costWith_46 rfl (lv_at hl 3 rfl) ?_
          refine lv_iload hx hb dX5_costWith_47 (lv_at hl 5 rfl) ?_
          refine n_iadd hx hb dX5_costWith_49 ?_
          refine lv_iconst (v := nI 1) hx hb dX5_costWith_50 (by decide) ?_
          refine n_iadd hx hb dX5_costWith_51 ?_
          refine go_v X hW (run_V X hW (As := [.ref (f 0), .int (nI (fl ((k * 3) + j))), .int (nI ((i + j) + 1))]) (rest := []) 8 12 rfl (c_X5_fillWithItem l G f h lc bc ql ln rs rm bn bd pr ic fl qu rc gp bs bv g wt ho Y (fl (k * 3 + j)) ((i + j) + 1) (hfl _) (by omega) hlc h3 _) (gi_V wq_368 wq_370 wq_18 wq_66 wq_371) rfl hyX5_fillWithItem rfl rfl rfl hl.1 (Nat.le_of_ble_eq_true rfl) ⟨Nat.le_of_ble_eq_true rfl, Nat.le_of_ble_eq_true rfl⟩ ⟨by decide, by decide⟩ dX5_costWith_52) (fun w2 H locs hp hW => ?_)
          obtain ⟨g2, a3, a4, a5, rfl⟩ := hp
          refine lv_iinc (v := (nI (j + 1))) (lv' := [(5, .int (nI (j + 1))), (0, .ref (h 0)), (1, .ref (f 0)), (2, .int (nI k)), (3, .int (nI i)), (4, .int (nI (i + (ic k))))]) hx hb dX5_costWith_55 hl (k := 5) rfl (nI_add _ _) (by decide) rfl (fun ls hl => ?_)
          refine lv_goto (tgt := 24) hx hb dX5_costWith_58 (by decide) ?_
          exact ih (j + 1) g2 (by omega) (by omega) a3 (fun m hp => by rw [a4 m (by omega)]; exact h4 m hp) (fun m hm hp => by rw [a5 m hm (by omega)]; exact fil_step hlc hm (by omega) h5) _ _ _ hW (lv_sub hl [1, 2, 3, 4, 5, 0] rfl)
    exact loop (ic k + 1) 0 cf (by omega) (by omega) hcf (fun _ _ => rfl) hR _ _ _ hW (lv_sub hl [2, 3, 4, 5, 1, 0] rfl)
  · refine lv_iconst (v := zI (-1)) hx hb dX5_costWith_19 (by decide) ?_
    exact ret_i X hW (v := (zI (-1))) (⟨cf, by rw [joinC, if_neg (fun q => absurd q.1 (by omega))], hcf, fun _ _ => rfl, fun q => absurd q (by omega), rfl⟩) rfl (by decide) (by decide) dX5_costWith_20

/-- no bid of the set has this bidder -/
def freeB (bd : Nat → Nat) (set who bc : Nat) : Prop := ¬ fst1 (fun k => set.testBit k && decide (bd k = who)) bc < bc
/-- branch and bound, as the class does it: d bids are left; the set, its items (the last one first), their number, prices, cost; the best so far -/
def brS (lc bc : Nat) (rm bd pr ic fl : Nat → Nat) (Wt : Nat → Bool) (Hf : Nat → Nat) (d : Nat) : Nat → List Nat → Nat → Nat → Nat → Nat × Int → Nat × Int := match d with
  | 0 => fun set _ _ pri cost b => if (pri : Int) - cost + Hf bc ≤ b.2 then b else (set, (pri : Int) - cost)
  | d + 1 => fun set R i pri cost b => if (pri : Int) - cost + Hf (bc - (d + 1)) ≤ b.2 then b else
      brS lc bc rm bd pr ic fl Wt Hf d set R i pri cost
        (if Wt (bc - (d + 1)) = true ∧ fst1 (fun k => set.testBit k && decide (bd k = bd (bc - (d + 1)))) bc = bc ∧ joinC lc rm fl (bc - (d + 1)) i (ic (bc - (d + 1))) R ≠ -1 then
          brS lc bc rm bd pr ic fl Wt Hf d (set ||| 2 ^ (bc - (d + 1))) (addI fl (bc - (d + 1)) (ic (bc - (d + 1))) R) (i + ic (bc - (d + 1))) (pri + pr (bc - (d + 1))) (joinC lc rm fl (bc - (d + 1)) i (ic (bc - (d + 1))) R).toNat b
        else b)
theorem brS_0 {lc bc : Nat} {rm bd pr ic fl : Nat → Nat} {Wt : Nat → Bool} {Hf : Nat → Nat} (set : Nat) (R : List Nat) (i pri cost : Nat) (b : Nat × Int) : brS lc bc rm bd pr ic fl Wt Hf 0 set R i pri cost b = if (pri : Int) - cost + Hf bc ≤ b.2 then b else (set, (pri : Int) - cost) := rfl
theorem brS_s {lc bc : Nat} {rm bd pr ic fl : Nat → Nat} {Wt : Nat → Bool} {Hf : Nat → Nat} (d set : Nat) (R : List Nat) (i pri cost : Nat) (b : Nat × Int) : brS lc bc rm bd pr ic fl Wt Hf (d + 1) set R i pri cost b = if (pri : Int) - cost + Hf (bc - (d + 1)) ≤ b.2 then b else
      brS lc bc rm bd pr ic fl Wt Hf d set R i pri cost
        (if Wt (bc - (d + 1)) = true ∧ fst1 (fun k => set.testBit k && decide (bd k = bd (bc - (d + 1)))) bc = bc ∧ joinC lc rm fl (bc - (d + 1)) i (ic (bc - (d + 1))) R ≠ -1 then
          brS lc bc rm bd pr ic fl Wt Hf d (set ||| 2 ^ (bc - (d + 1))) (addI fl (bc - (d + 1)) (ic (bc - (d + 1))) R) (i + ic (bc - (d + 1))) (pri + pr (bc - (d + 1))) (joinC lc rm fl (bc - (d + 1)) i (ic (bc - (d + 1))) R).toNat b
        else b) := rfl
set_option maxRecDepth 100000 in
theorem brS_rng {lc bc : Nat} {rm bd pr ic fl : Nat → Nat} {Wt : Nat → Bool} {Hf : Nat → Nat} (hbc : bc ≤ 8) (hpr : ∀ k, pr k ≤ 9999) (d : Nat) : ∀ (set : Nat) (R : List Nat) (i pri cost : Nat) (b : Nat × Int), d ≤ bc → set < 256 → pri + d * 9999 ≤ 80000 → cost < 1000000 → b.1 < 256 → -2000000 ≤ b.2 → b.2 ≤ 2000000 → (brS lc bc rm bd pr ic fl Wt Hf d set R i pri cost b).1 < 256 ∧ -2000000 ≤ (brS lc bc rm bd pr ic fl Wt Hf d set R i pri cost b).2 ∧ (brS lc bc rm bd pr ic fl Wt Hf d set R i pri cost b).2 ≤ 2000000 := by
  induction d with
  | zero =>
    intro set R i pri cost b hd h1 h2 h3 h4 h5 h6
    rw [brS_0]
    split
    · exact ⟨h4, h5, h6⟩
    · exact ⟨h1, by show -2000000 ≤ (pri : Int) - cost; omega, by show (pri : Int) - cost ≤ 2000000; omega⟩
  | succ d ih =>
    intro set R i pri cost b hd h1 h2 h3 h4 h5 h6
    rw [brS_s]
    split
    · exact ⟨h4, h5, h6⟩
    · rw [Nat.succ_mul] at h2
      have hx : ∀ b : Nat × Int, b.1 < 256 → -2000000 ≤ b.2 → b.2 ≤ 2000000 → _ := fun b => ih set R i pri cost b (by omega) h1 (by omega) h3
      split
      · have hp := hpr (bc - (d + 1))
        have hc := joinC_rng lc rm fl (bc - (d + 1)) i (ic (bc - (d + 1))) R
        have h8 := p2_le (k := bc - (d + 1)) (by omega)
        obtain ⟨y1, y2, y3⟩ := ih (set ||| 2 ^ (bc - (d + 1))) (addI fl (bc - (d + 1)) (ic (bc - (d + 1))) R) (i + ic (bc - (d + 1))) (pri + pr (bc - (d + 1))) (joinC lc rm fl (bc - (d + 1)) i (ic (bc - (d + 1))) R).toNat b (by omega) (or_lt h1 (by omega)) (by omega) (by omega) h4 h5 h6
        exact hx _ y1 y2 y3
      · exact hx _ h4 h5 h6
set_option maxRecDepth 100000 in
set_option maxHeartbeats 4000000 in
theorem c_X5_branch (l : Launch) (G : Gt) (f h : Nat → Nat) (lc bc ql : Nat) (ln rs rm bn bd pr ic fl qu rc : Nat → Nat) (gp : Nat → Int) (wt ho : Nat → Nat) (Y : va_W) (Wt : Nat → Bool) (Hf : Nat → Nat) (hlc : lc ≤ 8) (hbc : bc ≤ 8) (hbd : ∀ k, bd k < 8) (hic : ∀ k, ic k ≤ 3) (hfl : ∀ k, fl k < 256) (hpr : ∀ k, pr k ≤ 9999) (hrm : ∀ k, k < 2 ^ lc → rm k < 1000000) (hwt : ∀ k, k < bc → wt k = if Wt k = true then 1 else 0) (hho : ∀ k, k ≤ bc → ho k = Hf k) (hHf : ∀ k, Hf k ≤ 100000) (hbn : ∀ k, bn k < 1000) (d : Nat) : ∀ (k set i pri cost : Nat) (R : List Nat) (bs : Nat) (bv : Int) (cf : Nat → Nat), k + d = bc → set < 256 → i ≤ 8 → pri + d * 9999 ≤ 80000 → cost < 1000000 → bs < 256 → -2000000 ≤ bv → bv ≤ 2000000 → (∀ m, cf m < 2) → (∀ m, m < 2 ^ lc → pop m = i → cf m = filN lc R m) → Cv l G yX5_branch (ww yX5_branch cX5_branch 8 (none : Option ClassFile.FieldType)) (RM (d + 5) 0 0) [.ref (h 0), .ref (f 0), .int (nI k), .int (nI set), .int (nI i), .int (nI pri), .int (nI cost)] (fW G f lc bc ql ln rs rm bn bd pr ic fl qu rc gp ++ (sW G h bs bv cf wt ho ++ Y)) (fun w2 => ∃ g : Nat → Nat, (∀ m, g m < 2) ∧ (∀ m, pop m ≤ i → g m = cf m) ∧ w2 = (fW G f lc bc ql ln rs rm bn bd pr ic fl qu rc gp ++ (sW G h ((brS lc bc rm bd pr ic fl Wt Hf d set R i pri cost (bs, bv)).1) ((brS lc bc rm bd pr ic fl Wt Hf d set R i pri cost (bs, bv)).2) g wt ho ++ Y))) := by
  induction d with
  | zero =>
    intro k set i pri cost R bs bv cf h1 h2 h3 h4 h5 h6 h7 h8 h9 h10
    refine Cv.intro (by decide) (Nat.le_of_ble_eq_true rfl) ?_
    intro p e s m args below meth c A X hW ls hl
    have hx := X.exec
    have hb := X.bytes
    have hl : lv_has ls 8 [(0, .ref (h 0)), (1, .ref (f 0)), (2, .int (nI k)), (3, .int (nI set)), (4, .int (nI i)), (5, .int (nI pri)), (6, .int (nI cost))] := hl
    have hhk := hho k (by omega)
    refine lv_iload_n hx hb dX5_branch_0 rfl (lv_at hl 2 rfl) ?_
    refine lv_aload_n hx hb dX5_branch_1 rfl (lv_at hl 1 rfl) ?_
    refine x_getN X hW 0 rfl 12 rfl rfl iwX1 (by decide) wq_152 rfl dX5_branch_2 ?_
    refine n_icmp_gt hx hb rfl rfl (by omega) (by omega) (tgt := 27) dX5_branch_5 (by decide) (fun c_5 => absurd c_5 (by omega)) (fun c_5 => ?_)
    refine lv_iload hx hb dX5_branch_8 (lv_at hl 5 rfl) ?_
    refine lv_iload hx hb dX5_branch_10 (lv_at hl 6 rfl) ?_
    refine z_isub hx hb (nZ _) (nZ _) dX5_branch_12 ?_
    refine lv_aload_n hx hb dX5_branch_13 rfl (lv_at hl 0 rfl) ?_
    refine x_get X hW 12 rfl 2 rfl rfl iwX5 (by decide) wq_193 rfl dX5_branch_14 ?_
    refine lv_iload_n hx hb dX5_branch_17 rfl (lv_at hl 2 rfl) ?_
    refine n_iald X hW (n := 9) (f := ho) 15 rfl (by omega) (by decide) dX5_branch_18 ?_
    refine z_iadd hx hb rfl (nZ _) dX5_branch_19 ?_
    refine lv_aload_n hx hb dX5_branch_20 rfl (lv_at hl 0 rfl) ?_
    refine x_get X hW 12 rfl 4 rfl rfl iwX5 (by decide) wq_196 rfl dX5_branch_21 ?_
    refine z_icmp_gt hx hb rfl rfl (by have := hHf k; have := hho k (by omega); omega) (by omega) (tgt := 28) dX5_branch_24 (by decide) (fun c_24 => ?_) (fun c_24 => ?_)
    · refine lv_iload_n hx hb dX5_branch_28 rfl (lv_at hl 2 rfl) ?_
      refine lv_aload_n hx hb dX5_branch_29 rfl (lv_at hl 1 rfl) ?_
      refine x_getN X hW 0 rfl 12 rfl rfl iwX1 (by decide) wq_152 rfl dX5_branch_30 ?_
      refine n_icmp_ne hx hb rfl rfl (by omega) (by omega) (tgt := 51) dX5_branch_33 (by decide) (fun c_33 => absurd h1 c_33) (fun c_33 => ?_)
      refine lv_aload_n hx hb dX5_branch_36 rfl (lv_at hl 0 rfl) ?_
      refine lv_iload_n hx hb dX5_branch_37 rfl (lv_at hl 3 rfl) ?_
      refine x_put X hW 12 rfl 3 (w2 := (fW G f lc bc ql ln rs rm bn bd pr ic fl qu rc gp ++ (sW G h set bv cf wt ho ++ Y))) rfl rfl iwX5 tyX5_ok nmX5 (by decide) wq_194 rfl rfl rfl rfl (Nat.le_of_ble_eq_true rfl) dX5_branch_38 (fun H locs hW => ?_)
      refine lv_aload_n hx hb dX5_branch_41 rfl (lv_at hl 0 rfl) ?_
      refine lv_iload hx hb dX5_branch_42 (lv_at hl 5 rfl) ?_
      refine lv_iload hx hb dX5_branch_44 (lv_at hl 6 rfl) ?_
      refine z_isub hx hb (nZ _) (nZ _) dX5_branch_46 ?_
      refine x_put X hW 12 rfl 4 (w2 := (fW G f lc bc ql ln rs rm bn bd pr ic fl qu rc gp ++ (sW G h set (((pri : Nat) : Int) - ((cost : Nat) : Int)) cf wt ho ++ Y))) rfl rfl iwX5 tyX5_ok nmX5 (by decide) wq_196 rfl rfl rfl rfl (Nat.le_of_ble_eq_true rfl) dX5_branch_47 (fun H locs hW => ?_)
      have hbr : (brS lc bc rm bd pr ic fl Wt Hf 0 set R i pri cost (bs, bv)) = (set, (pri : Int) - cost) := by rw [brS_0, if_neg (by rw [show bc = k by omega]; have := hho k (by omega); show ¬ (pri : Int) - cost + Hf k ≤ bv; omega)]
      exact ret_v X hW (⟨cf, h9, fun _ _ => rfl, by rw [hbr]⟩) rfl (Nat.le_refl 0) (Nat.le_refl 0) dX5_branch_50
    · have hbr : (brS lc bc rm bd pr ic fl Wt Hf 0 set R i pri cost (bs, bv)) = (bs, bv) := by rw [brS_0, if_pos (by rw [show bc = k by omega]; show (pri : Int) - cost + Hf k ≤ bv; omega)]
      exact ret_v X hW (⟨cf, h9, fun _ _ => rfl, by rw [hbr]⟩) rfl (Nat.le_refl 0) (Nat.le_refl 0) dX5_branch_27
  | succ d ih =>
    intro k set i pri cost R bs bv cf h1 h2 h3 h4 h5 h6 h7 h8 h9 h10
    refine Cv.intro (by decide) (Nat.le_of_ble_eq_true rfl) ?_
    intro p e s m args below meth c A X hW ls hl
    have hx := X.exec
    have hb := X.bytes
    have hl : lv_has ls 8 [(0, .ref (h 0)), (1, .ref (f 0)), (2, .int (nI k)), (3, .int (nI set)), (4, .int (nI i)), (5, .int (nI pri)), (6, .int (nI cost))] := hl
    rw [Nat.succ_mul] at h4
    have hhk := hho k (by omega)
    refine lv_iload_n hx hb dX5_branch_0 rfl (lv_at hl 2 rfl) ?_
    refine lv_aload_n hx hb dX5_branch_1 rfl (lv_at hl 1 rfl) ?_
    refine x_getN X hW 0 rfl 12 rfl rfl iwX1 (by decide) wq_152 rfl dX5_branch_2 ?_
    refine n_icmp_gt hx hb rfl rfl (by omega) (by omega) (tgt := 27) dX5_branch_5 (by decide) (fun c_5 => absurd c_5 (by omega)) (fun c_5 => ?_)
    refine lv_iload hx hb dX5_branch_8 (lv_at hl 5 rfl) ?_
    refine lv_iload hx hb dX5_branch_10 (lv_at hl 6 rfl) ?_
    refine z_isub hx hb (nZ _) (nZ _) dX5_branch_12 ?_
    refine lv_aload_n hx hb dX5_branch_13 rfl (lv_at hl 0 rfl) ?_
    refine x_get X hW 12 rfl 2 rfl rfl iwX5 (by decide) wq_193 rfl dX5_branch_14 ?_
    refine lv_iload_n hx hb dX5_branch_17 rfl (lv_at hl 2 rfl) ?_
    refine n_iald X hW (n := 9) (f := ho) 15 rfl (by omega) (by decide) dX5_branch_18 ?_
    refine z_iadd hx hb rfl (nZ _) dX5_branch_19 ?_
    refine lv_aload_n hx hb dX5_branch_20 rfl (lv_at hl 0 rfl) ?_
    refine x_get X hW 12 rfl 4 rfl rfl iwX5 (by decide) wq_196 rfl dX5_branch_21 ?_
    refine z_icmp_gt hx hb rfl rfl (by have := hHf k; have := hho k (by omega); omega) (by omega) (tgt := 28) dX5_branch_24 (by decide) (fun c_24 => ?_) (fun c_24 => ?_)
    · refine lv_iload_n hx hb dX5_branch_28 rfl (lv_at hl 2 rfl) ?_
      refine lv_aload_n hx hb dX5_branch_29 rfl (lv_at hl 1 rfl) ?_
      refine x_getN X hW 0 rfl 12 rfl rfl iwX1 (by decide) wq_152 rfl dX5_branch_30 ?_
      refine n_icmp_ne hx hb rfl rfl (by omega) (by omega) (tgt := 51) dX5_branch_33 (by decide) (fun c_33 => ?_) (fun c_33 => absurd h1 (by omega))
      refine lv_aload_n hx hb dX5_branch_51 rfl (lv_at hl 0 rfl) ?_
      refine x_get X hW 12 rfl 1 rfl rfl iwX5 (by decide) wq_192 rfl dX5_branch_52 ?_
      refine lv_iload_n hx hb dX5_branch_55 rfl (lv_at hl 2 rfl) ?_
      refine n_zald X hW (n := 8) (f := wt) 14 rfl (by omega) (by decide) dX5_branch_56 ?_
      refine n_if_eq hx hb rfl (by rw [hwt k (by omega)]; split <;> decide) (tgt := 124) dX5_branch_57 (by decide) (fun c_57 => ?_) (fun c_57 => ?_)
      · have hWk : Wt k = false := by cases h : Wt k with | false => rfl | true => rw [hwt k (by omega), h] at c_57; exact absurd c_57 (by decide)
        refine lv_aload_n hx hb dX5_branch_124 rfl (lv_at hl 0 rfl) ?_
        refine lv_aload_n hx hb dX5_branch_125 rfl (lv_at hl 1 rfl) ?_
        refine lv_iload_n hx hb dX5_branch_126 rfl (lv_at hl 2 rfl) ?_
        refine lv_iconst (v := nI 1) hx hb dX5_branch_127 (by decide) ?_
        refine n_iadd hx hb dX5_branch_128 ?_
        refine lv_iload_n hx hb dX5_branch_129 rfl (lv_at hl 3 rfl) ?_
        refine lv_iload hx hb dX5_branch_130 (lv_at hl 4 rfl) ?_
        refine lv_iload hx hb dX5_branch_132 (lv_at hl 5 rfl) ?_
        refine lv_iload hx hb dX5_branch_134 (lv_at hl 6 rfl) ?_
        refine go_v X hW (run_S X hW (As := [.ref (h 0), .ref (f 0), .int (nI (k + 1)), .int (nI set), .int (nI i), .int (nI pri), .int (nI cost)]) (rest := []) (ih (k + 1) set i pri cost R bs bv cf (by omega) h2 h3 (by omega) h5 h6 h7 h8 h9 h10 _) (gi_S wq_357 wq_358 wq_66 wq_359) hyX5_branch rfl rfl hl.1 (Nat.le_of_ble_eq_true rfl) (rm_room (by omega) (by decide)) ⟨Nat.le_refl 0, Nat.le_refl 0⟩ dX5_branch_136) (fun w2 H locs hp hW => ?_)
        obtain ⟨g3, e1, e2, rfl⟩ := hp
        have hbr : (brS lc bc rm bd pr ic fl Wt Hf (d + 1) set R i pri cost (bs, bv)) = (brS lc bc rm bd pr ic fl Wt Hf d set R i pri cost (bs, bv)) := by rw [brS_s, if_neg (by rw [show bc - (d + 1) = k by omega]; have := hho k (by omega); show ¬ (pri : Int) - cost + Hf k ≤ bv; omega), show bc - (d + 1) = k by omega]; rw [if_neg (fun q => by rw [hWk] at q; exact absurd q.1 (by decide))]
        exact ret_v X hW (⟨g3, e1, e2, by rw [hbr]⟩) rfl (Nat.le_refl 0) (Nat.le_refl 0) dX5_branch_139
      · have hWk : Wt k = true := by cases h : Wt k with | true => rfl | false => rw [hwt k (by omega), h] at c_57; exact absurd rfl c_57
        refine lv_aload_n hx hb dX5_branch_60 rfl (lv_at hl 1 rfl) ?_
        refine lv_iload_n hx hb dX5_branch_61 rfl (lv_at hl 3 rfl) ?_
        refine lv_aload_n hx hb dX5_branch_62 rfl (lv_at hl 1 rfl) ?_
        refine x_getN X hW 0 rfl 4 rfl rfl iwX1 (by decide) wq_138 rfl dX5_branch_63 ?_
        refine lv_iload_n hx hb dX5_branch_66 rfl (lv_at hl 2 rfl) ?_
        refine n_iald X hW (n := 8) (f := bd) 5 rfl (by omega) (by decide) dX5_branch_67 ?_
        refine go_i X hW (run_VN X hW (As := [.int (nI set), .int (nI (bd k))]) (rest := []) 4 0 rfl (c_X1_bidOfBidderIn l G f lc bc ql ln rs rm bn bd pr ic fl qu rc gp (sW G h bs bv cf wt ho ++ Y) set (bd k) h2 (by have := hbd k; omega) hbc hbd _) wq_360 wq_362 wq_16 wq_65 wq_363 hyX1_bidOfBidderIn rfl rfl rfl hl.1 (Nat.le_of_ble_eq_true rfl) (rm_room (by omega) (by decide)) ⟨Nat.le_refl 0, Nat.le_refl 0⟩ dX5_branch_68) (fun r w2 H locs hp hW => ?_)
        obtain ⟨rfl, rfl⟩ := hp
        refine lv_iconst (v := zI (-1)) hx hb dX5_branch_71 (by decide) ?_
        refine z_icmp_ne hx hb rfl rfl (by have := hbn (fst1 (fun j => set.testBit j && decide (bd j = (bd k))) bc); unfold orNo; split <;> omega) (by omega) (tgt := 124) dX5_branch_72 (by decide) (fun c_72 => ?_) (fun c_72 => ?_)
        · have hfr : ¬ fst1 (fun j => set.testBit j && decide (bd j = (bd k))) bc = bc := by intro q; rw [q, orNo, decide_eq_false (Nat.lt_irrefl bc)] at c_72; exact c_72 rfl
          refine lv_aload_n hx hb dX5_branch_124 rfl (lv_at hl 0 rfl) ?_
          refine lv_aload_n hx hb dX5_branch_125 rfl (lv_at hl 1 rfl) ?_
          refine lv_iload_n hx hb dX5_branch_126 rfl (lv_at hl 2 rfl) ?_
          refine lv_iconst (v := nI 1) hx hb dX5_branch_127 (by decide) ?_
          refine n_iadd hx hb dX5_branch_128 ?_
          refine lv_iload_n hx hb dX5_branch_129 rfl (lv_at hl 3 rfl) ?_
          refine lv_iload hx hb dX5_branch_130 (lv_at hl 4 rfl) ?_
          refine lv_iload hx hb dX5_branch_132 (lv_at hl 5 rfl) ?_
          refine lv_iload hx hb dX5_branch_134 (lv_at hl 6 rfl) ?_
          refine go_v X hW (run_S X hW (As := [.ref (h 0), .ref (f 0), .int (nI (k + 1)), .int (nI set), .int (nI i), .int (nI pri), .int (nI cost)]) (rest := []) (ih (k + 1) set i pri cost R bs bv cf (by omega) h2 h3 (by omega) h5 h6 h7 h8 h9 h10 _) (gi_S wq_357 wq_358 wq_66 wq_359) hyX5_branch rfl rfl hl.1 (Nat.le_of_ble_eq_true rfl) (rm_room (by omega) (by decide)) ⟨Nat.le_refl 0, Nat.le_refl 0⟩ dX5_branch_136) (fun w2 H locs hp hW => ?_)
          obtain ⟨g3, e1, e2, rfl⟩ := hp
          have hbr : (brS lc bc rm bd pr ic fl Wt Hf (d + 1) set R i pri cost (bs, bv)) = (brS lc bc rm bd pr ic fl Wt Hf d set R i pri cost (bs, bv)) := by rw [brS_s, if_neg (by rw [show bc - (d + 1) = k by omega]; have := hho k (by omega); show ¬ (pri : Int) - cost + Hf k ≤ bv; omega), show bc - (d + 1) = k by omega]; rw [if_neg (fun q => hfr q.2.1)]
          exact ret_v X hW (⟨g3, e1, e2, by rw [hbr]⟩) rfl (Nat.le_refl 0) (Nat.le_refl 0) dX5_branch_139
        · have hfr : fst1 (fun j => set.testBit j && decide (bd j = (bd k))) bc = bc := Nat.le_antisymm (fst1_le _ _) (Nat.le_of_not_lt (fun q => by rw [orNo, decide_eq_true q] at c_72; simp at c_72))
          refine lv_aload_n hx hb dX5_branch_75 rfl (lv_at hl 0 rfl) ?_
          refine lv_aload_n hx hb dX5_branch_76 rfl (lv_at hl 1 rfl) ?_
          refine lv_iload_n hx hb dX5_branch_77 rfl (lv_at hl 2 rfl) ?_
          refine lv_iload hx hb dX5_branch_78 (lv_at hl 4 rfl) ?_
          refine go_i X hW (run_V X hW (As := [.ref (f 0), .int (nI k), .int (nI i)]) (rest := []) 8 12 rfl (c_X5_costWith l G f h lc bc ql ln rs rm bn bd pr ic fl qu rc gp bs bv cf wt ho Y k i R hlc hic hfl hrm (by omega) h3 h9 h10 _) (gi_V wq_364 wq_366 wq_17 wq_66 wq_367) rfl hyX5_costWith rfl rfl rfl hl.1 (Nat.le_of_ble_eq_true rfl) (rm_room (by omega) (by decide)) ⟨Nat.le_refl 0, Nat.le_refl 0⟩ dX5_branch_80) (fun r w2 H locs hp hW => ?_)
          obtain ⟨g1, rfl, a1, a2, a3, rfl⟩ := hp
          have hcr := joinC_rng lc rm fl k i (ic k) R
          refine lv_istore (lv' := [(7, .int (zI (joinC lc rm fl k i (ic k) R))), (0, .ref (h 0)), (1, .ref (f 0)), (2, .int (nI k)), (3, .int (nI set)), (4, .int (nI i)), (5, .int (nI pri)), (6, .int (nI cost))]) hx hb dX5_branch_83 hl (by decide) rfl (fun ls hl => ?_)
          refine lv_iload hx hb dX5_branch_85 (lv_at hl 0 rfl) ?_
          refine lv_iconst (v := zI (-1)) hx hb dX5_branch_87 (by decide) ?_
          refine z_icmp_eq hx hb rfl rfl (by omega) (by omega) (tgt := 124) dX5_branch_88 (by decide) (fun c_88 => ?_) (fun c_88 => ?_)
          · refine lv_aload_n hx hb dX5_branch_124 rfl (lv_at hl 1 rfl) ?_
            refine lv_aload_n hx hb dX5_branch_125 rfl (lv_at hl 2 rfl) ?_
            refine lv_iload_n hx hb dX5_branch_126 rfl (lv_at hl 3 rfl) ?_
            refine lv_iconst (v := nI 1) hx hb dX5_branch_127 (by decide) ?_
            refine n_iadd hx hb dX5_branch_128 ?_
            refine lv_iload_n hx hb dX5_branch_129 rfl (lv_at hl 4 rfl) ?_
            refine lv_iload hx hb dX5_branch_130 (lv_at hl 5 rfl) ?_
            refine lv_iload hx hb dX5_branch_132 (lv_at hl 6 rfl) ?_
            refine lv_iload hx hb dX5_branch_134 (lv_at hl 7 rfl) ?_
            refine go_v X hW (run_S X hW (As := [.ref (h 0), .ref (f 0), .int (nI (k + 1)), .int (nI set), .int (nI i), .int (nI pri), .int (nI cost)]) (rest := []) (ih (k + 1) set i pri cost R bs bv g1 (by omega) h2 h3 (by omega) h5 h6 h7 h8 a1 (fun m hm hp => by rw [a2 m (by omega)]; exact h10 m hm hp) _) (gi_S wq_357 wq_358 wq_66 wq_359) hyX5_branch rfl rfl hl.1 (Nat.le_of_ble_eq_true rfl) (rm_room (by omega) (by decide)) ⟨Nat.le_refl 0, Nat.le_refl 0⟩ dX5_branch_136) (fun w2 H locs hp hW => ?_)
            obtain ⟨g3, e1, e2, rfl⟩ := hp
            have hbr : (brS lc bc rm bd pr ic fl Wt Hf (d + 1) set R i pri cost (bs, bv)) = (brS lc bc rm bd pr ic fl Wt Hf d set R i pri cost (bs, bv)) := by rw [brS_s, if_neg (by rw [show bc - (d + 1) = k by omega]; have := hho k (by omega); show ¬ (pri : Int) - cost + Hf k ≤ bv; omega), show bc - (d + 1) = k by omega]; rw [if_neg (fun q => q.2.2 c_88)]
            exact ret_v X hW (⟨g3, e1, fun m hm => by rw [e2 m hm, a2 m hm], by rw [hbr]⟩) rfl (Nat.le_refl 0) (Nat.le_refl 0) dX5_branch_139
          · refine lv_aload_n hx hb dX5_branch_91 rfl (lv_at hl 1 rfl) ?_
            refine lv_aload_n hx hb dX5_branch_92 rfl (lv_at hl 2 rfl) ?_
            refine lv_iload_n hx hb dX5_branch_93 rfl (lv_at hl 3 rfl) ?_
            refine lv_iconst (v := nI 1) hx hb dX5_branch_94 (by decide) ?_
            refine n_iadd hx hb dX5_branch_95 ?_
            refine lv_iload_n hx hb dX5_branch_96 rfl (lv_at hl 4 rfl) ?_
            refine lv_iconst (v := nI 1) hx hb dX5_branch_97 (by decide) ?_
            refine lv_iload_n hx hb dX5_branch_98 rfl (lv_at hl 3 rfl) ?_
            refine n_ishl1 hx hb (by omega) dX5_branch_99 ?_
            refine n_ior hx hb dX5_branch_100 ?_
            refine lv_iload hx hb dX5_branch_101 (lv_at hl 5 rfl) ?_
            refine lv_aload_n hx hb dX5_branch_103 rfl (lv_at hl 2 rfl) ?_
            refine x_getN X hW 0 rfl 6 rfl rfl iwX1 (by decide) wq_142 rfl dX5_branch_104 ?_
            refine lv_iload_n hx hb dX5_branch_107 rfl (lv_at hl 3 rfl) ?_
            refine n_iald X hW (n := 8) (f := ic) 7 rfl (by omega) (by decide) dX5_branch_108 ?_
            refine n_iadd hx hb dX5_branch_109 ?_
            refine lv_iload hx hb dX5_branch_110 (lv_at hl 6 rfl) ?_
            refine lv_aload_n hx hb dX5_branch_112 rfl (lv_at hl 2 rfl) ?_
            refine x_getN X hW 0 rfl 5 rfl rfl iwX1 (by decide) wq_140 rfl dX5_branch_113 ?_
            refine lv_iload_n hx hb dX5_branch_116 rfl (lv_at hl 3 rfl) ?_
            refine n_iald X hW (n := 8) (f := pr) 6 rfl (by omega) (by decide) dX5_branch_117 ?_
            refine n_iadd hx hb dX5_branch_118 ?_
            refine lv_iload hx hb dX5_branch_119 (lv_at hl 0 rfl) ?_
            refine r_zn (a := (joinC lc rm fl k i (ic k) R).toNat) (by omega) ?_
            have hcw8 : i + ic k ≤ 8 := by unfold joinC at c_88; split at c_88; omega; exact absurd rfl c_88
            have a3 := a3 (by unfold joinC at c_88; split at c_88; (rename_i q; exact q.1); exact absurd rfl c_88)
            refine go_v X hW (run_S X hW (As := [.ref (h 0), .ref (f 0), .int (nI (k + 1)), .int (nI (set ||| (2 ^ k))), .int (nI (i + (ic k))), .int (nI (pri + (pr k))), .int (nI ((joinC lc rm fl k i (ic k) R).toNat))]) (rest := []) (ih (k + 1) (set ||| 2 ^ k) (i + (ic k)) (pri + (pr k)) (joinC lc rm fl k i (ic k) R).toNat (addI fl k (ic k) R) bs bv g1 (by omega) (or_lt h2 (by have := @p2_le k (by omega); omega)) hcw8 (by have := hpr k; omega) (by omega) h6 h7 h8 a1 a3 _) (gi_S wq_357 wq_358 wq_66 wq_359) hyX5_branch rfl rfl hl.1 (Nat.le_of_ble_eq_true rfl) (rm_room (by omega) (by decide)) ⟨Nat.le_refl 0, Nat.le_refl 0⟩ dX5_branch_121) (fun w2 H locs hp hW => ?_)
            obtain ⟨g2, b1, b2, rfl⟩ := hp
            refine lv_aload_n hx hb dX5_branch_124 rfl (lv_at hl 1 rfl) ?_
            refine lv_aload_n hx hb dX5_branch_125 rfl (lv_at hl 2 rfl) ?_
            refine lv_iload_n hx hb dX5_branch_126 rfl (lv_at hl 3 rfl) ?_
            refine lv_iconst (v := nI 1) hx hb dX5_branch_127 (by decide) ?_
            refine n_iadd hx hb dX5_branch_128 ?_
            refine lv_iload_n hx hb dX5_branch_129 rfl (lv_at hl 4 rfl) ?_
            refine lv_iload hx hb dX5_branch_130 (lv_at hl 5 rfl) ?_
            refine lv_iload hx hb dX5_branch_132 (lv_at hl 6 rfl) ?_
            refine lv_iload hx hb dX5_branch_134 (lv_at hl 7 rfl) ?_
            have hrg := @brS_rng lc bc rm bd pr ic fl Wt Hf hbc hpr d (set ||| 2 ^ k) (addI fl k (ic k) R) (i + ic k) (pri + pr k) (joinC lc rm fl k i (ic k) R).toNat (bs, bv) (by omega) (or_lt h2 (by have := @p2_le k (by omega); omega)) (by have := hpr k; omega) (by omega) h6 h7 h8
            refine go_v X hW (run_S X hW (As := [.ref (h 0), .ref (f 0), .int (nI (k + 1)), .int (nI set), .int (nI i), .int (nI pri), .int (nI cost)]) (rest := []) (ih (k + 1) set i pri cost R (brS lc bc rm bd pr ic fl Wt Hf d (set ||| 2 ^ k) (addI fl k (ic k) R) (i + (ic k)) (pri + (pr k)) (joinC lc rm fl k i (ic k) R).toNat (bs, bv)).1 (brS lc bc rm bd pr ic fl Wt Hf d (set ||| 2 ^ k) (addI fl k (ic k) R) (i + (ic k)) (pri + (pr k)) (joinC lc rm fl k i (ic k) R).toNat (bs, bv)).2 g2 (by omega) h2 h3 (by omega) h5 hrg.1 hrg.2.1 hrg.2.2 b1 (fun m hm hp => by rw [b2 m (by omega), a2 m (by omega)]; exact h10 m hm hp) _) (gi_S wq_357 wq_358 wq_66 wq_359) hyX5_branch rfl rfl hl.1 (Nat.le_of_ble_eq_true rfl) (rm_room (by omega) (by decide)) ⟨Nat.le_refl 0, Nat.le_refl 0⟩ dX5_branch_136) (fun w2 H locs hp hW => ?_)
            obtain ⟨g3, e1, e2, rfl⟩ := hp
            have hbr : (brS lc bc rm bd pr ic fl Wt Hf (d + 1) set R i pri cost (bs, bv)) = (brS lc bc rm bd pr ic fl Wt Hf d set R i pri cost ((brS lc bc rm bd pr ic fl Wt Hf d (set ||| 2 ^ k) (addI fl k (ic k) R) (i + (ic k)) (pri + (pr k)) (joinC lc rm fl k i (ic k) R).toNat (bs, bv)).1, (brS lc bc rm bd pr ic fl Wt Hf d (set ||| 2 ^ k) (addI fl k (ic k) R) (i + (ic k)) (pri + (pr k)) (joinC lc rm fl k i (ic k) R).toNat (bs, bv)).2)) := by rw [brS_s, if_neg (by rw [show bc - (d + 1) = k by omega]; have := hho k (by omega); show ¬ (pri : Int) - cost + Hf k ≤ bv; omega), show bc - (d + 1) = k by omega]; rw [if_pos ⟨hWk, hfr, c_88⟩]
            exact ret_v X hW (⟨g3, e1, fun m hm => by rw [e2 m hm, b2 m (by omega), a2 m hm], by rw [hbr]⟩) rfl (Nat.le_refl 0) (Nat.le_refl 0) dX5_branch_139
    · have hbr : (brS lc bc rm bd pr ic fl Wt Hf (d + 1) set R i pri cost (bs, bv)) = (bs, bv) := by rw [brS_s, if_pos (by rw [show bc - (d + 1) = k by omega]; show (pri : Int) - cost + Hf k ≤ bv; omega)]
      exact ret_v X hW (⟨cf, h9, fun _ _ => rfl, by rw [hbr]⟩) rfl (Nat.le_refl 0) (Nat.le_refl 0) dX5_branch_27

theorem pop_00 : ∀ m, m < 256 → pop m = 0 → m = 0 := by decide +kernel
/-- the best set and its surplus, found by branch and bound, without a bidder -/
def fbS (lc bc : Nat) (rm bd pr ic fl rs : Nat → Nat) (wo : Int) : Nat × Int := brS lc bc rm bd pr ic fl (wtS (fun t => lcost t bc lc bd ic fl rs) pr bd wo) (fun k => hopS (fun t => lcost t bc lc bd ic fl rs) pr bd wo bc (bc - k)) bc 0 [] 0 0 0 (0, -1)
theorem fbS_rng {lc bc : Nat} {rm bd pr ic fl rs : Nat → Nat} {wo : Int} (hbc : bc ≤ 8) (hpr : ∀ k, pr k ≤ 9999) : (fbS lc bc rm bd pr ic fl rs wo).1 < 256 ∧ -2000000 ≤ (fbS lc bc rm bd pr ic fl rs wo).2 ∧ (fbS lc bc rm bd pr ic fl rs wo).2 ≤ 2000000 := brS_rng hbc hpr bc 0 [] 0 0 0 (0, -1) (Nat.le_refl _) (by decide) (by omega) (by decide) (by decide) (by decide) (by decide)
set_option maxRecDepth 100000 in
set_option maxHeartbeats 4000000 in
theorem c_X5_findBest (l : Launch) (G : Gt) (f h : Nat → Nat) (lc bc ql : Nat) (ln rs rm bn bd pr ic fl qu rc : Nat → Nat) (gp : Nat → Int) (bs : Nat) (bv : Int) (cf wt ho : Nat → Nat) (Y : va_W) (wo : Int) (hlc : lc ≤ 8) (hbc : bc ≤ 8) (hql : ql ≤ 8) (hbd : ∀ k, bd k < 8) (hic : ∀ k, ic k ≤ 3) (hfl : ∀ k, fl k < 256) (hrs : ∀ k, rs k ≤ 999) (hqu : ∀ k, qu k < 256) (hrc : ∀ k, rc k ≤ 1000000) (hpr : ∀ k, pr k ≤ 9999) (hwo : -1 ≤ wo ∧ wo < 8) (hwt : ∀ k, wt k < 2) (hcf : ∀ k, cf k < 2) (hrm : ∀ k, k < 2 ^ lc → rm k < 1000000) (hbn : ∀ k, bn k < 1000) : Cv l G yX5_findBest (ww yX5_findBest cX5_findBest 3 (none : Option ClassFile.FieldType)) (RM 14 0 0) [.ref (h 0), .ref (f 0), .int (zI wo)] (fW G f lc bc ql ln rs rm bn bd pr ic fl qu rc gp ++ (sW G h bs bv cf wt ho ++ Y)) (fun w2 => ∃ (q : Nat) (u v wx hh g : Nat → Nat), q ≤ 8 ∧ (∀ i, u i < 256) ∧ (∀ i, v i ≤ 1000000) ∧ (∀ k, wx k < 2) ∧ (∀ k, g k < 2) ∧ w2 = (fW G f lc bc q ln rs rm bn bd pr ic fl u v gp ++ (sW G h ((fbS lc bc rm bd pr ic fl rs wo).1) ((fbS lc bc rm bd pr ic fl rs wo).2) g wx hh ++ Y))) := by
  refine Cv.intro (by decide) (Nat.le_of_ble_eq_true rfl) ?_
  intro p e s m args below meth c A X hW ls hl
  have hx := X.exec
  have hb := X.bytes
  have hl : lv_has ls 3 [(0, .ref (h 0)), (1, .ref (f 0)), (2, .int (zI wo))] := hl
  refine lv_aload_n hx hb dX5_findBest_0 rfl (lv_at hl 0 rfl) ?_
  refine go_v X hW (run_V X hW (As := []) (rest := []) 8 12 rfl (c_X5_forgetBest l G f h lc bc ql ln rs rm bn bd pr ic fl qu rc gp bs bv cf wt ho Y _) (gi_V wq_323 wq_325 wq_10 wq_66 wq_326) rfl hyX5_forgetBest rfl rfl rfl hl.1 (Nat.le_of_ble_eq_true rfl) (rm_room (by omega) (by decide)) ⟨Nat.le_refl 0, Nat.le_refl 0⟩ dX5_findBest_1) (fun w2 H locs hp hW => ?_)
  subst hp
  refine lv_aload_n hx hb dX5_findBest_4 rfl (lv_at hl 0 rfl) ?_
  refine lv_aload_n hx hb dX5_findBest_5 rfl (lv_at hl 1 rfl) ?_
  refine lv_iload_n hx hb dX5_findBest_6 rfl (lv_at hl 2 rfl) ?_
  refine go_v X hW (run_V X hW (As := [.ref (f 0), .int (zI wo)]) (rest := []) 8 12 rfl (c_X5_estimate l G f h lc bc ql ln rs rm bn bd pr ic fl qu rc gp 0 (-1) cf wt ho Y wo hlc hbc hql hbd hic hfl hrs hqu hrc hpr hwo hwt _) (gi_V wq_327 wq_329 wq_11 wq_66 wq_330) rfl hyX5_estimate rfl rfl rfl hl.1 (Nat.le_of_ble_eq_true rfl) (rm_room (by omega) (by decide)) ⟨Nat.le_refl 0, Nat.le_refl 0⟩ dX5_findBest_7) (fun w2 H locs hp hW => ?_)
  obtain ⟨q, u, v, wx, hh, s1, s2, s3, s4, s5, s6, rfl⟩ := hp
  refine lv_aload_n hx hb dX5_findBest_10 rfl (lv_at hl 0 rfl) ?_
  refine x_get X hW 12 rfl 0 rfl rfl iwX5 (by decide) wq_191 rfl dX5_findBest_11 ?_
  refine lv_iconst (v := nI 0) hx hb dX5_findBest_14 (by decide) ?_
  refine lv_iconst (v := nI 1) hx hb dX5_findBest_15 (by decide) ?_
  refine n_zast X hW (n := 256) (f := cf) 13 rfl (w2 := (fW G f lc bc q ln rs rm bn bd pr ic fl u v gp ++ (sW G h 0 (-1) (va_up cf 0 1) wx hh ++ Y))) rfl (by decide) (by decide) (by decide) dX5_findBest_16 (fun H locs hW => ?_)
  refine lv_aload_n hx hb dX5_findBest_17 rfl (lv_at hl 0 rfl) ?_
  refine lv_aload_n hx hb dX5_findBest_18 rfl (lv_at hl 1 rfl) ?_
  refine lv_iconst (v := nI 0) hx hb dX5_findBest_19 (by decide) ?_
  refine lv_iconst (v := nI 0) hx hb dX5_findBest_20 (by decide) ?_
  refine lv_iconst (v := nI 0) hx hb dX5_findBest_21 (by decide) ?_
  refine lv_iconst (v := nI 0) hx hb dX5_findBest_22 (by decide) ?_
  refine lv_iconst (v := nI 0) hx hb dX5_findBest_23 (by decide) ?_
  refine go_v X hW (run_S X hW (As := [.ref (h 0), .ref (f 0), .int (nI 0), .int (nI 0), .int (nI 0), .int (nI 0), .int (nI 0)]) (rest := []) (c_X5_branch l G f h lc bc q ln rs rm bn bd pr ic fl u v gp wx hh Y (wtS (fun t => lcost t bc lc bd ic fl rs) pr bd wo) (fun k => hopS (fun t => lcost t bc lc bd ic fl rs) pr bd wo bc (bc - k)) hlc hbc hbd hic hfl hpr hrm s5 s6 (fun k => by have := @hopS_le (fun t => lcost t bc lc bd ic fl rs) pr bd wo bc 9999 (fun t => (lcost_rng t bc lc bd ic fl rs).1) hpr (bc - k); omega) hbn bc 0 0 0 0 0 [] 0 (-1) (va_up cf 0 1) (by omega) (by decide) (by decide) (by omega) (by decide) (by decide) (by decide) (by decide) (fun m => by unfold va_up; split; decide; exact hcf m) (fun m hm hp => by have e := pop_00 m (by have := p2_256 hlc; omega) hp; subst e; rw [up_eq]; rfl) _) (gi_S wq_357 wq_358 wq_66 wq_359) hyX5_branch rfl rfl hl.1 (Nat.le_of_ble_eq_true rfl) (rm_room (by omega) (by decide)) ⟨Nat.le_refl 0, Nat.le_refl 0⟩ dX5_findBest_24) (fun w2 H locs hp hW => ?_)
  obtain ⟨g, g1, g2, rfl⟩ := hp
  exact ret_v X hW (⟨q, u, v, wx, hh, g, s1, s2, s3, s4, g1, rfl⟩) rfl (Nat.le_refl 0) (Nat.le_refl 0) dX5_findBest_27

