/-- the numbers below n with P, as a set -/
def mkm (P : Nat → Bool) (n : Nat) : Nat := match n with
  | 0 => 0
  | n + 1 => mkm P n ||| (if P n = true then 2 ^ n else 0)
theorem mkm_lt (P : Nat → Bool) (n : Nat) : mkm P n < 2 ^ n := by
  induction n with
  | zero => exact Nat.zero_lt_one
  | succ n ih =>
    rw [mkm]
    have h : mkm P n < 2 ^ (n + 1) := Nat.lt_of_lt_of_le ih (Nat.pow_le_pow_right (by decide) (Nat.le_succ n))
    split
    · exact or_p2 h (by omega)
    · rw [Nat.or_zero]; exact h
theorem mkm_bit {P : Nat → Bool} {n j : Nat} (hj : j < n) : (mkm P n).testBit j = P j := by
  induction n with
  | zero => omega
  | succ n ih =>
    rw [mkm]
    by_cases q : j = n
    · rw [q, Nat.testBit_or, tb_hi (mkm_lt P n) (Nat.le_refl n), Bool.false_or]
      cases h : P n with
      | false => rw [if_neg (by decide)]; exact Nat.zero_testBit n
      | true => rw [if_pos rfl, Nat.testBit_two_pow]; exact decide_eq_true rfl
    · rw [Nat.testBit_or, ih (by omega)]
      split
      · rw [Nat.testBit_two_pow, decide_eq_false (by omega), Bool.or_false]
      · rw [Nat.zero_testBit, Bool.or_false]
/-- for each item the set of the open lots that fit it -/
def flM (fib gra rf ro rs : Nat → Nat) (ru : Nat) (akf akg la ba : Nat → Nat) (ol : Nat) : Nat → Nat := fun q => mkm (fun l => suiB fib gra rf ro rs ru akf akg (la l) (3 * ba (q / 3) + q % 3)) ol
/-- the values of all sets -/
def valF (v : Nat → Int) (ol ob : Nat) (rsv bd ic fl pr : Nat → Nat) : Prop := ∀ s, s < 256 → ((s < 2 ^ ob ∧ PS ol bd ic fl s ob) → v s = VS ol rsv ic fl pr s ob) ∧ (¬ (s < 2 ^ ob ∧ PS ol bd ic fl s ob) → v s = -1000000)
theorem bsum_le9 {p : Nat → Bool} {g : Nat → Nat} {B : Nat} (hg : ∀ k, g k ≤ B) (n : Nat) : bsum p g n ≤ n * B := by
  induction n with
  | zero => exact Nat.zero_le _
  | succ n ih =>
    rw [bsum, Nat.succ_mul]
    have := hg n
    split <;> omega
theorem valF_rng {v : Nat → Int} {ol ob : Nat} {rsv bd ic fl pr : Nat → Nat} (hob : ob ≤ 8) (hpr : ∀ k, pr k ≤ 9999) (h : valF v ol ob rsv bd ic fl pr) : ∀ x, x < 256 → -2000000 ≤ v x ∧ v x ≤ 2000000 := by
  intro x hx
  by_cases q : x < 2 ^ ob ∧ PS ol bd ic fl x ob
  · rw [(h x hx).1 q]
    unfold VS
    have h1 := lmn_le (fun m => if fil ol (lmR x.testBit ic fl ob) m = true then bsum m.testBit rsv ol else 1000000) 256
    have h2 := bsum_le9 (p := x.testBit) hpr ob
    have h3 : ob * 9999 ≤ 8 * 9999 := Nat.mul_le_mul_right _ hob
    unfold lmC
    omega
  · rw [(h x hx).2 q]; omega
theorem valF_of {v0 v : Nat → Int} {ol ob : Nat} {rsv bd ic fl pr : Nat → Nat} (hob : ob ≤ 8) (h0 : ∀ x, x < 256 → v0 x = -1000000) (hps : PS ol bd ic fl 0 ob) (hvs : VS ol rsv ic fl pr 0 ob = 0) (h : valW (va_up v0 0 0) v ol ob rsv bd ic fl pr (EXk 0 0 ob ob)) : valF v ol ob rsv bd ic fl pr := by
  have hp := p2_256 hob
  intro s hs
  obtain ⟨a1, a2⟩ := h s hs
  have hex : s < 2 ^ ob → s ≠ 0 → EXk 0 0 ob ob s := by
    intro h1 h2
    refine ⟨h1, fun j hj => absurd hj (Nat.not_lt_zero j), ?_⟩
    refine Classical.byContradiction fun q => h2 (eq_of_bits h1 (Nat.two_pow_pos ob) (fun j hj => ?_))
    rw [Nat.zero_testBit]
    cases hb : s.testBit j with
    | false => rfl
    | true => exact absurd ⟨j, Nat.zero_le _, hj, hb⟩ q
  have hn0 : ¬ EXk 0 0 ob ob 0 := fun ⟨_, _, j, _, _, q⟩ => by rw [Nat.zero_testBit] at q; exact absurd q (by decide)
  constructor
  · rintro ⟨h1, h2⟩
    by_cases q : s = 0
    · rw [q] at a2 ⊢
      rw [a2 (fun z => hn0 z.1), hvs]; rfl
    · exact a1 ⟨hex h1 q, h2⟩
  · intro q
    have hs0 : s ≠ 0 := fun z => q (by rw [z]; exact ⟨Nat.two_pow_pos ob, hps⟩)
    rw [a2 (fun z => q ⟨z.1.1, z.2⟩)]
    unfold va_up
    rw [if_neg hs0]
    exact h0 s hs
theorem fil_nil0 {n : Nat} : fil n [] 0 = true := rfl
theorem canB_nil {n : Nat} : canB n [] := canB_of (by decide) (fil_nil0)
theorem PS_0 {ol ob : Nat} {bd ic fl : Nat → Nat} : PS ol bd ic fl 0 ob := (PS_up (k := 0) (Nat.zero_le ob) (fun j _ _ => Nat.zero_testBit j)).mpr ⟨rfl, rfl, canB_nil⟩
theorem lmn_at {f : Nat → Nat} {n k : Nat} (hk : k < n) : lmn f n ≤ f k := by
  induction n with
  | zero => omega
  | succ n ih =>
    rw [lmn]
    by_cases q : k = n
    · rw [q]; split <;> omega
    · have := ih (by omega); split <;> omega
theorem lmC_nil {ol : Nat} {rsv : Nat → Nat} : lmC ol rsv [] = 0 := by
  have h := lmn_at (f := fun m => if fil ol [] m = true then bsum m.testBit rsv ol else 1000000) (n := 256) (k := 0) (by decide)
  have h0 : (if fil ol [] 0 = true then bsum (0 : Nat).testBit rsv ol else 1000000) = 0 := by
    rw [if_pos fil_nil0, bsum_up (k := 0) (Nat.zero_le ol) (fun j _ _ => Nat.zero_testBit j)]; rfl
  unfold lmC
  rw [h0] at h
  omega
theorem VS_0 {ol ob : Nat} {rsv ic fl pr : Nat → Nat} : VS ol rsv ic fl pr 0 ob = 0 := by
  rw [VS_up (k := 0) (Nat.zero_le ob) (fun j _ _ => Nat.zero_testBit j)]
  show ((0 : Nat) : Int) - ((lmC ol rsv [] : Nat) : Int) = 0
  rw [lmC_nil]; rfl
theorem CM_0 {c : Nat → Nat} {ol : Nat} {rsv : Nat → Nat} (h : ∀ x, x < 256 → c x = 1000000) : CM (va_up c 0 0) 0 ol rsv [] := by
  intro m hm
  rw [Nat.zero_add]
  unfold va_up
  by_cases q : m = 0
  · rw [if_pos q, q, if_pos fil_nil0, bsum_up (k := 0) (Nat.zero_le ol) (fun j _ _ => Nat.zero_testBit j)]; rfl
  · rw [if_neg q, h m hm, if_neg (by show ¬ (decide (m = 0)) = true; rw [decide_eq_false q]; decide)]
/-- what 'all' leaves: the places of the open lots and bids, and all values -/
def AllP (lo bi ru ol ob : Nat) (fib gra res lst bst bid pri itm akf akg rf ro rs la ba : Nat → Nat) (v : Nat → Int) : Prop :=
  (∀ k, la k < 40) ∧ (∀ k, ba k < 40) ∧ (∀ x, x < ol → la x = qf (opn (isO lst) lo) x) ∧ (∀ x, x < ob → ba x = qf (opn (isO bst) bi) x) ∧ (∀ x, x < 256 → -2000000 ≤ v x ∧ v x ≤ 2000000) ∧ valF v ol ob (fun l => res (la l)) (fun k => bid (ba k)) (fun k => itm (ba k)) (flM fib gra rf ro rs ru akf akg la ba ol) (fun k => pri (ba k))
set_option maxRecDepth 100000 in
set_option maxHeartbeats 4000000 in
theorem c_X7_all (l : Launch) (G : Gt) (a : Nat → Nat) (th lo bi ru ol ob : Nat) (tk : Int) (fib gra res buy lst bst rea bid pri itm akf akg got : Nat → Nat) (pai : Nat → Int) (riv rf ro rs lat bat : Nat → Nat) (val : Nat → Int) (cos row ahe wan giv : Nat → Nat) (Y : va_W) (hI : MIa lo bi ru ol ob fib gra res buy lst bst rea bid pri itm akf akg got pai riv rf ro rs) (hlat : ∀ k, lat k < 40) (hbat : ∀ k, bat k < 40) (hcos : ∀ x, cos x ≤ 2000000) (hrow : ∀ x, row x ≤ 2000000) : Cv l G yX7_all (ww yX7_all cX7_all 2 (none : Option ClassFile.FieldType)) (RM 12 0 0) [.ref (a 0)] (mW G a th lo bi ru ol ob tk fib gra res buy lst bst rea bid pri itm akf akg got pai riv rf ro rs lat bat val cos row ahe wan giv ++ Y) (fun w2 => ∃ (la ba : Nat → Nat) (v2 : Nat → Int) (g2 r2 : Nat → Nat), AllP lo bi ru ol ob fib gra res lst bst bid pri itm akf akg rf ro rs la ba v2 ∧ (∀ x, g2 x ≤ 2000000) ∧ (∀ x, r2 x ≤ 2000000) ∧ w2 = (mW G a th lo bi ru ol ob tk fib gra res buy lst bst rea bid pri itm akf akg got pai riv rf ro rs la ba v2 g2 r2 ahe wan giv ++ Y)) := by
  refine Cv.intro (by decide) (Nat.le_of_ble_eq_true rfl) ?_
  intro p e s m args below meth c A X hW ls hl
  have hx := X.exec
  have hb := X.bytes
  have hl : lv_has ls 2 [(0, .ref (a 0))] := hl
  obtain ⟨hlo, hbi, hru, hol, hob, hfib, hgra, hres, hbuy, hlst, hbst, hrea, hbid, hpri, hitm, hakf, hakg, hgot, hriv, hrf, hro, hrs, hpai, hcl, hcb⟩ := id hI
  refine lv_aload_n hx hb dX7_all_0 rfl (lv_at hl 0 rfl) ?_
  refine go_v X hW (run_V X hW (As := []) (rest := []) 10 0 rfl (c_X7_gather l G a th lo bi ru ol ob tk fib gra res buy lst bst rea bid pri itm akf akg got pai riv rf ro rs lat bat val cos row ahe wan giv Y hI hlat hbat _) (gi_V wq_1243 wq_1245 wq_48 wq_67 wq_1246) rfl hyX7_gather rfl rfl rfl hl.1 (Nat.le_of_ble_eq_true rfl) ⟨Nat.le_of_ble_eq_true rfl, Nat.le_of_ble_eq_true rfl⟩ ⟨by decide, by decide⟩ dX7_all_1) (fun w2 H locs hp hW => ?_)
  obtain ⟨la, ba, e1, e2, e3, e4, rfl⟩ := hp
  refine lv_iconst (v := nI 0) hx hb dX7_all_4 (by decide) ?_
  refine lv_istore_n (lv' := [(1, .int (nI 0)), (0, .ref (a 0))]) hx hb dX7_all_5 rfl hl (by decide) rfl (fun ls hl => ?_)
  have loop : ∀ (n : Nat) (k : Nat) (v : Nat → Int) (c0 : Nat → Nat), 256 + 1 ≤ k + n → k ≤ 256 → (∀ x, x < k → v x = -1000000) → (∀ x, x < k → c0 x = 1000000) → (∀ x, c0 x ≤ 2000000) → ∀ (H : Heap) (locs : List Loc) (ls : Array Slot), Wd G A s (mW G a th lo bi ru ol ob tk fib gra res buy lst bst rea bid pri itm akf akg got pai riv rf ro rs la ba v c0 row ahe wan giv ++ Y) H locs → lv_has ls 2 [(0, .ref (a 0)), (1, .int (nI k))] → W p l e (RM 12 0 0) s m args below meth c H locs 0 0 (MQ below (Qv G A (fun w2 => ∃ (la ba : Nat → Nat) (v2 : Nat → Int) (g2 r2 : Nat → Nat), AllP lo bi ru ol ob fib gra res lst bst bid pri itm akf akg rf ro rs la ba v2 ∧ (∀ x, g2 x ≤ 2000000) ∧ (∀ x, r2 x ≤ 2000000) ∧ w2 = (mW G a th lo bi ru ol ob tk fib gra res buy lst bst rea bid pri itm akf akg got pai riv rf ro rs la ba v2 g2 r2 ahe wan giv ++ Y))) args s (RM 12 0 0).cells (RM 12 0 0).slots A) (F0 m 6 ls []) := by
    intro n
    induction n with
    | zero => intro k v c0 h1 h2 h3 h4 h5; exact absurd h1 (by omega)
    | succ n ih =>
      intro k v c0 h1 h2 h3 h4 h5 H locs ls hW hl
      refine lv_iload_n hx hb dX7_all_6 rfl (lv_at hl 1 rfl) ?_
      refine lv_sipush (v := nI 256) hx hb dX7_all_7 (by decide) ?_
      refine n_icmp_ge hx hb rfl rfl (by omega) (by omega) (tgt := 35) dX7_all_10 (by decide) (fun c_10 => ?_) (fun c_10 => ?_)
      · refine lv_aload_n hx hb dX7_all_35 rfl (lv_at hl 0 rfl) ?_
        refine x_get X hW 0 rfl 27 rfl rfl iwX7 (by decide) wq_1107 rfl dX7_all_36 ?_
        refine lv_iconst (v := nI 0) hx hb dX7_all_39 (by decide) ?_
        refine lv_iconst (v := nI 0) hx hb dX7_all_40 (by decide) ?_
        refine r_nz ?_
        refine z_iast X hW (n := 256) (f := v) 21 rfl (w2 := (mW G a th lo bi ru ol ob tk fib gra res buy lst bst rea bid pri itm akf akg got pai riv rf ro rs la ba (va_up v 0 ((0 : Nat) : Int)) c0 row ahe wan giv ++ Y)) rfl (by omega) (by decide) dX7_all_41 (fun H locs hW => ?_)
        refine lv_aload_n hx hb dX7_all_42 rfl (lv_at hl 0 rfl) ?_
        refine x_get X hW 0 rfl 28 rfl rfl iwX7 (by decide) wq_1108 rfl dX7_all_43 ?_
        refine lv_iconst (v := nI 0) hx hb dX7_all_46 (by decide) ?_
        refine lv_iconst (v := nI 0) hx hb dX7_all_47 (by decide) ?_
        refine n_iast X hW (n := 2304) (f := c0) 22 rfl (w2 := (mW G a th lo bi ru ol ob tk fib gra res buy lst bst rea bid pri itm akf akg got pai riv rf ro rs la ba (va_up v 0 ((0 : Nat) : Int)) (va_up c0 0 0) row ahe wan giv ++ Y)) rfl (by omega) (by decide) dX7_all_48 (fun H locs hW => ?_)
        refine lv_aload_n hx hb dX7_all_49 rfl (lv_at hl 0 rfl) ?_
        refine lv_iconst (v := nI 0) hx hb dX7_all_50 (by decide) ?_
        refine lv_iconst (v := nI 0) hx hb dX7_all_51 (by decide) ?_
        refine lv_iconst (v := nI 0) hx hb dX7_all_52 (by decide) ?_
        refine lv_iconst (v := nI 0) hx hb dX7_all_53 (by decide) ?_
        refine lv_iconst (v := nI 0) hx hb dX7_all_54 (by decide) ?_
        refine go_v X hW (run_V X hW (As := [.int (nI 0), .int (nI 0), .int (nI 0), .int (nI 0), .int (nI 0)]) (rest := []) 10 0 rfl (c_X7_walk l G a th lo bi ru ol ob tk fib gra res buy lst bst rea bid pri itm akf akg got pai riv rf ro rs la ba ahe wan giv Y (flM fib gra rf ro rs ru akf akg la ba ol) hI e1 e2 (fun k hk i hi l hl => by unfold flM; rw [mkm_bit hl, show (k * 3 + i) / 3 = k by omega, show (k * 3 + i) % 3 = i by omega]) 8 0 0 0 0 0 (va_up v 0 ((0 : Nat) : Int)) (va_up c0 0 0) row (by omega) (Nat.zero_le _) (Nat.two_pow_pos 0) (Nat.le_refl 0) rfl rfl ⟨rfl, rfl, canB_nil⟩ (CM_0 (fun x hx => h4 x (by omega))) (fun x => by unfold va_up; split; decide; exact h5 x) hrow _) (gi_V wq_1249 wq_1251 wq_49 wq_67 wq_1252) rfl hyX7_walk rfl rfl rfl hl.1 (Nat.le_of_ble_eq_true rfl) ⟨Nat.le_of_ble_eq_true rfl, Nat.le_of_ble_eq_true rfl⟩ ⟨by decide, by decide⟩ dX7_all_55) (fun w2 H locs hp hW => ?_)
        obtain ⟨v2, g2, r2, -, e6, e7, e8, rfl⟩ := hp
        have hF := valF_of hob (fun x hx => h3 x (by omega)) (PS_0 (ob := ob)) (VS_0 (ob := ob)) e8
        exact ret_v X hW (⟨la, ba, v2, g2, r2, ⟨e1, e2, e3, e4, valF_rng hob (fun k => hpri (ba k)) hF, hF⟩, e6, e7, rfl⟩) rfl (by decide) (by decide) dX7_all_58
      · refine lv_aload_n hx hb dX7_all_13 rfl (lv_at hl 0 rfl) ?_
        refine x_get X hW 0 rfl 27 rfl rfl iwX7 (by decide) wq_1107 rfl dX7_all_14 ?_
        refine lv_iload_n hx hb dX7_all_17 rfl (lv_at hl 1 rfl) ?_
        refine lv_ldc (v := (-1000000 : Int32)) hx hb X.own (X.ws _ wq_1247) dX7_all_18 ?_
        rw [show (-1000000 : Int32) = zI (-1000000) by decide]
        refine z_iast X hW (n := 256) (f := v) 21 rfl (w2 := (mW G a th lo bi ru ol ob tk fib gra res buy lst bst rea bid pri itm akf akg got pai riv rf ro rs la ba (va_up v k (-1000000)) c0 row ahe wan giv ++ Y)) rfl (by omega) (by decide) dX7_all_20 (fun H locs hW => ?_)
        refine lv_aload_n hx hb dX7_all_21 rfl (lv_at hl 0 rfl) ?_
        refine x_get X hW 0 rfl 28 rfl rfl iwX7 (by decide) wq_1108 rfl dX7_all_22 ?_
        refine lv_iload_n hx hb dX7_all_25 rfl (lv_at hl 1 rfl) ?_
        refine lv_ldc (v := (nI 1000000)) hx hb X.own (X.ws _ wq_1248) dX7_all_26 ?_
        refine n_iast X hW (n := 2304) (f := c0) 22 rfl (w2 := (mW G a th lo bi ru ol ob tk fib gra res buy lst bst rea bid pri itm akf akg got pai riv rf ro rs la ba (va_up v k (-1000000)) (va_up c0 k 1000000) row ahe wan giv ++ Y)) rfl (by omega) (by decide) dX7_all_28 (fun H locs hW => ?_)
        refine lv_iinc (v := (nI (k + 1))) (lv' := [(1, .int (nI (k + 1))), (0, .ref (a 0))]) hx hb dX7_all_29 hl (k := 1) rfl (nI_add _ _) (by decide) rfl (fun ls hl => ?_)
        refine lv_goto (tgt := 6) hx hb dX7_all_32 (by decide) ?_
        exact ih (k + 1) _ _ (by omega) (by omega) (fun x hx => by unfold va_up; split; rfl; exact h3 x (by omega)) (fun x hx => by unfold va_up; split; rfl; exact h4 x (by omega)) (fun x => by unfold va_up; split; decide; exact h5 x) _ _ _ hW (lv_sub hl [1, 0] rfl)
  exact loop (256 + 1) 0 val cos (by omega) (by omega) (fun x hx => absurd hx (Nat.not_lt_zero x)) (fun x hx => absurd hx (Nat.not_lt_zero x)) hcos _ _ _ hW (lv_sub hl [1, 0] rfl)

