/-- the least of f over the places below n, and FAR -/
def lmn (f : Nat → Nat) (n : Nat) : Nat := match n with
  | 0 => 1000000
  | n + 1 => if f n < lmn f n then f n else lmn f n
theorem lmn_le (f : Nat → Nat) (n : Nat) : lmn f n ≤ 1000000 := by
  induction n with
  | zero => exact Nat.le_refl _
  | succ n ih => rw [lmn]; split <;> omega
theorem lmn_congr {f g : Nat → Nat} {n : Nat} (h : ∀ k, k < n → f k = g k) : lmn f n = lmn g n := by
  induction n with
  | zero => rfl
  | succ n ih => rw [lmn, lmn, ih (fun k hk => h k (by omega)), h n (by omega)]
set_option maxRecDepth 100000 in
set_option maxHeartbeats 4000000 in
theorem c_X7_least (l : Launch) (G : Gt) (a : Nat → Nat) (th lo bi ru ol ob : Nat) (tk : Int) (fib gra res buy lst bst rea bid pri itm akf akg got : Nat → Nat) (pai : Nat → Int) (riv rf ro rs lat bat : Nat → Nat) (val : Nat → Int) (cos row ahe wan giv : Nat → Nat) (Y : va_W) (d : Nat) (hd : d ≤ 8) (hcos : ∀ x, cos x ≤ 2000000) : Ci l G yX7_least (ww yX7_least cX7_least 4 (some FieldType.int)) (RM 0 0 0) [.ref (a 0), .int (nI d)] (mW G a th lo bi ru ol ob tk fib gra res buy lst bst rea bid pri itm akf akg got pai riv rf ro rs lat bat val cos row ahe wan giv ++ Y) (fun r w2 => r = nI (lmn (fun m => cos ((256 * d) + m)) 256) ∧ w2 = (mW G a th lo bi ru ol ob tk fib gra res buy lst bst rea bid pri itm akf akg got pai riv rf ro rs lat bat val cos row ahe wan giv ++ Y)) := by
  refine Ci.intro (by decide) (Nat.le_of_ble_eq_true rfl) ?_
  intro p e s m args below meth c A X hW ls hl
  have hx := X.exec
  have hb := X.bytes
  have hl : lv_has ls 4 [(0, .ref (a 0)), (1, .int (nI d))] := hl
  refine lv_ldc (v := (nI 1000000)) hx hb X.own (X.ws _ wq_1248) dX7_least_0 ?_
  refine lv_istore_n (lv' := [(2, .int (nI 1000000)), (0, .ref (a 0)), (1, .int (nI d))]) hx hb dX7_least_2 rfl hl (by decide) rfl (fun ls hl => ?_)
  refine lv_iconst (v := nI 0) hx hb dX7_least_3 (by decide) ?_
  refine lv_istore_n (lv' := [(3, .int (nI 0)), (2, .int (nI 1000000)), (0, .ref (a 0)), (1, .int (nI d))]) hx hb dX7_least_4 rfl hl (by decide) rfl (fun ls hl => ?_)
  have loop : ∀ (n : Nat) (k : Nat), 256 + 1 ≤ k + n → k ≤ 256 → ∀ (H : Heap) (locs : List Loc) (ls : Array Slot), Wd G A s (mW G a th lo bi ru ol ob tk fib gra res buy lst bst rea bid pri itm akf akg got pai riv rf ro rs lat bat val cos row ahe wan giv ++ Y) H locs → lv_has ls 4 [(0, .ref (a 0)), (1, .int (nI d)), (2, .int (nI (lmn (fun m => cos ((256 * d) + m)) k))), (3, .int (nI k))] → W p l e (RM 0 0 0) s m args below meth c H locs 0 0 (MQ below (Qi G A (fun r w2 => r = nI (lmn (fun m => cos ((256 * d) + m)) 256) ∧ w2 = (mW G a th lo bi ru ol ob tk fib gra res buy lst bst rea bid pri itm akf akg got pai riv rf ro rs lat bat val cos row ahe wan giv ++ Y))) args s (RM 0 0 0).cells (RM 0 0 0).slots A) (F0 m 5 ls []) := by
    intro n
    induction n with
    | zero => intro k h1 h2; exact absurd h1 (by omega)
    | succ n ih =>
      intro k h1 h2 H locs ls hW hl
      refine lv_iload_n hx hb dX7_least_5 rfl (lv_at hl 3 rfl) ?_
      refine lv_sipush (v := nI 256) hx hb dX7_least_6 (by decide) ?_
      refine n_icmp_ge hx hb rfl rfl (by omega) (by omega) (tgt := 47) dX7_least_9 (by decide) (fun c_9 => ?_) (fun c_9 => ?_)
      · refine lv_iload_n hx hb dX7_least_47 rfl (lv_at hl 2 rfl) ?_
        exact ret_i X hW (v := (nI (lmn (fun m => cos ((256 * d) + m)) k))) (⟨by rw [show k = 256 by omega], rfl⟩) rfl (by decide) (by decide) dX7_least_48
      · refine lv_aload_n hx hb dX7_least_12 rfl (lv_at hl 0 rfl) ?_
        refine x_get X hW 0 rfl 28 rfl rfl iwX7 (by decide) wq_1108 rfl dX7_least_13 ?_
        refine lv_sipush (v := nI 256) hx hb dX7_least_16 (by decide) ?_
        refine lv_iload_n hx hb dX7_least_19 rfl (lv_at hl 1 rfl) ?_
        refine n_imul hx hb dX7_least_20 ?_
        refine lv_iload_n hx hb dX7_least_21 rfl (lv_at hl 3 rfl) ?_
        refine n_iadd hx hb dX7_least_22 ?_
        refine n_iald X hW (n := 2304) (f := cos) 22 rfl (by omega) (by decide) dX7_least_23 ?_
        refine lv_iload_n hx hb dX7_least_24 rfl (lv_at hl 2 rfl) ?_
        refine n_icmp_ge hx hb rfl rfl (by have := hcos ((256 * d) + k); omega) (by have := lmn_le (fun m => cos ((256 * d) + m)) k; omega) (tgt := 41) dX7_least_25 (by decide) (fun c_25 => ?_) (fun c_25 => ?_)
        · refine lv_iinc (v := (nI (k + 1))) (lv' := [(3, .int (nI (k + 1))), (0, .ref (a 0)), (1, .int (nI d)), (2, .int (nI (lmn (fun m => cos ((256 * d) + m)) k)))]) hx hb dX7_least_41 hl (k := 3) rfl (nI_add _ _) (by decide) rfl (fun ls hl => ?_)
          refine lv_goto (tgt := 5) hx hb dX7_least_44 (by decide) ?_
          exact ih (k + 1) (by omega) (by omega) _ _ _ hW (by rw [show lmn (fun m => cos ((256 * d) + m)) (k + 1) = (lmn (fun m => cos ((256 * d) + m)) k) by rw [lmn, if_neg (show ¬ cos ((256 * d) + k) < _ by omega)]]; exact lv_sub hl [1, 2, 3, 0] rfl)
        · refine lv_aload_n hx hb dX7_least_28 rfl (lv_at hl 0 rfl) ?_
          refine x_get X hW 0 rfl 28 rfl rfl iwX7 (by decide) wq_1108 rfl dX7_least_29 ?_
          refine lv_sipush (v := nI 256) hx hb dX7_least_32 (by decide) ?_
          refine lv_iload_n hx hb dX7_least_35 rfl (lv_at hl 1 rfl) ?_
          refine n_imul hx hb dX7_least_36 ?_
          refine lv_iload_n hx hb dX7_least_37 rfl (lv_at hl 3 rfl) ?_
          refine n_iadd hx hb dX7_least_38 ?_
          refine n_iald X hW (n := 2304) (f := cos) 22 rfl (by omega) (by decide) dX7_least_39 ?_
          refine lv_istore_n (lv' := [(2, .int (nI (cos ((256 * d) + k)))), (0, .ref (a 0)), (1, .int (nI d)), (3, .int (nI k))]) hx hb dX7_least_40 rfl hl (by decide) rfl (fun ls hl => ?_)
          refine lv_iinc (v := (nI (k + 1))) (lv' := [(3, .int (nI (k + 1))), (2, .int (nI (cos ((256 * d) + k)))), (0, .ref (a 0)), (1, .int (nI d))]) hx hb dX7_least_41 hl (k := 3) rfl (nI_add _ _) (by decide) rfl (fun ls hl => ?_)
          refine lv_goto (tgt := 5) hx hb dX7_least_44 (by decide) ?_
          exact ih (k + 1) (by omega) (by omega) _ _ _ hW (by rw [show lmn (fun m => cos ((256 * d) + m)) (k + 1) = (cos ((256 * d) + k)) by rw [lmn, if_pos c_25]]; exact lv_sub hl [2, 3, 1, 0] rfl)
  exact loop (256 + 1) 0 (by omega) (by omega) _ _ _ hW (lv_sub hl [2, 3, 1, 0] rfl)

/-- the items of the bids below n that are in p, the last one first -/
def lmR (p : Nat → Bool) (ic fl : Nat → Nat) (n : Nat) : List Nat := match n with
  | 0 => []
  | n + 1 => if p n = true then addI fl n (ic n) (lmR p ic fl n) else lmR p ic fl n
/-- every bid below n that is in p has items -/
def okN (p : Nat → Bool) (ic : Nat → Nat) (n : Nat) : Bool := match n with
  | 0 => true
  | n + 1 => okN p ic n && (!p n || decide (ic n ≠ 0))
/-- a set of bids is possible, as far as those below n go -/
def PS (ol : Nat) (bd ic fl : Nat → Nat) (s n : Nat) : Prop := okN s.testBit ic n = true ∧ okB s.testBit bd n = true ∧ canB ol (lmR s.testBit ic fl n)
/-- the least cost of items -/
def lmC (ol : Nat) (rsv : Nat → Nat) (L : List Nat) : Nat := lmn (fun m => if fil ol L m = true then bsum m.testBit rsv ol else 1000000) 256
def VS (ol : Nat) (rsv ic fl pr : Nat → Nat) (s n : Nat) : Int := ((bsum s.testBit pr n : Nat) : Int) - (lmC ol rsv (lmR s.testBit ic fl n) : Int)
theorem lmC_CM {cos rsv : Nat → Nat} {base ol : Nat} {L : List Nat} (h : CM cos base ol rsv L) : lmn (fun m => cos (base + m)) 256 = lmC ol rsv L := lmn_congr (fun k hk => h k hk)
theorem addI_lt {n : Nat} {fl : Nat → Nat} {k c : Nat} {R : List Nat} (hn : n ≤ 8) (h : canB n (addI fl k c R)) : canB n R := by
  rw [addI_addM] at h
  exact canB_mono (k := 0) hn (Nat.zero_le _) h
theorem lmR_congr {p q : Nat → Bool} {ic fl : Nat → Nat} {n : Nat} (h : ∀ k, k < n → p k = q k) : lmR p ic fl n = lmR q ic fl n := by
  induction n with
  | zero => rfl
  | succ n ih => rw [lmR, lmR, ih (fun k hk => h k (by omega)), h n (by omega)]
theorem okN_congr {p q : Nat → Bool} {ic : Nat → Nat} {n : Nat} (h : ∀ k, k < n → p k = q k) : okN p ic n = okN q ic n := by
  induction n with
  | zero => rfl
  | succ n ih => rw [okN, okN, ih (fun k hk => h k (by omega)), h n (by omega)]
theorem sn_congr {p q : Nat → Bool} {bd : Nat → Nat} {n : Nat} (h : ∀ k, k < n → p k = q k) : sn p bd n = sn q bd n := by
  induction n with
  | zero => rfl
  | succ n ih => rw [sn, sn, ih (fun k hk => h k (by omega)), h n (by omega)]
theorem okB_congr {p q : Nat → Bool} {bd : Nat → Nat} {n : Nat} (h : ∀ k, k < n → p k = q k) : okB p bd n = okB q bd n := by
  induction n with
  | zero => rfl
  | succ n ih => rw [okB, okB, ih (fun k hk => h k (by omega)), h n (by omega), sn_congr (fun k hk => h k (by omega))]
theorem PS_congr {ol : Nat} {bd ic fl : Nat → Nat} {s t n : Nat} (h : ∀ k, k < n → s.testBit k = t.testBit k) : PS ol bd ic fl s n ↔ PS ol bd ic fl t n := by
  unfold PS
  rw [okN_congr h, okB_congr h, lmR_congr h]
theorem VS_congr {ol : Nat} {rsv ic fl pr : Nat → Nat} {s t n : Nat} (h : ∀ k, k < n → s.testBit k = t.testBit k) : VS ol rsv ic fl pr s n = VS ol rsv ic fl pr t n := by
  unfold VS
  rw [lmR_congr h, bsum_congr (fun k hk => ⟨h k hk, rfl⟩)]
theorem PS_f {ol : Nat} {bd ic fl : Nat → Nat} {s n : Nat} (h : s.testBit n = false) : PS ol bd ic fl s (n + 1) ↔ PS ol bd ic fl s n := by
  unfold PS
  rw [okN, okB, lmR, h]
  simp
theorem PS_t {ol : Nat} {bd ic fl : Nat → Nat} {s n : Nat} (hol : ol ≤ 8) (h : s.testBit n = true) : PS ol bd ic fl s (n + 1) ↔ PS ol bd ic fl s n ∧ ic n ≠ 0 ∧ (sn s.testBit bd n).testBit (bd n) = false ∧ canB ol (addI fl n (ic n) (lmR s.testBit ic fl n)) := by
  unfold PS
  rw [okN, okB, lmR, h, if_pos rfl]
  simp only [Bool.and_eq_true, Bool.not_true, Bool.false_or, decide_eq_true_eq, Bool.true_and, Bool.not_eq_true']
  constructor
  · rintro ⟨⟨a1, a2⟩, ⟨a3, a4⟩, a5⟩
    exact ⟨⟨a1, a3, addI_lt hol a5⟩, a2, a4, a5⟩
  · rintro ⟨⟨a1, a3, -⟩, a2, a4, a5⟩
    exact ⟨⟨a1, a2⟩, ⟨a3, a4⟩, a5⟩
theorem PS_mono {ol : Nat} {bd ic fl : Nat → Nat} {s k n : Nat} (hol : ol ≤ 8) (hk : k ≤ n) (h : PS ol bd ic fl s n) : PS ol bd ic fl s k := by
  induction n with
  | zero => rw [show k = 0 by omega]; exact h
  | succ n ih =>
    by_cases q : k = n + 1
    · rw [q]; exact h
    · refine ih (by omega) ?_
      cases hb : s.testBit n with
      | false => exact (PS_f hb).mp h
      | true => exact ((PS_t hol hb).mp h).1
theorem PS_up {ol : Nat} {bd ic fl : Nat → Nat} {s k n : Nat} (hk : k ≤ n) (h : ∀ j, k ≤ j → j < n → s.testBit j = false) : PS ol bd ic fl s n ↔ PS ol bd ic fl s k := by
  induction n with
  | zero => rw [show k = 0 by omega]
  | succ n ih =>
    by_cases q : k = n + 1
    · rw [q]
    · rw [PS_f (h n (by omega) (by omega)), ih (by omega) (fun j a b => h j a (by omega))]
theorem VS_up {ol : Nat} {rsv ic fl pr : Nat → Nat} {s k n : Nat} (hk : k ≤ n) (h : ∀ j, k ≤ j → j < n → s.testBit j = false) : VS ol rsv ic fl pr s n = VS ol rsv ic fl pr s k := by
  induction n with
  | zero => rw [show k = 0 by omega]
  | succ n ih =>
    by_cases q : k = n + 1
    · rw [q]
    · rw [← ih (by omega) (fun j a b => h j a (by omega))]
      unfold VS
      rw [lmR, if_neg (by rw [h n (by omega) (by omega)]; decide), bsum_f (h n (by omega) (by omega))]
theorem lmR_up {p : Nat → Bool} {ic fl : Nat → Nat} {k n : Nat} (hk : k ≤ n) (h : ∀ j, k ≤ j → j < n → p j = false) : lmR p ic fl n = lmR p ic fl k := by
  induction n with
  | zero => rw [show k = 0 by omega]
  | succ n ih =>
    by_cases q : k = n + 1
    · rw [q]
    · rw [lmR, if_neg (by rw [h n (by omega) (by omega)]; decide), ih (by omega) (fun j a b => h j a (by omega))]
theorem sn_up {p : Nat → Bool} {bd : Nat → Nat} {k n : Nat} (hk : k ≤ n) (h : ∀ j, k ≤ j → j < n → p j = false) : sn p bd n = sn p bd k := by
  induction n with
  | zero => rw [show k = 0 by omega]
  | succ n ih =>
    by_cases q : k = n + 1
    · rw [q]
    · rw [sn, if_neg (by rw [h n (by omega) (by omega)]; decide), ih (by omega) (fun j a b => h j a (by omega))]
theorem bsum_up {p : Nat → Bool} {g : Nat → Nat} {k n : Nat} (hk : k ≤ n) (h : ∀ j, k ≤ j → j < n → p j = false) : bsum p g n = bsum p g k := by
  induction n with
  | zero => rw [show k = 0 by omega]
  | succ n ih =>
    by_cases q : k = n + 1
    · rw [q]
    · rw [bsum_f (h n (by omega) (by omega)), ih (by omega) (fun j a b => h j a (by omega))]
/-- s goes on from set with a first bid of its own from 'from' to below k -/
def EXk (set fr k ob s : Nat) : Prop := s < 2 ^ ob ∧ (∀ j, j < fr → s.testBit j = set.testBit j) ∧ ∃ j, fr ≤ j ∧ j < k ∧ s.testBit j = true
/-- what the values of sets are when the sets in E have been gone through -/
def valW (val val2 : Nat → Int) (ol ob : Nat) (rsv bd ic fl pr : Nat → Nat) (E : Nat → Prop) : Prop := ∀ s, s < 256 → (E s ∧ PS ol bd ic fl s ob → val2 s = VS ol rsv ic fl pr s ob) ∧ (¬ (E s ∧ PS ol bd ic fl s ob) → val2 s = val s)
theorem tb_hi {s n j : Nat} (h : s < 2 ^ n) (hj : n ≤ j) : s.testBit j = false := Nat.testBit_lt_two_pow (Nat.lt_of_lt_of_le h (Nat.pow_le_pow_right (by decide) hj))
theorem or_at {x k j : Nat} : (x ||| 2 ^ k).testBit j = (x.testBit j || decide (k = j)) := by
  rw [Nat.testBit_or, Nat.testBit_two_pow]
/-- the sets that are new at bid k: the set with k, and what goes on from it -/
theorem EXk_new {set fr k ob s : Nat} (hset : set < 2 ^ fr) (hfr : fr ≤ k) (hk : k < ob) : EXk set fr (k + 1) ob s ↔ EXk set fr k ob s ∨ (s < 2 ^ ob ∧ ∀ j, j < k + 1 → s.testBit j = (set ||| 2 ^ k).testBit j) := by
  constructor
  · rintro ⟨h1, h2, j, h3, h4, h5⟩
    rcases Classical.em (∃ i, fr ≤ i ∧ i < k ∧ s.testBit i = true) with q | q
    · exact Or.inl ⟨h1, h2, q⟩
    · refine Or.inr ⟨h1, fun i hi => ?_⟩
      have hjk : j = k := by
        rcases Nat.lt_or_ge j k with r | r
        · exact absurd ⟨j, h3, r, h5⟩ q
        · omega
      rw [or_at]
      by_cases e : k = i
      · rw [decide_eq_true e, Bool.or_true, ← e, ← hjk]; exact h5
      · rw [decide_eq_false e, Bool.or_false]
        rcases Nat.lt_or_ge i fr with r | r
        · exact h2 i r
        · rw [tb_hi hset r]
          cases hb : s.testBit i with
          | false => rfl
          | true => exact absurd ⟨i, r, by omega, hb⟩ q
  · rintro (⟨h1, h2, j, h3, h4, h5⟩ | ⟨h1, h2⟩)
    · exact ⟨h1, h2, j, h3, by omega, h5⟩
    · refine ⟨h1, fun j hj => ?_, k, hfr, by omega, ?_⟩
      · rw [h2 j (by omega), or_at, decide_eq_false (by omega), Bool.or_false]
      · rw [h2 k (by omega), or_at, decide_eq_true rfl, Bool.or_true]
theorem eq_of_bits {x y n : Nat} (hx : x < 2 ^ n) (hy : y < 2 ^ n) (h : ∀ j, j < n → x.testBit j = y.testBit j) : x = y := by
  apply Nat.eq_of_testBit_eq
  intro i
  rcases Nat.lt_or_ge i n with q | q
  · exact h i q
  · rw [tb_hi hx q, tb_hi hy q]
theorem EXk_split {x k ob s : Nat} (hx : x < 2 ^ (k + 1)) (hk : k + 1 ≤ ob) : (s < 2 ^ ob ∧ ∀ j, j < k + 1 → s.testBit j = x.testBit j) ↔ s = x ∨ EXk x (k + 1) ob ob s := by
  have hxo : x < 2 ^ ob := Nat.lt_of_lt_of_le hx (Nat.pow_le_pow_right (by decide) hk)
  constructor
  · rintro ⟨h1, h2⟩
    rcases Classical.em (∃ j, k + 1 ≤ j ∧ j < ob ∧ s.testBit j = true) with q | q
    · exact Or.inr ⟨h1, h2, q⟩
    · left
      refine eq_of_bits h1 hxo (fun j hj => ?_)
      rcases Nat.lt_or_ge j (k + 1) with r | r
      · exact h2 j r
      · rw [tb_hi hx r]
        cases hb : s.testBit j with
        | false => rfl
        | true => exact absurd ⟨j, r, hj, hb⟩ q
  · rintro (h | ⟨h1, h2, -⟩)
    · subst h; exact ⟨hxo, fun _ _ => rfl⟩
    · exact ⟨h1, h2⟩
theorem valW_skip {val v : Nat → Int} {ol ob set fr k : Nat} {rsv bd ic fl pr : Nat → Nat} (hol : ol ≤ 8) (hset : set < 2 ^ fr) (hfr : fr ≤ k) (hk : k < ob) (h : valW val v ol ob rsv bd ic fl pr (EXk set fr k ob)) (hno : ¬ PS ol bd ic fl (set ||| 2 ^ k) (k + 1)) : valW val v ol ob rsv bd ic fl pr (EXk set fr (k + 1) ob) := by
  intro s hs
  obtain ⟨a1, a2⟩ := h s hs
  have hx : ∀ s, (s < 2 ^ ob ∧ ∀ j, j < k + 1 → s.testBit j = (set ||| 2 ^ k).testBit j) → ¬ PS ol bd ic fl s ob := fun s q r => hno ((PS_congr q.2).mp (PS_mono hol (by omega) r))
  refine ⟨fun q => ?_, fun q => ?_⟩
  · rcases (EXk_new hset hfr hk).mp q.1 with r | r
    · exact a1 ⟨r, q.2⟩
    · exact absurd q.2 (hx s r)
  · exact a2 (fun r => q ⟨(EXk_new hset hfr hk).mpr (Or.inl r.1), r.2⟩)
theorem valW_add {val v v2 : Nat → Int} {ol ob set fr k : Nat} {z : Int} {rsv bd ic fl pr : Nat → Nat} (hol : ol ≤ 8) (hset : set < 2 ^ fr) (hfr : fr ≤ k) (hk : k < ob) (h : valW val v ol ob rsv bd ic fl pr (EXk set fr k ob)) (hz : z = VS ol rsv ic fl pr (set ||| 2 ^ k) (k + 1)) (hps : PS ol bd ic fl (set ||| 2 ^ k) (k + 1)) (h2 : valW (va_up v (set ||| 2 ^ k) z) v2 ol ob rsv bd ic fl pr (EXk (set ||| 2 ^ k) (k + 1) ob ob)) : valW val v2 ol ob rsv bd ic fl pr (EXk set fr (k + 1) ob) := by
  have hx : set ||| 2 ^ k < 2 ^ (k + 1) := or_p2 (Nat.lt_of_lt_of_le hset (Nat.pow_le_pow_right (by decide) (by omega))) (by omega)
  have hup : ∀ j, k + 1 ≤ j → j < ob → (set ||| 2 ^ k).testBit j = false := fun j hj _ => tb_hi hx hj
  intro s hs
  obtain ⟨a1, a2⟩ := h s hs
  obtain ⟨b1, b2⟩ := h2 s hs
  have hnotx : ¬ EXk (set ||| 2 ^ k) (k + 1) ob ob (set ||| 2 ^ k) := fun ⟨_, _, j, q1, q2, q3⟩ => by rw [tb_hi hx q1] at q3; exact absurd q3 (by decide)
  refine ⟨fun q => ?_, fun q => ?_⟩
  · rcases (EXk_new hset hfr hk).mp q.1 with r | r
    · have hne : ¬ (EXk (set ||| 2 ^ k) (k + 1) ob ob s ∧ PS ol bd ic fl s ob) := by
        rintro ⟨⟨_, r2, _⟩, _⟩
        obtain ⟨_, _, j, r3, r4, r5⟩ := r
        have := r2 j (by omega)
        rw [or_at, decide_eq_false (by omega), Bool.or_false, tb_hi hset r3, r5] at this
        exact absurd this (by decide)
      rw [b2 hne]
      have hsx : s ≠ set ||| 2 ^ k := by
        intro e
        obtain ⟨_, _, j, r3, r4, r5⟩ := r
        rw [e, or_at, decide_eq_false (by omega), Bool.or_false, tb_hi hset r3] at r5
        exact absurd r5 (by decide)
      unfold va_up
      rw [if_neg hsx]
      exact a1 ⟨r, q.2⟩
    · rcases (EXk_split hx (by omega)).mp r with e | e
      · rw [e] at b2 ⊢
        rw [b2 (fun z => hnotx z.1)]
        unfold va_up
        rw [if_pos rfl, hz, VS_up (by omega) hup]
      · exact b1 ⟨e, q.2⟩
  · have hne : ¬ (EXk (set ||| 2 ^ k) (k + 1) ob ob s ∧ PS ol bd ic fl s ob) := fun z => q ⟨(EXk_new hset hfr hk).mpr (Or.inr ((EXk_split hx (by omega)).mpr (Or.inr z.1))), z.2⟩
    rw [b2 hne]
    have hsx : s ≠ set ||| 2 ^ k := by
      intro e
      refine q ⟨(EXk_new hset hfr hk).mpr (Or.inr ((EXk_split hx (by omega)).mpr (Or.inl e))), ?_⟩
      rw [e]
      exact (PS_up (by omega) hup).mpr hps
    unfold va_up
    rw [if_neg hsx]
    exact a2 (fun z => q ⟨(EXk_new hset hfr hk).mpr (Or.inl z.1), z.2⟩)
set_option maxRecDepth 100000 in
set_option maxHeartbeats 4000000 in
theorem c_X7_walk (l : Launch) (G : Gt) (a : Nat → Nat) (th lo bi ru ol ob : Nat) (tk : Int) (fib gra res buy lst bst rea bid pri itm akf akg got : Nat → Nat) (pai : Nat → Int) (riv rf ro rs lat bat : Nat → Nat) (ahe wan giv : Nat → Nat) (Y : va_W) (fl : Nat → Nat) (hI : MIa lo bi ru ol ob fib gra res buy lst bst rea bid pri itm akf akg got pai riv rf ro rs) (hlat : ∀ k, lat k < 40) (hbat : ∀ k, bat k < 40) (hfl : ∀ k, k < ob → ∀ i, i < 3 → ∀ l, l < ol → (fl (k * 3 + i)).testBit l = suiB fib gra rf ro rs ru akf akg (lat l) (3 * bat k + i)) (D : Nat) : ∀ (fr set d pri0 bids : Nat) (val : Nat → Int) (cos row : Nat → Nat), ob ≤ fr + D → fr ≤ ob → set < 2 ^ fr → d ≤ fr → pri0 = bsum set.testBit (fun k => pri (bat k)) fr → bids = sn set.testBit (fun k => bid (bat k)) fr → PS ol (fun k => bid (bat k)) (fun k => itm (bat k)) fl set fr → CM cos (256 * d) ol (fun l => res (lat l)) (lmR set.testBit (fun k => itm (bat k)) fl fr) → (∀ x, cos x ≤ 2000000) → (∀ x, row x ≤ 2000000) → Cv l G yX7_walk (ww yX7_walk cX7_walk 8 (none : Option ClassFile.FieldType)) (RM (D + 3) 0 0) [.ref (a 0), .int (nI fr), .int (nI set), .int (nI d), .int (nI pri0), .int (nI bids)] (mW G a th lo bi ru ol ob tk fib gra res buy lst bst rea bid pri itm akf akg got pai riv rf ro rs lat bat val cos row ahe wan giv ++ Y) (fun w2 => ∃ (v2 : Nat → Int) (g r2 : Nat → Nat), (∀ x, x < 256 * d + 256 → g x = cos x) ∧ (∀ x, g x ≤ 2000000) ∧ (∀ x, r2 x ≤ 2000000) ∧ valW val v2 ol ob (fun l => res (lat l)) (fun k => bid (bat k)) (fun k => itm (bat k)) fl (fun k => pri (bat k)) (EXk set fr ob ob) ∧ w2 = (mW G a th lo bi ru ol ob tk fib gra res buy lst bst rea bid pri itm akf akg got pai riv rf ro rs lat bat v2 g r2 ahe wan giv ++ Y)) := by
  induction D with
  | zero =>
    intro fr set d pri0 bids val cos row h1 h2 h3 h4 h5 h6 h7 h8 h9 h10
    refine Cv.intro (by decide) (Nat.le_of_ble_eq_true rfl) ?_
    intro p e s m args below meth c A X hW ls hl
    have hx := X.exec
    have hb := X.bytes
    have hl : lv_has ls 8 [(0, .ref (a 0)), (1, .int (nI fr)), (2, .int (nI set)), (3, .int (nI d)), (4, .int (nI pri0)), (5, .int (nI bids))] := hl
    obtain ⟨hlo, hbi, hru, hol, hob, hfib, hgra, hres, hbuy, hlst, hbst, hrea, hbid, hpri, hitm, hakf, hakg, hgot, hriv, hrf, hro, hrs, hpai, hcl, hcb⟩ := id hI
    refine lv_iload_n hx hb dX7_walk_0 rfl (lv_at hl 1 rfl) ?_
    refine lv_istore (lv' := [(6, .int (nI fr)), (0, .ref (a 0)), (1, .int (nI fr)), (2, .int (nI set)), (3, .int (nI d)), (4, .int (nI pri0)), (5, .int (nI bids))]) hx hb dX7_walk_1 hl (by decide) rfl (fun ls hl => ?_)
    refine lv_iload hx hb dX7_walk_3 (lv_at hl 0 rfl) ?_
    refine lv_aload_n hx hb dX7_walk_5 rfl (lv_at hl 1 rfl) ?_
    refine x_get X hW 0 rfl 5 rfl rfl iwX7 (by decide) wq_1085 rfl dX7_walk_6 ?_
    refine n_icmp_ge hx hb rfl rfl (by omega) (by omega) (tgt := 134) dX7_walk_9 (by decide) (fun c_9 => ?_) (fun c_9 => absurd c_9 (by omega))
    exact ret_v X hW (⟨val, cos, row, fun _ _ => rfl, h9, h10, fun s _ => ⟨fun ⟨⟨_, _, j, q1, q2, _⟩, _⟩ => by omega, fun _ => rfl⟩, rfl⟩) rfl (Nat.le_refl 0) (Nat.le_refl 0) dX7_walk_134
  | succ D ih0 =>
    intro fr set d pri0 bids val cos row h1 h2 h3 h4 h5 h6 h7 h8 h9 h10
    refine Cv.intro (by decide) (Nat.le_of_ble_eq_true rfl) ?_
    intro p e s m args below meth c A X hW ls hl
    have hx := X.exec
    have hb := X.bytes
    have hl : lv_has ls 8 [(0, .ref (a 0)), (1, .int (nI fr)), (2, .int (nI set)), (3, .int (nI d)), (4, .int (nI pri0)), (5, .int (nI bids))] := hl
    obtain ⟨hlo, hbi, hru, hol, hob, hfib, hgra, hres, hbuy, hlst, hbst, hrea, hbid, hpri, hitm, hakf, hakg, hgot, hriv, hrf, hro, hrs, hpai, hcl, hcb⟩ := id hI
    have loop : ∀ (n : Nat) (k : Nat) (v : Nat → Int) (g r2 : Nat → Nat), ob + 1 ≤ k + n → k ≤ ob → fr ≤ k → (∀ x, x < 256 * d + 256 → g x = cos x) → (∀ x, g x ≤ 2000000) → (∀ x, r2 x ≤ 2000000) → valW val v ol ob (fun l => res (lat l)) (fun k => bid (bat k)) (fun k => itm (bat k)) fl (fun k => pri (bat k)) (EXk set fr k ob) → ∀ (H : Heap) (locs : List Loc) (ls : Array Slot), Wd G A s (mW G a th lo bi ru ol ob tk fib gra res buy lst bst rea bid pri itm akf akg got pai riv rf ro rs lat bat v g r2 ahe wan giv ++ Y) H locs → lv_has ls 8 [(0, .ref (a 0)), (1, .int (nI fr)), (2, .int (nI set)), (3, .int (nI d)), (4, .int (nI pri0)), (5, .int (nI bids)), (6, .int (nI k))] → W p l e (RM (D + 1 + 3) 0 0) s m args below meth c H locs 0 0 (MQ below (Qv G A (fun w2 => ∃ (v2 : Nat → Int) (g r2 : Nat → Nat), (∀ x, x < 256 * d + 256 → g x = cos x) ∧ (∀ x, g x ≤ 2000000) ∧ (∀ x, r2 x ≤ 2000000) ∧ valW val v2 ol ob (fun l => res (lat l)) (fun k => bid (bat k)) (fun k => itm (bat k)) fl (fun k => pri (bat k)) (EXk set fr ob ob) ∧ w2 = (mW G a th lo bi ru ol ob tk fib gra res buy lst bst rea bid pri itm akf akg got pai riv rf ro rs lat bat v2 g r2 ahe wan giv ++ Y))) args s (RM (D + 1 + 3) 0 0).cells (RM (D + 1 + 3) 0 0).slots A) (F0 m 3 ls []) := by
      intro n
      induction n with
      | zero => intro k v g r2 k1 kb k2 k3 k4 k5 k6; exact absurd k1 (by omega)
      | succ n ih =>
        intro k v g r2 k1 kb k2 k3 k4 k5 k6 H locs ls hW hl
        have hbk0 := hbat k
        have hup : ∀ j, fr ≤ j → j < k → set.testBit j = false := fun j hj _ => tb_hi h3 hj
        have hps : PS ol (fun k => bid (bat k)) (fun k => itm (bat k)) fl set k := (PS_up k2 hup).mpr h7
        have hbi2 : sn set.testBit (fun k => bid (bat k)) k = bids := by rw [sn_up k2 hup]; exact h6.symm
        have hpi2 : bsum set.testBit (fun k => pri (bat k)) k = pri0 := by rw [bsum_up k2 hup]; exact h5.symm
        have hCMk : CM g (256 * d) ol (fun l => res (lat l)) (lmR set.testBit (fun k => itm (bat k)) fl k) := by rw [lmR_up k2 hup]; exact fun m hm => by rw [k3 _ (by omega)]; exact h8 m hm
        have hp2 := fun (h : k < 8) => p2_le h
        have hp3 : bids < 256 := by rw [h6]; exact sn_lt (fun j => hbid (bat j)) fr
        have hs8 : set < 256 := Nat.lt_of_lt_of_le h3 (p2_256 (by omega))
        refine lv_iload hx hb dX7_walk_3 (lv_at hl 6 rfl) ?_
        refine lv_aload_n hx hb dX7_walk_5 rfl (lv_at hl 0 rfl) ?_
        refine x_get X hW 0 rfl 5 rfl rfl iwX7 (by decide) wq_1085 rfl dX7_walk_6 ?_
        refine n_icmp_ge hx hb rfl rfl (by omega) (by omega) (tgt := 134) dX7_walk_9 (by decide) (fun c_9 => ?_) (fun c_9 => ?_)
        · exact ret_v X hW (⟨v, g, r2, k3, k4, k5, by rw [show k = ob by omega] at k6; exact k6, rfl⟩) rfl (Nat.le_refl 0) (Nat.le_refl 0) dX7_walk_134
        · refine lv_aload_n hx hb dX7_walk_12 rfl (lv_at hl 0 rfl) ?_
          refine x_get X hW 0 rfl 26 rfl rfl iwX7 (by decide) wq_1106 rfl dX7_walk_13 ?_
          refine lv_iload hx hb dX7_walk_16 (lv_at hl 6 rfl) ?_
          refine n_iald X hW (n := 8) (f := bat) 20 rfl (by omega) (by decide) dX7_walk_18 ?_
          refine lv_istore (lv' := [(7, .int (nI (bat k))), (0, .ref (a 0)), (1, .int (nI fr)), (2, .int (nI set)), (3, .int (nI d)), (4, .int (nI pri0)), (5, .int (nI bids)), (6, .int (nI k))]) hx hb dX7_walk_19 hl (by decide) rfl (fun ls hl => ?_)
          refine lv_aload_n hx hb dX7_walk_21 rfl (lv_at hl 1 rfl) ?_
          refine x_get X hW 0 rfl 16 rfl rfl iwX7 (by decide) wq_1096 rfl dX7_walk_22 ?_
          refine lv_iload hx hb dX7_walk_25 (lv_at hl 0 rfl) ?_
          refine n_iald X hW (n := 40) (f := itm) 10 rfl (by omega) (by decide) dX7_walk_27 ?_
          refine n_if_eq hx hb rfl (by have := hitm (bat k); omega) (tgt := 128) dX7_walk_28 (by decide) (fun c_28 => ?_) (fun c_28 => ?_)
          · refine lv_iinc (v := (nI (k + 1))) (lv' := [(6, .int (nI (k + 1))), (7, .int (nI (bat k))), (0, .ref (a 0)), (1, .int (nI fr)), (2, .int (nI set)), (3, .int (nI d)), (4, .int (nI pri0)), (5, .int (nI bids))]) hx hb dX7_walk_128 hl (k := 7) rfl (nI_add _ _) (by decide) rfl (fun ls hl => ?_)
            refine lv_goto (tgt := 3) hx hb dX7_walk_131 (by decide) ?_
            have hbk : (set ||| 2 ^ k).testBit k = true := by rw [or_at, decide_eq_true rfl, Bool.or_true]
            have hlk : lmR (set ||| 2 ^ k).testBit (fun k => itm (bat k)) fl k = (lmR set.testBit (fun k => itm (bat k)) fl k) := lmR_congr (fun j hj => by rw [or_at, decide_eq_false (by omega), Bool.or_false])
            have hsk : sn (set ||| 2 ^ k).testBit (fun k => bid (bat k)) k = bids := by rw [sn_congr (q := set.testBit) (fun j hj => by rw [or_at, decide_eq_false (by omega), Bool.or_false]), hbi2]
            exact ih (k + 1) v g r2 (by omega) (by omega) (by omega) k3 k4 k5 (valW_skip hol h3 k2 (by omega) k6 (fun q => ((PS_t hol hbk).mp q).2.1 c_28)) _ _ _ hW (lv_sub hl [2, 3, 4, 5, 6, 7, 0] rfl)
          · refine lv_iload hx hb dX7_walk_31 (lv_at hl 6 rfl) ?_
            refine lv_aload_n hx hb dX7_walk_33 rfl (lv_at hl 1 rfl) ?_
            refine x_get X hW 0 rfl 14 rfl rfl iwX7 (by decide) wq_1094 rfl dX7_walk_34 ?_
            refine lv_iload hx hb dX7_walk_37 (lv_at hl 0 rfl) ?_
            refine n_iald X hW (n := 40) (f := bid) 8 rfl (by omega) (by decide) dX7_walk_39 ?_
            refine n_ishr hx hb (by have := hbid (bat k); omega) (by omega) dX7_walk_40 ?_
            refine lv_iconst (v := nI 1) hx hb dX7_walk_41 (by decide) ?_
            refine n_iand hx hb dX7_walk_42 ?_
            refine lv_iconst (v := nI 1) hx hb dX7_walk_43 (by decide) ?_
            refine n_icmp_eq hx hb rfl rfl (by have := sh1_le bids (bid (bat k)); omega) (by omega) (tgt := 128) dX7_walk_44 (by decide) (fun c_44 => ?_) (fun c_44 => ?_)
            · refine lv_iinc (v := (nI (k + 1))) (lv' := [(6, .int (nI (k + 1))), (7, .int (nI (bat k))), (0, .ref (a 0)), (1, .int (nI fr)), (2, .int (nI set)), (3, .int (nI d)), (4, .int (nI pri0)), (5, .int (nI bids))]) hx hb dX7_walk_128 hl (k := 7) rfl (nI_add _ _) (by decide) rfl (fun ls hl => ?_)
              refine lv_goto (tgt := 3) hx hb dX7_walk_131 (by decide) ?_
              have hbk : (set ||| 2 ^ k).testBit k = true := by rw [or_at, decide_eq_true rfl, Bool.or_true]
              have hlk : lmR (set ||| 2 ^ k).testBit (fun k => itm (bat k)) fl k = (lmR set.testBit (fun k => itm (bat k)) fl k) := lmR_congr (fun j hj => by rw [or_at, decide_eq_false (by omega), Bool.or_false])
              have hsk : sn (set ||| 2 ^ k).testBit (fun k => bid (bat k)) k = bids := by rw [sn_congr (q := set.testBit) (fun j hj => by rw [or_at, decide_eq_false (by omega), Bool.or_false]), hbi2]
              exact ih (k + 1) v g r2 (by omega) (by omega) (by omega) k3 k4 k5 (valW_skip hol h3 k2 (by omega) k6 (fun q => by have := ((PS_t hol hbk).mp q).2.2.1; rw [hsk] at this; rw [sh1_t c_44] at this; exact absurd this (by decide))) _ _ _ hW (lv_sub hl [2, 3, 4, 5, 6, 7, 0] rfl)
            · refine lv_aload_n hx hb dX7_walk_47 rfl (lv_at hl 1 rfl) ?_
              refine lv_iload hx hb dX7_walk_48 (lv_at hl 0 rfl) ?_
              refine lv_iload_n hx hb dX7_walk_50 rfl (lv_at hl 4 rfl) ?_
              refine go_i X hW (run_V X hW (As := [.int (nI (bat k)), .int (nI d)]) (rest := []) 10 0 rfl (c_X7_adds l G a th lo bi ru ol ob tk fib gra res buy lst bst rea bid pri itm akf akg got pai riv rf ro rs lat bat v g r2 ahe wan giv Y (bat k) d (fun i => fl (k * 3 + i)) (lmR set.testBit (fun k => itm (bat k)) fl k) hI (hbat k) (by omega) (fun i hi l hl2 => hfl k c_9 i hi l hl2) hlat k4 k5 hCMk hps.2.2 _) (gi_V wq_1253 wq_1255 wq_50 wq_67 wq_1256) rfl hyX7_adds rfl rfl rfl hl.1 (Nat.le_of_ble_eq_true rfl) (rm_room (by omega) (by decide)) ⟨Nat.le_refl 0, Nat.le_refl 0⟩ dX7_walk_51) (fun r w2 H locs hp hW => ?_)
              obtain ⟨g2, r3, rfl, b1, b2, b3, b4, rfl⟩ := hp
              refine p_if_ne hx hb (tgt := 60) dX7_walk_54 (by decide) (fun c_54 => ?_) (fun c_54 => ?_)
              · refine lv_aload_n hx hb dX7_walk_60 rfl (lv_at hl 1 rfl) ?_
                refine x_get X hW 0 rfl 27 rfl rfl iwX7 (by decide) wq_1107 rfl dX7_walk_61 ?_
                refine lv_iload_n hx hb dX7_walk_64 rfl (lv_at hl 3 rfl) ?_
                refine lv_iconst (v := nI 1) hx hb dX7_walk_65 (by decide) ?_
                refine lv_iload hx hb dX7_walk_66 (lv_at hl 7 rfl) ?_
                refine n_ishl1 hx hb (by omega) dX7_walk_68 ?_
                refine n_ior hx hb dX7_walk_69 ?_
                refine lv_iload hx hb dX7_walk_70 (lv_at hl 5 rfl) ?_
                refine lv_aload_n hx hb dX7_walk_72 rfl (lv_at hl 1 rfl) ?_
                refine x_get X hW 0 rfl 15 rfl rfl iwX7 (by decide) wq_1095 rfl dX7_walk_73 ?_
                refine lv_iload hx hb dX7_walk_76 (lv_at hl 0 rfl) ?_
                refine n_iald X hW (n := 40) (f := pri) 9 rfl (by omega) (by decide) dX7_walk_78 ?_
                refine n_iadd hx hb dX7_walk_79 ?_
                refine lv_aload_n hx hb dX7_walk_80 rfl (lv_at hl 1 rfl) ?_
                refine lv_iload_n hx hb dX7_walk_81 rfl (lv_at hl 4 rfl) ?_
                refine lv_iconst (v := nI 1) hx hb dX7_walk_82 (by decide) ?_
                refine n_iadd hx hb dX7_walk_83 ?_
                refine go_i X hW (run_V X hW (As := [.int (nI (d + 1))]) (rest := [.int (nI (pri0 + (pri (bat k)))), .int (nI (set ||| (2 ^ k))), .ref (a 21)]) 10 0 rfl (c_X7_least l G a th lo bi ru ol ob tk fib gra res buy lst bst rea bid pri itm akf akg got pai riv rf ro rs lat bat v g2 r3 ahe wan giv Y (d + 1) (by omega) b2 _) (gi_V wq_1261 wq_1263 wq_52 wq_67 wq_1264) rfl hyX7_least rfl rfl rfl hl.1 (Nat.le_of_ble_eq_true rfl) (rm_room (by omega) (by decide)) ⟨Nat.le_refl 0, Nat.le_refl 0⟩ dX7_walk_84) (fun r w2 H locs hp hW => ?_)
                obtain ⟨rfl, rfl⟩ := hp
                have hlm := lmC_CM (b4 c_54)
                rw [show 256 * (d + 1) = (256 * d) + 256 by omega, hlm]
                refine z_isub hx hb (nZ _) (nZ _) dX7_walk_87 ?_
                refine z_iast X hW (n := 256) (f := v) 21 rfl (w2 := (mW G a th lo bi ru ol ob tk fib gra res buy lst bst rea bid pri itm akf akg got pai riv rf ro rs lat bat (va_up v (set ||| (2 ^ k)) ((((pri0 + (pri (bat k))) : Nat) : Int) - (((lmC ol (fun l => res (lat l)) (addM (fun i => fl (k * 3 + i)) (itm (bat k)) (lmR set.testBit (fun k => itm (bat k)) fl k))) : Nat) : Int))) g2 r3 ahe wan giv ++ Y)) rfl (or_lt hs8 (by omega)) (by decide) dX7_walk_88 (fun H locs hW => ?_)
                refine lv_aload_n hx hb dX7_walk_89 rfl (lv_at hl 1 rfl) ?_
                refine lv_iload hx hb dX7_walk_90 (lv_at hl 7 rfl) ?_
                refine lv_iconst (v := nI 1) hx hb dX7_walk_92 (by decide) ?_
                refine n_iadd hx hb dX7_walk_93 ?_
                refine lv_iload_n hx hb dX7_walk_94 rfl (lv_at hl 3 rfl) ?_
                refine lv_iconst (v := nI 1) hx hb dX7_walk_95 (by decide) ?_
                refine lv_iload hx hb dX7_walk_96 (lv_at hl 7 rfl) ?_
                refine n_ishl1 hx hb (by omega) dX7_walk_98 ?_
                refine n_ior hx hb dX7_walk_99 ?_
                refine lv_iload_n hx hb dX7_walk_100 rfl (lv_at hl 4 rfl) ?_
                refine lv_iconst (v := nI 1) hx hb dX7_walk_101 (by decide) ?_
                refine n_iadd hx hb dX7_walk_102 ?_
                refine lv_iload hx hb dX7_walk_103 (lv_at hl 5 rfl) ?_
                refine lv_aload_n hx hb dX7_walk_105 rfl (lv_at hl 1 rfl) ?_
                refine x_get X hW 0 rfl 15 rfl rfl iwX7 (by decide) wq_1095 rfl dX7_walk_106 ?_
                refine lv_iload hx hb dX7_walk_109 (lv_at hl 0 rfl) ?_
                refine n_iald X hW (n := 40) (f := pri) 9 rfl (by omega) (by decide) dX7_walk_111 ?_
                refine n_iadd hx hb dX7_walk_112 ?_
                refine lv_iload hx hb dX7_walk_113 (lv_at hl 6 rfl) ?_
                refine lv_iconst (v := nI 1) hx hb dX7_walk_115 (by decide) ?_
                refine lv_aload_n hx hb dX7_walk_116 rfl (lv_at hl 1 rfl) ?_
                refine x_get X hW 0 rfl 14 rfl rfl iwX7 (by decide) wq_1094 rfl dX7_walk_117 ?_
                refine lv_iload hx hb dX7_walk_120 (lv_at hl 0 rfl) ?_
                refine n_iald X hW (n := 40) (f := bid) 8 rfl (by omega) (by decide) dX7_walk_122 ?_
                refine n_ishl1 hx hb (by have := hbid (bat k); omega) dX7_walk_123 ?_
                refine n_ior hx hb dX7_walk_124 ?_
                have hlk : lmR (set ||| 2 ^ k).testBit (fun k => itm (bat k)) fl k = (lmR set.testBit (fun k => itm (bat k)) fl k) := lmR_congr (fun j hj => by rw [or_at, decide_eq_false (by omega), Bool.or_false])
                have hbk : (set ||| 2 ^ k).testBit k = true := by rw [or_at, decide_eq_true rfl, Bool.or_true]
                have hsk : sn (set ||| 2 ^ k).testBit (fun k => bid (bat k)) k = bids := by rw [sn_congr (q := set.testBit) (fun j hj => by rw [or_at, decide_eq_false (by omega), Bool.or_false]), hbi2]
                have hpk2 : bsum (set ||| 2 ^ k).testBit (fun k => pri (bat k)) k = pri0 := by rw [bsum_congr (q := set.testBit) (g2 := (fun k => pri (bat k))) (fun j hj => ⟨by rw [or_at, decide_eq_false (by omega), Bool.or_false], rfl⟩), hpi2]
                have had : addI fl k (itm (bat k)) (lmR set.testBit (fun k => itm (bat k)) fl k) = (addM (fun i => fl (k * 3 + i)) (itm (bat k)) (lmR set.testBit (fun k => itm (bat k)) fl k)) := addI_addM fl k (itm (bat k)) (lmR set.testBit (fun k => itm (bat k)) fl k)
                have hps2 : PS ol (fun k => bid (bat k)) (fun k => itm (bat k)) fl (set ||| 2 ^ k) (k + 1) := (PS_t hol hbk).mpr ⟨(PS_congr (fun j hj => by rw [or_at, decide_eq_false (by omega), Bool.or_false])).mpr hps, c_28, by rw [hsk]; exact sh1_f c_44, by rw [hlk]; show canB ol (addI fl k (itm (bat k)) (lmR set.testBit (fun k => itm (bat k)) fl k)); rw [had]; exact c_54⟩
                refine go_v X hW (run_V X hW (As := [.int (nI (k + 1)), .int (nI (set ||| (2 ^ k))), .int (nI (d + 1)), .int (nI (pri0 + (pri (bat k)))), .int (nI (bids ||| (2 ^ (bid (bat k)))))]) (rest := []) 10 0 rfl (ih0 (k + 1) (set ||| 2 ^ k) (d + 1) (pri0 + (pri (bat k))) (bids ||| (2 ^ (bid (bat k)))) (va_up v (set ||| (2 ^ k)) ((((pri0 + (pri (bat k))) : Nat) : Int) - (((lmC ol (fun l => res (lat l)) (addM (fun i => fl (k * 3 + i)) (itm (bat k)) (lmR set.testBit (fun k => itm (bat k)) fl k))) : Nat) : Int))) g2 r3 (by omega) (by omega) (or_p2 (Nat.lt_of_lt_of_le h3 (Nat.pow_le_pow_right (by decide) (Nat.le_succ_of_le k2))) (by omega)) (by omega) (by rw [bsum_t hbk, hpk2]) (by rw [sn, if_pos hbk, hsk]) hps2 (by rw [lmR, if_pos hbk, hlk]; show CM g2 (256 * (d + 1)) ol _ (addI fl k (itm (bat k)) (lmR set.testBit (fun k => itm (bat k)) fl k)); rw [had, show 256 * (d + 1) = (256 * d) + 256 by omega]; exact b4 c_54) b2 b3 _) (gi_V wq_1249 wq_1251 wq_49 wq_67 wq_1252) rfl hyX7_walk rfl rfl rfl hl.1 (Nat.le_of_ble_eq_true rfl) (rm_room (by omega) (by decide)) ⟨Nat.le_refl 0, Nat.le_refl 0⟩ dX7_walk_125) (fun w2 H locs hp hW => ?_)
                obtain ⟨v3, g3, r4, e1, e2, e3, e4, rfl⟩ := hp
                refine lv_iinc (v := (nI (k + 1))) (lv' := [(6, .int (nI (k + 1))), (7, .int (nI (bat k))), (0, .ref (a 0)), (1, .int (nI fr)), (2, .int (nI set)), (3, .int (nI d)), (4, .int (nI pri0)), (5, .int (nI bids))]) hx hb dX7_walk_128 hl (k := 7) rfl (nI_add _ _) (by decide) rfl (fun ls hl => ?_)
                refine lv_goto (tgt := 3) hx hb dX7_walk_131 (by decide) ?_
                exact ih (k + 1) v3 g3 r4 (by omega) (by omega) (by omega) (fun x hx => by rw [e1 x (by omega), b1 x (by omega)]; exact k3 x hx) e2 e3 (valW_add hol h3 k2 (by omega) k6 (by rw [VS, bsum_t hbk, hpk2, lmR, if_pos hbk, hlk]; show _ = _ - ((lmC ol _ (addI fl k (itm (bat k)) (lmR set.testBit (fun k => itm (bat k)) fl k)) : Nat) : Int); rw [had]) hps2 e4) _ _ _ hW (lv_sub hl [2, 3, 4, 5, 6, 7, 0] rfl)
              · refine lv_goto (tgt := 128) hx hb dX7_walk_57 (by decide) ?_
                refine lv_iinc (v := (nI (k + 1))) (lv' := [(6, .int (nI (k + 1))), (7, .int (nI (bat k))), (0, .ref (a 0)), (1, .int (nI fr)), (2, .int (nI set)), (3, .int (nI d)), (4, .int (nI pri0)), (5, .int (nI bids))]) hx hb dX7_walk_128 hl (k := 7) rfl (nI_add _ _) (by decide) rfl (fun ls hl => ?_)
                refine lv_goto (tgt := 3) hx hb dX7_walk_131 (by decide) ?_
                have hbk : (set ||| 2 ^ k).testBit k = true := by rw [or_at, decide_eq_true rfl, Bool.or_true]
                have hlk : lmR (set ||| 2 ^ k).testBit (fun k => itm (bat k)) fl k = (lmR set.testBit (fun k => itm (bat k)) fl k) := lmR_congr (fun j hj => by rw [or_at, decide_eq_false (by omega), Bool.or_false])
                have hsk : sn (set ||| 2 ^ k).testBit (fun k => bid (bat k)) k = bids := by rw [sn_congr (q := set.testBit) (fun j hj => by rw [or_at, decide_eq_false (by omega), Bool.or_false]), hbi2]
                exact ih (k + 1) v g2 r3 (by omega) (by omega) (by omega) (fun x hx => by rw [b1 x (by omega)]; exact k3 x hx) b2 b3 (valW_skip hol h3 k2 (by omega) k6 (fun q => c_54 (by have := ((PS_t hol hbk).mp q).2.2.2; rw [hlk] at this; rw [← addI_addM]; exact this))) _ _ _ hW (lv_sub hl [2, 3, 4, 5, 6, 7, 0] rfl)
    refine lv_iload_n hx hb dX7_walk_0 rfl (lv_at hl 1 rfl) ?_
    refine lv_istore (lv' := [(6, .int (nI fr)), (0, .ref (a 0)), (1, .int (nI fr)), (2, .int (nI set)), (3, .int (nI d)), (4, .int (nI pri0)), (5, .int (nI bids))]) hx hb dX7_walk_1 hl (by decide) rfl (fun ls hl => ?_)
    exact loop (ob + 1) fr val cos row (by omega) (by omega) (by omega) (fun _ _ => rfl) h9 h10 (fun s _ => ⟨fun ⟨⟨_, _, j, q1, q2, _⟩, _⟩ => by omega, fun _ => rfl⟩) _ _ _ hW (lv_sub hl [1, 2, 3, 4, 5, 6, 0] rfl)

