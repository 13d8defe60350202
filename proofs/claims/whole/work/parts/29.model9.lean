theorem or_l {x k : Nat} (hx : x < 256) (hk : k < 8) : x ||| 2 ^ k < 256 := or_lt hx (by have : 2 ^ k < 2 ^ 8 := Nat.pow_lt_pow_right (by decide) hk; exact this)
theorem bsum_mono {p : Nat → Bool} {g : Nat → Nat} {k n : Nat} (h : k ≤ n) : bsum p g k ≤ bsum p g n := by
  induction n with
  | zero => rw [show k = 0 by omega]; exact Nat.le_refl _
  | succ n ih =>
    by_cases q : k = n + 1
    · rw [q]; exact Nat.le_refl _
    · have h1 := ih (by omega)
      rw [bsum]; omega
theorem its_map {p : Nat → Bool} {ic fl : Nat → Nat} {n t : Nat} (h : t < bsum p ic n) : qf (its p ic fl n) t = fl (qf (its p ic (fun q => q) n) t) := by
  induction n with
  | zero => exact absurd h (Nat.not_lt_zero _)
  | succ n ih =>
    by_cases q : t < bsum p ic n
    · rw [its_old q, its_old q, ih q]
    · cases hp : p n with
      | false => rw [bsum_f hp] at h; exact absurd h q
      | true =>
        rw [bsum_t hp] at h
        obtain ⟨i, hi⟩ : ∃ i, t = bsum p ic n + i := ⟨t - bsum p ic n, by omega⟩
        rw [hi, its_new hp (by omega), its_new hp (by omega)]
theorem mnl_no {it : Nat} {rs g : Nat → Nat} {t n : Nat} (h : it.testBit n = false ∨ t.testBit n = true) : mnl it rs g t (n + 1) = mnl it rs g t n := by
  rw [mnl, if_neg]
  rcases h with h | h
  · rw [h, Bool.false_and]; decide
  · rw [h, Bool.not_true, Bool.and_false]; decide
theorem mnl_yes {it : Nat} {rs g : Nat → Nat} {t n : Nat} (h1 : it.testBit n = true) (h2 : t.testBit n = false) : mnl it rs g t (n + 1) = min (mnl it rs g t n) (rs n + g (t ||| 2 ^ n)) := by
  rw [mnl, if_pos (by rw [h1, h2]; rfl)]
set_option maxRecDepth 100000 in
set_option maxHeartbeats 4000000 in
theorem c_X7_gives (l : Launch) (G : Gt) (a : Nat → Nat) (th lo bi ru ol ob : Nat) (tk : Int) (fib gra res buy lst bst rea bid pri itm akf akg got : Nat → Nat) (pai : Nat → Int) (riv rf ro rs lat bat : Nat → Nat) (val : Nat → Int) (cos row ahe wan giv : Nat → Nat) (Y : va_W) (set : Nat) (hI : MIa lo bi ru ol ob fib gra res buy lst bst rea bid pri itm akf akg got pai riv rf ro rs) (hset : set < 256) (hlat : ∀ k, lat k < 40) (hbat : ∀ k, bat k < 40) (hahe : ∀ x, ahe x ≤ 2000000) (hwan : ∀ x, wan x < 120) (hgiv : ∀ x, giv x < 40) (hmn8 : (bsum set.testBit (fun k => itm (bat k)) ob) ≤ 8) (hrc : rcv (qf (its set.testBit (fun k => itm (bat k)) (flM fib gra rf ro rs ru akf akg lat bat ol) ob)) (bsum set.testBit (fun k => itm (bat k)) ob) ol (fun l => res (lat l)) (bsum set.testBit (fun k => itm (bat k)) ob) 0 < 1000000) : Ci l G yX7_gives (ww yX7_gives cX7_gives 8 (some FieldType.int)) (RM 1 0 0) [.ref (a 0), .int (nI set)] (mW G a th lo bi ru ol ob tk fib gra res buy lst bst rea bid pri itm akf akg got pai riv rf ro rs lat bat val cos row ahe wan giv ++ Y) (fun r w2 => ∃ (h2 u2 g2 : Nat → Nat), r = nI (bsum set.testBit (fun k => itm (bat k)) ob) ∧ (∀ x, x < (bsum set.testBit (fun k => itm (bat k)) ob) → u2 x = qf (its set.testBit (fun k => itm (bat k)) (fun q => 3 * bat (q / 3) + q % 3) ob) x) ∧ (∀ x, x < (bsum set.testBit (fun k => itm (bat k)) ob) → g2 x = lat (gvl (qf (its set.testBit (fun k => itm (bat k)) (flM fib gra rf ro rs ru akf akg lat bat ol) ob)) (bsum set.testBit (fun k => itm (bat k)) ob) ol (fun l => res (lat l)) x)) ∧ (∀ x, h2 x ≤ 2000000) ∧ (∀ x, u2 x < 120) ∧ (∀ x, g2 x < 40) ∧ w2 = (mW G a th lo bi ru ol ob tk fib gra res buy lst bst rea bid pri itm akf akg got pai riv rf ro rs lat bat val cos row h2 u2 g2 ++ Y)) := by
  refine Ci.intro (by decide) (Nat.le_of_ble_eq_true rfl) ?_
  intro p e s m args below meth c A X hW ls hl
  have hx := X.exec
  have hb := X.bytes
  have hl : lv_has ls 8 [(0, .ref (a 0)), (1, .int (nI set))] := hl
  obtain ⟨hlo, hbi, hru, hol, hob, hfib, hgra, hres, hbuy, hlst, hbst, hrea, hbid, hpri, hitm, hakf, hakg, hgot, hriv, hrf, hro, hrs, hpai, hcl, hcb⟩ := id hI
  refine lv_iconst (v := nI 0) hx hb dX7_gives_0 (by decide) ?_
  refine lv_istore_n (lv' := [(2, .int (nI 0)), (0, .ref (a 0)), (1, .int (nI set))]) hx hb dX7_gives_1 rfl hl (by decide) rfl (fun ls hl => ?_)
  refine lv_iconst (v := nI 0) hx hb dX7_gives_2 (by decide) ?_
  refine lv_istore_n (lv' := [(3, .int (nI 0)), (2, .int (nI 0)), (0, .ref (a 0)), (1, .int (nI set))]) hx hb dX7_gives_3 rfl hl (by decide) rfl (fun ls hl => ?_)
  have loop : ∀ (n : Nat) (k : Nat) (u : Nat → Nat), ob + 1 ≤ k + n → k ≤ ob → (∀ t, t < (bsum set.testBit (fun k => itm (bat k)) k) → u t = qf (its set.testBit (fun k => itm (bat k)) (fun q => 3 * bat (q / 3) + q % 3) k) t) → (∀ t, u t < 120) → ∀ (H : Heap) (locs : List Loc) (ls : Array Slot), Wd G A s (mW G a th lo bi ru ol ob tk fib gra res buy lst bst rea bid pri itm akf akg got pai riv rf ro rs lat bat val cos row ahe u giv ++ Y) H locs → lv_has ls 8 [(0, .ref (a 0)), (1, .int (nI set)), (2, .int (nI (bsum set.testBit (fun k => itm (bat k)) k))), (3, .int (nI k))] → W p l e (RM 1 0 0) s m args below meth c H locs 0 0 (MQ below (Qi G A (fun r w2 => ∃ (h2 u2 g2 : Nat → Nat), r = nI (bsum set.testBit (fun k => itm (bat k)) ob) ∧ (∀ x, x < (bsum set.testBit (fun k => itm (bat k)) ob) → u2 x = qf (its set.testBit (fun k => itm (bat k)) (fun q => 3 * bat (q / 3) + q % 3) ob) x) ∧ (∀ x, x < (bsum set.testBit (fun k => itm (bat k)) ob) → g2 x = lat (gvl (qf (its set.testBit (fun k => itm (bat k)) (flM fib gra rf ro rs ru akf akg lat bat ol) ob)) (bsum set.testBit (fun k => itm (bat k)) ob) ol (fun l => res (lat l)) x)) ∧ (∀ x, h2 x ≤ 2000000) ∧ (∀ x, u2 x < 120) ∧ (∀ x, g2 x < 40) ∧ w2 = (mW G a th lo bi ru ol ob tk fib gra res buy lst bst rea bid pri itm akf akg got pai riv rf ro rs lat bat val cos row h2 u2 g2 ++ Y))) args s (RM 1 0 0).cells (RM 1 0 0).slots A) (F0 m 4 ls []) := by
    intro n
    induction n with
    | zero => intro k u h1 h2 h3 hu2; exact absurd h1 (by omega)
    | succ n ih =>
      intro k u h1 h2 h3 hu2 H locs ls hW hl
      refine lv_iload_n hx hb dX7_gives_4 rfl (lv_at hl 3 rfl) ?_
      refine lv_aload_n hx hb dX7_gives_5 rfl (lv_at hl 0 rfl) ?_
      refine x_get X hW 0 rfl 5 rfl rfl iwX7 (by decide) wq_1085 rfl dX7_gives_6 ?_
      refine n_icmp_ge hx hb rfl rfl (by omega) (by omega) (tgt := 72) dX7_gives_9 (by decide) (fun c_9 => ?_) (fun c_9 => ?_)
      · obtain ⟨mn, hmn⟩ : ∃ mn, mn = (bsum set.testBit (fun k => itm (bat k)) ob) := ⟨_, rfl⟩
        have hl : lv_has ls 8 [(0, .ref (a 0)), (1, .int (nI set)), (2, .int (nI mn)), (3, .int (nI k))] := by rw [hmn, show ob = k by omega]; exact hl
        have hmn8 : mn ≤ 8 := by rw [hmn]; exact hmn8
        have hrc2 : rcv (qf (its set.testBit (fun k => itm (bat k)) (flM fib gra rf ro rs ru akf akg lat bat ol) ob)) mn ol (fun l => res (lat l)) mn 0 < 1000000 := by rw [hmn]; exact hrc
        have hu : ∀ x, x < mn → u x = qf (its set.testBit (fun k => itm (bat k)) (fun q => 3 * bat (q / 3) + q % 3) ob) x := fun x hx => by rw [show ob = k by omega]; exact h3 x (by rw [show k = ob by omega, ← hmn]; exact hx)
        have hbit : ∀ i, i < mn → ∀ l, l < ol → ((qf (its set.testBit (fun k => itm (bat k)) (flM fib gra rf ro rs ru akf akg lat bat ol) ob)) i).testBit l = suiB fib gra rf ro rs ru akf akg (lat l) (u i) := fun i hi l hl => by
          have hi2 : i < (bsum set.testBit (fun k => itm (bat k)) ob) := by rw [← hmn]; exact hi
          rw [hu i hi, its_map hi2, its_map (fl := (fun q => 3 * bat (q / 3) + q % 3)) hi2]; unfold flM; rw [mkm_bit hl]
        refine lv_iconst (v := nI 0) hx hb dX7_gives_72 (by decide) ?_
        refine lv_istore_n (lv' := [(3, .int (nI 0)), (0, .ref (a 0)), (1, .int (nI set)), (2, .int (nI mn))]) hx hb dX7_gives_73 rfl hl (by decide) rfl (fun ls hl => ?_)
        have loop2 : ∀ (n : Nat) (m1 : Nat) (h1 : Nat → Nat), 256 + 1 ≤ m1 + n → m1 ≤ 256 → (∀ x, x < m1 → h1 (256 * mn + x) = 0) → (∀ x, h1 x ≤ 2000000) → ∀ (H : Heap) (locs : List Loc) (ls : Array Slot), Wd G A s (mW G a th lo bi ru ol ob tk fib gra res buy lst bst rea bid pri itm akf akg got pai riv rf ro rs lat bat val cos row h1 u giv ++ Y) H locs → lv_has ls 8 [(0, .ref (a 0)), (1, .int (nI set)), (2, .int (nI mn)), (3, .int (nI m1))] → W p l e (RM 1 0 0) s m args below meth c H locs 0 0 (MQ below (Qi G A (fun r w2 => ∃ (h2 u2 g2 : Nat → Nat), r = nI (bsum set.testBit (fun k => itm (bat k)) ob) ∧ (∀ x, x < (bsum set.testBit (fun k => itm (bat k)) ob) → u2 x = qf (its set.testBit (fun k => itm (bat k)) (fun q => 3 * bat (q / 3) + q % 3) ob) x) ∧ (∀ x, x < (bsum set.testBit (fun k => itm (bat k)) ob) → g2 x = lat (gvl (qf (its set.testBit (fun k => itm (bat k)) (flM fib gra rf ro rs ru akf akg lat bat ol) ob)) (bsum set.testBit (fun k => itm (bat k)) ob) ol (fun l => res (lat l)) x)) ∧ (∀ x, h2 x ≤ 2000000) ∧ (∀ x, u2 x < 120) ∧ (∀ x, g2 x < 40) ∧ w2 = (mW G a th lo bi ru ol ob tk fib gra res buy lst bst rea bid pri itm akf akg got pai riv rf ro rs lat bat val cos row h2 u2 g2 ++ Y))) args s (RM 1 0 0).cells (RM 1 0 0).slots A) (F0 m 74 ls []) := by
          intro n
          induction n with
          | zero => intro m1 h1 e1 e2 e3 e4; exact absurd e1 (by omega)
          | succ n ih =>
            intro m1 h1 e1 e2 e3 e4 H locs ls hW hl
            refine lv_iload_n hx hb dX7_gives_74 rfl (lv_at hl 3 rfl) ?_
            refine lv_sipush (v := nI 256) hx hb dX7_gives_75 (by decide) ?_
            refine n_icmp_ge hx hb rfl rfl (by omega) (by omega) (tgt := 100) dX7_gives_78 (by decide) (fun c_78 => ?_) (fun c_78 => ?_)
            · refine lv_iload_n hx hb dX7_gives_100 rfl (lv_at hl 2 rfl) ?_
              refine lv_iconst (v := nI 1) hx hb dX7_gives_101 (by decide) ?_
              refine z_isub hx hb (nZ _) (nZ _) dX7_gives_102 ?_
              refine lv_istore_n (lv' := [(3, .int (zI (((mn : Nat) : Int) - ((1 : Nat) : Int)))), (0, .ref (a 0)), (1, .int (nI set)), (2, .int (nI mn))]) hx hb dX7_gives_103 rfl hl (by decide) rfl (fun ls hl => ?_)
              have loop3 : ∀ (n : Nat) (j : Nat) (h1 : Nat → Nat), j + 1 ≤ n → j ≤ mn → (∀ t, j ≤ t → t ≤ mn → ∀ x, x < 256 → h1 (256 * t + x) = rcv (qf (its set.testBit (fun k => itm (bat k)) (flM fib gra rf ro rs ru akf akg lat bat ol) ob)) mn ol (fun l => res (lat l)) (mn - t) x) → (∀ x, h1 x ≤ 2000000) → ∀ (H : Heap) (locs : List Loc) (ls : Array Slot), Wd G A s (mW G a th lo bi ru ol ob tk fib gra res buy lst bst rea bid pri itm akf akg got pai riv rf ro rs lat bat val cos row h1 u giv ++ Y) H locs → lv_has ls 8 [(0, .ref (a 0)), (1, .int (nI set)), (2, .int (nI mn)), (3, .int (zI (((j : Nat) : Int) + (-1))))] → W p l e (RM 1 0 0) s m args below meth c H locs 0 0 (MQ below (Qi G A (fun r w2 => ∃ (h2 u2 g2 : Nat → Nat), r = nI (bsum set.testBit (fun k => itm (bat k)) ob) ∧ (∀ x, x < (bsum set.testBit (fun k => itm (bat k)) ob) → u2 x = qf (its set.testBit (fun k => itm (bat k)) (fun q => 3 * bat (q / 3) + q % 3) ob) x) ∧ (∀ x, x < (bsum set.testBit (fun k => itm (bat k)) ob) → g2 x = lat (gvl (qf (its set.testBit (fun k => itm (bat k)) (flM fib gra rf ro rs ru akf akg lat bat ol) ob)) (bsum set.testBit (fun k => itm (bat k)) ob) ol (fun l => res (lat l)) x)) ∧ (∀ x, h2 x ≤ 2000000) ∧ (∀ x, u2 x < 120) ∧ (∀ x, g2 x < 40) ∧ w2 = (mW G a th lo bi ru ol ob tk fib gra res buy lst bst rea bid pri itm akf akg got pai riv rf ro rs lat bat val cos row h2 u2 g2 ++ Y))) args s (RM 1 0 0).cells (RM 1 0 0).slots A) (F0 m 104 ls []) := by
                intro n
                induction n with
                | zero => intro j h1 f1 f2 f3 hh; exact absurd f1 (by omega)
                | succ n ih =>
                  intro j h1 f1 f2 f3 hh H locs ls hW hl
                  refine lv_iload_n hx hb dX7_gives_104 rfl (lv_at hl 3 rfl) ?_
                  refine z_if_lt hx hb rfl (by omega) (tgt := 248) dX7_gives_105 (by decide) (fun c_105 => ?_) (fun c_105 => ?_)
                  · refine lv_iconst (v := nI 0) hx hb dX7_gives_248 (by decide) ?_
                    refine lv_istore_n (lv' := [(3, .int (nI 0)), (0, .ref (a 0)), (1, .int (nI set)), (2, .int (nI mn))]) hx hb dX7_gives_249 rfl hl (by decide) rfl (fun ls hl => ?_)
                    refine lv_iconst (v := nI 0) hx hb dX7_gives_250 (by decide) ?_
                    refine lv_istore (lv' := [(4, .int (nI 0)), (3, .int (nI 0)), (0, .ref (a 0)), (1, .int (nI set)), (2, .int (nI mn))]) hx hb dX7_gives_251 hl (by decide) rfl (fun ls hl => ?_)
                    have hr : (∀ t, t ≤ mn → ∀ x, x < 256 → h1 (256 * t + x) = rcv (qf (its set.testBit (fun k => itm (bat k)) (flM fib gra rf ro rs ru akf akg lat bat ol) ob)) mn ol (fun l => res (lat l)) (mn - t) x) := fun t ht x hx => f3 t (by omega) ht x hx
                    have loop4 : ∀ (n : Nat) (i : Nat) (g : Nat → Nat), mn + 1 ≤ i + n → i ≤ mn → (∀ x, x < i → g x = lat (gvl (qf (its set.testBit (fun k => itm (bat k)) (flM fib gra rf ro rs ru akf akg lat bat ol) ob)) mn ol (fun l => res (lat l)) x)) → (∀ x, g x < 40) → ∀ (H : Heap) (locs : List Loc) (ls : Array Slot), Wd G A s (mW G a th lo bi ru ol ob tk fib gra res buy lst bst rea bid pri itm akf akg got pai riv rf ro rs lat bat val cos row h1 u g ++ Y) H locs → lv_has ls 8 [(0, .ref (a 0)), (1, .int (nI set)), (2, .int (nI mn)), (3, .int (nI (gvt (qf (its set.testBit (fun k => itm (bat k)) (flM fib gra rf ro rs ru akf akg lat bat ol) ob)) mn ol (fun l => res (lat l)) i))), (4, .int (nI i))] → W p l e (RM 1 0 0) s m args below meth c H locs 0 0 (MQ below (Qi G A (fun r w2 => ∃ (h2 u2 g2 : Nat → Nat), r = nI (bsum set.testBit (fun k => itm (bat k)) ob) ∧ (∀ x, x < (bsum set.testBit (fun k => itm (bat k)) ob) → u2 x = qf (its set.testBit (fun k => itm (bat k)) (fun q => 3 * bat (q / 3) + q % 3) ob) x) ∧ (∀ x, x < (bsum set.testBit (fun k => itm (bat k)) ob) → g2 x = lat (gvl (qf (its set.testBit (fun k => itm (bat k)) (flM fib gra rf ro rs ru akf akg lat bat ol) ob)) (bsum set.testBit (fun k => itm (bat k)) ob) ol (fun l => res (lat l)) x)) ∧ (∀ x, h2 x ≤ 2000000) ∧ (∀ x, u2 x < 120) ∧ (∀ x, g2 x < 40) ∧ w2 = (mW G a th lo bi ru ol ob tk fib gra res buy lst bst rea bid pri itm akf akg got pai riv rf ro rs lat bat val cos row h2 u2 g2 ++ Y))) args s (RM 1 0 0).cells (RM 1 0 0).slots A) (F0 m 253 ls []) := by
                      intro n
                      induction n with
                      | zero => intro i g g0 g1 g2 g3; exact absurd g0 (by omega)
                      | succ n ih =>
                        intro i g g0 g1 g2 g3 H locs ls hW hl
                        have hgt := fun (h : i ≤ mn) => (gv_ok (lc := ol) (rs := (fun l => res (lat l))) (qu := (qf (its set.testBit (fun k => itm (bat k)) (flM fib gra rf ro rs ru akf akg lat bat ol) ob))) (ql := mn) hol hrc2 i h).1
                        have hgt2 := Nat.lt_of_lt_of_le (hgt g1) (p2_256 hol)
                        refine lv_iload hx hb dX7_gives_253 (lv_at hl 4 rfl) ?_
                        refine lv_iload_n hx hb dX7_gives_255 rfl (lv_at hl 2 rfl) ?_
                        refine n_icmp_ge hx hb rfl rfl (by omega) (by omega) (tgt := 375) dX7_gives_256 (by decide) (fun c_256 => ?_) (fun c_256 => ?_)
                        · refine lv_iload_n hx hb dX7_gives_375 rfl (lv_at hl 2 rfl) ?_
                          exact ret_i X hW (v := (nI mn)) (⟨h1, u, g, by rw [hmn], by rw [← hmn]; exact hu, by rw [← hmn]; intro x hx; exact g2 x (by omega), hh, hu2, g3, rfl⟩) rfl (by decide) (by decide) dX7_gives_376
                        · refine lv_iconst (v := nI 0) hx hb dX7_gives_259 (by decide) ?_
                          refine lv_istore (lv' := [(5, .int (nI 0)), (0, .ref (a 0)), (1, .int (nI set)), (2, .int (nI mn)), (3, .int (nI (gvt (qf (its set.testBit (fun k => itm (bat k)) (flM fib gra rf ro rs ru akf akg lat bat ol) ob)) mn ol (fun l => res (lat l)) i))), (4, .int (nI i))]) hx hb dX7_gives_260 hl (by decide) rfl (fun ls hl => ?_)
                          obtain ⟨a1, a2, a3⟩ := gv_ok hol hrc2 i (by omega)
                          obtain ⟨b1, b2⟩ := gv_step (lc := ol) (rs := (fun l => res (lat l))) (qu := (qf (its set.testBit (fun k => itm (bat k)) (flM fib gra rf ro rs ru akf akg lat bat ol) ob))) (i := i) (ql := mn) (by omega) a3
                          have loop4b : ∀ (n : Nat) (l1 : Nat), ol + 1 ≤ l1 + n → (∀ j, j < l1 → gvP (qf (its set.testBit (fun k => itm (bat k)) (flM fib gra rf ro rs ru akf akg lat bat ol) ob)) mn ol (fun l => res (lat l)) i (gvt (qf (its set.testBit (fun k => itm (bat k)) (flM fib gra rf ro rs ru akf akg lat bat ol) ob)) mn ol (fun l => res (lat l)) i) j = false) → ∀ (H : Heap) (locs : List Loc) (ls : Array Slot), Wd G A s (mW G a th lo bi ru ol ob tk fib gra res buy lst bst rea bid pri itm akf akg got pai riv rf ro rs lat bat val cos row h1 u g ++ Y) H locs → lv_has ls 8 [(0, .ref (a 0)), (1, .int (nI set)), (2, .int (nI mn)), (3, .int (nI (gvt (qf (its set.testBit (fun k => itm (bat k)) (flM fib gra rf ro rs ru akf akg lat bat ol) ob)) mn ol (fun l => res (lat l)) i))), (4, .int (nI i)), (5, .int (nI l1))] → W p l e (RM 1 0 0) s m args below meth c H locs 0 0 (MQ below (Qi G A (fun r w2 => ∃ (h2 u2 g2 : Nat → Nat), r = nI (bsum set.testBit (fun k => itm (bat k)) ob) ∧ (∀ x, x < (bsum set.testBit (fun k => itm (bat k)) ob) → u2 x = qf (its set.testBit (fun k => itm (bat k)) (fun q => 3 * bat (q / 3) + q % 3) ob) x) ∧ (∀ x, x < (bsum set.testBit (fun k => itm (bat k)) ob) → g2 x = lat (gvl (qf (its set.testBit (fun k => itm (bat k)) (flM fib gra rf ro rs ru akf akg lat bat ol) ob)) (bsum set.testBit (fun k => itm (bat k)) ob) ol (fun l => res (lat l)) x)) ∧ (∀ x, h2 x ≤ 2000000) ∧ (∀ x, u2 x < 120) ∧ (∀ x, g2 x < 40) ∧ w2 = (mW G a th lo bi ru ol ob tk fib gra res buy lst bst rea bid pri itm akf akg got pai riv rf ro rs lat bat val cos row h2 u2 g2 ++ Y))) args s (RM 1 0 0).cells (RM 1 0 0).slots A) (F0 m 262 ls []) := by
                            intro n
                            induction n with
                            | zero => intro l1 k1 k2; exact absurd (k2 _ (Nat.lt_of_lt_of_le b1 (by omega))) (by rw [b2]; decide)
                            | succ n ih2 =>
                              intro l1 k1 k2 H locs ls hW hl
                              have hl1 : l1 < ol := Nat.lt_of_not_le (fun q => by rw [k2 _ (Nat.lt_of_lt_of_le b1 q)] at b2; exact absurd b2 (by decide))
                              refine lv_iload_n hx hb dX7_gives_262 rfl (lv_at hl 3 rfl) ?_
                              refine lv_iload hx hb dX7_gives_263 (lv_at hl 5 rfl) ?_
                              refine n_ishr hx hb (by omega) (by omega) dX7_gives_265 ?_
                              refine lv_iconst (v := nI 1) hx hb dX7_gives_266 (by decide) ?_
                              refine n_iand hx hb dX7_gives_267 ?_
                              refine lv_iconst (v := nI 1) hx hb dX7_gives_268 (by decide) ?_
                              refine n_icmp_eq hx hb rfl rfl (by have := sh1_le (gvt (qf (its set.testBit (fun k => itm (bat k)) (flM fib gra rf ro rs ru akf akg lat bat ol) ob)) mn ol (fun l => res (lat l)) i) l1; omega) (by omega) (tgt := 342) dX7_gives_269 (by decide) (fun c_269 => ?_) (fun c_269 => ?_)
                              · refine lv_iinc (v := (nI (l1 + 1))) (lv' := [(5, .int (nI (l1 + 1))), (0, .ref (a 0)), (1, .int (nI set)), (2, .int (nI mn)), (3, .int (nI (gvt (qf (its set.testBit (fun k => itm (bat k)) (flM fib gra rf ro rs ru akf akg lat bat ol) ob)) mn ol (fun l => res (lat l)) i))), (4, .int (nI i))]) hx hb dX7_gives_342 hl (k := 5) rfl (nI_add _ _) (by decide) rfl (fun ls hl => ?_)
                                refine lv_goto (tgt := 262) hx hb dX7_gives_345 (by decide) ?_
                                exact ih2 (l1 + 1) (by omega) (fun j hj => by rcases Nat.lt_or_ge j l1 with q | q; exact k2 j q; rw [show j = l1 by omega]; rw [gvP, sh1_t c_269]; simp) _ _ _ hW (lv_sub hl [1, 2, 3, 4, 5, 0] rfl)
                              · refine lv_aload_n hx hb dX7_gives_272 rfl (lv_at hl 0 rfl) ?_
                                refine lv_aload_n hx hb dX7_gives_273 rfl (lv_at hl 0 rfl) ?_
                                refine x_get X hW 0 rfl 25 rfl rfl iwX7 (by decide) wq_1105 rfl dX7_gives_274 ?_
                                refine lv_iload hx hb dX7_gives_277 (lv_at hl 5 rfl) ?_
                                refine n_iald X hW (n := 8) (f := lat) 19 rfl (by omega) (by decide) dX7_gives_279 ?_
                                refine lv_aload_n hx hb dX7_gives_280 rfl (lv_at hl 0 rfl) ?_
                                refine x_get X hW 0 rfl 31 rfl rfl iwX7 (by decide) wq_1111 rfl dX7_gives_281 ?_
                                refine lv_iload hx hb dX7_gives_284 (lv_at hl 4 rfl) ?_
                                refine n_iald X hW (n := 8) (f := u) 25 rfl (by omega) (by decide) dX7_gives_286 ?_
                                refine go_i X hW (run_V X hW (As := [.int (nI (lat l1)), .int (nI (u i))]) (rest := []) 10 0 rfl (c_X7_suits l G a th lo bi ru ol ob tk fib gra res buy lst bst rea bid pri itm akf akg got pai riv rf ro rs lat bat val cos row h1 u g Y (lat l1) (u i) hI (hlat _) (hu2 _) _) (gi_V wq_1257 wq_1259 wq_51 wq_67 wq_1260) rfl hyX7_suits rfl rfl rfl hl.1 (Nat.le_of_ble_eq_true rfl) ⟨Nat.le_of_ble_eq_true rfl, Nat.le_of_ble_eq_true rfl⟩ ⟨by decide, by decide⟩ dX7_gives_287) (fun r w2 H locs hp hW => ?_)
                                obtain ⟨rfl, rfl⟩ := hp
                                refine p_if_eq hx hb (tgt := 342) dX7_gives_290 (by decide) (fun c_290 => ?_) (fun c_290 => ?_)
                                · refine lv_iinc (v := (nI (l1 + 1))) (lv' := [(5, .int (nI (l1 + 1))), (0, .ref (a 0)), (1, .int (nI set)), (2, .int (nI mn)), (3, .int (nI (gvt (qf (its set.testBit (fun k => itm (bat k)) (flM fib gra rf ro rs ru akf akg lat bat ol) ob)) mn ol (fun l => res (lat l)) i))), (4, .int (nI i))]) hx hb dX7_gives_342 hl (k := 5) rfl (nI_add _ _) (by decide) rfl (fun ls hl => ?_)
                                  refine lv_goto (tgt := 262) hx hb dX7_gives_345 (by decide) ?_
                                  exact ih2 (l1 + 1) (by omega) (fun j hj => by rcases Nat.lt_or_ge j l1 with q | q; exact k2 j q; rw [show j = l1 by omega]; rw [gvP, hbit i (by omega) l1 (by omega), Bool.eq_false_iff.mpr c_290]; rfl) _ _ _ hW (lv_sub hl [1, 2, 3, 4, 5, 0] rfl)
                                · refine lv_aload_n hx hb dX7_gives_293 rfl (lv_at hl 0 rfl) ?_
                                  refine x_get X hW 0 rfl 9 rfl rfl iwX7 (by decide) wq_1089 rfl dX7_gives_294 ?_
                                  refine lv_aload_n hx hb dX7_gives_297 rfl (lv_at hl 0 rfl) ?_
                                  refine x_get X hW 0 rfl 25 rfl rfl iwX7 (by decide) wq_1105 rfl dX7_gives_298 ?_
                                  refine lv_iload hx hb dX7_gives_301 (lv_at hl 5 rfl) ?_
                                  refine n_iald X hW (n := 8) (f := lat) 19 rfl (by omega) (by decide) dX7_gives_303 ?_
                                  refine n_iald X hW (n := 40) (f := res) 3 rfl (hlat l1) (by decide) dX7_gives_304 ?_
                                  refine lv_aload_n hx hb dX7_gives_305 rfl (lv_at hl 0 rfl) ?_
                                  refine x_get X hW 0 rfl 30 rfl rfl iwX7 (by decide) wq_1110 rfl dX7_gives_306 ?_
                                  refine lv_sipush (v := nI 256) hx hb dX7_gives_309 (by decide) ?_
                                  refine lv_iload hx hb dX7_gives_312 (lv_at hl 4 rfl) ?_
                                  refine lv_iconst (v := nI 1) hx hb dX7_gives_314 (by decide) ?_
                                  refine n_iadd hx hb dX7_gives_315 ?_
                                  refine n_imul hx hb dX7_gives_316 ?_
                                  refine lv_iload_n hx hb dX7_gives_317 rfl (lv_at hl 3 rfl) ?_
                                  refine lv_iconst (v := nI 1) hx hb dX7_gives_318 (by decide) ?_
                                  have hm1 := or_l (x := (gvt (qf (its set.testBit (fun k => itm (bat k)) (flM fib gra rf ro rs ru akf akg lat bat ol) ob)) mn ol (fun l => res (lat l)) i)) (k := l1) (by omega) (by omega)
                                  refine lv_iload hx hb dX7_gives_319 (lv_at hl 5 rfl) ?_
                                  refine n_ishl1 hx hb (by omega) dX7_gives_321 ?_
                                  refine n_ior hx hb dX7_gives_322 ?_
                                  refine n_iadd hx hb dX7_gives_323 ?_
                                  refine n_iald X hW (n := 2304) (f := h1) 24 rfl (by omega) (by decide) dX7_gives_324 ?_
                                  refine n_iadd hx hb dX7_gives_325 ?_
                                  refine lv_aload_n hx hb dX7_gives_326 rfl (lv_at hl 0 rfl) ?_
                                  refine x_get X hW 0 rfl 30 rfl rfl iwX7 (by decide) wq_1110 rfl dX7_gives_327 ?_
                                  refine lv_sipush (v := nI 256) hx hb dX7_gives_330 (by decide) ?_
                                  refine lv_iload hx hb dX7_gives_333 (lv_at hl 4 rfl) ?_
                                  refine n_imul hx hb dX7_gives_335 ?_
                                  refine lv_iload_n hx hb dX7_gives_336 rfl (lv_at hl 3 rfl) ?_
                                  refine n_iadd hx hb dX7_gives_337 ?_
                                  refine n_iald X hW (n := 2304) (f := h1) 24 rfl (by omega) (by decide) dX7_gives_338 ?_
                                  refine n_icmp_eq hx hb rfl rfl (by have := hres (lat l1); have := hh (256 * (i + 1) + ((gvt (qf (its set.testBit (fun k => itm (bat k)) (flM fib gra rf ro rs ru akf akg lat bat ol) ob)) mn ol (fun l => res (lat l)) i) ||| 2 ^ l1)); omega) (by have := hh (256 * i + (gvt (qf (its set.testBit (fun k => itm (bat k)) (flM fib gra rf ro rs ru akf akg lat bat ol) ob)) mn ol (fun l => res (lat l)) i)); omega) (tgt := 348) dX7_gives_339 (by decide) (fun c_339 => ?_) (fun c_339 => ?_)
                                  · have hgl : gvl (qf (its set.testBit (fun k => itm (bat k)) (flM fib gra rf ro rs ru akf akg lat bat ol) ob)) mn ol (fun l => res (lat l)) i = l1 := fst1_at hl1 k2 (by rw [gvP, hbit i (by omega) l1 (by omega), c_290, sh1_f c_269, decide_eq_true]; rfl; show res (lat l1) + _ = _; rw [← hr (i + 1) (by omega) _ (or_l (by omega) (by omega)), ← hr i (by omega) _ (by omega)]; exact c_339)
                                    refine lv_aload_n hx hb dX7_gives_348 rfl (lv_at hl 0 rfl) ?_
                                    refine x_get X hW 0 rfl 32 rfl rfl iwX7 (by decide) wq_1112 rfl dX7_gives_349 ?_
                                    refine lv_iload hx hb dX7_gives_352 (lv_at hl 4 rfl) ?_
                                    refine lv_aload_n hx hb dX7_gives_354 rfl (lv_at hl 0 rfl) ?_
                                    refine x_get X hW 0 rfl 25 rfl rfl iwX7 (by decide) wq_1105 rfl dX7_gives_355 ?_
                                    refine lv_iload hx hb dX7_gives_358 (lv_at hl 5 rfl) ?_
                                    refine n_iald X hW (n := 8) (f := lat) 19 rfl (by omega) (by decide) dX7_gives_360 ?_
                                    refine n_iast X hW (n := 8) (f := g) 26 rfl (w2 := (mW G a th lo bi ru ol ob tk fib gra res buy lst bst rea bid pri itm akf akg got pai riv rf ro rs lat bat val cos row h1 u (va_up g i (lat l1)) ++ Y)) rfl (by omega) (by decide) dX7_gives_361 (fun H locs hW => ?_)
                                    refine lv_iload_n hx hb dX7_gives_362 rfl (lv_at hl 3 rfl) ?_
                                    refine lv_iconst (v := nI 1) hx hb dX7_gives_363 (by decide) ?_
                                    refine lv_iload hx hb dX7_gives_364 (lv_at hl 5 rfl) ?_
                                    refine n_ishl1 hx hb (by omega) dX7_gives_366 ?_
                                    refine n_ior hx hb dX7_gives_367 ?_
                                    refine lv_istore_n (lv' := [(3, .int (nI ((gvt (qf (its set.testBit (fun k => itm (bat k)) (flM fib gra rf ro rs ru akf akg lat bat ol) ob)) mn ol (fun l => res (lat l)) i) ||| (2 ^ l1)))), (0, .ref (a 0)), (1, .int (nI set)), (2, .int (nI mn)), (4, .int (nI i)), (5, .int (nI l1))]) hx hb dX7_gives_368 rfl hl (by decide) rfl (fun ls hl => ?_)
                                    refine lv_iinc (v := (nI (i + 1))) (lv' := [(4, .int (nI (i + 1))), (3, .int (nI ((gvt (qf (its set.testBit (fun k => itm (bat k)) (flM fib gra rf ro rs ru akf akg lat bat ol) ob)) mn ol (fun l => res (lat l)) i) ||| (2 ^ l1)))), (0, .ref (a 0)), (1, .int (nI set)), (2, .int (nI mn)), (5, .int (nI l1))]) hx hb dX7_gives_369 hl (k := 4) rfl (nI_add _ _) (by decide) rfl (fun ls hl => ?_)
                                    refine lv_goto (tgt := 253) hx hb dX7_gives_372 (by decide) ?_
                                    exact ih (i + 1) _ (by omega) (by omega) (fun x hx => by unfold va_up; split; rename_i q; rw [q, hgl]; exact g2 x (by omega)) (fun x => by unfold va_up; split; exact hlat _; exact g3 x) _ _ _ hW (by rw [show (gvt (qf (its set.testBit (fun k => itm (bat k)) (flM fib gra rf ro rs ru akf akg lat bat ol) ob)) mn ol (fun l => res (lat l)) (i + 1)) = ((gvt (qf (its set.testBit (fun k => itm (bat k)) (flM fib gra rf ro rs ru akf akg lat bat ol) ob)) mn ol (fun l => res (lat l)) i) ||| (2 ^ l1)) from by rw [gvt]; unfold gvl at hgl; rw [hgl]]; exact lv_sub hl [2, 3, 4, 1, 0] rfl)
                                  · refine lv_iinc (v := (nI (l1 + 1))) (lv' := [(5, .int (nI (l1 + 1))), (0, .ref (a 0)), (1, .int (nI set)), (2, .int (nI mn)), (3, .int (nI (gvt (qf (its set.testBit (fun k => itm (bat k)) (flM fib gra rf ro rs ru akf akg lat bat ol) ob)) mn ol (fun l => res (lat l)) i))), (4, .int (nI i))]) hx hb dX7_gives_342 hl (k := 5) rfl (nI_add _ _) (by decide) rfl (fun ls hl => ?_)
                                    refine lv_goto (tgt := 262) hx hb dX7_gives_345 (by decide) ?_
                                    exact ih2 (l1 + 1) (by omega) (fun j hj => by rcases Nat.lt_or_ge j l1 with q | q; exact k2 j q; rw [show j = l1 by omega]; rw [gvP]; rw [decide_eq_false, Bool.and_false]; show ¬ (res (lat l1) + _ = _); rw [← hr (i + 1) (by omega) _ (or_l (by omega) (by omega)), ← hr i (by omega) _ (by omega)]; exact c_339) _ _ _ hW (lv_sub hl [1, 2, 3, 4, 5, 0] rfl)
                          exact loop4b (ol + 1) 0 (by omega) (fun j hj => absurd hj (Nat.not_lt_zero j)) _ _ _ hW (lv_sub hl [1, 2, 3, 4, 5, 0] rfl)
                    exact loop4 (mn + 1) 0 giv (by omega) (by omega) (fun x hx => absurd hx (Nat.not_lt_zero x)) hgiv _ _ _ hW (lv_sub hl [2, 3, 4, 1, 0] rfl)
                  · obtain ⟨i, hji⟩ : ∃ i, j = i + 1 := ⟨j - 1, by omega⟩
                    have hl : lv_has ls 8 [(0, .ref (a 0)), (1, .int (nI set)), (2, .int (nI mn)), (3, .int (nI i))] := by rw [show nI i = zI (((j : Nat) : Int) + (-1)) by rw [nZ]; congr 1; omega]; exact hl
                    refine lv_iconst (v := nI 0) hx hb dX7_gives_108 (by decide) ?_
                    refine lv_istore (lv' := [(4, .int (nI 0)), (0, .ref (a 0)), (1, .int (nI set)), (2, .int (nI mn)), (3, .int (nI i))]) hx hb dX7_gives_109 hl (by decide) rfl (fun ls hl => ?_)
                    have loop3b : ∀ (n : Nat) (m1 : Nat) (h2 : Nat → Nat), 256 + 1 ≤ m1 + n → m1 ≤ 256 → (∀ t, i + 1 ≤ t → t ≤ mn → ∀ x, x < 256 → h2 (256 * t + x) = rcv (qf (its set.testBit (fun k => itm (bat k)) (flM fib gra rf ro rs ru akf akg lat bat ol) ob)) mn ol (fun l => res (lat l)) (mn - t) x) → (∀ x, x < m1 → h2 (256 * i + x) = rcv (qf (its set.testBit (fun k => itm (bat k)) (flM fib gra rf ro rs ru akf akg lat bat ol) ob)) mn ol (fun l => res (lat l)) (mn - i) x) → (∀ x, h2 x ≤ 2000000) → ∀ (H : Heap) (locs : List Loc) (ls : Array Slot), Wd G A s (mW G a th lo bi ru ol ob tk fib gra res buy lst bst rea bid pri itm akf akg got pai riv rf ro rs lat bat val cos row h2 u giv ++ Y) H locs → lv_has ls 8 [(0, .ref (a 0)), (1, .int (nI set)), (2, .int (nI mn)), (3, .int (nI i)), (4, .int (nI m1))] → W p l e (RM 1 0 0) s m args below meth c H locs 0 0 (MQ below (Qi G A (fun r w2 => ∃ (h2 u2 g2 : Nat → Nat), r = nI (bsum set.testBit (fun k => itm (bat k)) ob) ∧ (∀ x, x < (bsum set.testBit (fun k => itm (bat k)) ob) → u2 x = qf (its set.testBit (fun k => itm (bat k)) (fun q => 3 * bat (q / 3) + q % 3) ob) x) ∧ (∀ x, x < (bsum set.testBit (fun k => itm (bat k)) ob) → g2 x = lat (gvl (qf (its set.testBit (fun k => itm (bat k)) (flM fib gra rf ro rs ru akf akg lat bat ol) ob)) (bsum set.testBit (fun k => itm (bat k)) ob) ol (fun l => res (lat l)) x)) ∧ (∀ x, h2 x ≤ 2000000) ∧ (∀ x, u2 x < 120) ∧ (∀ x, g2 x < 40) ∧ w2 = (mW G a th lo bi ru ol ob tk fib gra res buy lst bst rea bid pri itm akf akg got pai riv rf ro rs lat bat val cos row h2 u2 g2 ++ Y))) args s (RM 1 0 0).cells (RM 1 0 0).slots A) (F0 m 111 ls []) := by
                      intro n
                      induction n with
                      | zero => intro m1 h2 d1 d2 d3 d4 hh2; exact absurd d1 (by omega)
                      | succ n ih2 =>
                        intro m1 h2 d1 d2 d3 d4 hh2 H locs ls hW hl
                        refine lv_iload hx hb dX7_gives_111 (lv_at hl 4 rfl) ?_
                        refine lv_sipush (v := nI 256) hx hb dX7_gives_113 (by decide) ?_
                        refine n_icmp_ge hx hb rfl rfl (by omega) (by omega) (tgt := 242) dX7_gives_116 (by decide) (fun c_116 => ?_) (fun c_116 => ?_)
                        · refine lv_iinc (v := (zI (((i : Nat) : Int) + (-1)))) (lv' := [(3, .int (zI (((i : Nat) : Int) + (-1)))), (0, .ref (a 0)), (1, .int (nI set)), (2, .int (nI mn)), (4, .int (nI m1))]) hx hb dX7_gives_242 hl (k := 3) rfl ((by rw [nZ]; exact zI_add _ _)) (by decide) rfl (fun ls hl => ?_)
                          refine lv_goto (tgt := 104) hx hb dX7_gives_245 (by decide) ?_
                          exact ih i h2 (by omega) (by omega) (fun t ht1 ht2 x hx => by rcases Nat.lt_or_ge i t with q | q; exact d3 t (by omega) ht2 x hx; rw [show t = i by omega]; exact d4 x (by omega)) hh2 _ _ _ hW (lv_sub hl [1, 2, 3, 0] rfl)
                        · refine lv_ldc (v := (nI 1000000)) hx hb X.own (X.ws _ wq_1248) dX7_gives_119 ?_
                          refine lv_istore (lv' := [(5, .int (nI 1000000)), (0, .ref (a 0)), (1, .int (nI set)), (2, .int (nI mn)), (3, .int (nI i)), (4, .int (nI m1))]) hx hb dX7_gives_121 hl (by decide) rfl (fun ls hl => ?_)
                          refine lv_iconst (v := nI 0) hx hb dX7_gives_123 (by decide) ?_
                          refine lv_istore (lv' := [(6, .int (nI 0)), (5, .int (nI 1000000)), (0, .ref (a 0)), (1, .int (nI set)), (2, .int (nI mn)), (3, .int (nI i)), (4, .int (nI m1))]) hx hb dX7_gives_124 hl (by decide) rfl (fun ls hl => ?_)
                          have loop3c : ∀ (n : Nat) (l1 : Nat), ol + 1 ≤ l1 + n → l1 ≤ ol → ∀ (H : Heap) (locs : List Loc) (ls : Array Slot), Wd G A s (mW G a th lo bi ru ol ob tk fib gra res buy lst bst rea bid pri itm akf akg got pai riv rf ro rs lat bat val cos row h2 u giv ++ Y) H locs → lv_has ls 8 [(0, .ref (a 0)), (1, .int (nI set)), (2, .int (nI mn)), (3, .int (nI i)), (4, .int (nI m1)), (5, .int (nI (mnl ((qf (its set.testBit (fun k => itm (bat k)) (flM fib gra rf ro rs ru akf akg lat bat ol) ob)) i) (fun l => res (lat l)) (fun x => h2 (256 * (i + 1) + x)) m1 l1))), (6, .int (nI l1))] → W p l e (RM 1 0 0) s m args below meth c H locs 0 0 (MQ below (Qi G A (fun r w2 => ∃ (h2 u2 g2 : Nat → Nat), r = nI (bsum set.testBit (fun k => itm (bat k)) ob) ∧ (∀ x, x < (bsum set.testBit (fun k => itm (bat k)) ob) → u2 x = qf (its set.testBit (fun k => itm (bat k)) (fun q => 3 * bat (q / 3) + q % 3) ob) x) ∧ (∀ x, x < (bsum set.testBit (fun k => itm (bat k)) ob) → g2 x = lat (gvl (qf (its set.testBit (fun k => itm (bat k)) (flM fib gra rf ro rs ru akf akg lat bat ol) ob)) (bsum set.testBit (fun k => itm (bat k)) ob) ol (fun l => res (lat l)) x)) ∧ (∀ x, h2 x ≤ 2000000) ∧ (∀ x, u2 x < 120) ∧ (∀ x, g2 x < 40) ∧ w2 = (mW G a th lo bi ru ol ob tk fib gra res buy lst bst rea bid pri itm akf akg got pai riv rf ro rs lat bat val cos row h2 u2 g2 ++ Y))) args s (RM 1 0 0).cells (RM 1 0 0).slots A) (F0 m 126 ls []) := by
                            intro n
                            induction n with
                            | zero => intro l1 c1 c2; exact absurd c1 (by omega)
                            | succ n ih3 =>
                              intro l1 c1 c2 H locs ls hW hl
                              refine lv_iload hx hb dX7_gives_126 (lv_at hl 6 rfl) ?_
                              refine lv_aload_n hx hb dX7_gives_128 rfl (lv_at hl 0 rfl) ?_
                              refine x_get X hW 0 rfl 4 rfl rfl iwX7 (by decide) wq_1084 rfl dX7_gives_129 ?_
                              refine n_icmp_ge hx hb rfl rfl (by omega) (by omega) (tgt := 221) dX7_gives_132 (by decide) (fun c_132 => ?_) (fun c_132 => ?_)
                              · have hnew : (mnl ((qf (its set.testBit (fun k => itm (bat k)) (flM fib gra rf ro rs ru akf akg lat bat ol) ob)) i) (fun l => res (lat l)) (fun x => h2 (256 * (i + 1) + x)) m1 l1) = rcv (qf (its set.testBit (fun k => itm (bat k)) (flM fib gra rf ro rs ru akf akg lat bat ol) ob)) mn ol (fun l => res (lat l)) (mn - i) m1 := by
                                  rw [show l1 = ol by omega, show mn - i = (mn - (i + 1)) + 1 by omega]
                                  show _ = mnl ((qf (its set.testBit (fun k => itm (bat k)) (flM fib gra rf ro rs ru akf akg lat bat ol) ob)) (mn - ((mn - (i + 1)) + 1))) (fun l => res (lat l)) (rcv (qf (its set.testBit (fun k => itm (bat k)) (flM fib gra rf ro rs ru akf akg lat bat ol) ob)) mn ol (fun l => res (lat l)) (mn - (i + 1))) m1 ol
                                  rw [show mn - ((mn - (i + 1)) + 1) = i by omega]
                                  exact mnl_congr (fun l hl _ _ => d3 (i + 1) (by omega) (by omega) _ (or_l (by omega) (by omega)))
                                refine lv_aload_n hx hb dX7_gives_221 rfl (lv_at hl 0 rfl) ?_
                                refine x_get X hW 0 rfl 30 rfl rfl iwX7 (by decide) wq_1110 rfl dX7_gives_222 ?_
                                refine lv_sipush (v := nI 256) hx hb dX7_gives_225 (by decide) ?_
                                refine lv_iload_n hx hb dX7_gives_228 rfl (lv_at hl 3 rfl) ?_
                                refine n_imul hx hb dX7_gives_229 ?_
                                refine lv_iload hx hb dX7_gives_230 (lv_at hl 4 rfl) ?_
                                refine n_iadd hx hb dX7_gives_232 ?_
                                refine lv_iload hx hb dX7_gives_233 (lv_at hl 5 rfl) ?_
                                refine n_iast X hW (n := 2304) (f := h2) 24 rfl (w2 := (mW G a th lo bi ru ol ob tk fib gra res buy lst bst rea bid pri itm akf akg got pai riv rf ro rs lat bat val cos row (va_up h2 ((256 * i) + m1) (mnl ((qf (its set.testBit (fun k => itm (bat k)) (flM fib gra rf ro rs ru akf akg lat bat ol) ob)) i) (fun l => res (lat l)) (fun x => h2 (256 * (i + 1) + x)) m1 l1)) u giv ++ Y)) rfl (by omega) (by decide) dX7_gives_235 (fun H locs hW => ?_)
                                refine lv_iinc (v := (nI (m1 + 1))) (lv' := [(4, .int (nI (m1 + 1))), (0, .ref (a 0)), (1, .int (nI set)), (2, .int (nI mn)), (3, .int (nI i)), (5, .int (nI (mnl ((qf (its set.testBit (fun k => itm (bat k)) (flM fib gra rf ro rs ru akf akg lat bat ol) ob)) i) (fun l => res (lat l)) (fun x => h2 (256 * (i + 1) + x)) m1 l1))), (6, .int (nI l1))]) hx hb dX7_gives_236 hl (k := 4) rfl (nI_add _ _) (by decide) rfl (fun ls hl => ?_)
                                refine lv_goto (tgt := 111) hx hb dX7_gives_239 (by decide) ?_
                                exact ih2 (m1 + 1) _ (by omega) (by omega) (fun t ht1 ht2 x hx => by unfold va_up; rw [if_neg (by omega)]; exact d3 t ht1 ht2 x hx) (fun x hx => by unfold va_up; split; rename_i q; rw [show x = m1 by omega, hnew]; exact d4 x (by omega)) (fun x => by unfold va_up; split; have := mnl_le ((qf (its set.testBit (fun k => itm (bat k)) (flM fib gra rf ro rs ru akf akg lat bat ol) ob)) i) (fun l => res (lat l)) (fun x => h2 (256 * (i + 1) + x)) m1 l1; omega; exact hh2 x) _ _ _ hW (lv_sub hl [1, 2, 3, 4, 0] rfl)
                              · refine lv_iload hx hb dX7_gives_135 (lv_at hl 4 rfl) ?_
                                refine lv_iload hx hb dX7_gives_137 (lv_at hl 6 rfl) ?_
                                refine n_ishr hx hb (by omega) (by omega) dX7_gives_139 ?_
                                refine lv_iconst (v := nI 1) hx hb dX7_gives_140 (by decide) ?_
                                refine n_iand hx hb dX7_gives_141 ?_
                                refine lv_iconst (v := nI 1) hx hb dX7_gives_142 (by decide) ?_
                                refine n_icmp_eq hx hb rfl rfl (by have := sh1_le m1 l1; omega) (by omega) (tgt := 215) dX7_gives_143 (by decide) (fun c_143 => ?_) (fun c_143 => ?_)
                                · refine lv_iinc (v := (nI (l1 + 1))) (lv' := [(6, .int (nI (l1 + 1))), (0, .ref (a 0)), (1, .int (nI set)), (2, .int (nI mn)), (3, .int (nI i)), (4, .int (nI m1)), (5, .int (nI (mnl ((qf (its set.testBit (fun k => itm (bat k)) (flM fib gra rf ro rs ru akf akg lat bat ol) ob)) i) (fun l => res (lat l)) (fun x => h2 (256 * (i + 1) + x)) m1 l1)))]) hx hb dX7_gives_215 hl (k := 6) rfl (nI_add _ _) (by decide) rfl (fun ls hl => ?_)
                                  refine lv_goto (tgt := 126) hx hb dX7_gives_218 (by decide) ?_
                                  exact ih3 (l1 + 1) (by omega) (by omega) _ _ _ hW (by rw [show (mnl ((qf (its set.testBit (fun k => itm (bat k)) (flM fib gra rf ro rs ru akf akg lat bat ol) ob)) i) (fun l => res (lat l)) (fun x => h2 (256 * (i + 1) + x)) m1 (l1 + 1)) = (mnl ((qf (its set.testBit (fun k => itm (bat k)) (flM fib gra rf ro rs ru akf akg lat bat ol) ob)) i) (fun l => res (lat l)) (fun x => h2 (256 * (i + 1) + x)) m1 l1) from mnl_no (Or.inr (sh1_t c_143))]; exact lv_sub hl [1, 2, 3, 4, 5, 6, 0] rfl)
                                · refine lv_aload_n hx hb dX7_gives_146 rfl (lv_at hl 0 rfl) ?_
                                  refine lv_aload_n hx hb dX7_gives_147 rfl (lv_at hl 0 rfl) ?_
                                  refine x_get X hW 0 rfl 25 rfl rfl iwX7 (by decide) wq_1105 rfl dX7_gives_148 ?_
                                  refine lv_iload hx hb dX7_gives_151 (lv_at hl 6 rfl) ?_
                                  refine n_iald X hW (n := 8) (f := lat) 19 rfl (by omega) (by decide) dX7_gives_153 ?_
                                  refine lv_aload_n hx hb dX7_gives_154 rfl (lv_at hl 0 rfl) ?_
                                  refine x_get X hW 0 rfl 31 rfl rfl iwX7 (by decide) wq_1111 rfl dX7_gives_155 ?_
                                  refine lv_iload_n hx hb dX7_gives_158 rfl (lv_at hl 3 rfl) ?_
                                  refine n_iald X hW (n := 8) (f := u) 25 rfl (by omega) (by decide) dX7_gives_159 ?_
                                  refine go_i X hW (run_V X hW (As := [.int (nI (lat l1)), .int (nI (u i))]) (rest := []) 10 0 rfl (c_X7_suits l G a th lo bi ru ol ob tk fib gra res buy lst bst rea bid pri itm akf akg got pai riv rf ro rs lat bat val cos row h2 u giv Y (lat l1) (u i) hI (hlat _) (hu2 _) _) (gi_V wq_1257 wq_1259 wq_51 wq_67 wq_1260) rfl hyX7_suits rfl rfl rfl hl.1 (Nat.le_of_ble_eq_true rfl) ⟨Nat.le_of_ble_eq_true rfl, Nat.le_of_ble_eq_true rfl⟩ ⟨by decide, by decide⟩ dX7_gives_160) (fun r w2 H locs hp hW => ?_)
                                  obtain ⟨rfl, rfl⟩ := hp
                                  refine p_if_ne hx hb (tgt := 169) dX7_gives_163 (by decide) (fun c_163 => ?_) (fun c_163 => ?_)
                                  · refine lv_aload_n hx hb dX7_gives_169 rfl (lv_at hl 0 rfl) ?_
                                    refine x_get X hW 0 rfl 9 rfl rfl iwX7 (by decide) wq_1089 rfl dX7_gives_170 ?_
                                    refine lv_aload_n hx hb dX7_gives_173 rfl (lv_at hl 0 rfl) ?_
                                    refine x_get X hW 0 rfl 25 rfl rfl iwX7 (by decide) wq_1105 rfl dX7_gives_174 ?_
                                    refine lv_iload hx hb dX7_gives_177 (lv_at hl 6 rfl) ?_
                                    refine n_iald X hW (n := 8) (f := lat) 19 rfl (by omega) (by decide) dX7_gives_179 ?_
                                    refine n_iald X hW (n := 40) (f := res) 3 rfl (hlat l1) (by decide) dX7_gives_180 ?_
                                    refine lv_aload_n hx hb dX7_gives_181 rfl (lv_at hl 0 rfl) ?_
                                    refine x_get X hW 0 rfl 30 rfl rfl iwX7 (by decide) wq_1110 rfl dX7_gives_182 ?_
                                    refine lv_sipush (v := nI 256) hx hb dX7_gives_185 (by decide) ?_
                                    refine lv_iload_n hx hb dX7_gives_188 rfl (lv_at hl 3 rfl) ?_
                                    refine lv_iconst (v := nI 1) hx hb dX7_gives_189 (by decide) ?_
                                    refine n_iadd hx hb dX7_gives_190 ?_
                                    have hm1 := or_l (x := m1) (k := l1) (by omega) (by omega)
                                    refine n_imul hx hb dX7_gives_191 ?_
                                    refine lv_iload hx hb dX7_gives_192 (lv_at hl 4 rfl) ?_
                                    refine lv_iconst (v := nI 1) hx hb dX7_gives_194 (by decide) ?_
                                    refine lv_iload hx hb dX7_gives_195 (lv_at hl 6 rfl) ?_
                                    refine n_ishl1 hx hb (by omega) dX7_gives_197 ?_
                                    refine n_ior hx hb dX7_gives_198 ?_
                                    refine n_iadd hx hb dX7_gives_199 ?_
                                    refine n_iald X hW (n := 2304) (f := h2) 24 rfl (by omega) (by decide) dX7_gives_200 ?_
                                    refine n_iadd hx hb dX7_gives_201 ?_
                                    refine lv_istore (lv' := [(7, .int (nI ((res (lat l1)) + (h2 ((256 * (i + 1)) + (m1 ||| (2 ^ l1))))))), (0, .ref (a 0)), (1, .int (nI set)), (2, .int (nI mn)), (3, .int (nI i)), (4, .int (nI m1)), (5, .int (nI (mnl ((qf (its set.testBit (fun k => itm (bat k)) (flM fib gra rf ro rs ru akf akg lat bat ol) ob)) i) (fun l => res (lat l)) (fun x => h2 (256 * (i + 1) + x)) m1 l1))), (6, .int (nI l1))]) hx hb dX7_gives_202 hl (by decide) rfl (fun ls hl => ?_)
                                    refine lv_iload hx hb dX7_gives_204 (lv_at hl 0 rfl) ?_
                                    refine lv_iload hx hb dX7_gives_206 (lv_at hl 6 rfl) ?_
                                    refine n_icmp_ge hx hb rfl rfl (by have := hres (lat l1); have := hh2 (256 * (i + 1) + (m1 ||| 2 ^ l1)); omega) (by have := mnl_le ((qf (its set.testBit (fun k => itm (bat k)) (flM fib gra rf ro rs ru akf akg lat bat ol) ob)) i) (fun l => res (lat l)) (fun x => h2 (256 * (i + 1) + x)) m1 l1; omega) (tgt := 215) dX7_gives_208 (by decide) (fun c_208 => ?_) (fun c_208 => ?_)
                                    · refine lv_iinc (v := (nI (l1 + 1))) (lv' := [(6, .int (nI (l1 + 1))), (7, .int (nI ((res (lat l1)) + (h2 ((256 * (i + 1)) + (m1 ||| (2 ^ l1))))))), (0, .ref (a 0)), (1, .int (nI set)), (2, .int (nI mn)), (3, .int (nI i)), (4, .int (nI m1)), (5, .int (nI (mnl ((qf (its set.testBit (fun k => itm (bat k)) (flM fib gra rf ro rs ru akf akg lat bat ol) ob)) i) (fun l => res (lat l)) (fun x => h2 (256 * (i + 1) + x)) m1 l1)))]) hx hb dX7_gives_215 hl (k := 7) rfl (nI_add _ _) (by decide) rfl (fun ls hl => ?_)
                                      refine lv_goto (tgt := 126) hx hb dX7_gives_218 (by decide) ?_
                                      exact ih3 (l1 + 1) (by omega) (by omega) _ _ _ hW (by rw [show (mnl ((qf (its set.testBit (fun k => itm (bat k)) (flM fib gra rf ro rs ru akf akg lat bat ol) ob)) i) (fun l => res (lat l)) (fun x => h2 (256 * (i + 1) + x)) m1 (l1 + 1)) = (mnl ((qf (its set.testBit (fun k => itm (bat k)) (flM fib gra rf ro rs ru akf akg lat bat ol) ob)) i) (fun l => res (lat l)) (fun x => h2 (256 * (i + 1) + x)) m1 l1) from (mnl_yes (by rw [hbit i (by omega) l1 (by omega)]; exact c_163) (sh1_f c_143)).trans (Nat.min_eq_left (by omega))]; exact lv_sub hl [2, 3, 4, 5, 6, 7, 0] rfl)
                                    · refine lv_iload hx hb dX7_gives_211 (lv_at hl 0 rfl) ?_
                                      refine lv_istore (lv' := [(5, .int (nI ((res (lat l1)) + (h2 ((256 * (i + 1)) + (m1 ||| (2 ^ l1))))))), (7, .int (nI ((res (lat l1)) + (h2 ((256 * (i + 1)) + (m1 ||| (2 ^ l1))))))), (0, .ref (a 0)), (1, .int (nI set)), (2, .int (nI mn)), (3, .int (nI i)), (4, .int (nI m1)), (6, .int (nI l1))]) hx hb dX7_gives_213 hl (by decide) rfl (fun ls hl => ?_)
                                      refine lv_iinc (v := (nI (l1 + 1))) (lv' := [(6, .int (nI (l1 + 1))), (5, .int (nI ((res (lat l1)) + (h2 ((256 * (i + 1)) + (m1 ||| (2 ^ l1))))))), (7, .int (nI ((res (lat l1)) + (h2 ((256 * (i + 1)) + (m1 ||| (2 ^ l1))))))), (0, .ref (a 0)), (1, .int (nI set)), (2, .int (nI mn)), (3, .int (nI i)), (4, .int (nI m1))]) hx hb dX7_gives_215 hl (k := 7) rfl (nI_add _ _) (by decide) rfl (fun ls hl => ?_)
                                      refine lv_goto (tgt := 126) hx hb dX7_gives_218 (by decide) ?_
                                      exact ih3 (l1 + 1) (by omega) (by omega) _ _ _ hW (by rw [show (mnl ((qf (its set.testBit (fun k => itm (bat k)) (flM fib gra rf ro rs ru akf akg lat bat ol) ob)) i) (fun l => res (lat l)) (fun x => h2 (256 * (i + 1) + x)) m1 (l1 + 1)) = ((res (lat l1)) + (h2 ((256 * (i + 1)) + (m1 ||| (2 ^ l1))))) from (mnl_yes (by rw [hbit i (by omega) l1 (by omega)]; exact c_163) (sh1_f c_143)).trans (Nat.min_eq_right (by omega))]; exact lv_sub hl [3, 4, 5, 6, 7, 1, 0] rfl)
                                  · refine lv_goto (tgt := 215) hx hb dX7_gives_166 (by decide) ?_
                                    refine lv_iinc (v := (nI (l1 + 1))) (lv' := [(6, .int (nI (l1 + 1))), (0, .ref (a 0)), (1, .int (nI set)), (2, .int (nI mn)), (3, .int (nI i)), (4, .int (nI m1)), (5, .int (nI (mnl ((qf (its set.testBit (fun k => itm (bat k)) (flM fib gra rf ro rs ru akf akg lat bat ol) ob)) i) (fun l => res (lat l)) (fun x => h2 (256 * (i + 1) + x)) m1 l1)))]) hx hb dX7_gives_215 hl (k := 6) rfl (nI_add _ _) (by decide) rfl (fun ls hl => ?_)
                                    refine lv_goto (tgt := 126) hx hb dX7_gives_218 (by decide) ?_
                                    exact ih3 (l1 + 1) (by omega) (by omega) _ _ _ hW (by rw [show (mnl ((qf (its set.testBit (fun k => itm (bat k)) (flM fib gra rf ro rs ru akf akg lat bat ol) ob)) i) (fun l => res (lat l)) (fun x => h2 (256 * (i + 1) + x)) m1 (l1 + 1)) = (mnl ((qf (its set.testBit (fun k => itm (bat k)) (flM fib gra rf ro rs ru akf akg lat bat ol) ob)) i) (fun l => res (lat l)) (fun x => h2 (256 * (i + 1) + x)) m1 l1) from mnl_no (Or.inl (by rw [hbit i (by omega) l1 (by omega)]; exact Bool.eq_false_iff.mpr c_163))]; exact lv_sub hl [1, 2, 3, 4, 5, 6, 0] rfl)
                          exact loop3c (ol + 1) 0 (by omega) (by omega) _ _ _ hW (lv_sub hl [2, 3, 4, 5, 6, 1, 0] rfl)
                    exact loop3b (256 + 1) 0 h1 (by omega) (by omega) (fun t ht1 ht2 x hx => f3 t (by omega) ht2 x hx) (fun x hx => absurd hx (Nat.not_lt_zero x)) hh _ _ _ hW (lv_sub hl [1, 2, 3, 4, 0] rfl)
              exact loop3 (mn + 1) mn h1 (by omega) (Nat.le_refl mn) (fun t ht1 ht2 x hx => by rw [show t = mn by omega, Nat.sub_self]; exact e3 x (by omega)) e4 _ _ _ hW (by rw [show ((mn : Nat) : Int) + (-1) = ((mn : Nat) : Int) - ((1 : Nat) : Int) by omega]; exact lv_sub hl [1, 2, 3, 0] rfl)
            · refine lv_aload_n hx hb dX7_gives_81 rfl (lv_at hl 0 rfl) ?_
              refine x_get X hW 0 rfl 30 rfl rfl iwX7 (by decide) wq_1110 rfl dX7_gives_82 ?_
              refine lv_sipush (v := nI 256) hx hb dX7_gives_85 (by decide) ?_
              refine lv_iload_n hx hb dX7_gives_88 rfl (lv_at hl 2 rfl) ?_
              refine n_imul hx hb dX7_gives_89 ?_
              refine lv_iload_n hx hb dX7_gives_90 rfl (lv_at hl 3 rfl) ?_
              refine n_iadd hx hb dX7_gives_91 ?_
              refine lv_iconst (v := nI 0) hx hb dX7_gives_92 (by decide) ?_
              refine n_iast X hW (n := 2304) (f := h1) 24 rfl (w2 := (mW G a th lo bi ru ol ob tk fib gra res buy lst bst rea bid pri itm akf akg got pai riv rf ro rs lat bat val cos row (va_up h1 ((256 * mn) + m1) 0) u giv ++ Y)) rfl (by omega) (by decide) dX7_gives_93 (fun H locs hW => ?_)
              refine lv_iinc (v := (nI (m1 + 1))) (lv' := [(3, .int (nI (m1 + 1))), (0, .ref (a 0)), (1, .int (nI set)), (2, .int (nI mn))]) hx hb dX7_gives_94 hl (k := 3) rfl (nI_add _ _) (by decide) rfl (fun ls hl => ?_)
              refine lv_goto (tgt := 74) hx hb dX7_gives_97 (by decide) ?_
              exact ih (m1 + 1) _ (by omega) (by omega) (fun x hx => by unfold va_up; split; rfl; exact e3 x (by omega)) (fun x => by unfold va_up; split; decide; exact e4 x) _ _ _ hW (lv_sub hl [1, 2, 3, 0] rfl)
        exact loop2 (256 + 1) 0 ahe (by omega) (by omega) (fun x hx => absurd hx (Nat.not_lt_zero x)) hahe _ _ _ hW (lv_sub hl [1, 2, 3, 0] rfl)
      · refine lv_iload_n hx hb dX7_gives_12 rfl (lv_at hl 1 rfl) ?_
        refine lv_iload_n hx hb dX7_gives_13 rfl (lv_at hl 3 rfl) ?_
        refine n_ishr hx hb (by omega) (by omega) dX7_gives_14 ?_
        refine lv_iconst (v := nI 1) hx hb dX7_gives_15 (by decide) ?_
        refine n_iand hx hb dX7_gives_16 ?_
        refine lv_iconst (v := nI 1) hx hb dX7_gives_17 (by decide) ?_
        refine n_icmp_ne hx hb rfl rfl (by have := sh1_le set k; omega) (by omega) (tgt := 66) dX7_gives_18 (by decide) (fun c_18 => ?_) (fun c_18 => ?_)
        · refine lv_iinc (v := (nI (k + 1))) (lv' := [(3, .int (nI (k + 1))), (0, .ref (a 0)), (1, .int (nI set)), (2, .int (nI (bsum set.testBit (fun k => itm (bat k)) k)))]) hx hb dX7_gives_66 hl (k := 3) rfl (nI_add _ _) (by decide) rfl (fun ls hl => ?_)
          refine lv_goto (tgt := 4) hx hb dX7_gives_69 (by decide) ?_
          have bf := bsum_f (g := (fun k => itm (bat k))) (sh1_f c_18)
          exact ih (k + 1) u (by omega) (by omega) (fun x hx => by rw [bf] at hx; rw [its_old hx]; exact h3 x hx) hu2 _ _ _ hW (by rw [bf]; exact lv_sub hl [1, 2, 3, 0] rfl)
        · refine lv_iconst (v := nI 0) hx hb dX7_gives_21 (by decide) ?_
          refine lv_istore (lv' := [(4, .int (nI 0)), (0, .ref (a 0)), (1, .int (nI set)), (2, .int (nI (bsum set.testBit (fun k => itm (bat k)) k))), (3, .int (nI k))]) hx hb dX7_gives_22 hl (by decide) rfl (fun ls hl => ?_)
          have bt := sh1_t c_18
          have eb : bsum set.testBit (fun k => itm (bat k)) (k + 1) = (bsum set.testBit (fun k => itm (bat k)) k) + itm (bat k) := bsum_t bt
          have hbm := bsum_mono (p := set.testBit) (g := (fun k => itm (bat k))) (show k + 1 ≤ ob by omega)
          have hbk := hbat k
          have hik := hitm (bat k)
          have loop1b : ∀ (n : Nat) (i : Nat) (u2 : Nat → Nat), itm (bat k) + 1 ≤ i + n → i ≤ itm (bat k) → (∀ t, t < (bsum set.testBit (fun k => itm (bat k)) k) + i → u2 t = qf (its set.testBit (fun k => itm (bat k)) (fun q => 3 * bat (q / 3) + q % 3) (k + 1)) t) → (∀ t, u2 t < 120) → ∀ (H : Heap) (locs : List Loc) (ls : Array Slot), Wd G A s (mW G a th lo bi ru ol ob tk fib gra res buy lst bst rea bid pri itm akf akg got pai riv rf ro rs lat bat val cos row ahe u2 giv ++ Y) H locs → lv_has ls 8 [(0, .ref (a 0)), (1, .int (nI set)), (2, .int (nI ((bsum set.testBit (fun k => itm (bat k)) k) + i))), (3, .int (nI k)), (4, .int (nI i))] → W p l e (RM 1 0 0) s m args below meth c H locs 0 0 (MQ below (Qi G A (fun r w2 => ∃ (h2 u2 g2 : Nat → Nat), r = nI (bsum set.testBit (fun k => itm (bat k)) ob) ∧ (∀ x, x < (bsum set.testBit (fun k => itm (bat k)) ob) → u2 x = qf (its set.testBit (fun k => itm (bat k)) (fun q => 3 * bat (q / 3) + q % 3) ob) x) ∧ (∀ x, x < (bsum set.testBit (fun k => itm (bat k)) ob) → g2 x = lat (gvl (qf (its set.testBit (fun k => itm (bat k)) (flM fib gra rf ro rs ru akf akg lat bat ol) ob)) (bsum set.testBit (fun k => itm (bat k)) ob) ol (fun l => res (lat l)) x)) ∧ (∀ x, h2 x ≤ 2000000) ∧ (∀ x, u2 x < 120) ∧ (∀ x, g2 x < 40) ∧ w2 = (mW G a th lo bi ru ol ob tk fib gra res buy lst bst rea bid pri itm akf akg got pai riv rf ro rs lat bat val cos row h2 u2 g2 ++ Y))) args s (RM 1 0 0).cells (RM 1 0 0).slots A) (F0 m 24 ls []) := by
            intro n
            induction n with
            | zero => intro i u2 q1 q2 q3 q4; exact absurd q1 (by omega)
            | succ n ih2 =>
              intro i u2 q1 q2 q3 q4 H locs ls hW hl
              refine lv_iload hx hb dX7_gives_24 (lv_at hl 4 rfl) ?_
              refine lv_aload_n hx hb dX7_gives_26 rfl (lv_at hl 0 rfl) ?_
              refine x_get X hW 0 rfl 16 rfl rfl iwX7 (by decide) wq_1096 rfl dX7_gives_27 ?_
              refine lv_aload_n hx hb dX7_gives_30 rfl (lv_at hl 0 rfl) ?_
              refine x_get X hW 0 rfl 26 rfl rfl iwX7 (by decide) wq_1106 rfl dX7_gives_31 ?_
              refine lv_iload_n hx hb dX7_gives_34 rfl (lv_at hl 3 rfl) ?_
              refine n_iald X hW (n := 8) (f := bat) 20 rfl (by omega) (by decide) dX7_gives_35 ?_
              refine n_iald X hW (n := 40) (f := itm) 10 rfl (hbat k) (by decide) dX7_gives_36 ?_
              refine n_icmp_ge hx hb rfl rfl (by omega) (by have := hitm (bat k); omega) (tgt := 66) dX7_gives_37 (by decide) (fun c_37 => ?_) (fun c_37 => ?_)
              · refine lv_iinc (v := (nI (k + 1))) (lv' := [(3, .int (nI (k + 1))), (0, .ref (a 0)), (1, .int (nI set)), (2, .int (nI ((bsum set.testBit (fun k => itm (bat k)) k) + i))), (4, .int (nI i))]) hx hb dX7_gives_66 hl (k := 3) rfl (nI_add _ _) (by decide) rfl (fun ls hl => ?_)
                refine lv_goto (tgt := 4) hx hb dX7_gives_69 (by decide) ?_
                exact ih (k + 1) u2 (by omega) (by omega) (fun x hx => q3 x (by omega)) q4 _ _ _ hW (by rw [show bsum set.testBit (fun k => itm (bat k)) (k + 1) = (bsum set.testBit (fun k => itm (bat k)) k) + i by omega]; exact lv_sub hl [1, 2, 3, 0] rfl)
              · refine lv_aload_n hx hb dX7_gives_40 rfl (lv_at hl 0 rfl) ?_
                refine x_get X hW 0 rfl 31 rfl rfl iwX7 (by decide) wq_1111 rfl dX7_gives_41 ?_
                refine lv_iload_n hx hb dX7_gives_44 rfl (lv_at hl 2 rfl) ?_
                refine lv_iinc (v := (nI (((bsum set.testBit (fun k => itm (bat k)) k) + i) + 1))) (lv' := [(2, .int (nI (((bsum set.testBit (fun k => itm (bat k)) k) + i) + 1))), (0, .ref (a 0)), (1, .int (nI set)), (3, .int (nI k)), (4, .int (nI i))]) hx hb dX7_gives_45 hl (k := 2) rfl (nI_add _ _) (by decide) rfl (fun ls hl => ?_)
                refine lv_iconst (v := nI 3) hx hb dX7_gives_48 (by decide) ?_
                refine lv_aload_n hx hb dX7_gives_49 rfl (lv_at hl 1 rfl) ?_
                refine x_get X hW 0 rfl 26 rfl rfl iwX7 (by decide) wq_1106 rfl dX7_gives_50 ?_
                refine lv_iload_n hx hb dX7_gives_53 rfl (lv_at hl 3 rfl) ?_
                refine n_iald X hW (n := 8) (f := bat) 20 rfl (by omega) (by decide) dX7_gives_54 ?_
                refine n_imul hx hb dX7_gives_55 ?_
                refine lv_iload hx hb dX7_gives_56 (lv_at hl 4 rfl) ?_
                refine n_iadd hx hb dX7_gives_58 ?_
                refine n_iast X hW (n := 8) (f := u2) 25 rfl (w2 := (mW G a th lo bi ru ol ob tk fib gra res buy lst bst rea bid pri itm akf akg got pai riv rf ro rs lat bat val cos row ahe (va_up u2 ((bsum set.testBit (fun k => itm (bat k)) k) + i) ((3 * (bat k)) + i)) giv ++ Y)) rfl (by omega) (by decide) dX7_gives_59 (fun H locs hW => ?_)
                refine lv_iinc (v := (nI (i + 1))) (lv' := [(4, .int (nI (i + 1))), (2, .int (nI (((bsum set.testBit (fun k => itm (bat k)) k) + i) + 1))), (0, .ref (a 0)), (1, .int (nI set)), (3, .int (nI k))]) hx hb dX7_gives_60 hl (k := 4) rfl (nI_add _ _) (by decide) rfl (fun ls hl => ?_)
                refine lv_goto (tgt := 24) hx hb dX7_gives_63 (by decide) ?_
                exact ih2 (i + 1) _ (by omega) (by omega) (fun x hx => by unfold va_up; split; rename_i e; rw [e, its_new bt (show i < itm (bat k) by omega)]; show _ = 3 * bat ((k * 3 + i) / 3) + (k * 3 + i) % 3; rw [show (k * 3 + i) / 3 = k by omega, show (k * 3 + i) % 3 = i by omega]; exact q3 x (by omega)) (fun x => by unfold va_up; split; omega; exact q4 x) _ _ _ hW (lv_sub hl [2, 3, 1, 4, 0] rfl)
          exact loop1b (itm (bat k) + 1) 0 u (by omega) (by omega) (fun t ht => by rw [its_old (by omega)]; exact h3 t (by omega)) hu2 _ _ _ hW (lv_sub hl [1, 2, 3, 4, 0] rfl)
  exact loop (ob + 1) 0 wan (by omega) (by omega) (fun t ht => absurd ht (Nat.not_lt_zero _)) hwan _ _ _ hW (lv_sub hl [2, 3, 1, 0] rfl)

