/-- a rule lets the lot's fibre stand in -/
def ruP (fib gra rf ro rs akf akg : Nat → Nat) (lot it : Nat) : Nat → Bool := fun r => (decide (rf r = akf it) && decide (ro r = fib lot)) && decide (gra lot + rs r ≤ akg it)
/-- a lot fits an item (told by its place among all items) -/
def suiB (fib gra rf ro rs : Nat → Nat) (ru : Nat) (akf akg : Nat → Nat) (lot it : Nat) : Bool := (decide (fib lot = akf it) && decide (gra lot ≤ akg it)) || decide (fst1 (ruP fib gra rf ro rs akf akg lot it) ru < ru)
set_option maxRecDepth 100000 in
set_option maxHeartbeats 4000000 in
theorem c_X7_suits (l : Launch) (G : Gt) (a : Nat → Nat) (th lo bi ru ol ob : Nat) (tk : Int) (fib gra res buy lst bst rea bid pri itm akf akg got : Nat → Nat) (pai : Nat → Int) (riv rf ro rs lat bat : Nat → Nat) (val : Nat → Int) (cos row ahe wan giv : Nat → Nat) (Y : va_W) (lot it : Nat) (hI : MIa lo bi ru ol ob fib gra res buy lst bst rea bid pri itm akf akg got pai riv rf ro rs) (hlt : lot < 40) (hit : it < 120) : Ci l G yX7_suits (ww yX7_suits cX7_suits 4 (some FieldType.boolean)) (RM 0 0 0) [.ref (a 0), .int (nI lot), .int (nI it)] (mW G a th lo bi ru ol ob tk fib gra res buy lst bst rea bid pri itm akf akg got pai riv rf ro rs lat bat val cos row ahe wan giv ++ Y) (fun r w2 => r = nI (if suiB fib gra rf ro rs ru akf akg lot it = true then 1 else 0) ∧ w2 = (mW G a th lo bi ru ol ob tk fib gra res buy lst bst rea bid pri itm akf akg got pai riv rf ro rs lat bat val cos row ahe wan giv ++ Y)) := by
  refine Ci.intro (by decide) (Nat.le_of_ble_eq_true rfl) ?_
  intro p e s m args below meth c A X hW ls hl
  have hx := X.exec
  have hb := X.bytes
  have hl : lv_has ls 4 [(0, .ref (a 0)), (1, .int (nI lot)), (2, .int (nI it))] := hl
  obtain ⟨hlo, hbi, hru, hol, hob, hfib, hgra, hres, hbuy, hlst, hbst, hrea, hbid, hpri, hitm, hakf, hakg, hgot, hriv, hrf, hro, hrs, hpai, hcl, hcb⟩ := id hI
  have h_f := hfib lot
  have h_g := hgra lot
  have h_a := hakf it
  have h_b := hakg it
  refine lv_aload_n hx hb dX7_suits_0 rfl (lv_at hl 0 rfl) ?_
  refine x_get X hW 0 rfl 7 rfl rfl iwX7 (by decide) wq_1087 rfl dX7_suits_1 ?_
  refine lv_iload_n hx hb dX7_suits_4 rfl (lv_at hl 1 rfl) ?_
  refine n_iald X hW (n := 40) (f := fib) 1 rfl (by omega) (by decide) dX7_suits_5 ?_
  refine lv_aload_n hx hb dX7_suits_6 rfl (lv_at hl 0 rfl) ?_
  refine x_get X hW 0 rfl 17 rfl rfl iwX7 (by decide) wq_1097 rfl dX7_suits_7 ?_
  refine lv_iload_n hx hb dX7_suits_10 rfl (lv_at hl 2 rfl) ?_
  refine n_iald X hW (n := 120) (f := akf) 11 rfl (by omega) (by decide) dX7_suits_11 ?_
  refine n_icmp_ne hx hb rfl rfl (by omega) (by omega) (tgt := 32) dX7_suits_12 (by decide) (fun c_12 => ?_) (fun c_12 => ?_)
  · refine lv_iconst (v := nI 0) hx hb dX7_suits_32 (by decide) ?_
    refine lv_istore_n (lv' := [(3, .int (nI 0)), (0, .ref (a 0)), (1, .int (nI lot)), (2, .int (nI it))]) hx hb dX7_suits_33 rfl hl (by decide) rfl (fun ls hl => ?_)
    have hno : (decide (fib lot = akf it) && decide (gra lot ≤ akg it)) = false := by rw [decide_eq_false c_12]; rfl
    have loop : ∀ (n : Nat) (k : Nat), ru + 1 ≤ k + n → k ≤ ru → (∀ j, j < k → (ruP fib gra rf ro rs akf akg lot it) j = false) → ∀ (H : Heap) (locs : List Loc) (ls : Array Slot), Wd G A s (mW G a th lo bi ru ol ob tk fib gra res buy lst bst rea bid pri itm akf akg got pai riv rf ro rs lat bat val cos row ahe wan giv ++ Y) H locs → lv_has ls 4 [(0, .ref (a 0)), (1, .int (nI lot)), (2, .int (nI it)), (3, .int (nI k))] → W p l e (RM 0 0 0) s m args below meth c H locs 0 0 (MQ below (Qi G A (fun r w2 => r = nI (if suiB fib gra rf ro rs ru akf akg lot it = true then 1 else 0) ∧ w2 = (mW G a th lo bi ru ol ob tk fib gra res buy lst bst rea bid pri itm akf akg got pai riv rf ro rs lat bat val cos row ahe wan giv ++ Y))) args s (RM 0 0 0).cells (RM 0 0 0).slots A) (F0 m 34 ls []) := by
      intro n
      induction n with
      | zero => intro k h1 h2 h3; exact absurd h1 (by omega)
      | succ n ih =>
        intro k h1 h2 h3 H locs ls hW hl
        refine lv_iload_n hx hb dX7_suits_34 rfl (lv_at hl 3 rfl) ?_
        refine lv_aload_n hx hb dX7_suits_35 rfl (lv_at hl 0 rfl) ?_
        refine x_get X hW 0 rfl 3 rfl rfl iwX7 (by decide) wq_1083 rfl dX7_suits_36 ?_
        refine n_icmp_ge hx hb rfl rfl (by omega) (by omega) (tgt := 102) dX7_suits_39 (by decide) (fun c_39 => ?_) (fun c_39 => ?_)
        · refine lv_iconst (v := nI 0) hx hb dX7_suits_102 (by decide) ?_
          exact ret_z X hW (v := (nI 0)) (⟨by rw [if_neg (by rw [suiB, fst1_no (fun j hj => h3 j (by omega)), decide_eq_false (Nat.lt_irrefl ru), Bool.or_false, hno]; decide)], rfl⟩) rfl (by first | rfl | exact (pk_charN (by omega)).1) (by decide) (by decide) dX7_suits_103
        · refine lv_aload_n hx hb dX7_suits_42 rfl (lv_at hl 0 rfl) ?_
          refine x_get X hW 0 rfl 22 rfl rfl iwX7 (by decide) wq_1102 rfl dX7_suits_43 ?_
          refine lv_iload_n hx hb dX7_suits_46 rfl (lv_at hl 3 rfl) ?_
          refine n_iald X hW (n := 6) (f := rf) 16 rfl (by omega) (by decide) dX7_suits_47 ?_
          refine lv_aload_n hx hb dX7_suits_48 rfl (lv_at hl 0 rfl) ?_
          refine x_get X hW 0 rfl 17 rfl rfl iwX7 (by decide) wq_1097 rfl dX7_suits_49 ?_
          refine lv_iload_n hx hb dX7_suits_52 rfl (lv_at hl 2 rfl) ?_
          refine n_iald X hW (n := 120) (f := akf) 11 rfl (by omega) (by decide) dX7_suits_53 ?_
          refine n_icmp_ne hx hb rfl rfl (by have := hrf k; omega) (by omega) (tgt := 96) dX7_suits_54 (by decide) (fun c_54 => ?_) (fun c_54 => ?_)
          · refine lv_iinc (v := (nI (k + 1))) (lv' := [(3, .int (nI (k + 1))), (0, .ref (a 0)), (1, .int (nI lot)), (2, .int (nI it))]) hx hb dX7_suits_96 hl (k := 3) rfl (nI_add _ _) (by decide) rfl (fun ls hl => ?_)
            refine lv_goto (tgt := 34) hx hb dX7_suits_99 (by decide) ?_
            exact ih (k + 1) (by omega) (by omega) (fun j hj => by rcases Nat.lt_or_ge j k with q | q; exact h3 j q; rw [show j = k by omega]; rw [ruP, decide_eq_false c_54]; rfl) _ _ _ hW (lv_sub hl [1, 2, 3, 0] rfl)
          · refine lv_aload_n hx hb dX7_suits_57 rfl (lv_at hl 0 rfl) ?_
            refine x_get X hW 0 rfl 23 rfl rfl iwX7 (by decide) wq_1103 rfl dX7_suits_58 ?_
            refine lv_iload_n hx hb dX7_suits_61 rfl (lv_at hl 3 rfl) ?_
            refine n_iald X hW (n := 6) (f := ro) 17 rfl (by omega) (by decide) dX7_suits_62 ?_
            refine lv_aload_n hx hb dX7_suits_63 rfl (lv_at hl 0 rfl) ?_
            refine x_get X hW 0 rfl 7 rfl rfl iwX7 (by decide) wq_1087 rfl dX7_suits_64 ?_
            refine lv_iload_n hx hb dX7_suits_67 rfl (lv_at hl 1 rfl) ?_
            refine n_iald X hW (n := 40) (f := fib) 1 rfl (by omega) (by decide) dX7_suits_68 ?_
            refine n_icmp_ne hx hb rfl rfl (by have := hro k; omega) (by omega) (tgt := 96) dX7_suits_69 (by decide) (fun c_69 => ?_) (fun c_69 => ?_)
            · refine lv_iinc (v := (nI (k + 1))) (lv' := [(3, .int (nI (k + 1))), (0, .ref (a 0)), (1, .int (nI lot)), (2, .int (nI it))]) hx hb dX7_suits_96 hl (k := 3) rfl (nI_add _ _) (by decide) rfl (fun ls hl => ?_)
              refine lv_goto (tgt := 34) hx hb dX7_suits_99 (by decide) ?_
              exact ih (k + 1) (by omega) (by omega) (fun j hj => by rcases Nat.lt_or_ge j k with q | q; exact h3 j q; rw [show j = k by omega]; rw [ruP, decide_eq_false c_69, Bool.and_false]; rfl) _ _ _ hW (lv_sub hl [1, 2, 3, 0] rfl)
            · refine lv_aload_n hx hb dX7_suits_72 rfl (lv_at hl 0 rfl) ?_
              refine x_get X hW 0 rfl 8 rfl rfl iwX7 (by decide) wq_1088 rfl dX7_suits_73 ?_
              refine lv_iload_n hx hb dX7_suits_76 rfl (lv_at hl 1 rfl) ?_
              refine n_iald X hW (n := 40) (f := gra) 2 rfl (by omega) (by decide) dX7_suits_77 ?_
              refine lv_aload_n hx hb dX7_suits_78 rfl (lv_at hl 0 rfl) ?_
              refine x_get X hW 0 rfl 24 rfl rfl iwX7 (by decide) wq_1104 rfl dX7_suits_79 ?_
              refine lv_iload_n hx hb dX7_suits_82 rfl (lv_at hl 3 rfl) ?_
              refine n_iald X hW (n := 6) (f := rs) 18 rfl (by omega) (by decide) dX7_suits_83 ?_
              refine n_iadd hx hb dX7_suits_84 ?_
              refine lv_aload_n hx hb dX7_suits_85 rfl (lv_at hl 0 rfl) ?_
              refine x_get X hW 0 rfl 18 rfl rfl iwX7 (by decide) wq_1098 rfl dX7_suits_86 ?_
              refine lv_iload_n hx hb dX7_suits_89 rfl (lv_at hl 2 rfl) ?_
              refine n_iald X hW (n := 120) (f := akg) 12 rfl (by omega) (by decide) dX7_suits_90 ?_
              refine n_icmp_gt hx hb rfl rfl (by have := hrs k; omega) (by omega) (tgt := 96) dX7_suits_91 (by decide) (fun c_91 => ?_) (fun c_91 => ?_)
              · refine lv_iinc (v := (nI (k + 1))) (lv' := [(3, .int (nI (k + 1))), (0, .ref (a 0)), (1, .int (nI lot)), (2, .int (nI it))]) hx hb dX7_suits_96 hl (k := 3) rfl (nI_add _ _) (by decide) rfl (fun ls hl => ?_)
                refine lv_goto (tgt := 34) hx hb dX7_suits_99 (by decide) ?_
                exact ih (k + 1) (by omega) (by omega) (fun j hj => by rcases Nat.lt_or_ge j k with q | q; exact h3 j q; rw [show j = k by omega]; rw [ruP, decide_eq_false (show ¬ gra lot + rs k ≤ akg it by omega), Bool.and_false]) _ _ _ hW (lv_sub hl [1, 2, 3, 0] rfl)
              · refine lv_iconst (v := nI 1) hx hb dX7_suits_94 (by decide) ?_
                exact ret_z X hW (v := (nI 1)) (⟨by rw [if_pos (by rw [suiB, decide_eq_true (fst1_lt (P := (ruP fib gra rf ro rs akf akg lot it)) (k := k) (by omega) (by rw [ruP, decide_eq_true c_54, decide_eq_true c_69, decide_eq_true c_91]; rfl)).1, Bool.or_true])], rfl⟩) rfl (by first | rfl | exact (pk_charN (by omega)).1) (by decide) (by decide) dX7_suits_95
    exact loop (ru + 1) 0 (by omega) (by omega) (fun j hj => absurd hj (by omega)) _ _ _ hW (lv_sub hl [1, 2, 3, 0] rfl)
  · refine lv_aload_n hx hb dX7_suits_15 rfl (lv_at hl 0 rfl) ?_
    refine x_get X hW 0 rfl 8 rfl rfl iwX7 (by decide) wq_1088 rfl dX7_suits_16 ?_
    refine lv_iload_n hx hb dX7_suits_19 rfl (lv_at hl 1 rfl) ?_
    refine n_iald X hW (n := 40) (f := gra) 2 rfl (by omega) (by decide) dX7_suits_20 ?_
    refine lv_aload_n hx hb dX7_suits_21 rfl (lv_at hl 0 rfl) ?_
    refine x_get X hW 0 rfl 18 rfl rfl iwX7 (by decide) wq_1098 rfl dX7_suits_22 ?_
    refine lv_iload_n hx hb dX7_suits_25 rfl (lv_at hl 2 rfl) ?_
    refine n_iald X hW (n := 120) (f := akg) 12 rfl (by omega) (by decide) dX7_suits_26 ?_
    refine n_icmp_gt hx hb rfl rfl (by omega) (by omega) (tgt := 32) dX7_suits_27 (by decide) (fun c_27 => ?_) (fun c_27 => ?_)
    · refine lv_iconst (v := nI 0) hx hb dX7_suits_32 (by decide) ?_
      refine lv_istore_n (lv' := [(3, .int (nI 0)), (0, .ref (a 0)), (1, .int (nI lot)), (2, .int (nI it))]) hx hb dX7_suits_33 rfl hl (by decide) rfl (fun ls hl => ?_)
      have hno : (decide (fib lot = akf it) && decide (gra lot ≤ akg it)) = false := by rw [decide_eq_false (show ¬ gra lot ≤ akg it by omega), Bool.and_false]
      have loop : ∀ (n : Nat) (k : Nat), ru + 1 ≤ k + n → k ≤ ru → (∀ j, j < k → (ruP fib gra rf ro rs akf akg lot it) j = false) → ∀ (H : Heap) (locs : List Loc) (ls : Array Slot), Wd G A s (mW G a th lo bi ru ol ob tk fib gra res buy lst bst rea bid pri itm akf akg got pai riv rf ro rs lat bat val cos row ahe wan giv ++ Y) H locs → lv_has ls 4 [(0, .ref (a 0)), (1, .int (nI lot)), (2, .int (nI it)), (3, .int (nI k))] → W p l e (RM 0 0 0) s m args below meth c H locs 0 0 (MQ below (Qi G A (fun r w2 => r = nI (if suiB fib gra rf ro rs ru akf akg lot it = true then 1 else 0) ∧ w2 = (mW G a th lo bi ru ol ob tk fib gra res buy lst bst rea bid pri itm akf akg got pai riv rf ro rs lat bat val cos row ahe wan giv ++ Y))) args s (RM 0 0 0).cells (RM 0 0 0).slots A) (F0 m 34 ls []) := by
        intro n
        induction n with
        | zero => intro k h1 h2 h3; exact absurd h1 (by omega)
        | succ n ih =>
          intro k h1 h2 h3 H locs ls hW hl
          refine lv_iload_n hx hb dX7_suits_34 rfl (lv_at hl 3 rfl) ?_
          refine lv_aload_n hx hb dX7_suits_35 rfl (lv_at hl 0 rfl) ?_
          refine x_get X hW 0 rfl 3 rfl rfl iwX7 (by decide) wq_1083 rfl dX7_suits_36 ?_
          refine n_icmp_ge hx hb rfl rfl (by omega) (by omega) (tgt := 102) dX7_suits_39 (by decide) (fun c_39 => ?_) (fun c_39 => ?_)
          · refine lv_iconst (v := nI 0) hx hb dX7_suits_102 (by decide) ?_
            exact ret_z X hW (v := (nI 0)) (⟨by rw [if_neg (by rw [suiB, fst1_no (fun j hj => h3 j (by omega)), decide_eq_false (Nat.lt_irrefl ru), Bool.or_false, hno]; decide)], rfl⟩) rfl (by first | rfl | exact (pk_charN (by omega)).1) (by decide) (by decide) dX7_suits_103
          · refine lv_aload_n hx hb dX7_suits_42 rfl (lv_at hl 0 rfl) ?_
            refine x_get X hW 0 rfl 22 rfl rfl iwX7 (by decide) wq_1102 rfl dX7_suits_43 ?_
            refine lv_iload_n hx hb dX7_suits_46 rfl (lv_at hl 3 rfl) ?_
            refine n_iald X hW (n := 6) (f := rf) 16 rfl (by omega) (by decide) dX7_suits_47 ?_
            refine lv_aload_n hx hb dX7_suits_48 rfl (lv_at hl 0 rfl) ?_
            refine x_get X hW 0 rfl 17 rfl rfl iwX7 (by decide) wq_1097 rfl dX7_suits_49 ?_
            refine lv_iload_n hx hb dX7_suits_52 rfl (lv_at hl 2 rfl) ?_
            refine n_iald X hW (n := 120) (f := akf) 11 rfl (by omega) (by decide) dX7_suits_53 ?_
            refine n_icmp_ne hx hb rfl rfl (by have := hrf k; omega) (by omega) (tgt := 96) dX7_suits_54 (by decide) (fun c_54 => ?_) (fun c_54 => ?_)
            · refine lv_iinc (v := (nI (k + 1))) (lv' := [(3, .int (nI (k + 1))), (0, .ref (a 0)), (1, .int (nI lot)), (2, .int (nI it))]) hx hb dX7_suits_96 hl (k := 3) rfl (nI_add _ _) (by decide) rfl (fun ls hl => ?_)
              refine lv_goto (tgt := 34) hx hb dX7_suits_99 (by decide) ?_
              exact ih (k + 1) (by omega) (by omega) (fun j hj => by rcases Nat.lt_or_ge j k with q | q; exact h3 j q; rw [show j = k by omega]; rw [ruP, decide_eq_false c_54]; rfl) _ _ _ hW (lv_sub hl [1, 2, 3, 0] rfl)
            · refine lv_aload_n hx hb dX7_suits_57 rfl (lv_at hl 0 rfl) ?_
              refine x_get X hW 0 rfl 23 rfl rfl iwX7 (by decide) wq_1103 rfl dX7_suits_58 ?_
              refine lv_iload_n hx hb dX7_suits_61 rfl (lv_at hl 3 rfl) ?_
              refine n_iald X hW (n := 6) (f := ro) 17 rfl (by omega) (by decide) dX7_suits_62 ?_
              refine lv_aload_n hx hb dX7_suits_63 rfl (lv_at hl 0 rfl) ?_
              refine x_get X hW 0 rfl 7 rfl rfl iwX7 (by decide) wq_1087 rfl dX7_suits_64 ?_
              refine lv_iload_n hx hb dX7_suits_67 rfl (lv_at hl 1 rfl) ?_
              refine n_iald X hW (n := 40) (f := fib) 1 rfl (by omega) (by decide) dX7_suits_68 ?_
              refine n_icmp_ne hx hb rfl rfl (by have := hro k; omega) (by omega) (tgt := 96) dX7_suits_69 (by decide) (fun c_69 => ?_) (fun c_69 => ?_)
              · refine lv_iinc (v := (nI (k + 1))) (lv' := [(3, .int (nI (k + 1))), (0, .ref (a 0)), (1, .int (nI lot)), (2, .int (nI it))]) hx hb dX7_suits_96 hl (k := 3) rfl (nI_add _ _) (by decide) rfl (fun ls hl => ?_)
                refine lv_goto (tgt := 34) hx hb dX7_suits_99 (by decide) ?_
                exact ih (k + 1) (by omega) (by omega) (fun j hj => by rcases Nat.lt_or_ge j k with q | q; exact h3 j q; rw [show j = k by omega]; rw [ruP, decide_eq_false c_69, Bool.and_false]; rfl) _ _ _ hW (lv_sub hl [1, 2, 3, 0] rfl)
              · refine lv_aload_n hx hb dX7_suits_72 rfl (lv_at hl 0 rfl) ?_
                refine x_get X hW 0 rfl 8 rfl rfl iwX7 (by decide) wq_1088 rfl dX7_suits_73 ?_
                refine lv_iload_n hx hb dX7_suits_76 rfl (lv_at hl 1 rfl) ?_
                refine n_iald X hW (n := 40) (f := gra) 2 rfl (by omega) (by decide) dX7_suits_77 ?_
                refine lv_aload_n hx hb dX7_suits_78 rfl (lv_at hl 0 rfl) ?_
                refine x_get X hW 0 rfl 24 rfl rfl iwX7 (by decide) wq_1104 rfl dX7_suits_79 ?_
                refine lv_iload_n hx hb dX7_suits_82 rfl (lv_at hl 3 rfl) ?_
                refine n_iald X hW (n := 6) (f := rs) 18 rfl (by omega) (by decide) dX7_suits_83 ?_
                refine n_iadd hx hb dX7_suits_84 ?_
                refine lv_aload_n hx hb dX7_suits_85 rfl (lv_at hl 0 rfl) ?_
                refine x_get X hW 0 rfl 18 rfl rfl iwX7 (by decide) wq_1098 rfl dX7_suits_86 ?_
                refine lv_iload_n hx hb dX7_suits_89 rfl (lv_at hl 2 rfl) ?_
                refine n_iald X hW (n := 120) (f := akg) 12 rfl (by omega) (by decide) dX7_suits_90 ?_
                refine n_icmp_gt hx hb rfl rfl (by have := hrs k; omega) (by omega) (tgt := 96) dX7_suits_91 (by decide) (fun c_91 => ?_) (fun c_91 => ?_)
                · refine lv_iinc (v := (nI (k + 1))) (lv' := [(3, .int (nI (k + 1))), (0, .ref (a 0)), (1, .int (nI lot)), (2, .int (nI it))]) hx hb dX7_suits_96 hl (k := 3) rfl (nI_add _ _) (by decide) rfl (fun ls hl => ?_)
                  refine lv_goto (tgt := 34) hx hb dX7_suits_99 (by decide) ?_
                  exact ih (k + 1) (by omega) (by omega) (fun j hj => by rcases Nat.lt_or_ge j k with q | q; exact h3 j q; rw [show j = k by omega]; rw [ruP, decide_eq_false (show ¬ gra lot + rs k ≤ akg it by omega), Bool.and_false]) _ _ _ hW (lv_sub hl [1, 2, 3, 0] rfl)
                · refine lv_iconst (v := nI 1) hx hb dX7_suits_94 (by decide) ?_
                  exact ret_z X hW (v := (nI 1)) (⟨by rw [if_pos (by rw [suiB, decide_eq_true (fst1_lt (P := (ruP fib gra rf ro rs akf akg lot it)) (k := k) (by omega) (by rw [ruP, decide_eq_true c_54, decide_eq_true c_69, decide_eq_true c_91]; rfl)).1, Bool.or_true])], rfl⟩) rfl (by first | rfl | exact (pk_charN (by omega)).1) (by decide) (by decide) dX7_suits_95
      exact loop (ru + 1) 0 (by omega) (by omega) (fun j hj => absurd hj (by omega)) _ _ _ hW (lv_sub hl [1, 2, 3, 0] rfl)
    · refine lv_iconst (v := nI 1) hx hb dX7_suits_30 (by decide) ?_
      exact ret_z X hW (v := (nI 1)) (⟨by rw [if_pos (by rw [suiB, decide_eq_true c_12, decide_eq_true c_27]; rfl)], rfl⟩) rfl (by first | rfl | exact (pk_charN (by omega)).1) (by decide) (by decide) dX7_suits_31

set_option maxRecDepth 100000 in
set_option maxHeartbeats 4000000 in
theorem c_X7_fits (l : Launch) (G : Gt) (a : Nat → Nat) (th lo bi ru ol ob : Nat) (tk : Int) (fib gra res buy lst bst rea bid pri itm akf akg got : Nat → Nat) (pai : Nat → Int) (riv rf ro rs lat bat : Nat → Nat) (val : Nat → Int) (cos row ahe wan giv : Nat → Nat) (Y : va_W) (z y x : Int) (hI : MIa lo bi ru ol ob fib gra res buy lst bst rea bid pri itm akf akg got pai riv rf ro rs) (hz : iR z) (hy : iR y) (hxx : iR x) : Ci l G yX7_fits (ww yX7_fits cX7_fits 4 (some FieldType.boolean)) (RM 3 0 0) [.ref (a 0), .int (zI z), .int (zI y), .int (zI x)] (mW G a th lo bi ru ol ob tk fib gra res buy lst bst rea bid pri itm akf akg got pai riv rf ro rs lat bat val cos row ahe wan giv ++ Y) (fun r w2 => ((¬ ((0 ≤ z ∧ z < ((lo : Nat) : Int)) ∧ 0 ≤ y ∧ y < ((bi : Nat) : Int))) ∧ r = (nI 0) ∧ w2 = (mW G a 1 lo bi ru ol ob tk fib gra res buy lst bst rea bid pri itm akf akg got pai riv rf ro rs lat bat val cos row ahe wan giv ++ Y)) ∨ ((((0 ≤ z ∧ z < ((lo : Nat) : Int)) ∧ 0 ≤ y ∧ y < ((bi : Nat) : Int)) ∧ ¬ (0 ≤ x ∧ x < ((itm y.toNat : Nat) : Int))) ∧ r = (nI 0) ∧ w2 = (mW G a 2 lo bi ru ol ob tk fib gra res buy lst bst rea bid pri itm akf akg got pai riv rf ro rs lat bat val cos row ahe wan giv ++ Y)) ∨ ((((0 ≤ z ∧ z < ((lo : Nat) : Int)) ∧ 0 ≤ y ∧ y < ((bi : Nat) : Int)) ∧ (0 ≤ x ∧ x < ((itm y.toNat : Nat) : Int))) ∧ r = (nI (if suiB fib gra rf ro rs ru akf akg z.toNat (3 * y.toNat + x.toNat) = true then 1 else 0)) ∧ w2 = (mW G a 0 lo bi ru ol ob tk fib gra res buy lst bst rea bid pri itm akf akg got pai riv rf ro rs lat bat val cos row ahe wan giv ++ Y))) := by
  refine Ci.intro (by decide) (Nat.le_of_ble_eq_true rfl) ?_
  intro p e s m args below meth c A X hW ls hl
  have hx := X.exec
  have hb := X.bytes
  have hl : lv_has ls 4 [(0, .ref (a 0)), (1, .int (zI z)), (2, .int (zI y)), (3, .int (zI x))] := hl
  obtain ⟨hlo, hbi, hru, hol, hob, hfib, hgra, hres, hbuy, hlst, hbst, hrea, hbid, hpri, hitm, hakf, hakg, hgot, hriv, hrf, hro, hrs, hpai, hcl, hcb⟩ := id hI
  have hiy := hitm y.toNat
  refine lv_aload_n hx hb dX7_fits_0 rfl (lv_at hl 0 rfl) ?_
  refine lv_aload_n hx hb dX7_fits_1 rfl (lv_at hl 0 rfl) ?_
  refine lv_iload_n hx hb dX7_fits_2 rfl (lv_at hl 1 rfl) ?_
  refine go_i X hW (run_V X hW (As := [.int (zI z)]) (rest := [.ref (a 0)]) 10 0 rfl (c_X7_isLot l G a th lo bi ru ol ob tk fib gra res buy lst bst rea bid pri itm akf akg got pai riv rf ro rs lat bat val cos row ahe wan giv Y (zI z) z rfl (by omega) (by omega) _) (gi_V wq_1203 wq_1205 wq_45 wq_67 wq_1206) rfl hyX7_isLot rfl rfl rfl hl.1 (Nat.le_of_ble_eq_true rfl) ⟨Nat.le_of_ble_eq_true rfl, Nat.le_of_ble_eq_true rfl⟩ ⟨by decide, by decide⟩ dX7_fits_3) (fun r w2 H locs hp hW => ?_)
  obtain ⟨rfl, rfl⟩ := hp
  refine p_if_eq hx hb (tgt := 17) dX7_fits_6 (by decide) (fun c_6 => ?_) (fun c_6 => ?_)
  · refine lv_iconst (v := nI 1) hx hb dX7_fits_17 (by decide) ?_
    refine lv_goto (tgt := 42) hx hb dX7_fits_18 (by decide) ?_
    refine x_put X hW 0 rfl 0 (w2 := (mW G a 1 lo bi ru ol ob tk fib gra res buy lst bst rea bid pri itm akf akg got pai riv rf ro rs lat bat val cos row ahe wan giv ++ Y)) rfl rfl iwX7 tyX7_ok nmX7 (by decide) wq_1080 rfl rfl rfl rfl (Nat.le_of_ble_eq_true rfl) dX7_fits_42 (fun H locs hW => ?_)
    refine lv_aload_n hx hb dX7_fits_45 rfl (lv_at hl 0 rfl) ?_
    refine x_get X hW 0 rfl 0 rfl rfl iwX7 (by decide) wq_1080 rfl dX7_fits_46 ?_
    refine n_if_ne hx hb rfl (by omega) (tgt := 69) dX7_fits_49 (by decide) (fun c_49 => ?_) (fun c_49 => absurd c_49 (by decide))
    refine lv_iconst (v := nI 0) hx hb dX7_fits_69 (by decide) ?_
    exact ret_z X hW (v := (nI 0)) (Or.inl (⟨by omega, rfl, rfl⟩)) rfl (by first | rfl | exact (pk_charN (by omega)).1) (by decide) (by decide) dX7_fits_70
  · refine lv_aload_n hx hb dX7_fits_9 rfl (lv_at hl 0 rfl) ?_
    refine lv_iload_n hx hb dX7_fits_10 rfl (lv_at hl 2 rfl) ?_
    refine go_i X hW (run_V X hW (As := [.int (zI y)]) (rest := [.ref (a 0)]) 10 0 rfl (c_X7_isBid l G a th lo bi ru ol ob tk fib gra res buy lst bst rea bid pri itm akf akg got pai riv rf ro rs lat bat val cos row ahe wan giv Y (zI y) y rfl (by omega) (by omega) _) (gi_V wq_1223 wq_1225 wq_46 wq_67 wq_1226) rfl hyX7_isBid rfl rfl rfl hl.1 (Nat.le_of_ble_eq_true rfl) ⟨Nat.le_of_ble_eq_true rfl, Nat.le_of_ble_eq_true rfl⟩ ⟨by decide, by decide⟩ dX7_fits_11) (fun r w2 H locs hp hW => ?_)
    obtain ⟨rfl, rfl⟩ := hp
    refine p_if_ne hx hb (tgt := 21) dX7_fits_14 (by decide) (fun c_14 => ?_) (fun c_14 => ?_)
    · refine lv_iload_n hx hb dX7_fits_21 rfl (lv_at hl 3 rfl) ?_
      refine lv_iconst (v := nI 0) hx hb dX7_fits_22 (by decide) ?_
      refine lv_aload_n hx hb dX7_fits_23 rfl (lv_at hl 0 rfl) ?_
      refine x_get X hW 0 rfl 16 rfl rfl iwX7 (by decide) wq_1096 rfl dX7_fits_24 ?_
      refine lv_iload_n hx hb dX7_fits_27 rfl (lv_at hl 2 rfl) ?_
      refine r_zn (a := y.toNat) (by omega) ?_
      refine n_iald X hW (n := 40) (f := itm) 10 rfl (by omega) (by decide) dX7_fits_28 ?_
      refine lv_iconst (v := nI 1) hx hb dX7_fits_29 (by decide) ?_
      refine z_isub hx hb (nZ _) (nZ _) dX7_fits_30 ?_
      refine go_i X hW (run_S X hW (As := [.int (zI x), .int (nI 0), .int (zI ((((itm y.toNat) : Nat) : Int) - ((1 : Nat) : Int)))]) (rest := [.ref (a 0)]) (c_X7_isIn l G (mW G a th lo bi ru ol ob tk fib gra res buy lst bst rea bid pri itm akf akg got pai riv rf ro rs lat bat val cos row ahe wan giv ++ Y) (zI x) (nI 0) (zI ((((itm y.toNat) : Nat) : Int) - ((1 : Nat) : Int))) x ((0 : Nat) : Int) ((((itm y.toNat) : Nat) : Int) - ((1 : Nat) : Int)) rfl (nZ _) rfl (by omega) (by omega) (by omega) _) (gi_S wq_1189 wq_1190 wq_67 wq_1191) hyX7_isIn rfl rfl hl.1 (Nat.le_of_ble_eq_true rfl) ⟨Nat.le_of_ble_eq_true rfl, Nat.le_of_ble_eq_true rfl⟩ ⟨by decide, by decide⟩ dX7_fits_31) (fun r w2 H locs hp hW => ?_)
      obtain ⟨rfl, rfl⟩ := hp
      refine p_if_ne hx hb (tgt := 41) dX7_fits_34 (by decide) (fun c_34 => ?_) (fun c_34 => ?_)
      · refine lv_iconst (v := nI 0) hx hb dX7_fits_41 (by decide) ?_
        refine x_put X hW 0 rfl 0 (w2 := (mW G a 0 lo bi ru ol ob tk fib gra res buy lst bst rea bid pri itm akf akg got pai riv rf ro rs lat bat val cos row ahe wan giv ++ Y)) rfl rfl iwX7 tyX7_ok nmX7 (by decide) wq_1080 rfl rfl rfl rfl (Nat.le_of_ble_eq_true rfl) dX7_fits_42 (fun H locs hW => ?_)
        refine lv_aload_n hx hb dX7_fits_45 rfl (lv_at hl 0 rfl) ?_
        refine x_get X hW 0 rfl 0 rfl rfl iwX7 (by decide) wq_1080 rfl dX7_fits_46 ?_
        refine n_if_ne hx hb rfl (by omega) (tgt := 69) dX7_fits_49 (by decide) (fun c_49 => absurd c_49 (by decide)) (fun c_49 => ?_)
        refine lv_aload_n hx hb dX7_fits_52 rfl (lv_at hl 0 rfl) ?_
        refine lv_iload_n hx hb dX7_fits_53 rfl (lv_at hl 1 rfl) ?_
        refine r_zn (a := z.toNat) (by omega) ?_
        refine lv_iconst (v := nI 3) hx hb dX7_fits_54 (by decide) ?_
        refine lv_iload_n hx hb dX7_fits_55 rfl (lv_at hl 2 rfl) ?_
        refine r_zn (a := y.toNat) (by omega) ?_
        refine n_imul hx hb dX7_fits_56 ?_
        refine lv_iload_n hx hb dX7_fits_57 rfl (lv_at hl 3 rfl) ?_
        refine r_zn (a := x.toNat) (by omega) ?_
        refine n_iadd hx hb dX7_fits_58 ?_
        refine go_i X hW (run_V X hW (As := [.int (nI z.toNat), .int (nI ((3 * y.toNat) + x.toNat))]) (rest := []) 10 0 rfl (c_X7_suits l G a 0 lo bi ru ol ob tk fib gra res buy lst bst rea bid pri itm akf akg got pai riv rf ro rs lat bat val cos row ahe wan giv Y z.toNat ((3 * y.toNat) + x.toNat) hI (by omega) (by omega) _) (gi_V wq_1257 wq_1259 wq_51 wq_67 wq_1260) rfl hyX7_suits rfl rfl rfl hl.1 (Nat.le_of_ble_eq_true rfl) ⟨Nat.le_of_ble_eq_true rfl, Nat.le_of_ble_eq_true rfl⟩ ⟨by decide, by decide⟩ dX7_fits_59) (fun r w2 H locs hp hW => ?_)
        obtain ⟨rfl, rfl⟩ := hp
        refine p_if_eq hx hb (tgt := 69) dX7_fits_62 (by decide) (fun c_62 => ?_) (fun c_62 => ?_)
        · refine lv_iconst (v := nI 0) hx hb dX7_fits_69 (by decide) ?_
          exact ret_z X hW (v := (nI 0)) (Or.inr (Or.inr (⟨by omega, by rw [if_neg (by assumption)], rfl⟩))) rfl (by first | rfl | exact (pk_charN (by omega)).1) (by decide) (by decide) dX7_fits_70
        · refine lv_iconst (v := nI 1) hx hb dX7_fits_65 (by decide) ?_
          refine lv_goto (tgt := 70) hx hb dX7_fits_66 (by decide) ?_
          exact ret_z X hW (v := (nI 1)) (Or.inr (Or.inr (⟨by omega, by rw [if_pos (by assumption)], rfl⟩))) rfl (by first | rfl | exact (pk_charN (by omega)).1) (by decide) (by decide) dX7_fits_70
      · refine lv_iconst (v := nI 2) hx hb dX7_fits_37 (by decide) ?_
        refine lv_goto (tgt := 42) hx hb dX7_fits_38 (by decide) ?_
        refine x_put X hW 0 rfl 0 (w2 := (mW G a 2 lo bi ru ol ob tk fib gra res buy lst bst rea bid pri itm akf akg got pai riv rf ro rs lat bat val cos row ahe wan giv ++ Y)) rfl rfl iwX7 tyX7_ok nmX7 (by decide) wq_1080 rfl rfl rfl rfl (Nat.le_of_ble_eq_true rfl) dX7_fits_42 (fun H locs hW => ?_)
        refine lv_aload_n hx hb dX7_fits_45 rfl (lv_at hl 0 rfl) ?_
        refine x_get X hW 0 rfl 0 rfl rfl iwX7 (by decide) wq_1080 rfl dX7_fits_46 ?_
        refine n_if_ne hx hb rfl (by omega) (tgt := 69) dX7_fits_49 (by decide) (fun c_49 => ?_) (fun c_49 => absurd c_49 (by decide))
        refine lv_iconst (v := nI 0) hx hb dX7_fits_69 (by decide) ?_
        exact ret_z X hW (v := (nI 0)) (Or.inr (Or.inl (⟨by omega, rfl, rfl⟩))) rfl (by first | rfl | exact (pk_charN (by omega)).1) (by decide) (by decide) dX7_fits_70
    · refine lv_iconst (v := nI 1) hx hb dX7_fits_17 (by decide) ?_
      refine lv_goto (tgt := 42) hx hb dX7_fits_18 (by decide) ?_
      refine x_put X hW 0 rfl 0 (w2 := (mW G a 1 lo bi ru ol ob tk fib gra res buy lst bst rea bid pri itm akf akg got pai riv rf ro rs lat bat val cos row ahe wan giv ++ Y)) rfl rfl iwX7 tyX7_ok nmX7 (by decide) wq_1080 rfl rfl rfl rfl (Nat.le_of_ble_eq_true rfl) dX7_fits_42 (fun H locs hW => ?_)
      refine lv_aload_n hx hb dX7_fits_45 rfl (lv_at hl 0 rfl) ?_
      refine x_get X hW 0 rfl 0 rfl rfl iwX7 (by decide) wq_1080 rfl dX7_fits_46 ?_
      refine n_if_ne hx hb rfl (by omega) (tgt := 69) dX7_fits_49 (by decide) (fun c_49 => ?_) (fun c_49 => absurd c_49 (by decide))
      refine lv_iconst (v := nI 0) hx hb dX7_fits_69 (by decide) ?_
      exact ret_z X hW (v := (nI 0)) (Or.inl (⟨by omega, rfl, rfl⟩)) rfl (by first | rfl | exact (pk_charN (by omega)).1) (by decide) (by decide) dX7_fits_70

def cntB (p : Nat → Bool) (n : Nat) : Nat := bsum p (fun _ => 1) n
theorem cntB_le (p : Nat → Bool) (n : Nat) : cntB p n ≤ n := by
  have := bsum_le (p := p) (g := fun _ => 1) (c := 1) n (fun _ => Nat.le_refl _)
  unfold cntB; omega
set_option maxRecDepth 100000 in
set_option maxHeartbeats 4000000 in
theorem c_X7_countOf (l : Launch) (G : Gt) (a : Nat → Nat) (th lo bi ru ol ob : Nat) (tk : Int) (fib gra res buy lst bst rea bid pri itm akf akg got : Nat → Nat) (pai : Nat → Int) (riv rf ro rs lat bat : Nat → Nat) (val : Nat → Int) (cos row ahe wan giv : Nat → Nat) (Y : va_W) (z : Int) (g : Nat) (hI : MIa lo bi ru ol ob fib gra res buy lst bst rea bid pri itm akf akg got pai riv rf ro rs) (hz : iR z) (hg : g < 65536) : Ci l G yX7_countOf (ww yX7_countOf cX7_countOf 5 (some FieldType.int)) (RM 3 0 0) [.ref (a 0), .int (zI z), .int (nI g)] (mW G a th lo bi ru ol ob tk fib gra res buy lst bst rea bid pri itm akf akg got pai riv rf ro rs lat bat val cos row ahe wan giv ++ Y) (fun r w2 => ((¬ (0 ≤ z ∧ z ≤ 3 ∧ 97 ≤ g ∧ g ≤ 101)) ∧ r = (nI 0) ∧ w2 = (mW G a 1 lo bi ru ol ob tk fib gra res buy lst bst rea bid pri itm akf akg got pai riv rf ro rs lat bat val cos row ahe wan giv ++ Y)) ∨ ((0 ≤ z ∧ z ≤ 3 ∧ 97 ≤ g ∧ g ≤ 101) ∧ r = (nI (cntB (fun k => (decide (lst k = 111) && decide (fib k = z.toNat)) && decide (gra k = g)) lo)) ∧ w2 = (mW G a 0 lo bi ru ol ob tk fib gra res buy lst bst rea bid pri itm akf akg got pai riv rf ro rs lat bat val cos row ahe wan giv ++ Y))) := by
  refine Ci.intro (by decide) (Nat.le_of_ble_eq_true rfl) ?_
  intro p e s m args below meth c A X hW ls hl
  have hx := X.exec
  have hb := X.bytes
  have hl : lv_has ls 5 [(0, .ref (a 0)), (1, .int (zI z)), (2, .int (nI g))] := hl
  obtain ⟨hlo, hbi, hru, hol, hob, hfib, hgra, hres, hbuy, hlst, hbst, hrea, hbid, hpri, hitm, hakf, hakg, hgot, hriv, hrf, hro, hrs, hpai, hcl, hcb⟩ := id hI
  refine lv_iload_n hx hb dX7_countOf_0 rfl (lv_at hl 1 rfl) ?_
  refine lv_iconst (v := nI 0) hx hb dX7_countOf_1 (by decide) ?_
  refine lv_iconst (v := nI 3) hx hb dX7_countOf_2 (by decide) ?_
  refine go_i X hW (run_S X hW (As := [.int (zI z), .int (nI 0), .int (nI 3)]) (rest := []) (c_X7_isIn l G (mW G a th lo bi ru ol ob tk fib gra res buy lst bst rea bid pri itm akf akg got pai riv rf ro rs lat bat val cos row ahe wan giv ++ Y) (zI z) (nI 0) (nI 3) z ((0 : Nat) : Int) ((3 : Nat) : Int) rfl (nZ _) (nZ _) (by omega) (by omega) (by omega) _) (gi_S wq_1189 wq_1190 wq_67 wq_1191) hyX7_isIn rfl rfl hl.1 (Nat.le_of_ble_eq_true rfl) ⟨Nat.le_of_ble_eq_true rfl, Nat.le_of_ble_eq_true rfl⟩ ⟨by decide, by decide⟩ dX7_countOf_3) (fun r w2 H locs hp hW => ?_)
  obtain ⟨rfl, rfl⟩ := hp
  refine p_if_eq hx hb (tgt := 16) dX7_countOf_6 (by decide) (fun c_6 => ?_) (fun c_6 => ?_)
  · refine lv_aload_n hx hb dX7_countOf_16 rfl (lv_at hl 0 rfl) ?_
    refine lv_iconst (v := nI 1) hx hb dX7_countOf_17 (by decide) ?_
    refine go_i X hW (run_V X hW (As := [.int (nI 1)]) (rest := []) 10 0 rfl (c_X7_fail l G a th lo bi ru ol ob tk fib gra res buy lst bst rea bid pri itm akf akg got pai riv rf ro rs lat bat val cos row ahe wan giv Y 1 _) (gi_V wq_1195 wq_1197 wq_44 wq_67 wq_1198) rfl hyX7_fail rfl rfl rfl hl.1 (Nat.le_of_ble_eq_true rfl) ⟨Nat.le_of_ble_eq_true rfl, Nat.le_of_ble_eq_true rfl⟩ ⟨by decide, by decide⟩ dX7_countOf_18) (fun r w2 H locs hp hW => ?_)
    obtain ⟨rfl, rfl⟩ := hp
    exact ret_i X hW (v := (nI 0)) (Or.inl (⟨by omega, rfl, rfl⟩)) rfl (by decide) (by decide) dX7_countOf_21
  · refine lv_iload_n hx hb dX7_countOf_9 rfl (lv_at hl 2 rfl) ?_
    refine go_i X hW (run_S X hW (As := [.int (nI g)]) (rest := []) (c_X7_isGrade l G (mW G a th lo bi ru ol ob tk fib gra res buy lst bst rea bid pri itm akf akg got pai riv rf ro rs lat bat val cos row ahe wan giv ++ Y) g (by omega) _) (gi_S wq_1192 wq_1193 wq_67 wq_1194) hyX7_isGrade rfl rfl hl.1 (Nat.le_of_ble_eq_true rfl) ⟨Nat.le_of_ble_eq_true rfl, Nat.le_of_ble_eq_true rfl⟩ ⟨by decide, by decide⟩ dX7_countOf_10) (fun r w2 H locs hp hW => ?_)
    obtain ⟨rfl, rfl⟩ := hp
    refine p_if_ne hx hb (tgt := 22) dX7_countOf_13 (by decide) (fun c_13 => ?_) (fun c_13 => ?_)
    · refine lv_aload_n hx hb dX7_countOf_22 rfl (lv_at hl 0 rfl) ?_
      refine lv_iconst (v := nI 0) hx hb dX7_countOf_23 (by decide) ?_
      refine x_put X hW 0 rfl 0 (w2 := (mW G a 0 lo bi ru ol ob tk fib gra res buy lst bst rea bid pri itm akf akg got pai riv rf ro rs lat bat val cos row ahe wan giv ++ Y)) rfl rfl iwX7 tyX7_ok nmX7 (by decide) wq_1080 rfl rfl rfl rfl (Nat.le_of_ble_eq_true rfl) dX7_countOf_24 (fun H locs hW => ?_)
      refine lv_iconst (v := nI 0) hx hb dX7_countOf_27 (by decide) ?_
      refine lv_istore_n (lv' := [(3, .int (nI 0)), (0, .ref (a 0)), (1, .int (zI z)), (2, .int (nI g))]) hx hb dX7_countOf_28 rfl hl (by decide) rfl (fun ls hl => ?_)
      refine lv_iconst (v := nI 0) hx hb dX7_countOf_29 (by decide) ?_
      refine lv_istore (lv' := [(4, .int (nI 0)), (3, .int (nI 0)), (0, .ref (a 0)), (1, .int (zI z)), (2, .int (nI g))]) hx hb dX7_countOf_30 hl (by decide) rfl (fun ls hl => ?_)
      have loop : ∀ (n : Nat) (k : Nat), (0 ≤ z ∧ z ≤ 3) → lo + 1 ≤ k + n → k ≤ lo → ∀ (H : Heap) (locs : List Loc) (ls : Array Slot), Wd G A s (mW G a 0 lo bi ru ol ob tk fib gra res buy lst bst rea bid pri itm akf akg got pai riv rf ro rs lat bat val cos row ahe wan giv ++ Y) H locs → lv_has ls 5 [(0, .ref (a 0)), (1, .int (zI z)), (2, .int (nI g)), (3, .int (nI (cntB (fun k => (decide (lst k = 111) && decide (fib k = z.toNat)) && decide (gra k = g)) k))), (4, .int (nI k))] → W p l e (RM 3 0 0) s m args below meth c H locs 0 0 (MQ below (Qi G A (fun r w2 => ((¬ (0 ≤ z ∧ z ≤ 3 ∧ 97 ≤ g ∧ g ≤ 101)) ∧ r = (nI 0) ∧ w2 = (mW G a 1 lo bi ru ol ob tk fib gra res buy lst bst rea bid pri itm akf akg got pai riv rf ro rs lat bat val cos row ahe wan giv ++ Y)) ∨ ((0 ≤ z ∧ z ≤ 3 ∧ 97 ≤ g ∧ g ≤ 101) ∧ r = (nI (cntB (fun k => (decide (lst k = 111) && decide (fib k = z.toNat)) && decide (gra k = g)) lo)) ∧ w2 = (mW G a 0 lo bi ru ol ob tk fib gra res buy lst bst rea bid pri itm akf akg got pai riv rf ro rs lat bat val cos row ahe wan giv ++ Y)))) args s (RM 3 0 0).cells (RM 3 0 0).slots A) (F0 m 32 ls []) := by
        intro n
        induction n with
        | zero => intro k hq h1 h2; exact absurd h1 (by omega)
        | succ n ih =>
          intro k hq h1 h2 H locs ls hW hl
          have hcn := cntB_le (fun k => (decide (lst k = 111) && decide (fib k = z.toNat)) && decide (gra k = g)) k
          refine lv_iload hx hb dX7_countOf_32 (lv_at hl 4 rfl) ?_
          refine lv_aload_n hx hb dX7_countOf_34 rfl (lv_at hl 0 rfl) ?_
          refine x_get X hW 0 rfl 1 rfl rfl iwX7 (by decide) wq_1081 rfl dX7_countOf_35 ?_
          refine n_icmp_ge hx hb rfl rfl (by omega) (by omega) (tgt := 84) dX7_countOf_38 (by decide) (fun c_38 => ?_) (fun c_38 => ?_)
          · refine lv_iload_n hx hb dX7_countOf_84 rfl (lv_at hl 3 rfl) ?_
            exact ret_i X hW (v := (nI (cntB (fun k => (decide (lst k = 111) && decide (fib k = z.toNat)) && decide (gra k = g)) k))) (Or.inr (⟨by omega, by rw [show lo = k by omega], rfl⟩)) rfl (by decide) (by decide) dX7_countOf_85
          · refine lv_aload_n hx hb dX7_countOf_41 rfl (lv_at hl 0 rfl) ?_
            refine x_get X hW 0 rfl 11 rfl rfl iwX7 (by decide) wq_1091 rfl dX7_countOf_42 ?_
            refine lv_iload hx hb dX7_countOf_45 (lv_at hl 4 rfl) ?_
            refine n_cald X hW (n := 40) (f := lst) 5 rfl (by omega) (by decide) dX7_countOf_47 ?_
            refine lv_bipush (v := nI 111) hx hb dX7_countOf_48 (by decide) ?_
            refine n_icmp_ne hx hb rfl rfl (by have := hlst k; omega) (by omega) (tgt := 78) dX7_countOf_50 (by decide) (fun c_50 => ?_) (fun c_50 => ?_)
            · refine lv_iinc (v := (nI (k + 1))) (lv' := [(4, .int (nI (k + 1))), (0, .ref (a 0)), (1, .int (zI z)), (2, .int (nI g)), (3, .int (nI (cntB (fun k => (decide (lst k = 111) && decide (fib k = z.toNat)) && decide (gra k = g)) k)))]) hx hb dX7_countOf_78 hl (k := 4) rfl (nI_add _ _) (by decide) rfl (fun ls hl => ?_)
              refine lv_goto (tgt := 32) hx hb dX7_countOf_81 (by decide) ?_
              exact ih (k + 1) hq (by omega) (by omega) _ _ _ hW (by rw [show cntB (fun k => (decide (lst k = 111) && decide (fib k = z.toNat)) && decide (gra k = g)) (k + 1) = (cntB (fun k => (decide (lst k = 111) && decide (fib k = z.toNat)) && decide (gra k = g)) k) from bsum_f (by show (_ && _) = false; rw [decide_eq_false c_50]; rfl)]; exact lv_sub hl [1, 2, 3, 4, 0] rfl)
            · refine lv_aload_n hx hb dX7_countOf_53 rfl (lv_at hl 0 rfl) ?_
              refine x_get X hW 0 rfl 7 rfl rfl iwX7 (by decide) wq_1087 rfl dX7_countOf_54 ?_
              refine lv_iload hx hb dX7_countOf_57 (lv_at hl 4 rfl) ?_
              refine n_iald X hW (n := 40) (f := fib) 1 rfl (by omega) (by decide) dX7_countOf_59 ?_
              refine lv_iload_n hx hb dX7_countOf_60 rfl (lv_at hl 1 rfl) ?_
              refine z_icmp_ne hx hb (nZ _) rfl (by have := hfib k; omega) (by omega) (tgt := 78) dX7_countOf_61 (by decide) (fun c_61 => ?_) (fun c_61 => ?_)
              · refine lv_iinc (v := (nI (k + 1))) (lv' := [(4, .int (nI (k + 1))), (0, .ref (a 0)), (1, .int (zI z)), (2, .int (nI g)), (3, .int (nI (cntB (fun k => (decide (lst k = 111) && decide (fib k = z.toNat)) && decide (gra k = g)) k)))]) hx hb dX7_countOf_78 hl (k := 4) rfl (nI_add _ _) (by decide) rfl (fun ls hl => ?_)
                refine lv_goto (tgt := 32) hx hb dX7_countOf_81 (by decide) ?_
                exact ih (k + 1) hq (by omega) (by omega) _ _ _ hW (by rw [show cntB (fun k => (decide (lst k = 111) && decide (fib k = z.toNat)) && decide (gra k = g)) (k + 1) = (cntB (fun k => (decide (lst k = 111) && decide (fib k = z.toNat)) && decide (gra k = g)) k) from bsum_f (by show (_ && _) = false; rw [decide_eq_false (show ¬ fib k = z.toNat by omega), Bool.and_false]; rfl)]; exact lv_sub hl [1, 2, 3, 4, 0] rfl)
              · refine lv_aload_n hx hb dX7_countOf_64 rfl (lv_at hl 0 rfl) ?_
                refine x_get X hW 0 rfl 8 rfl rfl iwX7 (by decide) wq_1088 rfl dX7_countOf_65 ?_
                refine lv_iload hx hb dX7_countOf_68 (lv_at hl 4 rfl) ?_
                refine n_iald X hW (n := 40) (f := gra) 2 rfl (by omega) (by decide) dX7_countOf_70 ?_
                refine lv_iload_n hx hb dX7_countOf_71 rfl (lv_at hl 2 rfl) ?_
                refine n_icmp_ne hx hb rfl rfl (by have := hgra k; omega) (by omega) (tgt := 78) dX7_countOf_72 (by decide) (fun c_72 => ?_) (fun c_72 => ?_)
                · refine lv_iinc (v := (nI (k + 1))) (lv' := [(4, .int (nI (k + 1))), (0, .ref (a 0)), (1, .int (zI z)), (2, .int (nI g)), (3, .int (nI (cntB (fun k => (decide (lst k = 111) && decide (fib k = z.toNat)) && decide (gra k = g)) k)))]) hx hb dX7_countOf_78 hl (k := 4) rfl (nI_add _ _) (by decide) rfl (fun ls hl => ?_)
                  refine lv_goto (tgt := 32) hx hb dX7_countOf_81 (by decide) ?_
                  exact ih (k + 1) hq (by omega) (by omega) _ _ _ hW (by rw [show cntB (fun k => (decide (lst k = 111) && decide (fib k = z.toNat)) && decide (gra k = g)) (k + 1) = (cntB (fun k => (decide (lst k = 111) && decide (fib k = z.toNat)) && decide (gra k = g)) k) from bsum_f (by show (_ && _) = false; rw [decide_eq_false c_72, Bool.and_false])]; exact lv_sub hl [1, 2, 3, 4, 0] rfl)
                · refine lv_iinc (v := (nI ((cntB (fun k => (decide (lst k = 111) && decide (fib k = z.toNat)) && decide (gra k = g)) k) + 1))) (lv' := [(3, .int (nI ((cntB (fun k => (decide (lst k = 111) && decide (fib k = z.toNat)) && decide (gra k = g)) k) + 1))), (0, .ref (a 0)), (1, .int (zI z)), (2, .int (nI g)), (4, .int (nI k))]) hx hb dX7_countOf_75 hl (k := 3) rfl (nI_add _ _) (by decide) rfl (fun ls hl => ?_)
                  refine lv_iinc (v := (nI (k + 1))) (lv' := [(4, .int (nI (k + 1))), (3, .int (nI ((cntB (fun k => (decide (lst k = 111) && decide (fib k = z.toNat)) && decide (gra k = g)) k) + 1))), (0, .ref (a 0)), (1, .int (zI z)), (2, .int (nI g))]) hx hb dX7_countOf_78 hl (k := 4) rfl (nI_add _ _) (by decide) rfl (fun ls hl => ?_)
                  refine lv_goto (tgt := 32) hx hb dX7_countOf_81 (by decide) ?_
                  exact ih (k + 1) hq (by omega) (by omega) _ _ _ hW (by rw [show cntB (fun k => (decide (lst k = 111) && decide (fib k = z.toNat)) && decide (gra k = g)) (k + 1) = ((cntB (fun k => (decide (lst k = 111) && decide (fib k = z.toNat)) && decide (gra k = g)) k) + 1) from bsum_t (by show (_ && _) = true; rw [decide_eq_true c_50, decide_eq_true (show fib k = z.toNat by omega), decide_eq_true c_72]; rfl)]; exact lv_sub hl [2, 3, 4, 1, 0] rfl)
      exact loop (lo + 1) 0 (by omega) (by omega) (by omega) _ _ _ hW (lv_sub hl [2, 3, 4, 1, 0] rfl)
    · refine lv_aload_n hx hb dX7_countOf_16 rfl (lv_at hl 0 rfl) ?_
      refine lv_iconst (v := nI 1) hx hb dX7_countOf_17 (by decide) ?_
      refine go_i X hW (run_V X hW (As := [.int (nI 1)]) (rest := []) 10 0 rfl (c_X7_fail l G a th lo bi ru ol ob tk fib gra res buy lst bst rea bid pri itm akf akg got pai riv rf ro rs lat bat val cos row ahe wan giv Y 1 _) (gi_V wq_1195 wq_1197 wq_44 wq_67 wq_1198) rfl hyX7_fail rfl rfl rfl hl.1 (Nat.le_of_ble_eq_true rfl) ⟨Nat.le_of_ble_eq_true rfl, Nat.le_of_ble_eq_true rfl⟩ ⟨by decide, by decide⟩ dX7_countOf_18) (fun r w2 H locs hp hW => ?_)
      obtain ⟨rfl, rfl⟩ := hp
      exact ret_i X hW (v := (nI 0)) (Or.inl (⟨by omega, rfl, rfl⟩)) rfl (by decide) (by decide) dX7_countOf_21

