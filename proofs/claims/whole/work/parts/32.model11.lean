theorem i2l_z {z : Int} (h : iR z) : (zI z).toInt64 = lZ z := by
  rw [← Int64.ofInt_int32ToInt, zI_toInt h.1 h.2]; rfl
theorem lZ_add (x y : Int) : lZ x + lZ y = lZ (x + y) := (Int64.ofInt_add x y).symm
theorem nI_div3 : ∀ x, x < 120 → nI x / nI 3 = nI (x / 3) := by decide +kernel
section XM4
variable {p : Program} {l : Launch} {e : Env} {R : Room} {s : State} {m : MethodId} {args : Array Value} {below : List Frame} {meth : Method} {c : Code} {H : Heap} {locs : List Loc} {cells slots : Nat} {Q : State → Prop}
variable {cc : ByteArray} {nL pc : Nat} {ls : Array Slot} {rest : List Value}
theorem n_idiv3 (hx : p.tables.exec = Jvm.exec) (hb : c.code = cc) {a : Nat} (ha : a < 120) (hdg : decode cc pc = .ok (.idiv, 1)) (k : W p l e R s m args below meth c H locs cells slots Q (F0 m (pc + 1) ls (.int (nI (a / 3)) :: rest))) : W p l e R s m args below meth c H locs cells slots Q (F0 m pc ls (.int (nI 3) :: .int (nI a) :: rest)) :=
  lv_idiv hx hb hdg (by decide) (by rw [nI_div3 a ha]; exact k)
end XM4
/-- why a bid loses -/
def whyC (ic : Nat → Nat) (v : Nat → Int) (bd : Nat → Nat) (ob set k : Nat) : Nat := if ic k = 0 then 110 else if v (2 ^ k) = -1000000 then 108 else if v (2 ^ k) < 0 then 112 else if fst1 (fun o => set.testBit o && decide (bd o = bd k)) ob < ob then 98 else 109
theorem whyC_lt (ic : Nat → Nat) (v : Nat → Int) (bd : Nat → Nat) (ob set k : Nat) : whyC ic v bd ob set k < 65536 := by
  unfold whyC; repeat' split
  all_goals decide
set_option maxRecDepth 100000 in
set_option maxHeartbeats 4000000 in
theorem c_X7_why (l : Launch) (G : Gt) (a : Nat → Nat) (th lo bi ru ol ob : Nat) (tk : Int) (fib gra res buy lst bst rea bid pri itm akf akg got : Nat → Nat) (pai : Nat → Int) (riv rf ro rs lat bat : Nat → Nat) (val : Nat → Int) (cos row ahe wan giv : Nat → Nat) (Y : va_W) (set k : Nat) (hI : MIa lo bi ru ol ob fib gra res buy lst bst rea bid pri itm akf akg got pai riv rf ro rs) (hset : set < 256) (hk : k < ob) (hbat : ∀ k, bat k < 40) (hval : ∀ x, x < 256 → -2000000 ≤ val x ∧ val x ≤ 2000000) : Ci l G yX7_why (ww yX7_why cX7_why 5 (some FieldType.char)) (RM 0 0 0) [.ref (a 0), .int (nI set), .int (nI k)] (mW G a th lo bi ru ol ob tk fib gra res buy lst bst rea bid pri itm akf akg got pai riv rf ro rs lat bat val cos row ahe wan giv ++ Y) (fun r w2 => ∃ rv : Nat → Nat, r = nI (whyC (fun k => itm (bat k)) val (fun k => bid (bat k)) ob set k) ∧ (∀ x, x ≠ bat k → rv x = riv x) ∧ ((whyC (fun k => itm (bat k)) val (fun k => bid (bat k)) ob set k) = 98 → rv (bat k) = bat (fst1 (fun o => set.testBit o && decide (bid (bat o) = bid (bat k))) ob)) ∧ (∀ x, rv x < 40) ∧ w2 = (mW G a th lo bi ru ol ob tk fib gra res buy lst bst rea bid pri itm akf akg got pai rv rf ro rs lat bat val cos row ahe wan giv ++ Y)) := by
  refine Ci.intro (by decide) (Nat.le_of_ble_eq_true rfl) ?_
  intro p e s m args below meth c A X hW ls hl
  have hx := X.exec
  have hb := X.bytes
  have hl : lv_has ls 5 [(0, .ref (a 0)), (1, .int (nI set)), (2, .int (nI k))] := hl
  obtain ⟨hlo, hbi, hru, hol, hob, hfib, hgra, hres, hbuy, hlst, hbst, hrea, hbid, hpri, hitm, hakf, hakg, hgot, hriv, hrf, hro, hrs, hpai, hcl, hcb⟩ := id hI
  refine lv_aload_n hx hb dX7_why_0 rfl (lv_at hl 0 rfl) ?_
  refine x_get X hW 0 rfl 26 rfl rfl iwX7 (by decide) wq_1106 rfl dX7_why_1 ?_
  refine lv_iload_n hx hb dX7_why_4 rfl (lv_at hl 2 rfl) ?_
  refine n_iald X hW (n := 8) (f := bat) 20 rfl (by omega) (by decide) dX7_why_5 ?_
  refine lv_istore_n (lv' := [(3, .int (nI (bat k))), (0, .ref (a 0)), (1, .int (nI set)), (2, .int (nI k))]) hx hb dX7_why_6 rfl hl (by decide) rfl (fun ls hl => ?_)
  refine lv_aload_n hx hb dX7_why_7 rfl (lv_at hl 1 rfl) ?_
  refine x_get X hW 0 rfl 16 rfl rfl iwX7 (by decide) wq_1096 rfl dX7_why_8 ?_
  refine lv_iload_n hx hb dX7_why_11 rfl (lv_at hl 0 rfl) ?_
  refine n_iald X hW (n := 40) (f := itm) 10 rfl (hbat k) (by decide) dX7_why_12 ?_
  refine n_if_ne hx hb rfl (by have := hitm (bat k); omega) (tgt := 19) dX7_why_13 (by decide) (fun c_13 => ?_) (fun c_13 => ?_)
  · refine lv_aload_n hx hb dX7_why_19 rfl (lv_at hl 1 rfl) ?_
    refine x_get X hW 0 rfl 27 rfl rfl iwX7 (by decide) wq_1107 rfl dX7_why_20 ?_
    have hk2 := p2_le (k := k) (by omega)
    refine lv_iconst (v := nI 1) hx hb dX7_why_23 (by decide) ?_
    refine lv_iload_n hx hb dX7_why_24 rfl (lv_at hl 3 rfl) ?_
    refine n_ishl1 hx hb (by omega) dX7_why_25 ?_
    refine z_iald X hW (n := 256) (f := val) 21 rfl (by omega) (by decide) dX7_why_26 ?_
    refine lv_ldc (v := (-1000000 : Int32)) hx hb X.own (X.ws _ wq_1247) dX7_why_27 ?_
    rw [show (-1000000 : Int32) = zI (-1000000) by decide]
    refine z_icmp_ne hx hb rfl rfl (by have := hval (2 ^ k) (by omega); omega) (by omega) (tgt := 35) dX7_why_29 (by decide) (fun c_29 => ?_) (fun c_29 => ?_)
    · refine lv_aload_n hx hb dX7_why_35 rfl (lv_at hl 1 rfl) ?_
      refine x_get X hW 0 rfl 27 rfl rfl iwX7 (by decide) wq_1107 rfl dX7_why_36 ?_
      have hk2 := p2_le (k := k) (by omega)
      refine lv_iconst (v := nI 1) hx hb dX7_why_39 (by decide) ?_
      refine lv_iload_n hx hb dX7_why_40 rfl (lv_at hl 3 rfl) ?_
      refine n_ishl1 hx hb (by omega) dX7_why_41 ?_
      refine z_iald X hW (n := 256) (f := val) 21 rfl (by omega) (by decide) dX7_why_42 ?_
      refine z_if_ge hx hb rfl (by have := hval (2 ^ k) (by omega); omega) (tgt := 49) dX7_why_43 (by decide) (fun c_43 => ?_) (fun c_43 => ?_)
      · refine lv_iconst (v := nI 0) hx hb dX7_why_49 (by decide) ?_
        refine lv_istore (lv' := [(4, .int (nI 0)), (3, .int (nI (bat k))), (0, .ref (a 0)), (1, .int (nI set)), (2, .int (nI k))]) hx hb dX7_why_50 hl (by decide) rfl (fun ls hl => ?_)
        have loop : ∀ (n : Nat) (o : Nat), ob + 1 ≤ o + n → o ≤ ob → (∀ j, j < o → (fun o => set.testBit o && decide (bid (bat o) = bid (bat k))) j = false) → ∀ (H : Heap) (locs : List Loc) (ls : Array Slot), Wd G A s (mW G a th lo bi ru ol ob tk fib gra res buy lst bst rea bid pri itm akf akg got pai riv rf ro rs lat bat val cos row ahe wan giv ++ Y) H locs → lv_has ls 5 [(0, .ref (a 0)), (1, .int (nI set)), (2, .int (nI k)), (3, .int (nI (bat k))), (4, .int (nI o))] → W p l e (RM 0 0 0) s m args below meth c H locs 0 0 (MQ below (Qi G A (fun r w2 => ∃ rv : Nat → Nat, r = nI (whyC (fun k => itm (bat k)) val (fun k => bid (bat k)) ob set k) ∧ (∀ x, x ≠ bat k → rv x = riv x) ∧ ((whyC (fun k => itm (bat k)) val (fun k => bid (bat k)) ob set k) = 98 → rv (bat k) = bat (fst1 (fun o => set.testBit o && decide (bid (bat o) = bid (bat k))) ob)) ∧ (∀ x, rv x < 40) ∧ w2 = (mW G a th lo bi ru ol ob tk fib gra res buy lst bst rea bid pri itm akf akg got pai rv rf ro rs lat bat val cos row ahe wan giv ++ Y))) args s (RM 0 0 0).cells (RM 0 0 0).slots A) (F0 m 52 ls []) := by
          intro n
          induction n with
          | zero => intro o h1 h2 h3; exact absurd h1 (by omega)
          | succ n ih =>
            intro o h1 h2 h3 H locs ls hW hl
            refine lv_iload hx hb dX7_why_52 (lv_at hl 4 rfl) ?_
            refine lv_aload_n hx hb dX7_why_54 rfl (lv_at hl 0 rfl) ?_
            refine x_get X hW 0 rfl 5 rfl rfl iwX7 (by decide) wq_1085 rfl dX7_why_55 ?_
            refine n_icmp_ge hx hb rfl rfl (by omega) (by omega) (tgt := 114) dX7_why_58 (by decide) (fun c_58 => ?_) (fun c_58 => ?_)
            · refine lv_bipush (v := nI 109) hx hb dX7_why_114 (by decide) ?_
              have hwc : (whyC (fun k => itm (bat k)) val (fun k => bid (bat k)) ob set k) = 109 := by unfold whyC; rw [if_neg (show ¬ itm (bat k) = 0 by omega), if_neg c_29, if_neg (show ¬ val (2 ^ k) < 0 by omega), fst1_no (fun j hj => h3 j (by omega)), if_neg (Nat.lt_irrefl ob)]
              exact ret_z X hW (v := (nI 109)) (⟨riv, by rw [hwc], fun _ _ => rfl, fun q => absurd q (by rw [hwc]; decide), hriv, rfl⟩) rfl (by first | rfl | exact (pk_charN (by omega)).1) (by decide) (by decide) dX7_why_116
            · refine lv_iload_n hx hb dX7_why_61 rfl (lv_at hl 1 rfl) ?_
              refine lv_iload hx hb dX7_why_62 (lv_at hl 4 rfl) ?_
              refine n_ishr hx hb (by omega) (by omega) dX7_why_64 ?_
              refine lv_iconst (v := nI 1) hx hb dX7_why_65 (by decide) ?_
              refine n_iand hx hb dX7_why_66 ?_
              refine lv_iconst (v := nI 1) hx hb dX7_why_67 (by decide) ?_
              refine n_icmp_ne hx hb rfl rfl (by have := sh1_le set o; omega) (by omega) (tgt := 108) dX7_why_68 (by decide) (fun c_68 => ?_) (fun c_68 => ?_)
              · refine lv_iinc (v := (nI (o + 1))) (lv' := [(4, .int (nI (o + 1))), (0, .ref (a 0)), (1, .int (nI set)), (2, .int (nI k)), (3, .int (nI (bat k)))]) hx hb dX7_why_108 hl (k := 4) rfl (nI_add _ _) (by decide) rfl (fun ls hl => ?_)
                refine lv_goto (tgt := 52) hx hb dX7_why_111 (by decide) ?_
                exact ih (o + 1) (by omega) (by omega) (fun j hj => by rcases Nat.lt_or_ge j o with q | q; exact h3 j q; rw [show j = o by omega]; show (_ && _) = false; rw [sh1_f c_68]; rfl) _ _ _ hW (lv_sub hl [1, 2, 3, 4, 0] rfl)
              · refine lv_aload_n hx hb dX7_why_71 rfl (lv_at hl 0 rfl) ?_
                refine x_get X hW 0 rfl 14 rfl rfl iwX7 (by decide) wq_1094 rfl dX7_why_72 ?_
                refine lv_aload_n hx hb dX7_why_75 rfl (lv_at hl 0 rfl) ?_
                refine x_get X hW 0 rfl 26 rfl rfl iwX7 (by decide) wq_1106 rfl dX7_why_76 ?_
                refine lv_iload hx hb dX7_why_79 (lv_at hl 4 rfl) ?_
                refine n_iald X hW (n := 8) (f := bat) 20 rfl (by omega) (by decide) dX7_why_81 ?_
                refine n_iald X hW (n := 40) (f := bid) 8 rfl (hbat o) (by decide) dX7_why_82 ?_
                refine lv_aload_n hx hb dX7_why_83 rfl (lv_at hl 0 rfl) ?_
                refine x_get X hW 0 rfl 14 rfl rfl iwX7 (by decide) wq_1094 rfl dX7_why_84 ?_
                refine lv_iload_n hx hb dX7_why_87 rfl (lv_at hl 3 rfl) ?_
                refine n_iald X hW (n := 40) (f := bid) 8 rfl (hbat k) (by decide) dX7_why_88 ?_
                refine n_icmp_ne hx hb rfl rfl (by have := hbid (bat o); omega) (by have := hbid (bat k); omega) (tgt := 108) dX7_why_89 (by decide) (fun c_89 => ?_) (fun c_89 => ?_)
                · refine lv_iinc (v := (nI (o + 1))) (lv' := [(4, .int (nI (o + 1))), (0, .ref (a 0)), (1, .int (nI set)), (2, .int (nI k)), (3, .int (nI (bat k)))]) hx hb dX7_why_108 hl (k := 4) rfl (nI_add _ _) (by decide) rfl (fun ls hl => ?_)
                  refine lv_goto (tgt := 52) hx hb dX7_why_111 (by decide) ?_
                  exact ih (o + 1) (by omega) (by omega) (fun j hj => by rcases Nat.lt_or_ge j o with q | q; exact h3 j q; rw [show j = o by omega]; show (_ && _) = false; rw [decide_eq_false c_89, Bool.and_false]) _ _ _ hW (lv_sub hl [1, 2, 3, 4, 0] rfl)
                · refine lv_aload_n hx hb dX7_why_92 rfl (lv_at hl 0 rfl) ?_
                  refine x_get X hW 0 rfl 21 rfl rfl iwX7 (by decide) wq_1101 rfl dX7_why_93 ?_
                  refine lv_iload_n hx hb dX7_why_96 rfl (lv_at hl 3 rfl) ?_
                  refine lv_aload_n hx hb dX7_why_97 rfl (lv_at hl 0 rfl) ?_
                  refine x_get X hW 0 rfl 26 rfl rfl iwX7 (by decide) wq_1106 rfl dX7_why_98 ?_
                  refine lv_iload hx hb dX7_why_101 (lv_at hl 4 rfl) ?_
                  refine n_iald X hW (n := 8) (f := bat) 20 rfl (by omega) (by decide) dX7_why_103 ?_
                  refine n_iast X hW (n := 40) (f := riv) 15 rfl (w2 := (mW G a th lo bi ru ol ob tk fib gra res buy lst bst rea bid pri itm akf akg got pai (va_up riv (bat k) (bat o)) rf ro rs lat bat val cos row ahe wan giv ++ Y)) rfl (hbat k) (by decide) dX7_why_104 (fun H locs hW => ?_)
                  refine lv_bipush (v := nI 98) hx hb dX7_why_105 (by decide) ?_
                  have hf1 : fst1 (fun o => set.testBit o && decide (bid (bat o) = bid (bat k))) ob = o := fst1_at (by omega) h3 (by rw [sh1_t c_68, decide_eq_true c_89]; rfl)
                  have hwc : (whyC (fun k => itm (bat k)) val (fun k => bid (bat k)) ob set k) = 98 := by unfold whyC; rw [if_neg (show ¬ itm (bat k) = 0 by omega), if_neg c_29, if_neg (show ¬ val (2 ^ k) < 0 by omega), hf1, if_pos (show o < ob by omega)]
                  exact ret_z X hW (v := (nI 98)) (⟨va_up riv (bat k) (bat o), by rw [hwc], fun x hx => by unfold va_up; rw [if_neg hx], fun _ => by unfold va_up; rw [if_pos rfl, hf1], fun x => by unfold va_up; split; exact hbat o; exact hriv x, rfl⟩) rfl (by first | rfl | exact (pk_charN (by omega)).1) (by decide) (by decide) dX7_why_107
        exact loop (ob + 1) 0 (by omega) (by omega) (fun j hj => absurd hj (Nat.not_lt_zero j)) _ _ _ hW (lv_sub hl [2, 3, 4, 1, 0] rfl)
      · refine lv_bipush (v := nI 112) hx hb dX7_why_46 (by decide) ?_
        have hwc : (whyC (fun k => itm (bat k)) val (fun k => bid (bat k)) ob set k) = 112 := by unfold whyC; rw [if_neg (show ¬ itm (bat k) = 0 by omega), if_neg c_29, if_pos (show val (2 ^ k) < 0 by omega)]
        exact ret_z X hW (v := (nI 112)) (⟨riv, by rw [hwc], fun _ _ => rfl, fun q => absurd q (by rw [hwc]; decide), hriv, rfl⟩) rfl (by first | rfl | exact (pk_charN (by omega)).1) (by decide) (by decide) dX7_why_48
    · refine lv_bipush (v := nI 108) hx hb dX7_why_32 (by decide) ?_
      have hwc : (whyC (fun k => itm (bat k)) val (fun k => bid (bat k)) ob set k) = 108 := by unfold whyC; rw [if_neg (show ¬ itm (bat k) = 0 by omega), if_pos c_29]
      exact ret_z X hW (v := (nI 108)) (⟨riv, by rw [hwc], fun _ _ => rfl, fun q => absurd q (by rw [hwc]; decide), hriv, rfl⟩) rfl (by first | rfl | exact (pk_charN (by omega)).1) (by decide) (by decide) dX7_why_34
  · refine lv_bipush (v := nI 110) hx hb dX7_why_16 (by decide) ?_
    have hwc : (whyC (fun k => itm (bat k)) val (fun k => bid (bat k)) ob set k) = 110 := by unfold whyC; rw [if_pos (show itm (bat k) = 0 by omega)]
    exact ret_z X hW (v := (nI 110)) (⟨riv, by rw [hwc], fun _ _ => rfl, fun q => absurd q (by rw [hwc]; decide), hriv, rfl⟩) rfl (by first | rfl | exact (pk_charN (by omega)).1) (by decide) (by decide) dX7_why_18

