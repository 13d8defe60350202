theorem bsum_pos {p : Nat → Bool} {g : Nat → Nat} {n k : Nat} (hk : k < n) (hp : p k = true) : g k ≤ bsum p g n := by
  induction n with
  | zero => omega
  | succ n ih =>
    rw [bsum]
    by_cases q : k = n
    · subst q; rw [if_pos hp]; omega
    · have := ih (by omega); omega
set_option maxRecDepth 100000 in
set_option maxHeartbeats 4000000 in
theorem c_X7_offer (l : Launch) (G : Gt) (a : Nat → Nat) (th lo bi ru ol ob : Nat) (tk : Int) (fib gra res buy lst bst rea bid pri itm akf akg got : Nat → Nat) (pai : Nat → Int) (riv rf ro rs lat bat : Nat → Nat) (val : Nat → Int) (cos row ahe wan giv : Nat → Nat) (Y : va_W) (z y : Int) (g : Nat) (hI : MIa lo bi ru ol ob fib gra res buy lst bst rea bid pri itm akf akg got pai riv rf ro rs) (hz : iR z) (hg : g < 65536) (hy : iR y) : Ci l G yX7_offer (ww yX7_offer cX7_offer 4 (some FieldType.int)) (RM 3 0 0) [.ref (a 0), .int (zI z), .int (nI g), .int (zI y)] (mW G a th lo bi ru ol ob tk fib gra res buy lst bst rea bid pri itm akf akg got pai riv rf ro rs lat bat val cos row ahe wan giv ++ Y) (fun r w2 => ((¬ (0 ≤ z ∧ z ≤ 3 ∧ 97 ≤ g ∧ g ≤ 101 ∧ 0 ≤ y ∧ y ≤ 999)) ∧ r = (nI 0) ∧ w2 = (mW G a 1 lo bi ru ol ob tk fib gra res buy lst bst rea bid pri itm akf akg got pai riv rf ro rs lat bat val cos row ahe wan giv ++ Y)) ∨ (((0 ≤ z ∧ z ≤ 3 ∧ 97 ≤ g ∧ g ≤ 101 ∧ 0 ≤ y ∧ y ≤ 999) ∧ (ol = 8 ∨ lo = 40)) ∧ r = (nI 0) ∧ w2 = (mW G a 2 lo bi ru ol ob tk fib gra res buy lst bst rea bid pri itm akf akg got pai riv rf ro rs lat bat val cos row ahe wan giv ++ Y)) ∨ (((0 ≤ z ∧ z ≤ 3 ∧ 97 ≤ g ∧ g ≤ 101 ∧ 0 ≤ y ∧ y ≤ 999) ∧ ol < 8 ∧ lo < 40) ∧ r = (nI lo) ∧ w2 = (mW G a 0 (lo + 1) bi ru (ol + 1) ob tk (va_up fib lo z.toNat) (va_up gra lo g) (va_up res lo y.toNat) buy (va_up lst lo 111) bst rea bid pri itm akf akg got pai riv rf ro rs lat bat val cos row ahe wan giv ++ Y))) := by
  refine Ci.intro (by decide) (Nat.le_of_ble_eq_true rfl) ?_
  intro p e s m args below meth c A X hW ls hl
  have hx := X.exec
  have hb := X.bytes
  have hl : lv_has ls 4 [(0, .ref (a 0)), (1, .int (zI z)), (2, .int (nI g)), (3, .int (zI y))] := hl
  obtain ⟨hlo, hbi, hru, hol, hob, hfib, hgra, hres, hbuy, hlst, hbst, hrea, hbid, hpri, hitm, hakf, hakg, hgot, hriv, hrf, hro, hrs, hpai, hcl, hcb⟩ := id hI
  refine lv_iload_n hx hb dX7_offer_0 rfl (lv_at hl 1 rfl) ?_
  refine lv_iconst (v := nI 0) hx hb dX7_offer_1 (by decide) ?_
  refine lv_iconst (v := nI 3) hx hb dX7_offer_2 (by decide) ?_
  refine go_i X hW (run_S X hW (As := [.int (zI z), .int (nI 0), .int (nI 3)]) (rest := []) (c_X7_isIn l G (mW G a th lo bi ru ol ob tk fib gra res buy lst bst rea bid pri itm akf akg got pai riv rf ro rs lat bat val cos row ahe wan giv ++ Y) (zI z) (nI 0) (nI 3) z ((0 : Nat) : Int) ((3 : Nat) : Int) rfl (nZ _) (nZ _) (by omega) (by omega) (by omega) _) (gi_S wq_1189 wq_1190 wq_67 wq_1191) hyX7_isIn rfl rfl hl.1 (Nat.le_of_ble_eq_true rfl) ⟨Nat.le_of_ble_eq_true rfl, Nat.le_of_ble_eq_true rfl⟩ ⟨by decide, by decide⟩ dX7_offer_3) (fun r w2 H locs hp hW => ?_)
  obtain ⟨rfl, rfl⟩ := hp
  refine p_if_eq hx hb (tgt := 27) dX7_offer_6 (by decide) (fun c_6 => ?_) (fun c_6 => ?_)
  · refine lv_aload_n hx hb dX7_offer_27 rfl (lv_at hl 0 rfl) ?_
    refine lv_iconst (v := nI 1) hx hb dX7_offer_28 (by decide) ?_
    refine go_i X hW (run_V X hW (As := [.int (nI 1)]) (rest := []) 10 0 rfl (c_X7_fail l G a th lo bi ru ol ob tk fib gra res buy lst bst rea bid pri itm akf akg got pai riv rf ro rs lat bat val cos row ahe wan giv Y 1 _) (gi_V wq_1195 wq_1197 wq_44 wq_67 wq_1198) rfl hyX7_fail rfl rfl rfl hl.1 (Nat.le_of_ble_eq_true rfl) ⟨Nat.le_of_ble_eq_true rfl, Nat.le_of_ble_eq_true rfl⟩ ⟨by decide, by decide⟩ dX7_offer_29) (fun r w2 H locs hp hW => ?_)
    obtain ⟨rfl, rfl⟩ := hp
    exact ret_i X hW (v := (nI 0)) (Or.inl (⟨by omega, rfl, rfl⟩)) rfl (by decide) (by decide) dX7_offer_32
  · refine lv_iload_n hx hb dX7_offer_9 rfl (lv_at hl 2 rfl) ?_
    refine go_i X hW (run_S X hW (As := [.int (nI g)]) (rest := []) (c_X7_isGrade l G (mW G a th lo bi ru ol ob tk fib gra res buy lst bst rea bid pri itm akf akg got pai riv rf ro rs lat bat val cos row ahe wan giv ++ Y) g (by omega) _) (gi_S wq_1192 wq_1193 wq_67 wq_1194) hyX7_isGrade rfl rfl hl.1 (Nat.le_of_ble_eq_true rfl) ⟨Nat.le_of_ble_eq_true rfl, Nat.le_of_ble_eq_true rfl⟩ ⟨by decide, by decide⟩ dX7_offer_10) (fun r w2 H locs hp hW => ?_)
    obtain ⟨rfl, rfl⟩ := hp
    refine p_if_eq hx hb (tgt := 27) dX7_offer_13 (by decide) (fun c_13 => ?_) (fun c_13 => ?_)
    · refine lv_aload_n hx hb dX7_offer_27 rfl (lv_at hl 0 rfl) ?_
      refine lv_iconst (v := nI 1) hx hb dX7_offer_28 (by decide) ?_
      refine go_i X hW (run_V X hW (As := [.int (nI 1)]) (rest := []) 10 0 rfl (c_X7_fail l G a th lo bi ru ol ob tk fib gra res buy lst bst rea bid pri itm akf akg got pai riv rf ro rs lat bat val cos row ahe wan giv Y 1 _) (gi_V wq_1195 wq_1197 wq_44 wq_67 wq_1198) rfl hyX7_fail rfl rfl rfl hl.1 (Nat.le_of_ble_eq_true rfl) ⟨Nat.le_of_ble_eq_true rfl, Nat.le_of_ble_eq_true rfl⟩ ⟨by decide, by decide⟩ dX7_offer_29) (fun r w2 H locs hp hW => ?_)
      obtain ⟨rfl, rfl⟩ := hp
      exact ret_i X hW (v := (nI 0)) (Or.inl (⟨by omega, rfl, rfl⟩)) rfl (by decide) (by decide) dX7_offer_32
    · refine lv_iload_n hx hb dX7_offer_16 rfl (lv_at hl 3 rfl) ?_
      refine lv_iconst (v := nI 0) hx hb dX7_offer_17 (by decide) ?_
      refine lv_sipush (v := nI 999) hx hb dX7_offer_18 (by decide) ?_
      refine go_i X hW (run_S X hW (As := [.int (zI y), .int (nI 0), .int (nI 999)]) (rest := []) (c_X7_isIn l G (mW G a th lo bi ru ol ob tk fib gra res buy lst bst rea bid pri itm akf akg got pai riv rf ro rs lat bat val cos row ahe wan giv ++ Y) (zI y) (nI 0) (nI 999) y ((0 : Nat) : Int) ((999 : Nat) : Int) rfl (nZ _) (nZ _) (by omega) (by omega) (by omega) _) (gi_S wq_1189 wq_1190 wq_67 wq_1191) hyX7_isIn rfl rfl hl.1 (Nat.le_of_ble_eq_true rfl) ⟨Nat.le_of_ble_eq_true rfl, Nat.le_of_ble_eq_true rfl⟩ ⟨by decide, by decide⟩ dX7_offer_21) (fun r w2 H locs hp hW => ?_)
      obtain ⟨rfl, rfl⟩ := hp
      refine p_if_ne hx hb (tgt := 33) dX7_offer_24 (by decide) (fun c_24 => ?_) (fun c_24 => ?_)
      · refine lv_aload_n hx hb dX7_offer_33 rfl (lv_at hl 0 rfl) ?_
        refine x_get X hW 0 rfl 4 rfl rfl iwX7 (by decide) wq_1084 rfl dX7_offer_34 ?_
        refine lv_bipush (v := nI 8) hx hb dX7_offer_37 (by decide) ?_
        refine n_icmp_eq hx hb rfl rfl (by omega) (by omega) (tgt := 51) dX7_offer_39 (by decide) (fun c_39 => ?_) (fun c_39 => ?_)
        · refine lv_aload_n hx hb dX7_offer_51 rfl (lv_at hl 0 rfl) ?_
          refine lv_iconst (v := nI 2) hx hb dX7_offer_52 (by decide) ?_
          refine go_i X hW (run_V X hW (As := [.int (nI 2)]) (rest := []) 10 0 rfl (c_X7_fail l G a th lo bi ru ol ob tk fib gra res buy lst bst rea bid pri itm akf akg got pai riv rf ro rs lat bat val cos row ahe wan giv Y 2 _) (gi_V wq_1195 wq_1197 wq_44 wq_67 wq_1198) rfl hyX7_fail rfl rfl rfl hl.1 (Nat.le_of_ble_eq_true rfl) ⟨Nat.le_of_ble_eq_true rfl, Nat.le_of_ble_eq_true rfl⟩ ⟨by decide, by decide⟩ dX7_offer_53) (fun r w2 H locs hp hW => ?_)
          obtain ⟨rfl, rfl⟩ := hp
          exact ret_i X hW (v := (nI 0)) (Or.inr (Or.inl (⟨by omega, rfl, rfl⟩))) rfl (by decide) (by decide) dX7_offer_56
        · refine lv_aload_n hx hb dX7_offer_42 rfl (lv_at hl 0 rfl) ?_
          refine x_get X hW 0 rfl 1 rfl rfl iwX7 (by decide) wq_1081 rfl dX7_offer_43 ?_
          refine lv_bipush (v := nI 40) hx hb dX7_offer_46 (by decide) ?_
          refine n_icmp_ne hx hb rfl rfl (by omega) (by omega) (tgt := 57) dX7_offer_48 (by decide) (fun c_48 => ?_) (fun c_48 => ?_)
          · refine lv_aload_n hx hb dX7_offer_57 rfl (lv_at hl 0 rfl) ?_
            refine lv_iconst (v := nI 0) hx hb dX7_offer_58 (by decide) ?_
            refine x_put X hW 0 rfl 0 (w2 := (mW G a 0 lo bi ru ol ob tk fib gra res buy lst bst rea bid pri itm akf akg got pai riv rf ro rs lat bat val cos row ahe wan giv ++ Y)) rfl rfl iwX7 tyX7_ok nmX7 (by decide) wq_1080 rfl rfl rfl rfl (Nat.le_of_ble_eq_true rfl) dX7_offer_59 (fun H locs hW => ?_)
            refine lv_aload_n hx hb dX7_offer_62 rfl (lv_at hl 0 rfl) ?_
            refine x_get X hW 0 rfl 7 rfl rfl iwX7 (by decide) wq_1087 rfl dX7_offer_63 ?_
            refine lv_aload_n hx hb dX7_offer_66 rfl (lv_at hl 0 rfl) ?_
            refine x_get X hW 0 rfl 1 rfl rfl iwX7 (by decide) wq_1081 rfl dX7_offer_67 ?_
            refine lv_iload_n hx hb dX7_offer_70 rfl (lv_at hl 1 rfl) ?_
            refine r_zn (a := z.toNat) (by omega) ?_
            refine n_iast X hW (n := 40) (f := fib) 1 rfl (w2 := (mW G a 0 lo bi ru ol ob tk (va_up fib lo z.toNat) gra res buy lst bst rea bid pri itm akf akg got pai riv rf ro rs lat bat val cos row ahe wan giv ++ Y)) rfl (by omega) (by decide) dX7_offer_71 (fun H locs hW => ?_)
            refine lv_aload_n hx hb dX7_offer_72 rfl (lv_at hl 0 rfl) ?_
            refine x_get X hW 0 rfl 8 rfl rfl iwX7 (by decide) wq_1088 rfl dX7_offer_73 ?_
            refine lv_aload_n hx hb dX7_offer_76 rfl (lv_at hl 0 rfl) ?_
            refine x_get X hW 0 rfl 1 rfl rfl iwX7 (by decide) wq_1081 rfl dX7_offer_77 ?_
            refine lv_iload_n hx hb dX7_offer_80 rfl (lv_at hl 2 rfl) ?_
            refine n_iast X hW (n := 40) (f := gra) 2 rfl (w2 := (mW G a 0 lo bi ru ol ob tk (va_up fib lo z.toNat) (va_up gra lo g) res buy lst bst rea bid pri itm akf akg got pai riv rf ro rs lat bat val cos row ahe wan giv ++ Y)) rfl (by omega) (by decide) dX7_offer_81 (fun H locs hW => ?_)
            refine lv_aload_n hx hb dX7_offer_82 rfl (lv_at hl 0 rfl) ?_
            refine x_get X hW 0 rfl 9 rfl rfl iwX7 (by decide) wq_1089 rfl dX7_offer_83 ?_
            refine lv_aload_n hx hb dX7_offer_86 rfl (lv_at hl 0 rfl) ?_
            refine x_get X hW 0 rfl 1 rfl rfl iwX7 (by decide) wq_1081 rfl dX7_offer_87 ?_
            refine lv_iload_n hx hb dX7_offer_90 rfl (lv_at hl 3 rfl) ?_
            refine r_zn (a := y.toNat) (by omega) ?_
            refine n_iast X hW (n := 40) (f := res) 3 rfl (w2 := (mW G a 0 lo bi ru ol ob tk (va_up fib lo z.toNat) (va_up gra lo g) (va_up res lo y.toNat) buy lst bst rea bid pri itm akf akg got pai riv rf ro rs lat bat val cos row ahe wan giv ++ Y)) rfl (by omega) (by decide) dX7_offer_91 (fun H locs hW => ?_)
            refine lv_aload_n hx hb dX7_offer_92 rfl (lv_at hl 0 rfl) ?_
            refine x_get X hW 0 rfl 11 rfl rfl iwX7 (by decide) wq_1091 rfl dX7_offer_93 ?_
            refine lv_aload_n hx hb dX7_offer_96 rfl (lv_at hl 0 rfl) ?_
            refine x_get X hW 0 rfl 1 rfl rfl iwX7 (by decide) wq_1081 rfl dX7_offer_97 ?_
            refine lv_bipush (v := nI 111) hx hb dX7_offer_100 (by decide) ?_
            refine n_cast X hW (n := 40) (f := lst) 5 rfl (w2 := (mW G a 0 lo bi ru ol ob tk (va_up fib lo z.toNat) (va_up gra lo g) (va_up res lo y.toNat) buy (va_up lst lo 111) bst rea bid pri itm akf akg got pai riv rf ro rs lat bat val cos row ahe wan giv ++ Y)) rfl (by omega) (by decide) (by omega) dX7_offer_102 (fun H locs hW => ?_)
            refine lv_aload_n hx hb dX7_offer_103 rfl (lv_at hl 0 rfl) ?_
            refine lv_dup hx hb dX7_offer_104 rfl ?_
            refine x_get X hW 0 rfl 4 rfl rfl iwX7 (by decide) wq_1084 rfl dX7_offer_105 ?_
            refine lv_iconst (v := nI 1) hx hb dX7_offer_108 (by decide) ?_
            refine n_iadd hx hb dX7_offer_109 ?_
            refine x_put X hW 0 rfl 4 (w2 := (mW G a 0 lo bi ru (ol + 1) ob tk (va_up fib lo z.toNat) (va_up gra lo g) (va_up res lo y.toNat) buy (va_up lst lo 111) bst rea bid pri itm akf akg got pai riv rf ro rs lat bat val cos row ahe wan giv ++ Y)) rfl rfl iwX7 tyX7_ok nmX7 (by decide) wq_1084 rfl rfl rfl rfl (Nat.le_of_ble_eq_true rfl) dX7_offer_110 (fun H locs hW => ?_)
            refine lv_aload_n hx hb dX7_offer_113 rfl (lv_at hl 0 rfl) ?_
            refine lv_dup hx hb dX7_offer_114 rfl ?_
            refine x_get X hW 0 rfl 1 rfl rfl iwX7 (by decide) wq_1081 rfl dX7_offer_115 ?_
            refine lv_dup_x1 hx hb dX7_offer_118 rfl rfl ?_
            refine lv_iconst (v := nI 1) hx hb dX7_offer_119 (by decide) ?_
            refine n_iadd hx hb dX7_offer_120 ?_
            refine x_put X hW 0 rfl 1 (w2 := (mW G a 0 (lo + 1) bi ru (ol + 1) ob tk (va_up fib lo z.toNat) (va_up gra lo g) (va_up res lo y.toNat) buy (va_up lst lo 111) bst rea bid pri itm akf akg got pai riv rf ro rs lat bat val cos row ahe wan giv ++ Y)) rfl rfl iwX7 tyX7_ok nmX7 (by decide) wq_1081 rfl rfl rfl rfl (Nat.le_of_ble_eq_true rfl) dX7_offer_121 (fun H locs hW => ?_)
            exact ret_i X hW (v := (nI lo)) (Or.inr (Or.inr (⟨by omega, rfl, rfl⟩))) rfl (by decide) (by decide) dX7_offer_124
          · refine lv_aload_n hx hb dX7_offer_51 rfl (lv_at hl 0 rfl) ?_
            refine lv_iconst (v := nI 2) hx hb dX7_offer_52 (by decide) ?_
            refine go_i X hW (run_V X hW (As := [.int (nI 2)]) (rest := []) 10 0 rfl (c_X7_fail l G a th lo bi ru ol ob tk fib gra res buy lst bst rea bid pri itm akf akg got pai riv rf ro rs lat bat val cos row ahe wan giv Y 2 _) (gi_V wq_1195 wq_1197 wq_44 wq_67 wq_1198) rfl hyX7_fail rfl rfl rfl hl.1 (Nat.le_of_ble_eq_true rfl) ⟨Nat.le_of_ble_eq_true rfl, Nat.le_of_ble_eq_true rfl⟩ ⟨by decide, by decide⟩ dX7_offer_53) (fun r w2 H locs hp hW => ?_)
            obtain ⟨rfl, rfl⟩ := hp
            exact ret_i X hW (v := (nI 0)) (Or.inr (Or.inl (⟨by omega, rfl, rfl⟩))) rfl (by decide) (by decide) dX7_offer_56
      · refine lv_aload_n hx hb dX7_offer_27 rfl (lv_at hl 0 rfl) ?_
        refine lv_iconst (v := nI 1) hx hb dX7_offer_28 (by decide) ?_
        refine go_i X hW (run_V X hW (As := [.int (nI 1)]) (rest := []) 10 0 rfl (c_X7_fail l G a th lo bi ru ol ob tk fib gra res buy lst bst rea bid pri itm akf akg got pai riv rf ro rs lat bat val cos row ahe wan giv Y 1 _) (gi_V wq_1195 wq_1197 wq_44 wq_67 wq_1198) rfl hyX7_fail rfl rfl rfl hl.1 (Nat.le_of_ble_eq_true rfl) ⟨Nat.le_of_ble_eq_true rfl, Nat.le_of_ble_eq_true rfl⟩ ⟨by decide, by decide⟩ dX7_offer_29) (fun r w2 H locs hp hW => ?_)
        obtain ⟨rfl, rfl⟩ := hp
        exact ret_i X hW (v := (nI 0)) (Or.inl (⟨by omega, rfl, rfl⟩)) rfl (by decide) (by decide) dX7_offer_32

set_option maxRecDepth 100000 in
set_option maxHeartbeats 4000000 in
theorem c_X7_withdraw (l : Launch) (G : Gt) (a : Nat → Nat) (th lo bi ru ol ob : Nat) (tk : Int) (fib gra res buy lst bst rea bid pri itm akf akg got : Nat → Nat) (pai : Nat → Int) (riv rf ro rs lat bat : Nat → Nat) (val : Nat → Int) (cos row ahe wan giv : Nat → Nat) (Y : va_W) (z : Int) (hI : MIa lo bi ru ol ob fib gra res buy lst bst rea bid pri itm akf akg got pai riv rf ro rs) (hz : iR z) : Ci l G yX7_withdraw (ww yX7_withdraw cX7_withdraw 2 (some FieldType.int)) (RM 3 0 0) [.ref (a 0), .int (zI z)] (mW G a th lo bi ru ol ob tk fib gra res buy lst bst rea bid pri itm akf akg got pai riv rf ro rs lat bat val cos row ahe wan giv ++ Y) (fun r w2 => ((¬ (0 ≤ z ∧ z < ((lo : Nat) : Int))) ∧ r = (nI 0) ∧ w2 = (mW G a 1 lo bi ru ol ob tk fib gra res buy lst bst rea bid pri itm akf akg got pai riv rf ro rs lat bat val cos row ahe wan giv ++ Y)) ∨ (((0 ≤ z ∧ z < ((lo : Nat) : Int)) ∧ lst z.toNat ≠ 111) ∧ r = (nI 0) ∧ w2 = (mW G a 2 lo bi ru ol ob tk fib gra res buy lst bst rea bid pri itm akf akg got pai riv rf ro rs lat bat val cos row ahe wan giv ++ Y)) ∨ (((0 ≤ z ∧ z < ((lo : Nat) : Int)) ∧ lst z.toNat = 111) ∧ r = (nI (ol - 1)) ∧ w2 = (mW G a 0 lo bi ru (ol - 1) ob tk fib gra res buy (va_up lst z.toNat 119) bst rea bid pri itm akf akg got pai riv rf ro rs lat bat val cos row ahe wan giv ++ Y))) := by
  refine Ci.intro (by decide) (Nat.le_of_ble_eq_true rfl) ?_
  intro p e s m args below meth c A X hW ls hl
  have hx := X.exec
  have hb := X.bytes
  have hl : lv_has ls 2 [(0, .ref (a 0)), (1, .int (zI z))] := hl
  obtain ⟨hlo, hbi, hru, hol, hob, hfib, hgra, hres, hbuy, hlst, hbst, hrea, hbid, hpri, hitm, hakf, hakg, hgot, hriv, hrf, hro, hrs, hpai, hcl, hcb⟩ := id hI
  refine lv_aload_n hx hb dX7_withdraw_0 rfl (lv_at hl 0 rfl) ?_
  refine lv_iload_n hx hb dX7_withdraw_1 rfl (lv_at hl 1 rfl) ?_
  refine go_i X hW (run_V X hW (As := [.int (zI z)]) (rest := []) 10 0 rfl (c_X7_isLot l G a th lo bi ru ol ob tk fib gra res buy lst bst rea bid pri itm akf akg got pai riv rf ro rs lat bat val cos row ahe wan giv Y (zI z) z rfl (by omega) (by omega) _) (gi_V wq_1203 wq_1205 wq_45 wq_67 wq_1206) rfl hyX7_isLot rfl rfl rfl hl.1 (Nat.le_of_ble_eq_true rfl) ⟨Nat.le_of_ble_eq_true rfl, Nat.le_of_ble_eq_true rfl⟩ ⟨by decide, by decide⟩ dX7_withdraw_2) (fun r w2 H locs hp hW => ?_)
  obtain ⟨rfl, rfl⟩ := hp
  refine p_if_ne hx hb (tgt := 14) dX7_withdraw_5 (by decide) (fun c_5 => ?_) (fun c_5 => ?_)
  · refine lv_aload_n hx hb dX7_withdraw_14 rfl (lv_at hl 0 rfl) ?_
    refine x_get X hW 0 rfl 11 rfl rfl iwX7 (by decide) wq_1091 rfl dX7_withdraw_15 ?_
    have hlz := hlst z.toNat
    refine lv_iload_n hx hb dX7_withdraw_18 rfl (lv_at hl 1 rfl) ?_
    refine r_zn (a := z.toNat) (by omega) ?_
    refine n_cald X hW (n := 40) (f := lst) 5 rfl (by omega) (by decide) dX7_withdraw_19 ?_
    refine lv_bipush (v := nI 111) hx hb dX7_withdraw_20 (by decide) ?_
    refine n_icmp_eq hx hb rfl rfl (by omega) (by omega) (tgt := 31) dX7_withdraw_22 (by decide) (fun c_22 => ?_) (fun c_22 => ?_)
    · refine lv_aload_n hx hb dX7_withdraw_31 rfl (lv_at hl 0 rfl) ?_
      refine lv_iconst (v := nI 0) hx hb dX7_withdraw_32 (by decide) ?_
      refine x_put X hW 0 rfl 0 (w2 := (mW G a 0 lo bi ru ol ob tk fib gra res buy lst bst rea bid pri itm akf akg got pai riv rf ro rs lat bat val cos row ahe wan giv ++ Y)) rfl rfl iwX7 tyX7_ok nmX7 (by decide) wq_1080 rfl rfl rfl rfl (Nat.le_of_ble_eq_true rfl) dX7_withdraw_33 (fun H locs hW => ?_)
      refine lv_aload_n hx hb dX7_withdraw_36 rfl (lv_at hl 0 rfl) ?_
      refine x_get X hW 0 rfl 11 rfl rfl iwX7 (by decide) wq_1091 rfl dX7_withdraw_37 ?_
      refine lv_iload_n hx hb dX7_withdraw_40 rfl (lv_at hl 1 rfl) ?_
      refine r_zn (a := z.toNat) (by omega) ?_
      refine lv_bipush (v := nI 119) hx hb dX7_withdraw_41 (by decide) ?_
      refine n_cast X hW (n := 40) (f := lst) 5 rfl (w2 := (mW G a 0 lo bi ru ol ob tk fib gra res buy (va_up lst z.toNat 119) bst rea bid pri itm akf akg got pai riv rf ro rs lat bat val cos row ahe wan giv ++ Y)) rfl (by omega) (by decide) (by omega) dX7_withdraw_43 (fun H locs hW => ?_)
      have hpo := bsum_pos (p := fun k => decide (lst k = 111)) (g := fun _ => 1) (n := lo) (k := z.toNat) (by omega) (decide_eq_true (by omega))
      refine lv_aload_n hx hb dX7_withdraw_44 rfl (lv_at hl 0 rfl) ?_
      refine lv_dup hx hb dX7_withdraw_45 rfl ?_
      refine x_get X hW 0 rfl 4 rfl rfl iwX7 (by decide) wq_1084 rfl dX7_withdraw_46 ?_
      refine lv_iconst (v := nI 1) hx hb dX7_withdraw_49 (by decide) ?_
      refine n_isub hx hb (by omega) dX7_withdraw_50 ?_
      refine lv_dup_x1 hx hb dX7_withdraw_51 rfl rfl ?_
      refine x_put X hW 0 rfl 4 (w2 := (mW G a 0 lo bi ru (ol - 1) ob tk fib gra res buy (va_up lst z.toNat 119) bst rea bid pri itm akf akg got pai riv rf ro rs lat bat val cos row ahe wan giv ++ Y)) rfl rfl iwX7 tyX7_ok nmX7 (by decide) wq_1084 rfl rfl rfl rfl (Nat.le_of_ble_eq_true rfl) dX7_withdraw_52 (fun H locs hW => ?_)
      exact ret_i X hW (v := (nI (ol - 1))) (Or.inr (Or.inr (⟨by omega, rfl, rfl⟩))) rfl (by decide) (by decide) dX7_withdraw_55
    · refine lv_aload_n hx hb dX7_withdraw_25 rfl (lv_at hl 0 rfl) ?_
      refine lv_iconst (v := nI 2) hx hb dX7_withdraw_26 (by decide) ?_
      refine go_i X hW (run_V X hW (As := [.int (nI 2)]) (rest := []) 10 0 rfl (c_X7_fail l G a th lo bi ru ol ob tk fib gra res buy lst bst rea bid pri itm akf akg got pai riv rf ro rs lat bat val cos row ahe wan giv Y 2 _) (gi_V wq_1195 wq_1197 wq_44 wq_67 wq_1198) rfl hyX7_fail rfl rfl rfl hl.1 (Nat.le_of_ble_eq_true rfl) ⟨Nat.le_of_ble_eq_true rfl, Nat.le_of_ble_eq_true rfl⟩ ⟨by decide, by decide⟩ dX7_withdraw_27) (fun r w2 H locs hp hW => ?_)
      obtain ⟨rfl, rfl⟩ := hp
      exact ret_i X hW (v := (nI 0)) (Or.inr (Or.inl (⟨by omega, rfl, rfl⟩))) rfl (by decide) (by decide) dX7_withdraw_30
  · refine lv_aload_n hx hb dX7_withdraw_8 rfl (lv_at hl 0 rfl) ?_
    refine lv_iconst (v := nI 1) hx hb dX7_withdraw_9 (by decide) ?_
    refine go_i X hW (run_V X hW (As := [.int (nI 1)]) (rest := []) 10 0 rfl (c_X7_fail l G a th lo bi ru ol ob tk fib gra res buy lst bst rea bid pri itm akf akg got pai riv rf ro rs lat bat val cos row ahe wan giv Y 1 _) (gi_V wq_1195 wq_1197 wq_44 wq_67 wq_1198) rfl hyX7_fail rfl rfl rfl hl.1 (Nat.le_of_ble_eq_true rfl) ⟨Nat.le_of_ble_eq_true rfl, Nat.le_of_ble_eq_true rfl⟩ ⟨by decide, by decide⟩ dX7_withdraw_10) (fun r w2 H locs hp hW => ?_)
    obtain ⟨rfl, rfl⟩ := hp
    exact ret_i X hW (v := (nI 0)) (Or.inl (⟨by omega, rfl, rfl⟩)) rfl (by decide) (by decide) dX7_withdraw_13

set_option maxRecDepth 100000 in
set_option maxHeartbeats 4000000 in
theorem c_X7_allow (l : Launch) (G : Gt) (a : Nat → Nat) (th lo bi ru ol ob : Nat) (tk : Int) (fib gra res buy lst bst rea bid pri itm akf akg got : Nat → Nat) (pai : Nat → Int) (riv rf ro rs lat bat : Nat → Nat) (val : Nat → Int) (cos row ahe wan giv : Nat → Nat) (Y : va_W) (z y x : Int) (hI : MIa lo bi ru ol ob fib gra res buy lst bst rea bid pri itm akf akg got pai riv rf ro rs) (hz : iR z) (hy : iR y) (hxx : iR x) : Ci l G yX7_allow (ww yX7_allow cX7_allow 4 (some FieldType.int)) (RM 3 0 0) [.ref (a 0), .int (zI z), .int (zI y), .int (zI x)] (mW G a th lo bi ru ol ob tk fib gra res buy lst bst rea bid pri itm akf akg got pai riv rf ro rs lat bat val cos row ahe wan giv ++ Y) (fun r w2 => ((¬ (0 ≤ z ∧ z ≤ 3 ∧ 0 ≤ y ∧ y ≤ 3 ∧ 0 ≤ x ∧ x ≤ 4)) ∧ r = (nI 0) ∧ w2 = (mW G a 1 lo bi ru ol ob tk fib gra res buy lst bst rea bid pri itm akf akg got pai riv rf ro rs lat bat val cos row ahe wan giv ++ Y)) ∨ (((0 ≤ z ∧ z ≤ 3 ∧ 0 ≤ y ∧ y ≤ 3 ∧ 0 ≤ x ∧ x ≤ 4) ∧ ru = 6) ∧ r = (nI 0) ∧ w2 = (mW G a 2 lo bi ru ol ob tk fib gra res buy lst bst rea bid pri itm akf akg got pai riv rf ro rs lat bat val cos row ahe wan giv ++ Y)) ∨ (((0 ≤ z ∧ z ≤ 3 ∧ 0 ≤ y ∧ y ≤ 3 ∧ 0 ≤ x ∧ x ≤ 4) ∧ ru < 6) ∧ r = (nI (ru + 1)) ∧ w2 = (mW G a 0 lo bi (ru + 1) ol ob tk fib gra res buy lst bst rea bid pri itm akf akg got pai riv (va_up rf ru z.toNat) (va_up ro ru y.toNat) (va_up rs ru x.toNat) lat bat val cos row ahe wan giv ++ Y))) := by
  refine Ci.intro (by decide) (Nat.le_of_ble_eq_true rfl) ?_
  intro p e s m args below meth c A X hW ls hl
  have hx := X.exec
  have hb := X.bytes
  have hl : lv_has ls 4 [(0, .ref (a 0)), (1, .int (zI z)), (2, .int (zI y)), (3, .int (zI x))] := hl
  obtain ⟨hlo, hbi, hru, hol, hob, hfib, hgra, hres, hbuy, hlst, hbst, hrea, hbid, hpri, hitm, hakf, hakg, hgot, hriv, hrf, hro, hrs, hpai, hcl, hcb⟩ := id hI
  refine lv_iload_n hx hb dX7_allow_0 rfl (lv_at hl 1 rfl) ?_
  refine lv_iconst (v := nI 0) hx hb dX7_allow_1 (by decide) ?_
  refine lv_iconst (v := nI 3) hx hb dX7_allow_2 (by decide) ?_
  refine go_i X hW (run_S X hW (As := [.int (zI z), .int (nI 0), .int (nI 3)]) (rest := []) (c_X7_isIn l G (mW G a th lo bi ru ol ob tk fib gra res buy lst bst rea bid pri itm akf akg got pai riv rf ro rs lat bat val cos row ahe wan giv ++ Y) (zI z) (nI 0) (nI 3) z ((0 : Nat) : Int) ((3 : Nat) : Int) rfl (nZ _) (nZ _) (by omega) (by omega) (by omega) _) (gi_S wq_1189 wq_1190 wq_67 wq_1191) hyX7_isIn rfl rfl hl.1 (Nat.le_of_ble_eq_true rfl) ⟨Nat.le_of_ble_eq_true rfl, Nat.le_of_ble_eq_true rfl⟩ ⟨by decide, by decide⟩ dX7_allow_3) (fun r w2 H locs hp hW => ?_)
  obtain ⟨rfl, rfl⟩ := hp
  refine p_if_eq hx hb (tgt := 27) dX7_allow_6 (by decide) (fun c_6 => ?_) (fun c_6 => ?_)
  · refine lv_aload_n hx hb dX7_allow_27 rfl (lv_at hl 0 rfl) ?_
    refine lv_iconst (v := nI 1) hx hb dX7_allow_28 (by decide) ?_
    refine go_i X hW (run_V X hW (As := [.int (nI 1)]) (rest := []) 10 0 rfl (c_X7_fail l G a th lo bi ru ol ob tk fib gra res buy lst bst rea bid pri itm akf akg got pai riv rf ro rs lat bat val cos row ahe wan giv Y 1 _) (gi_V wq_1195 wq_1197 wq_44 wq_67 wq_1198) rfl hyX7_fail rfl rfl rfl hl.1 (Nat.le_of_ble_eq_true rfl) ⟨Nat.le_of_ble_eq_true rfl, Nat.le_of_ble_eq_true rfl⟩ ⟨by decide, by decide⟩ dX7_allow_29) (fun r w2 H locs hp hW => ?_)
    obtain ⟨rfl, rfl⟩ := hp
    exact ret_i X hW (v := (nI 0)) (Or.inl (⟨by omega, rfl, rfl⟩)) rfl (by decide) (by decide) dX7_allow_32
  · refine lv_iload_n hx hb dX7_allow_9 rfl (lv_at hl 2 rfl) ?_
    refine lv_iconst (v := nI 0) hx hb dX7_allow_10 (by decide) ?_
    refine lv_iconst (v := nI 3) hx hb dX7_allow_11 (by decide) ?_
    refine go_i X hW (run_S X hW (As := [.int (zI y), .int (nI 0), .int (nI 3)]) (rest := []) (c_X7_isIn l G (mW G a th lo bi ru ol ob tk fib gra res buy lst bst rea bid pri itm akf akg got pai riv rf ro rs lat bat val cos row ahe wan giv ++ Y) (zI y) (nI 0) (nI 3) y ((0 : Nat) : Int) ((3 : Nat) : Int) rfl (nZ _) (nZ _) (by omega) (by omega) (by omega) _) (gi_S wq_1189 wq_1190 wq_67 wq_1191) hyX7_isIn rfl rfl hl.1 (Nat.le_of_ble_eq_true rfl) ⟨Nat.le_of_ble_eq_true rfl, Nat.le_of_ble_eq_true rfl⟩ ⟨by decide, by decide⟩ dX7_allow_12) (fun r w2 H locs hp hW => ?_)
    obtain ⟨rfl, rfl⟩ := hp
    refine p_if_eq hx hb (tgt := 27) dX7_allow_15 (by decide) (fun c_15 => ?_) (fun c_15 => ?_)
    · refine lv_aload_n hx hb dX7_allow_27 rfl (lv_at hl 0 rfl) ?_
      refine lv_iconst (v := nI 1) hx hb dX7_allow_28 (by decide) ?_
      refine go_i X hW (run_V X hW (As := [.int (nI 1)]) (rest := []) 10 0 rfl (c_X7_fail l G a th lo bi ru ol ob tk fib gra res buy lst bst rea bid pri itm akf akg got pai riv rf ro rs lat bat val cos row ahe wan giv Y 1 _) (gi_V wq_1195 wq_1197 wq_44 wq_67 wq_1198) rfl hyX7_fail rfl rfl rfl hl.1 (Nat.le_of_ble_eq_true rfl) ⟨Nat.le_of_ble_eq_true rfl, Nat.le_of_ble_eq_true rfl⟩ ⟨by decide, by decide⟩ dX7_allow_29) (fun r w2 H locs hp hW => ?_)
      obtain ⟨rfl, rfl⟩ := hp
      exact ret_i X hW (v := (nI 0)) (Or.inl (⟨by omega, rfl, rfl⟩)) rfl (by decide) (by decide) dX7_allow_32
    · refine lv_iload_n hx hb dX7_allow_18 rfl (lv_at hl 3 rfl) ?_
      refine lv_iconst (v := nI 0) hx hb dX7_allow_19 (by decide) ?_
      refine lv_iconst (v := nI 4) hx hb dX7_allow_20 (by decide) ?_
      refine go_i X hW (run_S X hW (As := [.int (zI x), .int (nI 0), .int (nI 4)]) (rest := []) (c_X7_isIn l G (mW G a th lo bi ru ol ob tk fib gra res buy lst bst rea bid pri itm akf akg got pai riv rf ro rs lat bat val cos row ahe wan giv ++ Y) (zI x) (nI 0) (nI 4) x ((0 : Nat) : Int) ((4 : Nat) : Int) rfl (nZ _) (nZ _) (by omega) (by omega) (by omega) _) (gi_S wq_1189 wq_1190 wq_67 wq_1191) hyX7_isIn rfl rfl hl.1 (Nat.le_of_ble_eq_true rfl) ⟨Nat.le_of_ble_eq_true rfl, Nat.le_of_ble_eq_true rfl⟩ ⟨by decide, by decide⟩ dX7_allow_21) (fun r w2 H locs hp hW => ?_)
      obtain ⟨rfl, rfl⟩ := hp
      refine p_if_ne hx hb (tgt := 33) dX7_allow_24 (by decide) (fun c_24 => ?_) (fun c_24 => ?_)
      · refine lv_aload_n hx hb dX7_allow_33 rfl (lv_at hl 0 rfl) ?_
        refine x_get X hW 0 rfl 3 rfl rfl iwX7 (by decide) wq_1083 rfl dX7_allow_34 ?_
        refine lv_bipush (v := nI 6) hx hb dX7_allow_37 (by decide) ?_
        refine n_icmp_ne hx hb rfl rfl (by omega) (by omega) (tgt := 48) dX7_allow_39 (by decide) (fun c_39 => ?_) (fun c_39 => ?_)
        · refine lv_aload_n hx hb dX7_allow_48 rfl (lv_at hl 0 rfl) ?_
          refine lv_iconst (v := nI 0) hx hb dX7_allow_49 (by decide) ?_
          refine x_put X hW 0 rfl 0 (w2 := (mW G a 0 lo bi ru ol ob tk fib gra res buy lst bst rea bid pri itm akf akg got pai riv rf ro rs lat bat val cos row ahe wan giv ++ Y)) rfl rfl iwX7 tyX7_ok nmX7 (by decide) wq_1080 rfl rfl rfl rfl (Nat.le_of_ble_eq_true rfl) dX7_allow_50 (fun H locs hW => ?_)
          refine lv_aload_n hx hb dX7_allow_53 rfl (lv_at hl 0 rfl) ?_
          refine x_get X hW 0 rfl 22 rfl rfl iwX7 (by decide) wq_1102 rfl dX7_allow_54 ?_
          refine lv_aload_n hx hb dX7_allow_57 rfl (lv_at hl 0 rfl) ?_
          refine x_get X hW 0 rfl 3 rfl rfl iwX7 (by decide) wq_1083 rfl dX7_allow_58 ?_
          refine lv_iload_n hx hb dX7_allow_61 rfl (lv_at hl 1 rfl) ?_
          refine r_zn (a := z.toNat) (by omega) ?_
          refine n_iast X hW (n := 6) (f := rf) 16 rfl (w2 := (mW G a 0 lo bi ru ol ob tk fib gra res buy lst bst rea bid pri itm akf akg got pai riv (va_up rf ru z.toNat) ro rs lat bat val cos row ahe wan giv ++ Y)) rfl (by omega) (by decide) dX7_allow_62 (fun H locs hW => ?_)
          refine lv_aload_n hx hb dX7_allow_63 rfl (lv_at hl 0 rfl) ?_
          refine x_get X hW 0 rfl 23 rfl rfl iwX7 (by decide) wq_1103 rfl dX7_allow_64 ?_
          refine lv_aload_n hx hb dX7_allow_67 rfl (lv_at hl 0 rfl) ?_
          refine x_get X hW 0 rfl 3 rfl rfl iwX7 (by decide) wq_1083 rfl dX7_allow_68 ?_
          refine lv_iload_n hx hb dX7_allow_71 rfl (lv_at hl 2 rfl) ?_
          refine r_zn (a := y.toNat) (by omega) ?_
          refine n_iast X hW (n := 6) (f := ro) 17 rfl (w2 := (mW G a 0 lo bi ru ol ob tk fib gra res buy lst bst rea bid pri itm akf akg got pai riv (va_up rf ru z.toNat) (va_up ro ru y.toNat) rs lat bat val cos row ahe wan giv ++ Y)) rfl (by omega) (by decide) dX7_allow_72 (fun H locs hW => ?_)
          refine lv_aload_n hx hb dX7_allow_73 rfl (lv_at hl 0 rfl) ?_
          refine x_get X hW 0 rfl 24 rfl rfl iwX7 (by decide) wq_1104 rfl dX7_allow_74 ?_
          refine lv_aload_n hx hb dX7_allow_77 rfl (lv_at hl 0 rfl) ?_
          refine x_get X hW 0 rfl 3 rfl rfl iwX7 (by decide) wq_1083 rfl dX7_allow_78 ?_
          refine lv_iload_n hx hb dX7_allow_81 rfl (lv_at hl 3 rfl) ?_
          refine r_zn (a := x.toNat) (by omega) ?_
          refine n_iast X hW (n := 6) (f := rs) 18 rfl (w2 := (mW G a 0 lo bi ru ol ob tk fib gra res buy lst bst rea bid pri itm akf akg got pai riv (va_up rf ru z.toNat) (va_up ro ru y.toNat) (va_up rs ru x.toNat) lat bat val cos row ahe wan giv ++ Y)) rfl (by omega) (by decide) dX7_allow_82 (fun H locs hW => ?_)
          refine lv_aload_n hx hb dX7_allow_83 rfl (lv_at hl 0 rfl) ?_
          refine lv_dup hx hb dX7_allow_84 rfl ?_
          refine x_get X hW 0 rfl 3 rfl rfl iwX7 (by decide) wq_1083 rfl dX7_allow_85 ?_
          refine lv_iconst (v := nI 1) hx hb dX7_allow_88 (by decide) ?_
          refine n_iadd hx hb dX7_allow_89 ?_
          refine lv_dup_x1 hx hb dX7_allow_90 rfl rfl ?_
          refine x_put X hW 0 rfl 3 (w2 := (mW G a 0 lo bi (ru + 1) ol ob tk fib gra res buy lst bst rea bid pri itm akf akg got pai riv (va_up rf ru z.toNat) (va_up ro ru y.toNat) (va_up rs ru x.toNat) lat bat val cos row ahe wan giv ++ Y)) rfl rfl iwX7 tyX7_ok nmX7 (by decide) wq_1083 rfl rfl rfl rfl (Nat.le_of_ble_eq_true rfl) dX7_allow_91 (fun H locs hW => ?_)
          exact ret_i X hW (v := (nI (ru + 1))) (Or.inr (Or.inr (⟨by omega, rfl, rfl⟩))) rfl (by decide) (by decide) dX7_allow_94
        · refine lv_aload_n hx hb dX7_allow_42 rfl (lv_at hl 0 rfl) ?_
          refine lv_iconst (v := nI 2) hx hb dX7_allow_43 (by decide) ?_
          refine go_i X hW (run_V X hW (As := [.int (nI 2)]) (rest := []) 10 0 rfl (c_X7_fail l G a th lo bi ru ol ob tk fib gra res buy lst bst rea bid pri itm akf akg got pai riv rf ro rs lat bat val cos row ahe wan giv Y 2 _) (gi_V wq_1195 wq_1197 wq_44 wq_67 wq_1198) rfl hyX7_fail rfl rfl rfl hl.1 (Nat.le_of_ble_eq_true rfl) ⟨Nat.le_of_ble_eq_true rfl, Nat.le_of_ble_eq_true rfl⟩ ⟨by decide, by decide⟩ dX7_allow_44) (fun r w2 H locs hp hW => ?_)
          obtain ⟨rfl, rfl⟩ := hp
          exact ret_i X hW (v := (nI 0)) (Or.inr (Or.inl (⟨by omega, rfl, rfl⟩))) rfl (by decide) (by decide) dX7_allow_47
      · refine lv_aload_n hx hb dX7_allow_27 rfl (lv_at hl 0 rfl) ?_
        refine lv_iconst (v := nI 1) hx hb dX7_allow_28 (by decide) ?_
        refine go_i X hW (run_V X hW (As := [.int (nI 1)]) (rest := []) 10 0 rfl (c_X7_fail l G a th lo bi ru ol ob tk fib gra res buy lst bst rea bid pri itm akf akg got pai riv rf ro rs lat bat val cos row ahe wan giv Y 1 _) (gi_V wq_1195 wq_1197 wq_44 wq_67 wq_1198) rfl hyX7_fail rfl rfl rfl hl.1 (Nat.le_of_ble_eq_true rfl) ⟨Nat.le_of_ble_eq_true rfl, Nat.le_of_ble_eq_true rfl⟩ ⟨by decide, by decide⟩ dX7_allow_29) (fun r w2 H locs hp hW => ?_)
        obtain ⟨rfl, rfl⟩ := hp
        exact ret_i X hW (v := (nI 0)) (Or.inl (⟨by omega, rfl, rfl⟩)) rfl (by decide) (by decide) dX7_allow_32

set_option maxRecDepth 100000 in
set_option maxHeartbeats 4000000 in
theorem c_X7_forbid (l : Launch) (G : Gt) (a : Nat → Nat) (th lo bi ru ol ob : Nat) (tk : Int) (fib gra res buy lst bst rea bid pri itm akf akg got : Nat → Nat) (pai : Nat → Int) (riv rf ro rs lat bat : Nat → Nat) (val : Nat → Int) (cos row ahe wan giv : Nat → Nat) (Y : va_W) (hI : MIa lo bi ru ol ob fib gra res buy lst bst rea bid pri itm akf akg got pai riv rf ro rs) : Ci l G yX7_forbid (ww yX7_forbid cX7_forbid 1 (some FieldType.int)) (RM 3 0 0) [.ref (a 0)] (mW G a th lo bi ru ol ob tk fib gra res buy lst bst rea bid pri itm akf akg got pai riv rf ro rs lat bat val cos row ahe wan giv ++ Y) (fun r w2 => ((ru = 0) ∧ r = (nI 0) ∧ w2 = (mW G a 1 lo bi ru ol ob tk fib gra res buy lst bst rea bid pri itm akf akg got pai riv rf ro rs lat bat val cos row ahe wan giv ++ Y)) ∨ ((0 < ru) ∧ r = (nI (ru - 1)) ∧ w2 = (mW G a 0 lo bi (ru - 1) ol ob tk fib gra res buy lst bst rea bid pri itm akf akg got pai riv rf ro rs lat bat val cos row ahe wan giv ++ Y))) := by
  refine Ci.intro (by decide) (Nat.le_of_ble_eq_true rfl) ?_
  intro p e s m args below meth c A X hW ls hl
  have hx := X.exec
  have hb := X.bytes
  have hl : lv_has ls 1 [(0, .ref (a 0))] := hl
  obtain ⟨hlo, hbi, hru, hol, hob, hfib, hgra, hres, hbuy, hlst, hbst, hrea, hbid, hpri, hitm, hakf, hakg, hgot, hriv, hrf, hro, hrs, hpai, hcl, hcb⟩ := id hI
  refine lv_aload_n hx hb dX7_forbid_0 rfl (lv_at hl 0 rfl) ?_
  refine x_get X hW 0 rfl 3 rfl rfl iwX7 (by decide) wq_1083 rfl dX7_forbid_1 ?_
  refine n_if_ne hx hb rfl (by omega) (tgt := 13) dX7_forbid_4 (by decide) (fun c_4 => ?_) (fun c_4 => ?_)
  · refine lv_aload_n hx hb dX7_forbid_13 rfl (lv_at hl 0 rfl) ?_
    refine lv_iconst (v := nI 0) hx hb dX7_forbid_14 (by decide) ?_
    refine x_put X hW 0 rfl 0 (w2 := (mW G a 0 lo bi ru ol ob tk fib gra res buy lst bst rea bid pri itm akf akg got pai riv rf ro rs lat bat val cos row ahe wan giv ++ Y)) rfl rfl iwX7 tyX7_ok nmX7 (by decide) wq_1080 rfl rfl rfl rfl (Nat.le_of_ble_eq_true rfl) dX7_forbid_15 (fun H locs hW => ?_)
    refine lv_aload_n hx hb dX7_forbid_18 rfl (lv_at hl 0 rfl) ?_
    refine lv_dup hx hb dX7_forbid_19 rfl ?_
    refine x_get X hW 0 rfl 3 rfl rfl iwX7 (by decide) wq_1083 rfl dX7_forbid_20 ?_
    refine lv_iconst (v := nI 1) hx hb dX7_forbid_23 (by decide) ?_
    refine n_isub hx hb (by omega) dX7_forbid_24 ?_
    refine lv_dup_x1 hx hb dX7_forbid_25 rfl rfl ?_
    refine x_put X hW 0 rfl 3 (w2 := (mW G a 0 lo bi (ru - 1) ol ob tk fib gra res buy lst bst rea bid pri itm akf akg got pai riv rf ro rs lat bat val cos row ahe wan giv ++ Y)) rfl rfl iwX7 tyX7_ok nmX7 (by decide) wq_1083 rfl rfl rfl rfl (Nat.le_of_ble_eq_true rfl) dX7_forbid_26 (fun H locs hW => ?_)
    exact ret_i X hW (v := (nI (ru - 1))) (Or.inr (⟨by omega, rfl, rfl⟩)) rfl (by decide) (by decide) dX7_forbid_29
  · refine lv_aload_n hx hb dX7_forbid_7 rfl (lv_at hl 0 rfl) ?_
    refine lv_iconst (v := nI 1) hx hb dX7_forbid_8 (by decide) ?_
    refine go_i X hW (run_V X hW (As := [.int (nI 1)]) (rest := []) 10 0 rfl (c_X7_fail l G a th lo bi ru ol ob tk fib gra res buy lst bst rea bid pri itm akf akg got pai riv rf ro rs lat bat val cos row ahe wan giv Y 1 _) (gi_V wq_1195 wq_1197 wq_44 wq_67 wq_1198) rfl hyX7_fail rfl rfl rfl hl.1 (Nat.le_of_ble_eq_true rfl) ⟨Nat.le_of_ble_eq_true rfl, Nat.le_of_ble_eq_true rfl⟩ ⟨by decide, by decide⟩ dX7_forbid_9) (fun r w2 H locs hp hW => ?_)
    obtain ⟨rfl, rfl⟩ := hp
    exact ret_i X hW (v := (nI 0)) (Or.inl (⟨by omega, rfl, rfl⟩)) rfl (by decide) (by decide) dX7_forbid_12

set_option maxRecDepth 100000 in
set_option maxHeartbeats 4000000 in
theorem c_X7_bid (l : Launch) (G : Gt) (a : Nat → Nat) (th lo bi ru ol ob : Nat) (tk : Int) (fib gra res buy lst bst rea bid pri itm akf akg got : Nat → Nat) (pai : Nat → Int) (riv rf ro rs lat bat : Nat → Nat) (val : Nat → Int) (cos row ahe wan giv : Nat → Nat) (Y : va_W) (z y : Int) (hI : MIa lo bi ru ol ob fib gra res buy lst bst rea bid pri itm akf akg got pai riv rf ro rs) (hz : iR z) (hy : iR y) : Ci l G yX7_bid (ww yX7_bid cX7_bid 3 (some FieldType.int)) (RM 3 0 0) [.ref (a 0), .int (zI z), .int (zI y)] (mW G a th lo bi ru ol ob tk fib gra res buy lst bst rea bid pri itm akf akg got pai riv rf ro rs lat bat val cos row ahe wan giv ++ Y) (fun r w2 => ((¬ (0 ≤ z ∧ z ≤ 7 ∧ 0 ≤ y ∧ y ≤ 9999)) ∧ r = (nI 0) ∧ w2 = (mW G a 1 lo bi ru ol ob tk fib gra res buy lst bst rea bid pri itm akf akg got pai riv rf ro rs lat bat val cos row ahe wan giv ++ Y)) ∨ (((0 ≤ z ∧ z ≤ 7 ∧ 0 ≤ y ∧ y ≤ 9999) ∧ (ob = 8 ∨ bi = 40)) ∧ r = (nI 0) ∧ w2 = (mW G a 2 lo bi ru ol ob tk fib gra res buy lst bst rea bid pri itm akf akg got pai riv rf ro rs lat bat val cos row ahe wan giv ++ Y)) ∨ (((0 ≤ z ∧ z ≤ 7 ∧ 0 ≤ y ∧ y ≤ 9999) ∧ ob < 8 ∧ bi < 40) ∧ r = (nI bi) ∧ w2 = (mW G a 0 lo (bi + 1) ru ol (ob + 1) tk fib gra res buy lst (va_up bst bi 111) rea (va_up bid bi z.toNat) (va_up pri bi y.toNat) (va_up itm bi 0) akf akg got pai riv rf ro rs lat bat val cos row ahe wan giv ++ Y))) := by
  refine Ci.intro (by decide) (Nat.le_of_ble_eq_true rfl) ?_
  intro p e s m args below meth c A X hW ls hl
  have hx := X.exec
  have hb := X.bytes
  have hl : lv_has ls 3 [(0, .ref (a 0)), (1, .int (zI z)), (2, .int (zI y))] := hl
  obtain ⟨hlo, hbi, hru, hol, hob, hfib, hgra, hres, hbuy, hlst, hbst, hrea, hbid, hpri, hitm, hakf, hakg, hgot, hriv, hrf, hro, hrs, hpai, hcl, hcb⟩ := id hI
  refine lv_iload_n hx hb dX7_bid_0 rfl (lv_at hl 1 rfl) ?_
  refine lv_iconst (v := nI 0) hx hb dX7_bid_1 (by decide) ?_
  refine lv_bipush (v := nI 7) hx hb dX7_bid_2 (by decide) ?_
  refine go_i X hW (run_S X hW (As := [.int (zI z), .int (nI 0), .int (nI 7)]) (rest := []) (c_X7_isIn l G (mW G a th lo bi ru ol ob tk fib gra res buy lst bst rea bid pri itm akf akg got pai riv rf ro rs lat bat val cos row ahe wan giv ++ Y) (zI z) (nI 0) (nI 7) z ((0 : Nat) : Int) ((7 : Nat) : Int) rfl (nZ _) (nZ _) (by omega) (by omega) (by omega) _) (gi_S wq_1189 wq_1190 wq_67 wq_1191) hyX7_isIn rfl rfl hl.1 (Nat.le_of_ble_eq_true rfl) ⟨Nat.le_of_ble_eq_true rfl, Nat.le_of_ble_eq_true rfl⟩ ⟨by decide, by decide⟩ dX7_bid_4) (fun r w2 H locs hp hW => ?_)
  obtain ⟨rfl, rfl⟩ := hp
  refine p_if_eq hx hb (tgt := 21) dX7_bid_7 (by decide) (fun c_7 => ?_) (fun c_7 => ?_)
  · refine lv_aload_n hx hb dX7_bid_21 rfl (lv_at hl 0 rfl) ?_
    refine lv_iconst (v := nI 1) hx hb dX7_bid_22 (by decide) ?_
    refine go_i X hW (run_V X hW (As := [.int (nI 1)]) (rest := []) 10 0 rfl (c_X7_fail l G a th lo bi ru ol ob tk fib gra res buy lst bst rea bid pri itm akf akg got pai riv rf ro rs lat bat val cos row ahe wan giv Y 1 _) (gi_V wq_1195 wq_1197 wq_44 wq_67 wq_1198) rfl hyX7_fail rfl rfl rfl hl.1 (Nat.le_of_ble_eq_true rfl) ⟨Nat.le_of_ble_eq_true rfl, Nat.le_of_ble_eq_true rfl⟩ ⟨by decide, by decide⟩ dX7_bid_23) (fun r w2 H locs hp hW => ?_)
    obtain ⟨rfl, rfl⟩ := hp
    exact ret_i X hW (v := (nI 0)) (Or.inl (⟨by omega, rfl, rfl⟩)) rfl (by decide) (by decide) dX7_bid_26
  · refine lv_iload_n hx hb dX7_bid_10 rfl (lv_at hl 2 rfl) ?_
    refine lv_iconst (v := nI 0) hx hb dX7_bid_11 (by decide) ?_
    refine lv_sipush (v := nI 9999) hx hb dX7_bid_12 (by decide) ?_
    refine go_i X hW (run_S X hW (As := [.int (zI y), .int (nI 0), .int (nI 9999)]) (rest := []) (c_X7_isIn l G (mW G a th lo bi ru ol ob tk fib gra res buy lst bst rea bid pri itm akf akg got pai riv rf ro rs lat bat val cos row ahe wan giv ++ Y) (zI y) (nI 0) (nI 9999) y ((0 : Nat) : Int) ((9999 : Nat) : Int) rfl (nZ _) (nZ _) (by omega) (by omega) (by omega) _) (gi_S wq_1189 wq_1190 wq_67 wq_1191) hyX7_isIn rfl rfl hl.1 (Nat.le_of_ble_eq_true rfl) ⟨Nat.le_of_ble_eq_true rfl, Nat.le_of_ble_eq_true rfl⟩ ⟨by decide, by decide⟩ dX7_bid_15) (fun r w2 H locs hp hW => ?_)
    obtain ⟨rfl, rfl⟩ := hp
    refine p_if_ne hx hb (tgt := 27) dX7_bid_18 (by decide) (fun c_18 => ?_) (fun c_18 => ?_)
    · refine lv_aload_n hx hb dX7_bid_27 rfl (lv_at hl 0 rfl) ?_
      refine x_get X hW 0 rfl 5 rfl rfl iwX7 (by decide) wq_1085 rfl dX7_bid_28 ?_
      refine lv_bipush (v := nI 8) hx hb dX7_bid_31 (by decide) ?_
      refine n_icmp_eq hx hb rfl rfl (by omega) (by omega) (tgt := 45) dX7_bid_33 (by decide) (fun c_33 => ?_) (fun c_33 => ?_)
      · refine lv_aload_n hx hb dX7_bid_45 rfl (lv_at hl 0 rfl) ?_
        refine lv_iconst (v := nI 2) hx hb dX7_bid_46 (by decide) ?_
        refine go_i X hW (run_V X hW (As := [.int (nI 2)]) (rest := []) 10 0 rfl (c_X7_fail l G a th lo bi ru ol ob tk fib gra res buy lst bst rea bid pri itm akf akg got pai riv rf ro rs lat bat val cos row ahe wan giv Y 2 _) (gi_V wq_1195 wq_1197 wq_44 wq_67 wq_1198) rfl hyX7_fail rfl rfl rfl hl.1 (Nat.le_of_ble_eq_true rfl) ⟨Nat.le_of_ble_eq_true rfl, Nat.le_of_ble_eq_true rfl⟩ ⟨by decide, by decide⟩ dX7_bid_47) (fun r w2 H locs hp hW => ?_)
        obtain ⟨rfl, rfl⟩ := hp
        exact ret_i X hW (v := (nI 0)) (Or.inr (Or.inl (⟨by omega, rfl, rfl⟩))) rfl (by decide) (by decide) dX7_bid_50
      · refine lv_aload_n hx hb dX7_bid_36 rfl (lv_at hl 0 rfl) ?_
        refine x_get X hW 0 rfl 2 rfl rfl iwX7 (by decide) wq_1082 rfl dX7_bid_37 ?_
        refine lv_bipush (v := nI 40) hx hb dX7_bid_40 (by decide) ?_
        refine n_icmp_ne hx hb rfl rfl (by omega) (by omega) (tgt := 51) dX7_bid_42 (by decide) (fun c_42 => ?_) (fun c_42 => ?_)
        · refine lv_aload_n hx hb dX7_bid_51 rfl (lv_at hl 0 rfl) ?_
          refine lv_iconst (v := nI 0) hx hb dX7_bid_52 (by decide) ?_
          refine x_put X hW 0 rfl 0 (w2 := (mW G a 0 lo bi ru ol ob tk fib gra res buy lst bst rea bid pri itm akf akg got pai riv rf ro rs lat bat val cos row ahe wan giv ++ Y)) rfl rfl iwX7 tyX7_ok nmX7 (by decide) wq_1080 rfl rfl rfl rfl (Nat.le_of_ble_eq_true rfl) dX7_bid_53 (fun H locs hW => ?_)
          refine lv_aload_n hx hb dX7_bid_56 rfl (lv_at hl 0 rfl) ?_
          refine x_get X hW 0 rfl 14 rfl rfl iwX7 (by decide) wq_1094 rfl dX7_bid_57 ?_
          refine lv_aload_n hx hb dX7_bid_60 rfl (lv_at hl 0 rfl) ?_
          refine x_get X hW 0 rfl 2 rfl rfl iwX7 (by decide) wq_1082 rfl dX7_bid_61 ?_
          refine lv_iload_n hx hb dX7_bid_64 rfl (lv_at hl 1 rfl) ?_
          refine r_zn (a := z.toNat) (by omega) ?_
          refine n_iast X hW (n := 40) (f := bid) 8 rfl (w2 := (mW G a 0 lo bi ru ol ob tk fib gra res buy lst bst rea (va_up bid bi z.toNat) pri itm akf akg got pai riv rf ro rs lat bat val cos row ahe wan giv ++ Y)) rfl (by omega) (by decide) dX7_bid_65 (fun H locs hW => ?_)
          refine lv_aload_n hx hb dX7_bid_66 rfl (lv_at hl 0 rfl) ?_
          refine x_get X hW 0 rfl 15 rfl rfl iwX7 (by decide) wq_1095 rfl dX7_bid_67 ?_
          refine lv_aload_n hx hb dX7_bid_70 rfl (lv_at hl 0 rfl) ?_
          refine x_get X hW 0 rfl 2 rfl rfl iwX7 (by decide) wq_1082 rfl dX7_bid_71 ?_
          refine lv_iload_n hx hb dX7_bid_74 rfl (lv_at hl 2 rfl) ?_
          refine r_zn (a := y.toNat) (by omega) ?_
          refine n_iast X hW (n := 40) (f := pri) 9 rfl (w2 := (mW G a 0 lo bi ru ol ob tk fib gra res buy lst bst rea (va_up bid bi z.toNat) (va_up pri bi y.toNat) itm akf akg got pai riv rf ro rs lat bat val cos row ahe wan giv ++ Y)) rfl (by omega) (by decide) dX7_bid_75 (fun H locs hW => ?_)
          refine lv_aload_n hx hb dX7_bid_76 rfl (lv_at hl 0 rfl) ?_
          refine x_get X hW 0 rfl 16 rfl rfl iwX7 (by decide) wq_1096 rfl dX7_bid_77 ?_
          refine lv_aload_n hx hb dX7_bid_80 rfl (lv_at hl 0 rfl) ?_
          refine x_get X hW 0 rfl 2 rfl rfl iwX7 (by decide) wq_1082 rfl dX7_bid_81 ?_
          refine lv_iconst (v := nI 0) hx hb dX7_bid_84 (by decide) ?_
          refine n_iast X hW (n := 40) (f := itm) 10 rfl (w2 := (mW G a 0 lo bi ru ol ob tk fib gra res buy lst bst rea (va_up bid bi z.toNat) (va_up pri bi y.toNat) (va_up itm bi 0) akf akg got pai riv rf ro rs lat bat val cos row ahe wan giv ++ Y)) rfl (by omega) (by decide) dX7_bid_85 (fun H locs hW => ?_)
          refine lv_aload_n hx hb dX7_bid_86 rfl (lv_at hl 0 rfl) ?_
          refine x_get X hW 0 rfl 12 rfl rfl iwX7 (by decide) wq_1092 rfl dX7_bid_87 ?_
          refine lv_aload_n hx hb dX7_bid_90 rfl (lv_at hl 0 rfl) ?_
          refine x_get X hW 0 rfl 2 rfl rfl iwX7 (by decide) wq_1082 rfl dX7_bid_91 ?_
          refine lv_bipush (v := nI 111) hx hb dX7_bid_94 (by decide) ?_
          refine n_cast X hW (n := 40) (f := bst) 6 rfl (w2 := (mW G a 0 lo bi ru ol ob tk fib gra res buy lst (va_up bst bi 111) rea (va_up bid bi z.toNat) (va_up pri bi y.toNat) (va_up itm bi 0) akf akg got pai riv rf ro rs lat bat val cos row ahe wan giv ++ Y)) rfl (by omega) (by decide) (by omega) dX7_bid_96 (fun H locs hW => ?_)
          refine lv_aload_n hx hb dX7_bid_97 rfl (lv_at hl 0 rfl) ?_
          refine lv_dup hx hb dX7_bid_98 rfl ?_
          refine x_get X hW 0 rfl 5 rfl rfl iwX7 (by decide) wq_1085 rfl dX7_bid_99 ?_
          refine lv_iconst (v := nI 1) hx hb dX7_bid_102 (by decide) ?_
          refine n_iadd hx hb dX7_bid_103 ?_
          refine x_put X hW 0 rfl 5 (w2 := (mW G a 0 lo bi ru ol (ob + 1) tk fib gra res buy lst (va_up bst bi 111) rea (va_up bid bi z.toNat) (va_up pri bi y.toNat) (va_up itm bi 0) akf akg got pai riv rf ro rs lat bat val cos row ahe wan giv ++ Y)) rfl rfl iwX7 tyX7_ok nmX7 (by decide) wq_1085 rfl rfl rfl rfl (Nat.le_of_ble_eq_true rfl) dX7_bid_104 (fun H locs hW => ?_)
          refine lv_aload_n hx hb dX7_bid_107 rfl (lv_at hl 0 rfl) ?_
          refine lv_dup hx hb dX7_bid_108 rfl ?_
          refine x_get X hW 0 rfl 2 rfl rfl iwX7 (by decide) wq_1082 rfl dX7_bid_109 ?_
          refine lv_dup_x1 hx hb dX7_bid_112 rfl rfl ?_
          refine lv_iconst (v := nI 1) hx hb dX7_bid_113 (by decide) ?_
          refine n_iadd hx hb dX7_bid_114 ?_
          refine x_put X hW 0 rfl 2 (w2 := (mW G a 0 lo (bi + 1) ru ol (ob + 1) tk fib gra res buy lst (va_up bst bi 111) rea (va_up bid bi z.toNat) (va_up pri bi y.toNat) (va_up itm bi 0) akf akg got pai riv rf ro rs lat bat val cos row ahe wan giv ++ Y)) rfl rfl iwX7 tyX7_ok nmX7 (by decide) wq_1082 rfl rfl rfl rfl (Nat.le_of_ble_eq_true rfl) dX7_bid_115 (fun H locs hW => ?_)
          exact ret_i X hW (v := (nI bi)) (Or.inr (Or.inr (⟨by omega, rfl, rfl⟩))) rfl (by decide) (by decide) dX7_bid_118
        · refine lv_aload_n hx hb dX7_bid_45 rfl (lv_at hl 0 rfl) ?_
          refine lv_iconst (v := nI 2) hx hb dX7_bid_46 (by decide) ?_
          refine go_i X hW (run_V X hW (As := [.int (nI 2)]) (rest := []) 10 0 rfl (c_X7_fail l G a th lo bi ru ol ob tk fib gra res buy lst bst rea bid pri itm akf akg got pai riv rf ro rs lat bat val cos row ahe wan giv Y 2 _) (gi_V wq_1195 wq_1197 wq_44 wq_67 wq_1198) rfl hyX7_fail rfl rfl rfl hl.1 (Nat.le_of_ble_eq_true rfl) ⟨Nat.le_of_ble_eq_true rfl, Nat.le_of_ble_eq_true rfl⟩ ⟨by decide, by decide⟩ dX7_bid_47) (fun r w2 H locs hp hW => ?_)
          obtain ⟨rfl, rfl⟩ := hp
          exact ret_i X hW (v := (nI 0)) (Or.inr (Or.inl (⟨by omega, rfl, rfl⟩))) rfl (by decide) (by decide) dX7_bid_50
    · refine lv_aload_n hx hb dX7_bid_21 rfl (lv_at hl 0 rfl) ?_
      refine lv_iconst (v := nI 1) hx hb dX7_bid_22 (by decide) ?_
      refine go_i X hW (run_V X hW (As := [.int (nI 1)]) (rest := []) 10 0 rfl (c_X7_fail l G a th lo bi ru ol ob tk fib gra res buy lst bst rea bid pri itm akf akg got pai riv rf ro rs lat bat val cos row ahe wan giv Y 1 _) (gi_V wq_1195 wq_1197 wq_44 wq_67 wq_1198) rfl hyX7_fail rfl rfl rfl hl.1 (Nat.le_of_ble_eq_true rfl) ⟨Nat.le_of_ble_eq_true rfl, Nat.le_of_ble_eq_true rfl⟩ ⟨by decide, by decide⟩ dX7_bid_23) (fun r w2 H locs hp hW => ?_)
      obtain ⟨rfl, rfl⟩ := hp
      exact ret_i X hW (v := (nI 0)) (Or.inl (⟨by omega, rfl, rfl⟩)) rfl (by decide) (by decide) dX7_bid_26

set_option maxRecDepth 100000 in
set_option maxHeartbeats 4000000 in
theorem c_X7_ask (l : Launch) (G : Gt) (a : Nat → Nat) (th lo bi ru ol ob : Nat) (tk : Int) (fib gra res buy lst bst rea bid pri itm akf akg got : Nat → Nat) (pai : Nat → Int) (riv rf ro rs lat bat : Nat → Nat) (val : Nat → Int) (cos row ahe wan giv : Nat → Nat) (Y : va_W) (z y : Int) (g : Nat) (hI : MIa lo bi ru ol ob fib gra res buy lst bst rea bid pri itm akf akg got pai riv rf ro rs) (hz : iR z) (hy : iR y) (hg : g < 65536) : Ci l G yX7_ask (ww yX7_ask cX7_ask 4 (some FieldType.int)) (RM 3 0 0) [.ref (a 0), .int (zI z), .int (zI y), .int (nI g)] (mW G a th lo bi ru ol ob tk fib gra res buy lst bst rea bid pri itm akf akg got pai riv rf ro rs lat bat val cos row ahe wan giv ++ Y) (fun r w2 => ((¬ (0 ≤ z ∧ z < ((bi : Nat) : Int))) ∧ r = (nI 0) ∧ w2 = (mW G a 1 lo bi ru ol ob tk fib gra res buy lst bst rea bid pri itm akf akg got pai riv rf ro rs lat bat val cos row ahe wan giv ++ Y)) ∨ (((0 ≤ z ∧ z < ((bi : Nat) : Int)) ∧ ¬ (0 ≤ y ∧ y ≤ 3 ∧ 97 ≤ g ∧ g ≤ 101)) ∧ r = (nI 0) ∧ w2 = (mW G a 2 lo bi ru ol ob tk fib gra res buy lst bst rea bid pri itm akf akg got pai riv rf ro rs lat bat val cos row ahe wan giv ++ Y)) ∨ (((0 ≤ z ∧ z < ((bi : Nat) : Int)) ∧ (0 ≤ y ∧ y ≤ 3 ∧ 97 ≤ g ∧ g ≤ 101) ∧ (bst z.toNat ≠ 111 ∨ itm z.toNat = 3)) ∧ r = (nI 0) ∧ w2 = (mW G a 3 lo bi ru ol ob tk fib gra res buy lst bst rea bid pri itm akf akg got pai riv rf ro rs lat bat val cos row ahe wan giv ++ Y)) ∨ (((0 ≤ z ∧ z < ((bi : Nat) : Int)) ∧ (0 ≤ y ∧ y ≤ 3 ∧ 97 ≤ g ∧ g ≤ 101) ∧ bst z.toNat = 111 ∧ itm z.toNat < 3) ∧ r = (nI ((itm z.toNat) + 1)) ∧ w2 = (mW G a 0 lo bi ru ol ob tk fib gra res buy lst bst rea bid pri (va_up itm z.toNat ((itm z.toNat) + 1)) (va_up akf (3 * z.toNat + (itm z.toNat)) y.toNat) (va_up akg (3 * z.toNat + (itm z.toNat)) g) got pai riv rf ro rs lat bat val cos row ahe wan giv ++ Y))) := by
  refine Ci.intro (by decide) (Nat.le_of_ble_eq_true rfl) ?_
  intro p e s m args below meth c A X hW ls hl
  have hx := X.exec
  have hb := X.bytes
  have hl : lv_has ls 4 [(0, .ref (a 0)), (1, .int (zI z)), (2, .int (zI y)), (3, .int (nI g))] := hl
  obtain ⟨hlo, hbi, hru, hol, hob, hfib, hgra, hres, hbuy, hlst, hbst, hrea, hbid, hpri, hitm, hakf, hakg, hgot, hriv, hrf, hro, hrs, hpai, hcl, hcb⟩ := id hI
  have hbz := hbst z.toNat
  have hiz := hitm z.toNat
  have hpz := hpri z.toNat
  have hrz := hrea z.toNat
  refine lv_aload_n hx hb dX7_ask_0 rfl (lv_at hl 0 rfl) ?_
  refine lv_iload_n hx hb dX7_ask_1 rfl (lv_at hl 1 rfl) ?_
  refine go_i X hW (run_V X hW (As := [.int (zI z)]) (rest := []) 10 0 rfl (c_X7_isBid l G a th lo bi ru ol ob tk fib gra res buy lst bst rea bid pri itm akf akg got pai riv rf ro rs lat bat val cos row ahe wan giv Y (zI z) z rfl (by omega) (by omega) _) (gi_V wq_1223 wq_1225 wq_46 wq_67 wq_1226) rfl hyX7_isBid rfl rfl rfl hl.1 (Nat.le_of_ble_eq_true rfl) ⟨Nat.le_of_ble_eq_true rfl, Nat.le_of_ble_eq_true rfl⟩ ⟨by decide, by decide⟩ dX7_ask_2) (fun r w2 H locs hp hW => ?_)
  obtain ⟨rfl, rfl⟩ := hp
  refine p_if_ne hx hb (tgt := 14) dX7_ask_5 (by decide) (fun c_5 => ?_) (fun c_5 => ?_)
  · refine lv_iload_n hx hb dX7_ask_14 rfl (lv_at hl 2 rfl) ?_
    refine lv_iconst (v := nI 0) hx hb dX7_ask_15 (by decide) ?_
    refine lv_iconst (v := nI 3) hx hb dX7_ask_16 (by decide) ?_
    refine go_i X hW (run_S X hW (As := [.int (zI y), .int (nI 0), .int (nI 3)]) (rest := []) (c_X7_isIn l G (mW G a th lo bi ru ol ob tk fib gra res buy lst bst rea bid pri itm akf akg got pai riv rf ro rs lat bat val cos row ahe wan giv ++ Y) (zI y) (nI 0) (nI 3) y ((0 : Nat) : Int) ((3 : Nat) : Int) rfl (nZ _) (nZ _) (by omega) (by omega) (by omega) _) (gi_S wq_1189 wq_1190 wq_67 wq_1191) hyX7_isIn rfl rfl hl.1 (Nat.le_of_ble_eq_true rfl) ⟨Nat.le_of_ble_eq_true rfl, Nat.le_of_ble_eq_true rfl⟩ ⟨by decide, by decide⟩ dX7_ask_17) (fun r w2 H locs hp hW => ?_)
    obtain ⟨rfl, rfl⟩ := hp
    refine p_if_eq hx hb (tgt := 30) dX7_ask_20 (by decide) (fun c_20 => ?_) (fun c_20 => ?_)
    · refine lv_aload_n hx hb dX7_ask_30 rfl (lv_at hl 0 rfl) ?_
      refine lv_iconst (v := nI 2) hx hb dX7_ask_31 (by decide) ?_
      refine go_i X hW (run_V X hW (As := [.int (nI 2)]) (rest := []) 10 0 rfl (c_X7_fail l G a th lo bi ru ol ob tk fib gra res buy lst bst rea bid pri itm akf akg got pai riv rf ro rs lat bat val cos row ahe wan giv Y 2 _) (gi_V wq_1195 wq_1197 wq_44 wq_67 wq_1198) rfl hyX7_fail rfl rfl rfl hl.1 (Nat.le_of_ble_eq_true rfl) ⟨Nat.le_of_ble_eq_true rfl, Nat.le_of_ble_eq_true rfl⟩ ⟨by decide, by decide⟩ dX7_ask_32) (fun r w2 H locs hp hW => ?_)
      obtain ⟨rfl, rfl⟩ := hp
      exact ret_i X hW (v := (nI 0)) (Or.inr (Or.inl (⟨by omega, rfl, rfl⟩))) rfl (by decide) (by decide) dX7_ask_35
    · refine lv_iload_n hx hb dX7_ask_23 rfl (lv_at hl 3 rfl) ?_
      refine go_i X hW (run_S X hW (As := [.int (nI g)]) (rest := []) (c_X7_isGrade l G (mW G a th lo bi ru ol ob tk fib gra res buy lst bst rea bid pri itm akf akg got pai riv rf ro rs lat bat val cos row ahe wan giv ++ Y) g (by omega) _) (gi_S wq_1192 wq_1193 wq_67 wq_1194) hyX7_isGrade rfl rfl hl.1 (Nat.le_of_ble_eq_true rfl) ⟨Nat.le_of_ble_eq_true rfl, Nat.le_of_ble_eq_true rfl⟩ ⟨by decide, by decide⟩ dX7_ask_24) (fun r w2 H locs hp hW => ?_)
      obtain ⟨rfl, rfl⟩ := hp
      refine p_if_ne hx hb (tgt := 36) dX7_ask_27 (by decide) (fun c_27 => ?_) (fun c_27 => ?_)
      · refine lv_aload_n hx hb dX7_ask_36 rfl (lv_at hl 0 rfl) ?_
        refine x_get X hW 0 rfl 12 rfl rfl iwX7 (by decide) wq_1092 rfl dX7_ask_37 ?_
        refine lv_iload_n hx hb dX7_ask_40 rfl (lv_at hl 1 rfl) ?_
        refine r_zn (a := z.toNat) (by omega) ?_
        refine n_cald X hW (n := 40) (f := bst) 6 rfl (by omega) (by decide) dX7_ask_41 ?_
        refine lv_bipush (v := nI 111) hx hb dX7_ask_42 (by decide) ?_
        refine n_icmp_ne hx hb rfl rfl (by omega) (by omega) (tgt := 57) dX7_ask_44 (by decide) (fun c_44 => ?_) (fun c_44 => ?_)
        · refine lv_aload_n hx hb dX7_ask_57 rfl (lv_at hl 0 rfl) ?_
          refine lv_iconst (v := nI 3) hx hb dX7_ask_58 (by decide) ?_
          refine go_i X hW (run_V X hW (As := [.int (nI 3)]) (rest := []) 10 0 rfl (c_X7_fail l G a th lo bi ru ol ob tk fib gra res buy lst bst rea bid pri itm akf akg got pai riv rf ro rs lat bat val cos row ahe wan giv Y 3 _) (gi_V wq_1195 wq_1197 wq_44 wq_67 wq_1198) rfl hyX7_fail rfl rfl rfl hl.1 (Nat.le_of_ble_eq_true rfl) ⟨Nat.le_of_ble_eq_true rfl, Nat.le_of_ble_eq_true rfl⟩ ⟨by decide, by decide⟩ dX7_ask_59) (fun r w2 H locs hp hW => ?_)
          obtain ⟨rfl, rfl⟩ := hp
          exact ret_i X hW (v := (nI 0)) (Or.inr (Or.inr (Or.inl (⟨by omega, rfl, rfl⟩)))) rfl (by decide) (by decide) dX7_ask_62
        · refine lv_aload_n hx hb dX7_ask_47 rfl (lv_at hl 0 rfl) ?_
          refine x_get X hW 0 rfl 16 rfl rfl iwX7 (by decide) wq_1096 rfl dX7_ask_48 ?_
          refine lv_iload_n hx hb dX7_ask_51 rfl (lv_at hl 1 rfl) ?_
          refine r_zn (a := z.toNat) (by omega) ?_
          refine n_iald X hW (n := 40) (f := itm) 10 rfl (by omega) (by decide) dX7_ask_52 ?_
          refine lv_iconst (v := nI 3) hx hb dX7_ask_53 (by decide) ?_
          refine n_icmp_ne hx hb rfl rfl (by omega) (by omega) (tgt := 63) dX7_ask_54 (by decide) (fun c_54 => ?_) (fun c_54 => ?_)
          · refine lv_aload_n hx hb dX7_ask_63 rfl (lv_at hl 0 rfl) ?_
            refine lv_iconst (v := nI 0) hx hb dX7_ask_64 (by decide) ?_
            refine x_put X hW 0 rfl 0 (w2 := (mW G a 0 lo bi ru ol ob tk fib gra res buy lst bst rea bid pri itm akf akg got pai riv rf ro rs lat bat val cos row ahe wan giv ++ Y)) rfl rfl iwX7 tyX7_ok nmX7 (by decide) wq_1080 rfl rfl rfl rfl (Nat.le_of_ble_eq_true rfl) dX7_ask_65 (fun H locs hW => ?_)
            refine lv_aload_n hx hb dX7_ask_68 rfl (lv_at hl 0 rfl) ?_
            refine x_get X hW 0 rfl 17 rfl rfl iwX7 (by decide) wq_1097 rfl dX7_ask_69 ?_
            refine lv_iconst (v := nI 3) hx hb dX7_ask_72 (by decide) ?_
            refine lv_iload_n hx hb dX7_ask_73 rfl (lv_at hl 1 rfl) ?_
            refine r_zn (a := z.toNat) (by omega) ?_
            refine n_imul hx hb dX7_ask_74 ?_
            refine lv_aload_n hx hb dX7_ask_75 rfl (lv_at hl 0 rfl) ?_
            refine x_get X hW 0 rfl 16 rfl rfl iwX7 (by decide) wq_1096 rfl dX7_ask_76 ?_
            refine lv_iload_n hx hb dX7_ask_79 rfl (lv_at hl 1 rfl) ?_
            refine r_zn (a := z.toNat) (by omega) ?_
            refine n_iald X hW (n := 40) (f := itm) 10 rfl (by omega) (by decide) dX7_ask_80 ?_
            refine n_iadd hx hb dX7_ask_81 ?_
            refine lv_iload_n hx hb dX7_ask_82 rfl (lv_at hl 2 rfl) ?_
            refine r_zn (a := y.toNat) (by omega) ?_
            refine n_iast X hW (n := 120) (f := akf) 11 rfl (w2 := (mW G a 0 lo bi ru ol ob tk fib gra res buy lst bst rea bid pri itm (va_up akf ((3 * z.toNat) + (itm z.toNat)) y.toNat) akg got pai riv rf ro rs lat bat val cos row ahe wan giv ++ Y)) rfl (by omega) (by decide) dX7_ask_83 (fun H locs hW => ?_)
            refine lv_aload_n hx hb dX7_ask_84 rfl (lv_at hl 0 rfl) ?_
            refine x_get X hW 0 rfl 18 rfl rfl iwX7 (by decide) wq_1098 rfl dX7_ask_85 ?_
            refine lv_iconst (v := nI 3) hx hb dX7_ask_88 (by decide) ?_
            refine lv_iload_n hx hb dX7_ask_89 rfl (lv_at hl 1 rfl) ?_
            refine r_zn (a := z.toNat) (by omega) ?_
            refine n_imul hx hb dX7_ask_90 ?_
            refine lv_aload_n hx hb dX7_ask_91 rfl (lv_at hl 0 rfl) ?_
            refine x_get X hW 0 rfl 16 rfl rfl iwX7 (by decide) wq_1096 rfl dX7_ask_92 ?_
            refine lv_iload_n hx hb dX7_ask_95 rfl (lv_at hl 1 rfl) ?_
            refine r_zn (a := z.toNat) (by omega) ?_
            refine n_iald X hW (n := 40) (f := itm) 10 rfl (by omega) (by decide) dX7_ask_96 ?_
            refine n_iadd hx hb dX7_ask_97 ?_
            refine lv_iload_n hx hb dX7_ask_98 rfl (lv_at hl 3 rfl) ?_
            refine n_iast X hW (n := 120) (f := akg) 12 rfl (w2 := (mW G a 0 lo bi ru ol ob tk fib gra res buy lst bst rea bid pri itm (va_up akf ((3 * z.toNat) + (itm z.toNat)) y.toNat) (va_up akg ((3 * z.toNat) + (itm z.toNat)) g) got pai riv rf ro rs lat bat val cos row ahe wan giv ++ Y)) rfl (by omega) (by decide) dX7_ask_99 (fun H locs hW => ?_)
            refine lv_aload_n hx hb dX7_ask_100 rfl (lv_at hl 0 rfl) ?_
            refine x_get X hW 0 rfl 16 rfl rfl iwX7 (by decide) wq_1096 rfl dX7_ask_101 ?_
            refine lv_iload_n hx hb dX7_ask_104 rfl (lv_at hl 1 rfl) ?_
            refine r_zn (a := z.toNat) (by omega) ?_
            refine lv_dup2_11 hx hb dX7_ask_105 rfl rfl ?_
            refine n_iald X hW (n := 40) (f := itm) 10 rfl (by omega) (by decide) dX7_ask_106 ?_
            refine lv_iconst (v := nI 1) hx hb dX7_ask_107 (by decide) ?_
            refine n_iadd hx hb dX7_ask_108 ?_
            refine lv_dup_x2 hx hb dX7_ask_109 rfl rfl rfl ?_
            refine n_iast X hW (n := 40) (f := itm) 10 rfl (w2 := (mW G a 0 lo bi ru ol ob tk fib gra res buy lst bst rea bid pri (va_up itm z.toNat ((itm z.toNat) + 1)) (va_up akf ((3 * z.toNat) + (itm z.toNat)) y.toNat) (va_up akg ((3 * z.toNat) + (itm z.toNat)) g) got pai riv rf ro rs lat bat val cos row ahe wan giv ++ Y)) rfl (by omega) (by decide) dX7_ask_110 (fun H locs hW => ?_)
            exact ret_i X hW (v := (nI ((itm z.toNat) + 1))) (Or.inr (Or.inr (Or.inr (⟨by omega, rfl, rfl⟩)))) rfl (by decide) (by decide) dX7_ask_111
          · refine lv_aload_n hx hb dX7_ask_57 rfl (lv_at hl 0 rfl) ?_
            refine lv_iconst (v := nI 3) hx hb dX7_ask_58 (by decide) ?_
            refine go_i X hW (run_V X hW (As := [.int (nI 3)]) (rest := []) 10 0 rfl (c_X7_fail l G a th lo bi ru ol ob tk fib gra res buy lst bst rea bid pri itm akf akg got pai riv rf ro rs lat bat val cos row ahe wan giv Y 3 _) (gi_V wq_1195 wq_1197 wq_44 wq_67 wq_1198) rfl hyX7_fail rfl rfl rfl hl.1 (Nat.le_of_ble_eq_true rfl) ⟨Nat.le_of_ble_eq_true rfl, Nat.le_of_ble_eq_true rfl⟩ ⟨by decide, by decide⟩ dX7_ask_59) (fun r w2 H locs hp hW => ?_)
            obtain ⟨rfl, rfl⟩ := hp
            exact ret_i X hW (v := (nI 0)) (Or.inr (Or.inr (Or.inl (⟨by omega, rfl, rfl⟩)))) rfl (by decide) (by decide) dX7_ask_62
      · refine lv_aload_n hx hb dX7_ask_30 rfl (lv_at hl 0 rfl) ?_
        refine lv_iconst (v := nI 2) hx hb dX7_ask_31 (by decide) ?_
        refine go_i X hW (run_V X hW (As := [.int (nI 2)]) (rest := []) 10 0 rfl (c_X7_fail l G a th lo bi ru ol ob tk fib gra res buy lst bst rea bid pri itm akf akg got pai riv rf ro rs lat bat val cos row ahe wan giv Y 2 _) (gi_V wq_1195 wq_1197 wq_44 wq_67 wq_1198) rfl hyX7_fail rfl rfl rfl hl.1 (Nat.le_of_ble_eq_true rfl) ⟨Nat.le_of_ble_eq_true rfl, Nat.le_of_ble_eq_true rfl⟩ ⟨by decide, by decide⟩ dX7_ask_32) (fun r w2 H locs hp hW => ?_)
        obtain ⟨rfl, rfl⟩ := hp
        exact ret_i X hW (v := (nI 0)) (Or.inr (Or.inl (⟨by omega, rfl, rfl⟩))) rfl (by decide) (by decide) dX7_ask_35
  · refine lv_aload_n hx hb dX7_ask_8 rfl (lv_at hl 0 rfl) ?_
    refine lv_iconst (v := nI 1) hx hb dX7_ask_9 (by decide) ?_
    refine go_i X hW (run_V X hW (As := [.int (nI 1)]) (rest := []) 10 0 rfl (c_X7_fail l G a th lo bi ru ol ob tk fib gra res buy lst bst rea bid pri itm akf akg got pai riv rf ro rs lat bat val cos row ahe wan giv Y 1 _) (gi_V wq_1195 wq_1197 wq_44 wq_67 wq_1198) rfl hyX7_fail rfl rfl rfl hl.1 (Nat.le_of_ble_eq_true rfl) ⟨Nat.le_of_ble_eq_true rfl, Nat.le_of_ble_eq_true rfl⟩ ⟨by decide, by decide⟩ dX7_ask_10) (fun r w2 H locs hp hW => ?_)
    obtain ⟨rfl, rfl⟩ := hp
    exact ret_i X hW (v := (nI 0)) (Or.inl (⟨by omega, rfl, rfl⟩)) rfl (by decide) (by decide) dX7_ask_13

set_option maxRecDepth 100000 in
set_option maxHeartbeats 4000000 in
theorem c_X7_raise (l : Launch) (G : Gt) (a : Nat → Nat) (th lo bi ru ol ob : Nat) (tk : Int) (fib gra res buy lst bst rea bid pri itm akf akg got : Nat → Nat) (pai : Nat → Int) (riv rf ro rs lat bat : Nat → Nat) (val : Nat → Int) (cos row ahe wan giv : Nat → Nat) (Y : va_W) (z y : Int) (hI : MIa lo bi ru ol ob fib gra res buy lst bst rea bid pri itm akf akg got pai riv rf ro rs) (hz : iR z) (hy : iR y) : Ci l G yX7_raise (ww yX7_raise cX7_raise 4 (some FieldType.int)) (RM 3 0 0) [.ref (a 0), .int (zI z), .int (zI y)] (mW G a th lo bi ru ol ob tk fib gra res buy lst bst rea bid pri itm akf akg got pai riv rf ro rs lat bat val cos row ahe wan giv ++ Y) (fun r w2 => ((¬ (0 ≤ z ∧ z < ((bi : Nat) : Int))) ∧ r = (nI 0) ∧ w2 = (mW G a 1 lo bi ru ol ob tk fib gra res buy lst bst rea bid pri itm akf akg got pai riv rf ro rs lat bat val cos row ahe wan giv ++ Y)) ∨ (((0 ≤ z ∧ z < ((bi : Nat) : Int)) ∧ bst z.toNat ≠ 111) ∧ r = (nI 0) ∧ w2 = (mW G a 2 lo bi ru ol ob tk fib gra res buy lst bst rea bid pri itm akf akg got pai riv rf ro rs lat bat val cos row ahe wan giv ++ Y)) ∨ (((0 ≤ z ∧ z < ((bi : Nat) : Int)) ∧ bst z.toNat = 111 ∧ (y ≤ pri z.toNat ∨ 9999 < y)) ∧ r = (nI 0) ∧ w2 = (mW G a 3 lo bi ru ol ob tk fib gra res buy lst bst rea bid pri itm akf akg got pai riv rf ro rs lat bat val cos row ahe wan giv ++ Y)) ∨ (((0 ≤ z ∧ z < ((bi : Nat) : Int)) ∧ bst z.toNat = 111 ∧ (pri z.toNat : Int) < y ∧ y ≤ 9999) ∧ r = (nI (pri z.toNat)) ∧ w2 = (mW G a 0 lo bi ru ol ob tk fib gra res buy lst bst rea bid (va_up pri z.toNat y.toNat) itm akf akg got pai riv rf ro rs lat bat val cos row ahe wan giv ++ Y))) := by
  refine Ci.intro (by decide) (Nat.le_of_ble_eq_true rfl) ?_
  intro p e s m args below meth c A X hW ls hl
  have hx := X.exec
  have hb := X.bytes
  have hl : lv_has ls 4 [(0, .ref (a 0)), (1, .int (zI z)), (2, .int (zI y))] := hl
  obtain ⟨hlo, hbi, hru, hol, hob, hfib, hgra, hres, hbuy, hlst, hbst, hrea, hbid, hpri, hitm, hakf, hakg, hgot, hriv, hrf, hro, hrs, hpai, hcl, hcb⟩ := id hI
  have hbz := hbst z.toNat
  have hiz := hitm z.toNat
  have hpz := hpri z.toNat
  have hrz := hrea z.toNat
  refine lv_aload_n hx hb dX7_raise_0 rfl (lv_at hl 0 rfl) ?_
  refine lv_iload_n hx hb dX7_raise_1 rfl (lv_at hl 1 rfl) ?_
  refine go_i X hW (run_V X hW (As := [.int (zI z)]) (rest := []) 10 0 rfl (c_X7_isBid l G a th lo bi ru ol ob tk fib gra res buy lst bst rea bid pri itm akf akg got pai riv rf ro rs lat bat val cos row ahe wan giv Y (zI z) z rfl (by omega) (by omega) _) (gi_V wq_1223 wq_1225 wq_46 wq_67 wq_1226) rfl hyX7_isBid rfl rfl rfl hl.1 (Nat.le_of_ble_eq_true rfl) ⟨Nat.le_of_ble_eq_true rfl, Nat.le_of_ble_eq_true rfl⟩ ⟨by decide, by decide⟩ dX7_raise_2) (fun r w2 H locs hp hW => ?_)
  obtain ⟨rfl, rfl⟩ := hp
  refine p_if_ne hx hb (tgt := 14) dX7_raise_5 (by decide) (fun c_5 => ?_) (fun c_5 => ?_)
  · refine lv_aload_n hx hb dX7_raise_14 rfl (lv_at hl 0 rfl) ?_
    refine x_get X hW 0 rfl 12 rfl rfl iwX7 (by decide) wq_1092 rfl dX7_raise_15 ?_
    refine lv_iload_n hx hb dX7_raise_18 rfl (lv_at hl 1 rfl) ?_
    refine r_zn (a := z.toNat) (by omega) ?_
    refine n_cald X hW (n := 40) (f := bst) 6 rfl (by omega) (by decide) dX7_raise_19 ?_
    refine lv_bipush (v := nI 111) hx hb dX7_raise_20 (by decide) ?_
    refine n_icmp_eq hx hb rfl rfl (by omega) (by omega) (tgt := 31) dX7_raise_22 (by decide) (fun c_22 => ?_) (fun c_22 => ?_)
    · refine lv_iload_n hx hb dX7_raise_31 rfl (lv_at hl 2 rfl) ?_
      refine lv_aload_n hx hb dX7_raise_32 rfl (lv_at hl 0 rfl) ?_
      refine x_get X hW 0 rfl 15 rfl rfl iwX7 (by decide) wq_1095 rfl dX7_raise_33 ?_
      refine lv_iload_n hx hb dX7_raise_36 rfl (lv_at hl 1 rfl) ?_
      refine r_zn (a := z.toNat) (by omega) ?_
      refine n_iald X hW (n := 40) (f := pri) 9 rfl (by omega) (by decide) dX7_raise_37 ?_
      refine z_icmp_le hx hb rfl (nZ _) (by omega) (by omega) (tgt := 48) dX7_raise_38 (by decide) (fun c_38 => ?_) (fun c_38 => ?_)
      · refine lv_aload_n hx hb dX7_raise_48 rfl (lv_at hl 0 rfl) ?_
        refine lv_iconst (v := nI 3) hx hb dX7_raise_49 (by decide) ?_
        refine go_i X hW (run_V X hW (As := [.int (nI 3)]) (rest := []) 10 0 rfl (c_X7_fail l G a th lo bi ru ol ob tk fib gra res buy lst bst rea bid pri itm akf akg got pai riv rf ro rs lat bat val cos row ahe wan giv Y 3 _) (gi_V wq_1195 wq_1197 wq_44 wq_67 wq_1198) rfl hyX7_fail rfl rfl rfl hl.1 (Nat.le_of_ble_eq_true rfl) ⟨Nat.le_of_ble_eq_true rfl, Nat.le_of_ble_eq_true rfl⟩ ⟨by decide, by decide⟩ dX7_raise_50) (fun r w2 H locs hp hW => ?_)
        obtain ⟨rfl, rfl⟩ := hp
        exact ret_i X hW (v := (nI 0)) (Or.inr (Or.inr (Or.inl (⟨by omega, rfl, rfl⟩)))) rfl (by decide) (by decide) dX7_raise_53
      · refine lv_iload_n hx hb dX7_raise_41 rfl (lv_at hl 2 rfl) ?_
        refine lv_sipush (v := nI 9999) hx hb dX7_raise_42 (by decide) ?_
        refine z_icmp_le hx hb rfl (nZ _) (by omega) (by omega) (tgt := 54) dX7_raise_45 (by decide) (fun c_45 => ?_) (fun c_45 => ?_)
        · refine lv_aload_n hx hb dX7_raise_54 rfl (lv_at hl 0 rfl) ?_
          refine lv_iconst (v := nI 0) hx hb dX7_raise_55 (by decide) ?_
          refine x_put X hW 0 rfl 0 (w2 := (mW G a 0 lo bi ru ol ob tk fib gra res buy lst bst rea bid pri itm akf akg got pai riv rf ro rs lat bat val cos row ahe wan giv ++ Y)) rfl rfl iwX7 tyX7_ok nmX7 (by decide) wq_1080 rfl rfl rfl rfl (Nat.le_of_ble_eq_true rfl) dX7_raise_56 (fun H locs hW => ?_)
          refine lv_aload_n hx hb dX7_raise_59 rfl (lv_at hl 0 rfl) ?_
          refine x_get X hW 0 rfl 15 rfl rfl iwX7 (by decide) wq_1095 rfl dX7_raise_60 ?_
          refine lv_iload_n hx hb dX7_raise_63 rfl (lv_at hl 1 rfl) ?_
          refine r_zn (a := z.toNat) (by omega) ?_
          refine n_iald X hW (n := 40) (f := pri) 9 rfl (by omega) (by decide) dX7_raise_64 ?_
          refine lv_istore_n (lv' := [(3, .int (nI (pri z.toNat))), (0, .ref (a 0)), (1, .int (zI z)), (2, .int (zI y))]) hx hb dX7_raise_65 rfl hl (by decide) rfl (fun ls hl => ?_)
          refine lv_aload_n hx hb dX7_raise_66 rfl (lv_at hl 1 rfl) ?_
          refine x_get X hW 0 rfl 15 rfl rfl iwX7 (by decide) wq_1095 rfl dX7_raise_67 ?_
          refine lv_iload_n hx hb dX7_raise_70 rfl (lv_at hl 2 rfl) ?_
          refine r_zn (a := z.toNat) (by omega) ?_
          refine lv_iload_n hx hb dX7_raise_71 rfl (lv_at hl 3 rfl) ?_
          refine r_zn (a := y.toNat) (by omega) ?_
          refine n_iast X hW (n := 40) (f := pri) 9 rfl (w2 := (mW G a 0 lo bi ru ol ob tk fib gra res buy lst bst rea bid (va_up pri z.toNat y.toNat) itm akf akg got pai riv rf ro rs lat bat val cos row ahe wan giv ++ Y)) rfl (by omega) (by decide) dX7_raise_72 (fun H locs hW => ?_)
          refine lv_iload_n hx hb dX7_raise_73 rfl (lv_at hl 0 rfl) ?_
          exact ret_i X hW (v := (nI (pri z.toNat))) (Or.inr (Or.inr (Or.inr (⟨by omega, rfl, rfl⟩)))) rfl (by decide) (by decide) dX7_raise_74
        · refine lv_aload_n hx hb dX7_raise_48 rfl (lv_at hl 0 rfl) ?_
          refine lv_iconst (v := nI 3) hx hb dX7_raise_49 (by decide) ?_
          refine go_i X hW (run_V X hW (As := [.int (nI 3)]) (rest := []) 10 0 rfl (c_X7_fail l G a th lo bi ru ol ob tk fib gra res buy lst bst rea bid pri itm akf akg got pai riv rf ro rs lat bat val cos row ahe wan giv Y 3 _) (gi_V wq_1195 wq_1197 wq_44 wq_67 wq_1198) rfl hyX7_fail rfl rfl rfl hl.1 (Nat.le_of_ble_eq_true rfl) ⟨Nat.le_of_ble_eq_true rfl, Nat.le_of_ble_eq_true rfl⟩ ⟨by decide, by decide⟩ dX7_raise_50) (fun r w2 H locs hp hW => ?_)
          obtain ⟨rfl, rfl⟩ := hp
          exact ret_i X hW (v := (nI 0)) (Or.inr (Or.inr (Or.inl (⟨by omega, rfl, rfl⟩)))) rfl (by decide) (by decide) dX7_raise_53
    · refine lv_aload_n hx hb dX7_raise_25 rfl (lv_at hl 0 rfl) ?_
      refine lv_iconst (v := nI 2) hx hb dX7_raise_26 (by decide) ?_
      refine go_i X hW (run_V X hW (As := [.int (nI 2)]) (rest := []) 10 0 rfl (c_X7_fail l G a th lo bi ru ol ob tk fib gra res buy lst bst rea bid pri itm akf akg got pai riv rf ro rs lat bat val cos row ahe wan giv Y 2 _) (gi_V wq_1195 wq_1197 wq_44 wq_67 wq_1198) rfl hyX7_fail rfl rfl rfl hl.1 (Nat.le_of_ble_eq_true rfl) ⟨Nat.le_of_ble_eq_true rfl, Nat.le_of_ble_eq_true rfl⟩ ⟨by decide, by decide⟩ dX7_raise_27) (fun r w2 H locs hp hW => ?_)
      obtain ⟨rfl, rfl⟩ := hp
      exact ret_i X hW (v := (nI 0)) (Or.inr (Or.inl (⟨by omega, rfl, rfl⟩))) rfl (by decide) (by decide) dX7_raise_30
  · refine lv_aload_n hx hb dX7_raise_8 rfl (lv_at hl 0 rfl) ?_
    refine lv_iconst (v := nI 1) hx hb dX7_raise_9 (by decide) ?_
    refine go_i X hW (run_V X hW (As := [.int (nI 1)]) (rest := []) 10 0 rfl (c_X7_fail l G a th lo bi ru ol ob tk fib gra res buy lst bst rea bid pri itm akf akg got pai riv rf ro rs lat bat val cos row ahe wan giv Y 1 _) (gi_V wq_1195 wq_1197 wq_44 wq_67 wq_1198) rfl hyX7_fail rfl rfl rfl hl.1 (Nat.le_of_ble_eq_true rfl) ⟨Nat.le_of_ble_eq_true rfl, Nat.le_of_ble_eq_true rfl⟩ ⟨by decide, by decide⟩ dX7_raise_10) (fun r w2 H locs hp hW => ?_)
    obtain ⟨rfl, rfl⟩ := hp
    exact ret_i X hW (v := (nI 0)) (Or.inl (⟨by omega, rfl, rfl⟩)) rfl (by decide) (by decide) dX7_raise_13

set_option maxRecDepth 100000 in
set_option maxHeartbeats 4000000 in
theorem c_X7_cancel (l : Launch) (G : Gt) (a : Nat → Nat) (th lo bi ru ol ob : Nat) (tk : Int) (fib gra res buy lst bst rea bid pri itm akf akg got : Nat → Nat) (pai : Nat → Int) (riv rf ro rs lat bat : Nat → Nat) (val : Nat → Int) (cos row ahe wan giv : Nat → Nat) (Y : va_W) (z : Int) (hI : MIa lo bi ru ol ob fib gra res buy lst bst rea bid pri itm akf akg got pai riv rf ro rs) (hz : iR z) : Ci l G yX7_cancel (ww yX7_cancel cX7_cancel 2 (some FieldType.int)) (RM 3 0 0) [.ref (a 0), .int (zI z)] (mW G a th lo bi ru ol ob tk fib gra res buy lst bst rea bid pri itm akf akg got pai riv rf ro rs lat bat val cos row ahe wan giv ++ Y) (fun r w2 => ((¬ (0 ≤ z ∧ z < ((bi : Nat) : Int))) ∧ r = (nI 0) ∧ w2 = (mW G a 1 lo bi ru ol ob tk fib gra res buy lst bst rea bid pri itm akf akg got pai riv rf ro rs lat bat val cos row ahe wan giv ++ Y)) ∨ (((0 ≤ z ∧ z < ((bi : Nat) : Int)) ∧ bst z.toNat ≠ 111) ∧ r = (nI 0) ∧ w2 = (mW G a 2 lo bi ru ol ob tk fib gra res buy lst bst rea bid pri itm akf akg got pai riv rf ro rs lat bat val cos row ahe wan giv ++ Y)) ∨ (((0 ≤ z ∧ z < ((bi : Nat) : Int)) ∧ bst z.toNat = 111) ∧ r = (nI (pri z.toNat)) ∧ w2 = (mW G a 0 lo bi ru ol (ob - 1) tk fib gra res buy lst (va_up bst z.toNat 99) rea bid pri itm akf akg got pai riv rf ro rs lat bat val cos row ahe wan giv ++ Y))) := by
  refine Ci.intro (by decide) (Nat.le_of_ble_eq_true rfl) ?_
  intro p e s m args below meth c A X hW ls hl
  have hx := X.exec
  have hb := X.bytes
  have hl : lv_has ls 2 [(0, .ref (a 0)), (1, .int (zI z))] := hl
  obtain ⟨hlo, hbi, hru, hol, hob, hfib, hgra, hres, hbuy, hlst, hbst, hrea, hbid, hpri, hitm, hakf, hakg, hgot, hriv, hrf, hro, hrs, hpai, hcl, hcb⟩ := id hI
  have hbz := hbst z.toNat
  have hiz := hitm z.toNat
  have hpz := hpri z.toNat
  have hrz := hrea z.toNat
  refine lv_aload_n hx hb dX7_cancel_0 rfl (lv_at hl 0 rfl) ?_
  refine lv_iload_n hx hb dX7_cancel_1 rfl (lv_at hl 1 rfl) ?_
  refine go_i X hW (run_V X hW (As := [.int (zI z)]) (rest := []) 10 0 rfl (c_X7_isBid l G a th lo bi ru ol ob tk fib gra res buy lst bst rea bid pri itm akf akg got pai riv rf ro rs lat bat val cos row ahe wan giv Y (zI z) z rfl (by omega) (by omega) _) (gi_V wq_1223 wq_1225 wq_46 wq_67 wq_1226) rfl hyX7_isBid rfl rfl rfl hl.1 (Nat.le_of_ble_eq_true rfl) ⟨Nat.le_of_ble_eq_true rfl, Nat.le_of_ble_eq_true rfl⟩ ⟨by decide, by decide⟩ dX7_cancel_2) (fun r w2 H locs hp hW => ?_)
  obtain ⟨rfl, rfl⟩ := hp
  refine p_if_ne hx hb (tgt := 14) dX7_cancel_5 (by decide) (fun c_5 => ?_) (fun c_5 => ?_)
  · refine lv_aload_n hx hb dX7_cancel_14 rfl (lv_at hl 0 rfl) ?_
    refine x_get X hW 0 rfl 12 rfl rfl iwX7 (by decide) wq_1092 rfl dX7_cancel_15 ?_
    refine lv_iload_n hx hb dX7_cancel_18 rfl (lv_at hl 1 rfl) ?_
    refine r_zn (a := z.toNat) (by omega) ?_
    refine n_cald X hW (n := 40) (f := bst) 6 rfl (by omega) (by decide) dX7_cancel_19 ?_
    refine lv_bipush (v := nI 111) hx hb dX7_cancel_20 (by decide) ?_
    refine n_icmp_eq hx hb rfl rfl (by omega) (by omega) (tgt := 31) dX7_cancel_22 (by decide) (fun c_22 => ?_) (fun c_22 => ?_)
    · refine lv_aload_n hx hb dX7_cancel_31 rfl (lv_at hl 0 rfl) ?_
      refine lv_iconst (v := nI 0) hx hb dX7_cancel_32 (by decide) ?_
      refine x_put X hW 0 rfl 0 (w2 := (mW G a 0 lo bi ru ol ob tk fib gra res buy lst bst rea bid pri itm akf akg got pai riv rf ro rs lat bat val cos row ahe wan giv ++ Y)) rfl rfl iwX7 tyX7_ok nmX7 (by decide) wq_1080 rfl rfl rfl rfl (Nat.le_of_ble_eq_true rfl) dX7_cancel_33 (fun H locs hW => ?_)
      refine lv_aload_n hx hb dX7_cancel_36 rfl (lv_at hl 0 rfl) ?_
      refine x_get X hW 0 rfl 12 rfl rfl iwX7 (by decide) wq_1092 rfl dX7_cancel_37 ?_
      refine lv_iload_n hx hb dX7_cancel_40 rfl (lv_at hl 1 rfl) ?_
      refine r_zn (a := z.toNat) (by omega) ?_
      refine lv_bipush (v := nI 99) hx hb dX7_cancel_41 (by decide) ?_
      refine n_cast X hW (n := 40) (f := bst) 6 rfl (w2 := (mW G a 0 lo bi ru ol ob tk fib gra res buy lst (va_up bst z.toNat 99) rea bid pri itm akf akg got pai riv rf ro rs lat bat val cos row ahe wan giv ++ Y)) rfl (by omega) (by decide) (by omega) dX7_cancel_43 (fun H locs hW => ?_)
      have hpo := bsum_pos (p := fun k => decide (bst k = 111)) (g := fun _ => 1) (n := bi) (k := z.toNat) (by omega) (decide_eq_true (by omega))
      refine lv_aload_n hx hb dX7_cancel_44 rfl (lv_at hl 0 rfl) ?_
      refine lv_dup hx hb dX7_cancel_45 rfl ?_
      refine x_get X hW 0 rfl 5 rfl rfl iwX7 (by decide) wq_1085 rfl dX7_cancel_46 ?_
      refine lv_iconst (v := nI 1) hx hb dX7_cancel_49 (by decide) ?_
      refine n_isub hx hb (by omega) dX7_cancel_50 ?_
      refine x_put X hW 0 rfl 5 (w2 := (mW G a 0 lo bi ru ol (ob - 1) tk fib gra res buy lst (va_up bst z.toNat 99) rea bid pri itm akf akg got pai riv rf ro rs lat bat val cos row ahe wan giv ++ Y)) rfl rfl iwX7 tyX7_ok nmX7 (by decide) wq_1085 rfl rfl rfl rfl (Nat.le_of_ble_eq_true rfl) dX7_cancel_51 (fun H locs hW => ?_)
      refine lv_aload_n hx hb dX7_cancel_54 rfl (lv_at hl 0 rfl) ?_
      refine x_get X hW 0 rfl 15 rfl rfl iwX7 (by decide) wq_1095 rfl dX7_cancel_55 ?_
      refine lv_iload_n hx hb dX7_cancel_58 rfl (lv_at hl 1 rfl) ?_
      refine r_zn (a := z.toNat) (by omega) ?_
      refine n_iald X hW (n := 40) (f := pri) 9 rfl (by omega) (by decide) dX7_cancel_59 ?_
      exact ret_i X hW (v := (nI (pri z.toNat))) (Or.inr (Or.inr (⟨by omega, rfl, rfl⟩))) rfl (by decide) (by decide) dX7_cancel_60
    · refine lv_aload_n hx hb dX7_cancel_25 rfl (lv_at hl 0 rfl) ?_
      refine lv_iconst (v := nI 2) hx hb dX7_cancel_26 (by decide) ?_
      refine go_i X hW (run_V X hW (As := [.int (nI 2)]) (rest := []) 10 0 rfl (c_X7_fail l G a th lo bi ru ol ob tk fib gra res buy lst bst rea bid pri itm akf akg got pai riv rf ro rs lat bat val cos row ahe wan giv Y 2 _) (gi_V wq_1195 wq_1197 wq_44 wq_67 wq_1198) rfl hyX7_fail rfl rfl rfl hl.1 (Nat.le_of_ble_eq_true rfl) ⟨Nat.le_of_ble_eq_true rfl, Nat.le_of_ble_eq_true rfl⟩ ⟨by decide, by decide⟩ dX7_cancel_27) (fun r w2 H locs hp hW => ?_)
      obtain ⟨rfl, rfl⟩ := hp
      exact ret_i X hW (v := (nI 0)) (Or.inr (Or.inl (⟨by omega, rfl, rfl⟩))) rfl (by decide) (by decide) dX7_cancel_30
  · refine lv_aload_n hx hb dX7_cancel_8 rfl (lv_at hl 0 rfl) ?_
    refine lv_iconst (v := nI 1) hx hb dX7_cancel_9 (by decide) ?_
    refine go_i X hW (run_V X hW (As := [.int (nI 1)]) (rest := []) 10 0 rfl (c_X7_fail l G a th lo bi ru ol ob tk fib gra res buy lst bst rea bid pri itm akf akg got pai riv rf ro rs lat bat val cos row ahe wan giv Y 1 _) (gi_V wq_1195 wq_1197 wq_44 wq_67 wq_1198) rfl hyX7_fail rfl rfl rfl hl.1 (Nat.le_of_ble_eq_true rfl) ⟨Nat.le_of_ble_eq_true rfl, Nat.le_of_ble_eq_true rfl⟩ ⟨by decide, by decide⟩ dX7_cancel_10) (fun r w2 H locs hp hW => ?_)
    obtain ⟨rfl, rfl⟩ := hp
    exact ret_i X hW (v := (nI 0)) (Or.inl (⟨by omega, rfl, rfl⟩)) rfl (by decide) (by decide) dX7_cancel_13

set_option maxRecDepth 100000 in
set_option maxHeartbeats 4000000 in
theorem c_X7_lots (l : Launch) (G : Gt) (a : Nat → Nat) (th lo bi ru ol ob : Nat) (tk : Int) (fib gra res buy lst bst rea bid pri itm akf akg got : Nat → Nat) (pai : Nat → Int) (riv rf ro rs lat bat : Nat → Nat) (val : Nat → Int) (cos row ahe wan giv : Nat → Nat) (Y : va_W) (hI : MIa lo bi ru ol ob fib gra res buy lst bst rea bid pri itm akf akg got pai riv rf ro rs) : Ci l G yX7_lots (ww yX7_lots cX7_lots 1 (some FieldType.int)) (RM 0 0 0) [.ref (a 0)] (mW G a th lo bi ru ol ob tk fib gra res buy lst bst rea bid pri itm akf akg got pai riv rf ro rs lat bat val cos row ahe wan giv ++ Y) (fun r w2 => r = (nI lo) ∧ w2 = (mW G a th lo bi ru ol ob tk fib gra res buy lst bst rea bid pri itm akf akg got pai riv rf ro rs lat bat val cos row ahe wan giv ++ Y)) := by
  refine Ci.intro (by decide) (Nat.le_of_ble_eq_true rfl) ?_
  intro p e s m args below meth c A X hW ls hl
  have hx := X.exec
  have hb := X.bytes
  have hl : lv_has ls 1 [(0, .ref (a 0))] := hl
  obtain ⟨hlo, hbi, hru, hol, hob, hfib, hgra, hres, hbuy, hlst, hbst, hrea, hbid, hpri, hitm, hakf, hakg, hgot, hriv, hrf, hro, hrs, hpai, hcl, hcb⟩ := id hI
  refine lv_aload_n hx hb dX7_lots_0 rfl (lv_at hl 0 rfl) ?_
  refine x_get X hW 0 rfl 1 rfl rfl iwX7 (by decide) wq_1081 rfl dX7_lots_1 ?_
  exact ret_i X hW (v := (nI lo)) (⟨rfl, rfl⟩) rfl (by decide) (by decide) dX7_lots_4

set_option maxRecDepth 100000 in
set_option maxHeartbeats 4000000 in
theorem c_X7_bids (l : Launch) (G : Gt) (a : Nat → Nat) (th lo bi ru ol ob : Nat) (tk : Int) (fib gra res buy lst bst rea bid pri itm akf akg got : Nat → Nat) (pai : Nat → Int) (riv rf ro rs lat bat : Nat → Nat) (val : Nat → Int) (cos row ahe wan giv : Nat → Nat) (Y : va_W) (hI : MIa lo bi ru ol ob fib gra res buy lst bst rea bid pri itm akf akg got pai riv rf ro rs) : Ci l G yX7_bids (ww yX7_bids cX7_bids 1 (some FieldType.int)) (RM 0 0 0) [.ref (a 0)] (mW G a th lo bi ru ol ob tk fib gra res buy lst bst rea bid pri itm akf akg got pai riv rf ro rs lat bat val cos row ahe wan giv ++ Y) (fun r w2 => r = (nI bi) ∧ w2 = (mW G a th lo bi ru ol ob tk fib gra res buy lst bst rea bid pri itm akf akg got pai riv rf ro rs lat bat val cos row ahe wan giv ++ Y)) := by
  refine Ci.intro (by decide) (Nat.le_of_ble_eq_true rfl) ?_
  intro p e s m args below meth c A X hW ls hl
  have hx := X.exec
  have hb := X.bytes
  have hl : lv_has ls 1 [(0, .ref (a 0))] := hl
  obtain ⟨hlo, hbi, hru, hol, hob, hfib, hgra, hres, hbuy, hlst, hbst, hrea, hbid, hpri, hitm, hakf, hakg, hgot, hriv, hrf, hro, hrs, hpai, hcl, hcb⟩ := id hI
  refine lv_aload_n hx hb dX7_bids_0 rfl (lv_at hl 0 rfl) ?_
  refine x_get X hW 0 rfl 2 rfl rfl iwX7 (by decide) wq_1082 rfl dX7_bids_1 ?_
  exact ret_i X hW (v := (nI bi)) (⟨rfl, rfl⟩) rfl (by decide) (by decide) dX7_bids_4

set_option maxRecDepth 100000 in
set_option maxHeartbeats 4000000 in
theorem c_X7_openLots (l : Launch) (G : Gt) (a : Nat → Nat) (th lo bi ru ol ob : Nat) (tk : Int) (fib gra res buy lst bst rea bid pri itm akf akg got : Nat → Nat) (pai : Nat → Int) (riv rf ro rs lat bat : Nat → Nat) (val : Nat → Int) (cos row ahe wan giv : Nat → Nat) (Y : va_W) (hI : MIa lo bi ru ol ob fib gra res buy lst bst rea bid pri itm akf akg got pai riv rf ro rs) : Ci l G yX7_openLots (ww yX7_openLots cX7_openLots 1 (some FieldType.int)) (RM 0 0 0) [.ref (a 0)] (mW G a th lo bi ru ol ob tk fib gra res buy lst bst rea bid pri itm akf akg got pai riv rf ro rs lat bat val cos row ahe wan giv ++ Y) (fun r w2 => r = (nI ol) ∧ w2 = (mW G a th lo bi ru ol ob tk fib gra res buy lst bst rea bid pri itm akf akg got pai riv rf ro rs lat bat val cos row ahe wan giv ++ Y)) := by
  refine Ci.intro (by decide) (Nat.le_of_ble_eq_true rfl) ?_
  intro p e s m args below meth c A X hW ls hl
  have hx := X.exec
  have hb := X.bytes
  have hl : lv_has ls 1 [(0, .ref (a 0))] := hl
  obtain ⟨hlo, hbi, hru, hol, hob, hfib, hgra, hres, hbuy, hlst, hbst, hrea, hbid, hpri, hitm, hakf, hakg, hgot, hriv, hrf, hro, hrs, hpai, hcl, hcb⟩ := id hI
  refine lv_aload_n hx hb dX7_openLots_0 rfl (lv_at hl 0 rfl) ?_
  refine x_get X hW 0 rfl 4 rfl rfl iwX7 (by decide) wq_1084 rfl dX7_openLots_1 ?_
  exact ret_i X hW (v := (nI ol)) (⟨rfl, rfl⟩) rfl (by decide) (by decide) dX7_openLots_4

set_option maxRecDepth 100000 in
set_option maxHeartbeats 4000000 in
theorem c_X7_openBids (l : Launch) (G : Gt) (a : Nat → Nat) (th lo bi ru ol ob : Nat) (tk : Int) (fib gra res buy lst bst rea bid pri itm akf akg got : Nat → Nat) (pai : Nat → Int) (riv rf ro rs lat bat : Nat → Nat) (val : Nat → Int) (cos row ahe wan giv : Nat → Nat) (Y : va_W) (hI : MIa lo bi ru ol ob fib gra res buy lst bst rea bid pri itm akf akg got pai riv rf ro rs) : Ci l G yX7_openBids (ww yX7_openBids cX7_openBids 1 (some FieldType.int)) (RM 0 0 0) [.ref (a 0)] (mW G a th lo bi ru ol ob tk fib gra res buy lst bst rea bid pri itm akf akg got pai riv rf ro rs lat bat val cos row ahe wan giv ++ Y) (fun r w2 => r = (nI ob) ∧ w2 = (mW G a th lo bi ru ol ob tk fib gra res buy lst bst rea bid pri itm akf akg got pai riv rf ro rs lat bat val cos row ahe wan giv ++ Y)) := by
  refine Ci.intro (by decide) (Nat.le_of_ble_eq_true rfl) ?_
  intro p e s m args below meth c A X hW ls hl
  have hx := X.exec
  have hb := X.bytes
  have hl : lv_has ls 1 [(0, .ref (a 0))] := hl
  obtain ⟨hlo, hbi, hru, hol, hob, hfib, hgra, hres, hbuy, hlst, hbst, hrea, hbid, hpri, hitm, hakf, hakg, hgot, hriv, hrf, hro, hrs, hpai, hcl, hcb⟩ := id hI
  refine lv_aload_n hx hb dX7_openBids_0 rfl (lv_at hl 0 rfl) ?_
  refine x_get X hW 0 rfl 5 rfl rfl iwX7 (by decide) wq_1085 rfl dX7_openBids_1 ?_
  exact ret_i X hW (v := (nI ob)) (⟨rfl, rfl⟩) rfl (by decide) (by decide) dX7_openBids_4

set_option maxRecDepth 100000 in
set_option maxHeartbeats 4000000 in
theorem c_X7_takings (l : Launch) (G : Gt) (a : Nat → Nat) (th lo bi ru ol ob : Nat) (tk : Int) (fib gra res buy lst bst rea bid pri itm akf akg got : Nat → Nat) (pai : Nat → Int) (riv rf ro rs lat bat : Nat → Nat) (val : Nat → Int) (cos row ahe wan giv : Nat → Nat) (Y : va_W) (hI : MIa lo bi ru ol ob fib gra res buy lst bst rea bid pri itm akf akg got pai riv rf ro rs) : Cl l G yX7_takings (ww yX7_takings cX7_takings 1 (some FieldType.long)) (RM 0 0 0) [.ref (a 0)] (mW G a th lo bi ru ol ob tk fib gra res buy lst bst rea bid pri itm akf akg got pai riv rf ro rs lat bat val cos row ahe wan giv ++ Y) (fun r w2 => r = (lZ tk) ∧ w2 = (mW G a th lo bi ru ol ob tk fib gra res buy lst bst rea bid pri itm akf akg got pai riv rf ro rs lat bat val cos row ahe wan giv ++ Y)) := by
  refine Cl.intro (by decide) (Nat.le_of_ble_eq_true rfl) ?_
  intro p e s m args below meth c A X hW ls hl
  have hx := X.exec
  have hb := X.bytes
  have hl : lv_has ls 1 [(0, .ref (a 0))] := hl
  obtain ⟨hlo, hbi, hru, hol, hob, hfib, hgra, hres, hbuy, hlst, hbst, hrea, hbid, hpri, hitm, hakf, hakg, hgot, hriv, hrf, hro, hrs, hpai, hcl, hcb⟩ := id hI
  refine lv_aload_n hx hb dX7_takings_0 rfl (lv_at hl 0 rfl) ?_
  refine x_get X hW 0 rfl 6 rfl rfl iwX7 (by decide) wq_1086 rfl dX7_takings_1 ?_
  exact ret_l X hW (⟨rfl, rfl⟩) rfl (by decide) (by decide) dX7_takings_4

set_option maxRecDepth 100000 in
set_option maxHeartbeats 4000000 in
theorem c_X7_fibreOf (l : Launch) (G : Gt) (a : Nat → Nat) (th lo bi ru ol ob : Nat) (tk : Int) (fib gra res buy lst bst rea bid pri itm akf akg got : Nat → Nat) (pai : Nat → Int) (riv rf ro rs lat bat : Nat → Nat) (val : Nat → Int) (cos row ahe wan giv : Nat → Nat) (Y : va_W) (z : Int) (hI : MIa lo bi ru ol ob fib gra res buy lst bst rea bid pri itm akf akg got pai riv rf ro rs) (hz : iR z) : Ci l G yX7_fibreOf (ww yX7_fibreOf cX7_fibreOf 2 (some FieldType.int)) (RM 3 0 0) [.ref (a 0), .int (zI z)] (mW G a th lo bi ru ol ob tk fib gra res buy lst bst rea bid pri itm akf akg got pai riv rf ro rs lat bat val cos row ahe wan giv ++ Y) (fun r w2 => ((¬ (0 ≤ z ∧ z < ((lo : Nat) : Int))) ∧ r = (nI 0) ∧ w2 = (mW G a 1 lo bi ru ol ob tk fib gra res buy lst bst rea bid pri itm akf akg got pai riv rf ro rs lat bat val cos row ahe wan giv ++ Y)) ∨ ((0 ≤ z ∧ z < ((lo : Nat) : Int)) ∧ r = (nI (fib z.toNat)) ∧ w2 = (mW G a 0 lo bi ru ol ob tk fib gra res buy lst bst rea bid pri itm akf akg got pai riv rf ro rs lat bat val cos row ahe wan giv ++ Y))) := by
  refine Ci.intro (by decide) (Nat.le_of_ble_eq_true rfl) ?_
  intro p e s m args below meth c A X hW ls hl
  have hx := X.exec
  have hb := X.bytes
  have hl : lv_has ls 2 [(0, .ref (a 0)), (1, .int (zI z))] := hl
  obtain ⟨hlo, hbi, hru, hol, hob, hfib, hgra, hres, hbuy, hlst, hbst, hrea, hbid, hpri, hitm, hakf, hakg, hgot, hriv, hrf, hro, hrs, hpai, hcl, hcb⟩ := id hI
  have hgz := hfib z.toNat
  refine lv_aload_n hx hb dX7_fibreOf_0 rfl (lv_at hl 0 rfl) ?_
  refine lv_iload_n hx hb dX7_fibreOf_1 rfl (lv_at hl 1 rfl) ?_
  refine go_i X hW (run_V X hW (As := [.int (zI z)]) (rest := []) 10 0 rfl (c_X7_noLot l G a th lo bi ru ol ob tk fib gra res buy lst bst rea bid pri itm akf akg got pai riv rf ro rs lat bat val cos row ahe wan giv Y (zI z) z rfl (by omega) (by omega) _) (gi_V wq_1304 wq_1306 wq_57 wq_67 wq_1307) rfl hyX7_noLot rfl rfl rfl hl.1 (Nat.le_of_ble_eq_true rfl) ⟨Nat.le_of_ble_eq_true rfl, Nat.le_of_ble_eq_true rfl⟩ ⟨by decide, by decide⟩ dX7_fibreOf_2) (fun r w2 H locs hp hW => ?_)
  obtain ⟨rfl, rfl⟩ := hp
  refine p_if_eq hx hb (tgt := 12) dX7_fibreOf_5 (by decide) (fun c_5 => ?_) (fun c_5 => ?_)
  · rw [if_neg c_5] at hW
    refine lv_aload_n hx hb dX7_fibreOf_12 rfl (lv_at hl 0 rfl) ?_
    refine x_get X hW 0 rfl 7 rfl rfl iwX7 (by decide) wq_1087 rfl dX7_fibreOf_13 ?_
    refine lv_iload_n hx hb dX7_fibreOf_16 rfl (lv_at hl 1 rfl) ?_
    refine r_zn (a := z.toNat) (by omega) ?_
    refine n_iald X hW (n := 40) (f := fib) 1 rfl (by omega) (by decide) dX7_fibreOf_17 ?_
    exact ret_i X hW (v := (nI (fib z.toNat))) (Or.inr (⟨by omega, rfl, rfl⟩)) rfl (by decide) (by decide) dX7_fibreOf_18
  · rw [if_pos c_5] at hW
    refine lv_iconst (v := nI 0) hx hb dX7_fibreOf_8 (by decide) ?_
    refine lv_goto (tgt := 18) hx hb dX7_fibreOf_9 (by decide) ?_
    exact ret_i X hW (v := (nI 0)) (Or.inl (⟨by omega, rfl, rfl⟩)) rfl (by decide) (by decide) dX7_fibreOf_18

set_option maxRecDepth 100000 in
set_option maxHeartbeats 4000000 in
theorem c_X7_gradeOf (l : Launch) (G : Gt) (a : Nat → Nat) (th lo bi ru ol ob : Nat) (tk : Int) (fib gra res buy lst bst rea bid pri itm akf akg got : Nat → Nat) (pai : Nat → Int) (riv rf ro rs lat bat : Nat → Nat) (val : Nat → Int) (cos row ahe wan giv : Nat → Nat) (Y : va_W) (z : Int) (hI : MIa lo bi ru ol ob fib gra res buy lst bst rea bid pri itm akf akg got pai riv rf ro rs) (hz : iR z) : Ci l G yX7_gradeOf (ww yX7_gradeOf cX7_gradeOf 2 (some FieldType.char)) (RM 3 0 0) [.ref (a 0), .int (zI z)] (mW G a th lo bi ru ol ob tk fib gra res buy lst bst rea bid pri itm akf akg got pai riv rf ro rs lat bat val cos row ahe wan giv ++ Y) (fun r w2 => ((¬ (0 ≤ z ∧ z < ((lo : Nat) : Int))) ∧ r = (nI 97) ∧ w2 = (mW G a 1 lo bi ru ol ob tk fib gra res buy lst bst rea bid pri itm akf akg got pai riv rf ro rs lat bat val cos row ahe wan giv ++ Y)) ∨ ((0 ≤ z ∧ z < ((lo : Nat) : Int)) ∧ r = (nI (gra z.toNat)) ∧ w2 = (mW G a 0 lo bi ru ol ob tk fib gra res buy lst bst rea bid pri itm akf akg got pai riv rf ro rs lat bat val cos row ahe wan giv ++ Y))) := by
  refine Ci.intro (by decide) (Nat.le_of_ble_eq_true rfl) ?_
  intro p e s m args below meth c A X hW ls hl
  have hx := X.exec
  have hb := X.bytes
  have hl : lv_has ls 2 [(0, .ref (a 0)), (1, .int (zI z))] := hl
  obtain ⟨hlo, hbi, hru, hol, hob, hfib, hgra, hres, hbuy, hlst, hbst, hrea, hbid, hpri, hitm, hakf, hakg, hgot, hriv, hrf, hro, hrs, hpai, hcl, hcb⟩ := id hI
  have hgz := hgra z.toNat
  refine lv_aload_n hx hb dX7_gradeOf_0 rfl (lv_at hl 0 rfl) ?_
  refine lv_iload_n hx hb dX7_gradeOf_1 rfl (lv_at hl 1 rfl) ?_
  refine go_i X hW (run_V X hW (As := [.int (zI z)]) (rest := []) 10 0 rfl (c_X7_noLot l G a th lo bi ru ol ob tk fib gra res buy lst bst rea bid pri itm akf akg got pai riv rf ro rs lat bat val cos row ahe wan giv Y (zI z) z rfl (by omega) (by omega) _) (gi_V wq_1304 wq_1306 wq_57 wq_67 wq_1307) rfl hyX7_noLot rfl rfl rfl hl.1 (Nat.le_of_ble_eq_true rfl) ⟨Nat.le_of_ble_eq_true rfl, Nat.le_of_ble_eq_true rfl⟩ ⟨by decide, by decide⟩ dX7_gradeOf_2) (fun r w2 H locs hp hW => ?_)
  obtain ⟨rfl, rfl⟩ := hp
  refine p_if_eq hx hb (tgt := 13) dX7_gradeOf_5 (by decide) (fun c_5 => ?_) (fun c_5 => ?_)
  · rw [if_neg c_5] at hW
    refine lv_aload_n hx hb dX7_gradeOf_13 rfl (lv_at hl 0 rfl) ?_
    refine x_get X hW 0 rfl 8 rfl rfl iwX7 (by decide) wq_1088 rfl dX7_gradeOf_14 ?_
    refine lv_iload_n hx hb dX7_gradeOf_17 rfl (lv_at hl 1 rfl) ?_
    refine r_zn (a := z.toNat) (by omega) ?_
    refine n_iald X hW (n := 40) (f := gra) 2 rfl (by omega) (by decide) dX7_gradeOf_18 ?_
    refine n_i2c hx hb (by omega) dX7_gradeOf_19 ?_
    exact ret_z X hW (v := (nI (gra z.toNat))) (Or.inr (⟨by omega, rfl, rfl⟩)) rfl (by first | rfl | exact (pk_charN (by omega)).1) (by decide) (by decide) dX7_gradeOf_20
  · rw [if_pos c_5] at hW
    refine lv_bipush (v := nI 97) hx hb dX7_gradeOf_8 (by decide) ?_
    refine lv_goto (tgt := 20) hx hb dX7_gradeOf_10 (by decide) ?_
    exact ret_z X hW (v := (nI 97)) (Or.inl (⟨by omega, rfl, rfl⟩)) rfl (by first | rfl | exact (pk_charN (by omega)).1) (by decide) (by decide) dX7_gradeOf_20

set_option maxRecDepth 100000 in
set_option maxHeartbeats 4000000 in
theorem c_X7_reserveOf (l : Launch) (G : Gt) (a : Nat → Nat) (th lo bi ru ol ob : Nat) (tk : Int) (fib gra res buy lst bst rea bid pri itm akf akg got : Nat → Nat) (pai : Nat → Int) (riv rf ro rs lat bat : Nat → Nat) (val : Nat → Int) (cos row ahe wan giv : Nat → Nat) (Y : va_W) (z : Int) (hI : MIa lo bi ru ol ob fib gra res buy lst bst rea bid pri itm akf akg got pai riv rf ro rs) (hz : iR z) : Ci l G yX7_reserveOf (ww yX7_reserveOf cX7_reserveOf 2 (some FieldType.int)) (RM 3 0 0) [.ref (a 0), .int (zI z)] (mW G a th lo bi ru ol ob tk fib gra res buy lst bst rea bid pri itm akf akg got pai riv rf ro rs lat bat val cos row ahe wan giv ++ Y) (fun r w2 => ((¬ (0 ≤ z ∧ z < ((lo : Nat) : Int))) ∧ r = (nI 0) ∧ w2 = (mW G a 1 lo bi ru ol ob tk fib gra res buy lst bst rea bid pri itm akf akg got pai riv rf ro rs lat bat val cos row ahe wan giv ++ Y)) ∨ ((0 ≤ z ∧ z < ((lo : Nat) : Int)) ∧ r = (nI (res z.toNat)) ∧ w2 = (mW G a 0 lo bi ru ol ob tk fib gra res buy lst bst rea bid pri itm akf akg got pai riv rf ro rs lat bat val cos row ahe wan giv ++ Y))) := by
  refine Ci.intro (by decide) (Nat.le_of_ble_eq_true rfl) ?_
  intro p e s m args below meth c A X hW ls hl
  have hx := X.exec
  have hb := X.bytes
  have hl : lv_has ls 2 [(0, .ref (a 0)), (1, .int (zI z))] := hl
  obtain ⟨hlo, hbi, hru, hol, hob, hfib, hgra, hres, hbuy, hlst, hbst, hrea, hbid, hpri, hitm, hakf, hakg, hgot, hriv, hrf, hro, hrs, hpai, hcl, hcb⟩ := id hI
  have hgz := hres z.toNat
  refine lv_aload_n hx hb dX7_reserveOf_0 rfl (lv_at hl 0 rfl) ?_
  refine lv_iload_n hx hb dX7_reserveOf_1 rfl (lv_at hl 1 rfl) ?_
  refine go_i X hW (run_V X hW (As := [.int (zI z)]) (rest := []) 10 0 rfl (c_X7_noLot l G a th lo bi ru ol ob tk fib gra res buy lst bst rea bid pri itm akf akg got pai riv rf ro rs lat bat val cos row ahe wan giv Y (zI z) z rfl (by omega) (by omega) _) (gi_V wq_1304 wq_1306 wq_57 wq_67 wq_1307) rfl hyX7_noLot rfl rfl rfl hl.1 (Nat.le_of_ble_eq_true rfl) ⟨Nat.le_of_ble_eq_true rfl, Nat.le_of_ble_eq_true rfl⟩ ⟨by decide, by decide⟩ dX7_reserveOf_2) (fun r w2 H locs hp hW => ?_)
  obtain ⟨rfl, rfl⟩ := hp
  refine p_if_eq hx hb (tgt := 12) dX7_reserveOf_5 (by decide) (fun c_5 => ?_) (fun c_5 => ?_)
  · rw [if_neg c_5] at hW
    refine lv_aload_n hx hb dX7_reserveOf_12 rfl (lv_at hl 0 rfl) ?_
    refine x_get X hW 0 rfl 9 rfl rfl iwX7 (by decide) wq_1089 rfl dX7_reserveOf_13 ?_
    refine lv_iload_n hx hb dX7_reserveOf_16 rfl (lv_at hl 1 rfl) ?_
    refine r_zn (a := z.toNat) (by omega) ?_
    refine n_iald X hW (n := 40) (f := res) 3 rfl (by omega) (by decide) dX7_reserveOf_17 ?_
    exact ret_i X hW (v := (nI (res z.toNat))) (Or.inr (⟨by omega, rfl, rfl⟩)) rfl (by decide) (by decide) dX7_reserveOf_18
  · rw [if_pos c_5] at hW
    refine lv_iconst (v := nI 0) hx hb dX7_reserveOf_8 (by decide) ?_
    refine lv_goto (tgt := 18) hx hb dX7_reserveOf_9 (by decide) ?_
    exact ret_i X hW (v := (nI 0)) (Or.inl (⟨by omega, rfl, rfl⟩)) rfl (by decide) (by decide) dX7_reserveOf_18

set_option maxRecDepth 100000 in
set_option maxHeartbeats 4000000 in
theorem c_X7_lotState (l : Launch) (G : Gt) (a : Nat → Nat) (th lo bi ru ol ob : Nat) (tk : Int) (fib gra res buy lst bst rea bid pri itm akf akg got : Nat → Nat) (pai : Nat → Int) (riv rf ro rs lat bat : Nat → Nat) (val : Nat → Int) (cos row ahe wan giv : Nat → Nat) (Y : va_W) (z : Int) (hI : MIa lo bi ru ol ob fib gra res buy lst bst rea bid pri itm akf akg got pai riv rf ro rs) (hz : iR z) : Ci l G yX7_lotState (ww yX7_lotState cX7_lotState 2 (some FieldType.char)) (RM 3 0 0) [.ref (a 0), .int (zI z)] (mW G a th lo bi ru ol ob tk fib gra res buy lst bst rea bid pri itm akf akg got pai riv rf ro rs lat bat val cos row ahe wan giv ++ Y) (fun r w2 => ((¬ (0 ≤ z ∧ z < ((lo : Nat) : Int))) ∧ r = (nI 111) ∧ w2 = (mW G a 1 lo bi ru ol ob tk fib gra res buy lst bst rea bid pri itm akf akg got pai riv rf ro rs lat bat val cos row ahe wan giv ++ Y)) ∨ ((0 ≤ z ∧ z < ((lo : Nat) : Int)) ∧ r = (nI (lst z.toNat)) ∧ w2 = (mW G a 0 lo bi ru ol ob tk fib gra res buy lst bst rea bid pri itm akf akg got pai riv rf ro rs lat bat val cos row ahe wan giv ++ Y))) := by
  refine Ci.intro (by decide) (Nat.le_of_ble_eq_true rfl) ?_
  intro p e s m args below meth c A X hW ls hl
  have hx := X.exec
  have hb := X.bytes
  have hl : lv_has ls 2 [(0, .ref (a 0)), (1, .int (zI z))] := hl
  obtain ⟨hlo, hbi, hru, hol, hob, hfib, hgra, hres, hbuy, hlst, hbst, hrea, hbid, hpri, hitm, hakf, hakg, hgot, hriv, hrf, hro, hrs, hpai, hcl, hcb⟩ := id hI
  have hgz := hlst z.toNat
  refine lv_aload_n hx hb dX7_lotState_0 rfl (lv_at hl 0 rfl) ?_
  refine lv_iload_n hx hb dX7_lotState_1 rfl (lv_at hl 1 rfl) ?_
  refine go_i X hW (run_V X hW (As := [.int (zI z)]) (rest := []) 10 0 rfl (c_X7_noLot l G a th lo bi ru ol ob tk fib gra res buy lst bst rea bid pri itm akf akg got pai riv rf ro rs lat bat val cos row ahe wan giv Y (zI z) z rfl (by omega) (by omega) _) (gi_V wq_1304 wq_1306 wq_57 wq_67 wq_1307) rfl hyX7_noLot rfl rfl rfl hl.1 (Nat.le_of_ble_eq_true rfl) ⟨Nat.le_of_ble_eq_true rfl, Nat.le_of_ble_eq_true rfl⟩ ⟨by decide, by decide⟩ dX7_lotState_2) (fun r w2 H locs hp hW => ?_)
  obtain ⟨rfl, rfl⟩ := hp
  refine p_if_eq hx hb (tgt := 13) dX7_lotState_5 (by decide) (fun c_5 => ?_) (fun c_5 => ?_)
  · rw [if_neg c_5] at hW
    refine lv_aload_n hx hb dX7_lotState_13 rfl (lv_at hl 0 rfl) ?_
    refine x_get X hW 0 rfl 11 rfl rfl iwX7 (by decide) wq_1091 rfl dX7_lotState_14 ?_
    refine lv_iload_n hx hb dX7_lotState_17 rfl (lv_at hl 1 rfl) ?_
    refine r_zn (a := z.toNat) (by omega) ?_
    refine n_cald X hW (n := 40) (f := lst) 5 rfl (by omega) (by decide) dX7_lotState_18 ?_
    exact ret_z X hW (v := (nI (lst z.toNat))) (Or.inr (⟨by omega, rfl, rfl⟩)) rfl (by first | rfl | exact (pk_charN (by omega)).1) (by decide) (by decide) dX7_lotState_19
  · rw [if_pos c_5] at hW
    refine lv_bipush (v := nI 111) hx hb dX7_lotState_8 (by decide) ?_
    refine lv_goto (tgt := 19) hx hb dX7_lotState_10 (by decide) ?_
    exact ret_z X hW (v := (nI 111)) (Or.inl (⟨by omega, rfl, rfl⟩)) rfl (by first | rfl | exact (pk_charN (by omega)).1) (by decide) (by decide) dX7_lotState_19

set_option maxRecDepth 100000 in
set_option maxHeartbeats 4000000 in
theorem c_X7_items (l : Launch) (G : Gt) (a : Nat → Nat) (th lo bi ru ol ob : Nat) (tk : Int) (fib gra res buy lst bst rea bid pri itm akf akg got : Nat → Nat) (pai : Nat → Int) (riv rf ro rs lat bat : Nat → Nat) (val : Nat → Int) (cos row ahe wan giv : Nat → Nat) (Y : va_W) (z : Int) (hI : MIa lo bi ru ol ob fib gra res buy lst bst rea bid pri itm akf akg got pai riv rf ro rs) (hz : iR z) : Ci l G yX7_items (ww yX7_items cX7_items 2 (some FieldType.int)) (RM 3 0 0) [.ref (a 0), .int (zI z)] (mW G a th lo bi ru ol ob tk fib gra res buy lst bst rea bid pri itm akf akg got pai riv rf ro rs lat bat val cos row ahe wan giv ++ Y) (fun r w2 => ((¬ (0 ≤ z ∧ z < ((bi : Nat) : Int))) ∧ r = (nI 0) ∧ w2 = (mW G a 1 lo bi ru ol ob tk fib gra res buy lst bst rea bid pri itm akf akg got pai riv rf ro rs lat bat val cos row ahe wan giv ++ Y)) ∨ ((0 ≤ z ∧ z < ((bi : Nat) : Int)) ∧ r = (nI (itm z.toNat)) ∧ w2 = (mW G a 0 lo bi ru ol ob tk fib gra res buy lst bst rea bid pri itm akf akg got pai riv rf ro rs lat bat val cos row ahe wan giv ++ Y))) := by
  refine Ci.intro (by decide) (Nat.le_of_ble_eq_true rfl) ?_
  intro p e s m args below meth c A X hW ls hl
  have hx := X.exec
  have hb := X.bytes
  have hl : lv_has ls 2 [(0, .ref (a 0)), (1, .int (zI z))] := hl
  obtain ⟨hlo, hbi, hru, hol, hob, hfib, hgra, hres, hbuy, hlst, hbst, hrea, hbid, hpri, hitm, hakf, hakg, hgot, hriv, hrf, hro, hrs, hpai, hcl, hcb⟩ := id hI
  have hgz := hitm z.toNat
  refine lv_aload_n hx hb dX7_items_0 rfl (lv_at hl 0 rfl) ?_
  refine lv_iload_n hx hb dX7_items_1 rfl (lv_at hl 1 rfl) ?_
  refine go_i X hW (run_V X hW (As := [.int (zI z)]) (rest := []) 10 0 rfl (c_X7_noBid l G a th lo bi ru ol ob tk fib gra res buy lst bst rea bid pri itm akf akg got pai riv rf ro rs lat bat val cos row ahe wan giv Y (zI z) z rfl (by omega) (by omega) _) (gi_V wq_1332 wq_1334 wq_58 wq_67 wq_1335) rfl hyX7_noBid rfl rfl rfl hl.1 (Nat.le_of_ble_eq_true rfl) ⟨Nat.le_of_ble_eq_true rfl, Nat.le_of_ble_eq_true rfl⟩ ⟨by decide, by decide⟩ dX7_items_2) (fun r w2 H locs hp hW => ?_)
  obtain ⟨rfl, rfl⟩ := hp
  refine p_if_eq hx hb (tgt := 12) dX7_items_5 (by decide) (fun c_5 => ?_) (fun c_5 => ?_)
  · rw [if_neg c_5] at hW
    refine lv_aload_n hx hb dX7_items_12 rfl (lv_at hl 0 rfl) ?_
    refine x_get X hW 0 rfl 16 rfl rfl iwX7 (by decide) wq_1096 rfl dX7_items_13 ?_
    refine lv_iload_n hx hb dX7_items_16 rfl (lv_at hl 1 rfl) ?_
    refine r_zn (a := z.toNat) (by omega) ?_
    refine n_iald X hW (n := 40) (f := itm) 10 rfl (by omega) (by decide) dX7_items_17 ?_
    exact ret_i X hW (v := (nI (itm z.toNat))) (Or.inr (⟨by omega, rfl, rfl⟩)) rfl (by decide) (by decide) dX7_items_18
  · rw [if_pos c_5] at hW
    refine lv_iconst (v := nI 0) hx hb dX7_items_8 (by decide) ?_
    refine lv_goto (tgt := 18) hx hb dX7_items_9 (by decide) ?_
    exact ret_i X hW (v := (nI 0)) (Or.inl (⟨by omega, rfl, rfl⟩)) rfl (by decide) (by decide) dX7_items_18

set_option maxRecDepth 100000 in
set_option maxHeartbeats 4000000 in
theorem c_X7_priceOf (l : Launch) (G : Gt) (a : Nat → Nat) (th lo bi ru ol ob : Nat) (tk : Int) (fib gra res buy lst bst rea bid pri itm akf akg got : Nat → Nat) (pai : Nat → Int) (riv rf ro rs lat bat : Nat → Nat) (val : Nat → Int) (cos row ahe wan giv : Nat → Nat) (Y : va_W) (z : Int) (hI : MIa lo bi ru ol ob fib gra res buy lst bst rea bid pri itm akf akg got pai riv rf ro rs) (hz : iR z) : Ci l G yX7_priceOf (ww yX7_priceOf cX7_priceOf 2 (some FieldType.int)) (RM 3 0 0) [.ref (a 0), .int (zI z)] (mW G a th lo bi ru ol ob tk fib gra res buy lst bst rea bid pri itm akf akg got pai riv rf ro rs lat bat val cos row ahe wan giv ++ Y) (fun r w2 => ((¬ (0 ≤ z ∧ z < ((bi : Nat) : Int))) ∧ r = (nI 0) ∧ w2 = (mW G a 1 lo bi ru ol ob tk fib gra res buy lst bst rea bid pri itm akf akg got pai riv rf ro rs lat bat val cos row ahe wan giv ++ Y)) ∨ ((0 ≤ z ∧ z < ((bi : Nat) : Int)) ∧ r = (nI (pri z.toNat)) ∧ w2 = (mW G a 0 lo bi ru ol ob tk fib gra res buy lst bst rea bid pri itm akf akg got pai riv rf ro rs lat bat val cos row ahe wan giv ++ Y))) := by
  refine Ci.intro (by decide) (Nat.le_of_ble_eq_true rfl) ?_
  intro p e s m args below meth c A X hW ls hl
  have hx := X.exec
  have hb := X.bytes
  have hl : lv_has ls 2 [(0, .ref (a 0)), (1, .int (zI z))] := hl
  obtain ⟨hlo, hbi, hru, hol, hob, hfib, hgra, hres, hbuy, hlst, hbst, hrea, hbid, hpri, hitm, hakf, hakg, hgot, hriv, hrf, hro, hrs, hpai, hcl, hcb⟩ := id hI
  have hgz := hpri z.toNat
  refine lv_aload_n hx hb dX7_priceOf_0 rfl (lv_at hl 0 rfl) ?_
  refine lv_iload_n hx hb dX7_priceOf_1 rfl (lv_at hl 1 rfl) ?_
  refine go_i X hW (run_V X hW (As := [.int (zI z)]) (rest := []) 10 0 rfl (c_X7_noBid l G a th lo bi ru ol ob tk fib gra res buy lst bst rea bid pri itm akf akg got pai riv rf ro rs lat bat val cos row ahe wan giv Y (zI z) z rfl (by omega) (by omega) _) (gi_V wq_1332 wq_1334 wq_58 wq_67 wq_1335) rfl hyX7_noBid rfl rfl rfl hl.1 (Nat.le_of_ble_eq_true rfl) ⟨Nat.le_of_ble_eq_true rfl, Nat.le_of_ble_eq_true rfl⟩ ⟨by decide, by decide⟩ dX7_priceOf_2) (fun r w2 H locs hp hW => ?_)
  obtain ⟨rfl, rfl⟩ := hp
  refine p_if_eq hx hb (tgt := 12) dX7_priceOf_5 (by decide) (fun c_5 => ?_) (fun c_5 => ?_)
  · rw [if_neg c_5] at hW
    refine lv_aload_n hx hb dX7_priceOf_12 rfl (lv_at hl 0 rfl) ?_
    refine x_get X hW 0 rfl 15 rfl rfl iwX7 (by decide) wq_1095 rfl dX7_priceOf_13 ?_
    refine lv_iload_n hx hb dX7_priceOf_16 rfl (lv_at hl 1 rfl) ?_
    refine r_zn (a := z.toNat) (by omega) ?_
    refine n_iald X hW (n := 40) (f := pri) 9 rfl (by omega) (by decide) dX7_priceOf_17 ?_
    exact ret_i X hW (v := (nI (pri z.toNat))) (Or.inr (⟨by omega, rfl, rfl⟩)) rfl (by decide) (by decide) dX7_priceOf_18
  · rw [if_pos c_5] at hW
    refine lv_iconst (v := nI 0) hx hb dX7_priceOf_8 (by decide) ?_
    refine lv_goto (tgt := 18) hx hb dX7_priceOf_9 (by decide) ?_
    exact ret_i X hW (v := (nI 0)) (Or.inl (⟨by omega, rfl, rfl⟩)) rfl (by decide) (by decide) dX7_priceOf_18

set_option maxRecDepth 100000 in
set_option maxHeartbeats 4000000 in
theorem c_X7_stateOf (l : Launch) (G : Gt) (a : Nat → Nat) (th lo bi ru ol ob : Nat) (tk : Int) (fib gra res buy lst bst rea bid pri itm akf akg got : Nat → Nat) (pai : Nat → Int) (riv rf ro rs lat bat : Nat → Nat) (val : Nat → Int) (cos row ahe wan giv : Nat → Nat) (Y : va_W) (z : Int) (hI : MIa lo bi ru ol ob fib gra res buy lst bst rea bid pri itm akf akg got pai riv rf ro rs) (hz : iR z) : Ci l G yX7_stateOf (ww yX7_stateOf cX7_stateOf 2 (some FieldType.char)) (RM 3 0 0) [.ref (a 0), .int (zI z)] (mW G a th lo bi ru ol ob tk fib gra res buy lst bst rea bid pri itm akf akg got pai riv rf ro rs lat bat val cos row ahe wan giv ++ Y) (fun r w2 => ((¬ (0 ≤ z ∧ z < ((bi : Nat) : Int))) ∧ r = (nI 111) ∧ w2 = (mW G a 1 lo bi ru ol ob tk fib gra res buy lst bst rea bid pri itm akf akg got pai riv rf ro rs lat bat val cos row ahe wan giv ++ Y)) ∨ ((0 ≤ z ∧ z < ((bi : Nat) : Int)) ∧ r = (nI (bst z.toNat)) ∧ w2 = (mW G a 0 lo bi ru ol ob tk fib gra res buy lst bst rea bid pri itm akf akg got pai riv rf ro rs lat bat val cos row ahe wan giv ++ Y))) := by
  refine Ci.intro (by decide) (Nat.le_of_ble_eq_true rfl) ?_
  intro p e s m args below meth c A X hW ls hl
  have hx := X.exec
  have hb := X.bytes
  have hl : lv_has ls 2 [(0, .ref (a 0)), (1, .int (zI z))] := hl
  obtain ⟨hlo, hbi, hru, hol, hob, hfib, hgra, hres, hbuy, hlst, hbst, hrea, hbid, hpri, hitm, hakf, hakg, hgot, hriv, hrf, hro, hrs, hpai, hcl, hcb⟩ := id hI
  have hgz := hbst z.toNat
  refine lv_aload_n hx hb dX7_stateOf_0 rfl (lv_at hl 0 rfl) ?_
  refine lv_iload_n hx hb dX7_stateOf_1 rfl (lv_at hl 1 rfl) ?_
  refine go_i X hW (run_V X hW (As := [.int (zI z)]) (rest := []) 10 0 rfl (c_X7_noBid l G a th lo bi ru ol ob tk fib gra res buy lst bst rea bid pri itm akf akg got pai riv rf ro rs lat bat val cos row ahe wan giv Y (zI z) z rfl (by omega) (by omega) _) (gi_V wq_1332 wq_1334 wq_58 wq_67 wq_1335) rfl hyX7_noBid rfl rfl rfl hl.1 (Nat.le_of_ble_eq_true rfl) ⟨Nat.le_of_ble_eq_true rfl, Nat.le_of_ble_eq_true rfl⟩ ⟨by decide, by decide⟩ dX7_stateOf_2) (fun r w2 H locs hp hW => ?_)
  obtain ⟨rfl, rfl⟩ := hp
  refine p_if_eq hx hb (tgt := 13) dX7_stateOf_5 (by decide) (fun c_5 => ?_) (fun c_5 => ?_)
  · rw [if_neg c_5] at hW
    refine lv_aload_n hx hb dX7_stateOf_13 rfl (lv_at hl 0 rfl) ?_
    refine x_get X hW 0 rfl 12 rfl rfl iwX7 (by decide) wq_1092 rfl dX7_stateOf_14 ?_
    refine lv_iload_n hx hb dX7_stateOf_17 rfl (lv_at hl 1 rfl) ?_
    refine r_zn (a := z.toNat) (by omega) ?_
    refine n_cald X hW (n := 40) (f := bst) 6 rfl (by omega) (by decide) dX7_stateOf_18 ?_
    exact ret_z X hW (v := (nI (bst z.toNat))) (Or.inr (⟨by omega, rfl, rfl⟩)) rfl (by first | rfl | exact (pk_charN (by omega)).1) (by decide) (by decide) dX7_stateOf_19
  · rw [if_pos c_5] at hW
    refine lv_bipush (v := nI 111) hx hb dX7_stateOf_8 (by decide) ?_
    refine lv_goto (tgt := 19) hx hb dX7_stateOf_10 (by decide) ?_
    exact ret_z X hW (v := (nI 111)) (Or.inl (⟨by omega, rfl, rfl⟩)) rfl (by first | rfl | exact (pk_charN (by omega)).1) (by decide) (by decide) dX7_stateOf_19

set_option maxRecDepth 100000 in
set_option maxHeartbeats 4000000 in
theorem c_X7_soldTo (l : Launch) (G : Gt) (a : Nat → Nat) (th lo bi ru ol ob : Nat) (tk : Int) (fib gra res buy lst bst rea bid pri itm akf akg got : Nat → Nat) (pai : Nat → Int) (riv rf ro rs lat bat : Nat → Nat) (val : Nat → Int) (cos row ahe wan giv : Nat → Nat) (Y : va_W) (z : Int) (hI : MIa lo bi ru ol ob fib gra res buy lst bst rea bid pri itm akf akg got pai riv rf ro rs) (hz : iR z) : Ci l G yX7_soldTo (ww yX7_soldTo cX7_soldTo 2 (some FieldType.int)) (RM 3 0 0) [.ref (a 0), .int (zI z)] (mW G a th lo bi ru ol ob tk fib gra res buy lst bst rea bid pri itm akf akg got pai riv rf ro rs lat bat val cos row ahe wan giv ++ Y) (fun r w2 => ((¬ (0 ≤ z ∧ z < ((lo : Nat) : Int))) ∧ r = (nI 0) ∧ w2 = (mW G a 1 lo bi ru ol ob tk fib gra res buy lst bst rea bid pri itm akf akg got pai riv rf ro rs lat bat val cos row ahe wan giv ++ Y)) ∨ (((0 ≤ z ∧ z < ((lo : Nat) : Int)) ∧ lst z.toNat ≠ 115) ∧ r = (nI 0) ∧ w2 = (mW G a 2 lo bi ru ol ob tk fib gra res buy lst bst rea bid pri itm akf akg got pai riv rf ro rs lat bat val cos row ahe wan giv ++ Y)) ∨ (((0 ≤ z ∧ z < ((lo : Nat) : Int)) ∧ lst z.toNat = 115) ∧ r = (nI (buy z.toNat)) ∧ w2 = (mW G a 0 lo bi ru ol ob tk fib gra res buy lst bst rea bid pri itm akf akg got pai riv rf ro rs lat bat val cos row ahe wan giv ++ Y))) := by
  refine Ci.intro (by decide) (Nat.le_of_ble_eq_true rfl) ?_
  intro p e s m args below meth c A X hW ls hl
  have hx := X.exec
  have hb := X.bytes
  have hl : lv_has ls 2 [(0, .ref (a 0)), (1, .int (zI z))] := hl
  obtain ⟨hlo, hbi, hru, hol, hob, hfib, hgra, hres, hbuy, hlst, hbst, hrea, hbid, hpri, hitm, hakf, hakg, hgot, hriv, hrf, hro, hrs, hpai, hcl, hcb⟩ := id hI
  have hlz := hlst z.toNat
  refine lv_aload_n hx hb dX7_soldTo_0 rfl (lv_at hl 0 rfl) ?_
  refine lv_iload_n hx hb dX7_soldTo_1 rfl (lv_at hl 1 rfl) ?_
  refine go_i X hW (run_V X hW (As := [.int (zI z)]) (rest := []) 10 0 rfl (c_X7_noLot l G a th lo bi ru ol ob tk fib gra res buy lst bst rea bid pri itm akf akg got pai riv rf ro rs lat bat val cos row ahe wan giv Y (zI z) z rfl (by omega) (by omega) _) (gi_V wq_1304 wq_1306 wq_57 wq_67 wq_1307) rfl hyX7_noLot rfl rfl rfl hl.1 (Nat.le_of_ble_eq_true rfl) ⟨Nat.le_of_ble_eq_true rfl, Nat.le_of_ble_eq_true rfl⟩ ⟨by decide, by decide⟩ dX7_soldTo_2) (fun r w2 H locs hp hW => ?_)
  obtain ⟨rfl, rfl⟩ := hp
  refine p_if_eq hx hb (tgt := 10) dX7_soldTo_5 (by decide) (fun c_5 => ?_) (fun c_5 => ?_)
  · rw [if_neg c_5] at hW
    refine lv_aload_n hx hb dX7_soldTo_10 rfl (lv_at hl 0 rfl) ?_
    refine x_get X hW 0 rfl 11 rfl rfl iwX7 (by decide) wq_1091 rfl dX7_soldTo_11 ?_
    refine lv_iload_n hx hb dX7_soldTo_14 rfl (lv_at hl 1 rfl) ?_
    refine r_zn (a := z.toNat) (by omega) ?_
    refine n_cald X hW (n := 40) (f := lst) 5 rfl (by omega) (by decide) dX7_soldTo_15 ?_
    refine lv_bipush (v := nI 115) hx hb dX7_soldTo_16 (by decide) ?_
    refine n_icmp_eq hx hb rfl rfl (by omega) (by omega) (tgt := 27) dX7_soldTo_18 (by decide) (fun c_18 => ?_) (fun c_18 => ?_)
    · refine lv_aload_n hx hb dX7_soldTo_27 rfl (lv_at hl 0 rfl) ?_
      refine x_get X hW 0 rfl 10 rfl rfl iwX7 (by decide) wq_1090 rfl dX7_soldTo_28 ?_
      refine lv_iload_n hx hb dX7_soldTo_31 rfl (lv_at hl 1 rfl) ?_
      refine r_zn (a := z.toNat) (by omega) ?_
      refine n_iald X hW (n := 40) (f := buy) 4 rfl (by omega) (by decide) dX7_soldTo_32 ?_
      exact ret_i X hW (v := (nI (buy z.toNat))) (Or.inr (Or.inr (⟨by omega, rfl, rfl⟩))) rfl (by decide) (by decide) dX7_soldTo_33
    · refine lv_aload_n hx hb dX7_soldTo_21 rfl (lv_at hl 0 rfl) ?_
      refine lv_iconst (v := nI 2) hx hb dX7_soldTo_22 (by decide) ?_
      refine go_i X hW (run_V X hW (As := [.int (nI 2)]) (rest := []) 10 0 rfl (c_X7_fail l G a 0 lo bi ru ol ob tk fib gra res buy lst bst rea bid pri itm akf akg got pai riv rf ro rs lat bat val cos row ahe wan giv Y 2 _) (gi_V wq_1195 wq_1197 wq_44 wq_67 wq_1198) rfl hyX7_fail rfl rfl rfl hl.1 (Nat.le_of_ble_eq_true rfl) ⟨Nat.le_of_ble_eq_true rfl, Nat.le_of_ble_eq_true rfl⟩ ⟨by decide, by decide⟩ dX7_soldTo_23) (fun r w2 H locs hp hW => ?_)
      obtain ⟨rfl, rfl⟩ := hp
      exact ret_i X hW (v := (nI 0)) (Or.inr (Or.inl (⟨by omega, rfl, rfl⟩))) rfl (by decide) (by decide) dX7_soldTo_26
  · rw [if_pos c_5] at hW
    refine lv_iconst (v := nI 0) hx hb dX7_soldTo_8 (by decide) ?_
    exact ret_i X hW (v := (nI 0)) (Or.inl (⟨by omega, rfl, rfl⟩)) rfl (by decide) (by decide) dX7_soldTo_9

set_option maxRecDepth 100000 in
set_option maxHeartbeats 4000000 in
theorem c_X7_reason (l : Launch) (G : Gt) (a : Nat → Nat) (th lo bi ru ol ob : Nat) (tk : Int) (fib gra res buy lst bst rea bid pri itm akf akg got : Nat → Nat) (pai : Nat → Int) (riv rf ro rs lat bat : Nat → Nat) (val : Nat → Int) (cos row ahe wan giv : Nat → Nat) (Y : va_W) (z : Int) (hI : MIa lo bi ru ol ob fib gra res buy lst bst rea bid pri itm akf akg got pai riv rf ro rs) (hz : iR z) : Ci l G yX7_reason (ww yX7_reason cX7_reason 2 (some FieldType.char)) (RM 3 0 0) [.ref (a 0), .int (zI z)] (mW G a th lo bi ru ol ob tk fib gra res buy lst bst rea bid pri itm akf akg got pai riv rf ro rs lat bat val cos row ahe wan giv ++ Y) (fun r w2 => ((¬ (0 ≤ z ∧ z < ((bi : Nat) : Int))) ∧ r = (nI 109) ∧ w2 = (mW G a 1 lo bi ru ol ob tk fib gra res buy lst bst rea bid pri itm akf akg got pai riv rf ro rs lat bat val cos row ahe wan giv ++ Y)) ∨ (((0 ≤ z ∧ z < ((bi : Nat) : Int)) ∧ bst z.toNat ≠ 108) ∧ r = (nI 109) ∧ w2 = (mW G a 2 lo bi ru ol ob tk fib gra res buy lst bst rea bid pri itm akf akg got pai riv rf ro rs lat bat val cos row ahe wan giv ++ Y)) ∨ (((0 ≤ z ∧ z < ((bi : Nat) : Int)) ∧ bst z.toNat = 108) ∧ r = (nI (rea z.toNat)) ∧ w2 = (mW G a 0 lo bi ru ol ob tk fib gra res buy lst bst rea bid pri itm akf akg got pai riv rf ro rs lat bat val cos row ahe wan giv ++ Y))) := by
  refine Ci.intro (by decide) (Nat.le_of_ble_eq_true rfl) ?_
  intro p e s m args below meth c A X hW ls hl
  have hx := X.exec
  have hb := X.bytes
  have hl : lv_has ls 2 [(0, .ref (a 0)), (1, .int (zI z))] := hl
  obtain ⟨hlo, hbi, hru, hol, hob, hfib, hgra, hres, hbuy, hlst, hbst, hrea, hbid, hpri, hitm, hakf, hakg, hgot, hriv, hrf, hro, hrs, hpai, hcl, hcb⟩ := id hI
  have hbz := hbst z.toNat
  have hiz := hitm z.toNat
  have hpz := hpri z.toNat
  have hrz := hrea z.toNat
  refine lv_aload_n hx hb dX7_reason_0 rfl (lv_at hl 0 rfl) ?_
  refine lv_iload_n hx hb dX7_reason_1 rfl (lv_at hl 1 rfl) ?_
  refine go_i X hW (run_V X hW (As := [.int (zI z)]) (rest := []) 10 0 rfl (c_X7_noBid l G a th lo bi ru ol ob tk fib gra res buy lst bst rea bid pri itm akf akg got pai riv rf ro rs lat bat val cos row ahe wan giv Y (zI z) z rfl (by omega) (by omega) _) (gi_V wq_1332 wq_1334 wq_58 wq_67 wq_1335) rfl hyX7_noBid rfl rfl rfl hl.1 (Nat.le_of_ble_eq_true rfl) ⟨Nat.le_of_ble_eq_true rfl, Nat.le_of_ble_eq_true rfl⟩ ⟨by decide, by decide⟩ dX7_reason_2) (fun r w2 H locs hp hW => ?_)
  obtain ⟨rfl, rfl⟩ := hp
  refine p_if_ne hx hb (tgt := 28) dX7_reason_5 (by decide) (fun c_5 => ?_) (fun c_5 => ?_)
  · rw [if_pos c_5] at hW
    refine lv_aload_n hx hb dX7_reason_28 rfl (lv_at hl 0 rfl) ?_
    refine x_get X hW 0 rfl 0 rfl rfl iwX7 (by decide) wq_1080 rfl dX7_reason_29 ?_
    refine n_if_ne hx hb rfl (by omega) (tgt := 44) dX7_reason_32 (by decide) (fun c_32 => ?_) (fun c_32 => absurd c_32 (by decide))
    refine lv_bipush (v := nI 109) hx hb dX7_reason_44 (by decide) ?_
    exact ret_z X hW (v := (nI 109)) (Or.inl (⟨by omega, rfl, rfl⟩)) rfl (by first | rfl | exact (pk_charN (by omega)).1) (by decide) (by decide) dX7_reason_46
  · rw [if_neg c_5] at hW
    refine lv_aload_n hx hb dX7_reason_8 rfl (lv_at hl 0 rfl) ?_
    refine lv_aload_n hx hb dX7_reason_9 rfl (lv_at hl 0 rfl) ?_
    refine x_get X hW 0 rfl 12 rfl rfl iwX7 (by decide) wq_1092 rfl dX7_reason_10 ?_
    refine lv_iload_n hx hb dX7_reason_13 rfl (lv_at hl 1 rfl) ?_
    refine r_zn (a := z.toNat) (by omega) ?_
    refine n_cald X hW (n := 40) (f := bst) 6 rfl (by omega) (by decide) dX7_reason_14 ?_
    refine lv_bipush (v := nI 108) hx hb dX7_reason_15 (by decide) ?_
    refine n_icmp_ne hx hb rfl rfl (by omega) (by omega) (tgt := 24) dX7_reason_17 (by decide) (fun c_17 => ?_) (fun c_17 => ?_)
    · refine lv_iconst (v := nI 2) hx hb dX7_reason_24 (by decide) ?_
      refine x_put X hW 0 rfl 0 (w2 := (mW G a 2 lo bi ru ol ob tk fib gra res buy lst bst rea bid pri itm akf akg got pai riv rf ro rs lat bat val cos row ahe wan giv ++ Y)) rfl rfl iwX7 tyX7_ok nmX7 (by decide) wq_1080 rfl rfl rfl rfl (Nat.le_of_ble_eq_true rfl) dX7_reason_25 (fun H locs hW => ?_)
      refine lv_aload_n hx hb dX7_reason_28 rfl (lv_at hl 0 rfl) ?_
      refine x_get X hW 0 rfl 0 rfl rfl iwX7 (by decide) wq_1080 rfl dX7_reason_29 ?_
      refine n_if_ne hx hb rfl (by omega) (tgt := 44) dX7_reason_32 (by decide) (fun c_32 => ?_) (fun c_32 => absurd c_32 (by decide))
      refine lv_bipush (v := nI 109) hx hb dX7_reason_44 (by decide) ?_
      exact ret_z X hW (v := (nI 109)) (Or.inr (Or.inl (⟨by omega, rfl, rfl⟩))) rfl (by first | rfl | exact (pk_charN (by omega)).1) (by decide) (by decide) dX7_reason_46
    · refine lv_iconst (v := nI 0) hx hb dX7_reason_20 (by decide) ?_
      refine lv_goto (tgt := 25) hx hb dX7_reason_21 (by decide) ?_
      refine x_put X hW 0 rfl 0 (w2 := (mW G a 0 lo bi ru ol ob tk fib gra res buy lst bst rea bid pri itm akf akg got pai riv rf ro rs lat bat val cos row ahe wan giv ++ Y)) rfl rfl iwX7 tyX7_ok nmX7 (by decide) wq_1080 rfl rfl rfl rfl (Nat.le_of_ble_eq_true rfl) dX7_reason_25 (fun H locs hW => ?_)
      refine lv_aload_n hx hb dX7_reason_28 rfl (lv_at hl 0 rfl) ?_
      refine x_get X hW 0 rfl 0 rfl rfl iwX7 (by decide) wq_1080 rfl dX7_reason_29 ?_
      refine n_if_ne hx hb rfl (by omega) (tgt := 44) dX7_reason_32 (by decide) (fun c_32 => absurd c_32 (by decide)) (fun c_32 => ?_)
      refine lv_aload_n hx hb dX7_reason_35 rfl (lv_at hl 0 rfl) ?_
      refine x_get X hW 0 rfl 13 rfl rfl iwX7 (by decide) wq_1093 rfl dX7_reason_36 ?_
      refine lv_iload_n hx hb dX7_reason_39 rfl (lv_at hl 1 rfl) ?_
      refine r_zn (a := z.toNat) (by omega) ?_
      refine n_cald X hW (n := 40) (f := rea) 7 rfl (by omega) (by decide) dX7_reason_40 ?_
      refine lv_goto (tgt := 46) hx hb dX7_reason_41 (by decide) ?_
      exact ret_z X hW (v := (nI (rea z.toNat))) (Or.inr (Or.inr (⟨by omega, rfl, rfl⟩))) rfl (by first | rfl | exact (pk_charN (by omega)).1) (by decide) (by decide) dX7_reason_46

set_option maxRecDepth 100000 in
set_option maxHeartbeats 4000000 in
theorem c_X7_rival (l : Launch) (G : Gt) (a : Nat → Nat) (th lo bi ru ol ob : Nat) (tk : Int) (fib gra res buy lst bst rea bid pri itm akf akg got : Nat → Nat) (pai : Nat → Int) (riv rf ro rs lat bat : Nat → Nat) (val : Nat → Int) (cos row ahe wan giv : Nat → Nat) (Y : va_W) (z : Int) (hI : MIa lo bi ru ol ob fib gra res buy lst bst rea bid pri itm akf akg got pai riv rf ro rs) (hz : iR z) : Ci l G yX7_rival (ww yX7_rival cX7_rival 2 (some FieldType.int)) (RM 3 0 0) [.ref (a 0), .int (zI z)] (mW G a th lo bi ru ol ob tk fib gra res buy lst bst rea bid pri itm akf akg got pai riv rf ro rs lat bat val cos row ahe wan giv ++ Y) (fun r w2 => ((¬ (0 ≤ z ∧ z < ((bi : Nat) : Int))) ∧ r = (nI 0) ∧ w2 = (mW G a 1 lo bi ru ol ob tk fib gra res buy lst bst rea bid pri itm akf akg got pai riv rf ro rs lat bat val cos row ahe wan giv ++ Y)) ∨ (((0 ≤ z ∧ z < ((bi : Nat) : Int)) ∧ ¬ (bst z.toNat = 108 ∧ rea z.toNat = 98)) ∧ r = (nI 0) ∧ w2 = (mW G a 2 lo bi ru ol ob tk fib gra res buy lst bst rea bid pri itm akf akg got pai riv rf ro rs lat bat val cos row ahe wan giv ++ Y)) ∨ (((0 ≤ z ∧ z < ((bi : Nat) : Int)) ∧ bst z.toNat = 108 ∧ rea z.toNat = 98) ∧ r = (nI (riv z.toNat)) ∧ w2 = (mW G a 0 lo bi ru ol ob tk fib gra res buy lst bst rea bid pri itm akf akg got pai riv rf ro rs lat bat val cos row ahe wan giv ++ Y))) := by
  refine Ci.intro (by decide) (Nat.le_of_ble_eq_true rfl) ?_
  intro p e s m args below meth c A X hW ls hl
  have hx := X.exec
  have hb := X.bytes
  have hl : lv_has ls 2 [(0, .ref (a 0)), (1, .int (zI z))] := hl
  obtain ⟨hlo, hbi, hru, hol, hob, hfib, hgra, hres, hbuy, hlst, hbst, hrea, hbid, hpri, hitm, hakf, hakg, hgot, hriv, hrf, hro, hrs, hpai, hcl, hcb⟩ := id hI
  have hbz := hbst z.toNat
  have hiz := hitm z.toNat
  have hpz := hpri z.toNat
  have hrz := hrea z.toNat
  refine lv_aload_n hx hb dX7_rival_0 rfl (lv_at hl 0 rfl) ?_
  refine lv_iload_n hx hb dX7_rival_1 rfl (lv_at hl 1 rfl) ?_
  refine go_i X hW (run_V X hW (As := [.int (zI z)]) (rest := []) 10 0 rfl (c_X7_noBid l G a th lo bi ru ol ob tk fib gra res buy lst bst rea bid pri itm akf akg got pai riv rf ro rs lat bat val cos row ahe wan giv Y (zI z) z rfl (by omega) (by omega) _) (gi_V wq_1332 wq_1334 wq_58 wq_67 wq_1335) rfl hyX7_noBid rfl rfl rfl hl.1 (Nat.le_of_ble_eq_true rfl) ⟨Nat.le_of_ble_eq_true rfl, Nat.le_of_ble_eq_true rfl⟩ ⟨by decide, by decide⟩ dX7_rival_2) (fun r w2 H locs hp hW => ?_)
  obtain ⟨rfl, rfl⟩ := hp
  refine p_if_eq hx hb (tgt := 10) dX7_rival_5 (by decide) (fun c_5 => ?_) (fun c_5 => ?_)
  · rw [if_neg c_5] at hW
    refine lv_aload_n hx hb dX7_rival_10 rfl (lv_at hl 0 rfl) ?_
    refine x_get X hW 0 rfl 12 rfl rfl iwX7 (by decide) wq_1092 rfl dX7_rival_11 ?_
    refine lv_iload_n hx hb dX7_rival_14 rfl (lv_at hl 1 rfl) ?_
    refine r_zn (a := z.toNat) (by omega) ?_
    refine n_cald X hW (n := 40) (f := bst) 6 rfl (by omega) (by decide) dX7_rival_15 ?_
    refine lv_bipush (v := nI 108) hx hb dX7_rival_16 (by decide) ?_
    refine n_icmp_ne hx hb rfl rfl (by omega) (by omega) (tgt := 32) dX7_rival_18 (by decide) (fun c_18 => ?_) (fun c_18 => ?_)
    · refine lv_aload_n hx hb dX7_rival_32 rfl (lv_at hl 0 rfl) ?_
      refine lv_iconst (v := nI 2) hx hb dX7_rival_33 (by decide) ?_
      refine go_i X hW (run_V X hW (As := [.int (nI 2)]) (rest := []) 10 0 rfl (c_X7_fail l G a 0 lo bi ru ol ob tk fib gra res buy lst bst rea bid pri itm akf akg got pai riv rf ro rs lat bat val cos row ahe wan giv Y 2 _) (gi_V wq_1195 wq_1197 wq_44 wq_67 wq_1198) rfl hyX7_fail rfl rfl rfl hl.1 (Nat.le_of_ble_eq_true rfl) ⟨Nat.le_of_ble_eq_true rfl, Nat.le_of_ble_eq_true rfl⟩ ⟨by decide, by decide⟩ dX7_rival_34) (fun r w2 H locs hp hW => ?_)
      obtain ⟨rfl, rfl⟩ := hp
      exact ret_i X hW (v := (nI 0)) (Or.inr (Or.inl (⟨by omega, rfl, rfl⟩))) rfl (by decide) (by decide) dX7_rival_37
    · refine lv_aload_n hx hb dX7_rival_21 rfl (lv_at hl 0 rfl) ?_
      refine x_get X hW 0 rfl 13 rfl rfl iwX7 (by decide) wq_1093 rfl dX7_rival_22 ?_
      refine lv_iload_n hx hb dX7_rival_25 rfl (lv_at hl 1 rfl) ?_
      refine r_zn (a := z.toNat) (by omega) ?_
      refine n_cald X hW (n := 40) (f := rea) 7 rfl (by omega) (by decide) dX7_rival_26 ?_
      refine lv_bipush (v := nI 98) hx hb dX7_rival_27 (by decide) ?_
      refine n_icmp_eq hx hb rfl rfl (by omega) (by omega) (tgt := 38) dX7_rival_29 (by decide) (fun c_29 => ?_) (fun c_29 => ?_)
      · refine lv_aload_n hx hb dX7_rival_38 rfl (lv_at hl 0 rfl) ?_
        refine x_get X hW 0 rfl 21 rfl rfl iwX7 (by decide) wq_1101 rfl dX7_rival_39 ?_
        refine lv_iload_n hx hb dX7_rival_42 rfl (lv_at hl 1 rfl) ?_
        refine r_zn (a := z.toNat) (by omega) ?_
        refine n_iald X hW (n := 40) (f := riv) 15 rfl (by omega) (by decide) dX7_rival_43 ?_
        exact ret_i X hW (v := (nI (riv z.toNat))) (Or.inr (Or.inr (⟨by omega, rfl, rfl⟩))) rfl (by decide) (by decide) dX7_rival_44
      · refine lv_aload_n hx hb dX7_rival_32 rfl (lv_at hl 0 rfl) ?_
        refine lv_iconst (v := nI 2) hx hb dX7_rival_33 (by decide) ?_
        refine go_i X hW (run_V X hW (As := [.int (nI 2)]) (rest := []) 10 0 rfl (c_X7_fail l G a 0 lo bi ru ol ob tk fib gra res buy lst bst rea bid pri itm akf akg got pai riv rf ro rs lat bat val cos row ahe wan giv Y 2 _) (gi_V wq_1195 wq_1197 wq_44 wq_67 wq_1198) rfl hyX7_fail rfl rfl rfl hl.1 (Nat.le_of_ble_eq_true rfl) ⟨Nat.le_of_ble_eq_true rfl, Nat.le_of_ble_eq_true rfl⟩ ⟨by decide, by decide⟩ dX7_rival_34) (fun r w2 H locs hp hW => ?_)
        obtain ⟨rfl, rfl⟩ := hp
        exact ret_i X hW (v := (nI 0)) (Or.inr (Or.inl (⟨by omega, rfl, rfl⟩))) rfl (by decide) (by decide) dX7_rival_37
  · rw [if_pos c_5] at hW
    refine lv_iconst (v := nI 0) hx hb dX7_rival_8 (by decide) ?_
    exact ret_i X hW (v := (nI 0)) (Or.inl (⟨by omega, rfl, rfl⟩)) rfl (by decide) (by decide) dX7_rival_9

set_option maxRecDepth 100000 in
set_option maxHeartbeats 4000000 in
theorem c_X7_paid (l : Launch) (G : Gt) (a : Nat → Nat) (th lo bi ru ol ob : Nat) (tk : Int) (fib gra res buy lst bst rea bid pri itm akf akg got : Nat → Nat) (pai : Nat → Int) (riv rf ro rs lat bat : Nat → Nat) (val : Nat → Int) (cos row ahe wan giv : Nat → Nat) (Y : va_W) (z : Int) (hI : MIa lo bi ru ol ob fib gra res buy lst bst rea bid pri itm akf akg got pai riv rf ro rs) (hz : iR z) : Ci l G yX7_paid (ww yX7_paid cX7_paid 2 (some FieldType.int)) (RM 3 0 0) [.ref (a 0), .int (zI z)] (mW G a th lo bi ru ol ob tk fib gra res buy lst bst rea bid pri itm akf akg got pai riv rf ro rs lat bat val cos row ahe wan giv ++ Y) (fun r w2 => ((¬ (0 ≤ z ∧ z < ((bi : Nat) : Int))) ∧ r = (nI 0) ∧ w2 = (mW G a 1 lo bi ru ol ob tk fib gra res buy lst bst rea bid pri itm akf akg got pai riv rf ro rs lat bat val cos row ahe wan giv ++ Y)) ∨ (((0 ≤ z ∧ z < ((bi : Nat) : Int)) ∧ bst z.toNat ≠ 119) ∧ r = (nI 0) ∧ w2 = (mW G a 2 lo bi ru ol ob tk fib gra res buy lst bst rea bid pri itm akf akg got pai riv rf ro rs lat bat val cos row ahe wan giv ++ Y)) ∨ (((0 ≤ z ∧ z < ((bi : Nat) : Int)) ∧ bst z.toNat = 119) ∧ r = (zI (pai z.toNat)) ∧ w2 = (mW G a 0 lo bi ru ol ob tk fib gra res buy lst bst rea bid pri itm akf akg got pai riv rf ro rs lat bat val cos row ahe wan giv ++ Y))) := by
  refine Ci.intro (by decide) (Nat.le_of_ble_eq_true rfl) ?_
  intro p e s m args below meth c A X hW ls hl
  have hx := X.exec
  have hb := X.bytes
  have hl : lv_has ls 2 [(0, .ref (a 0)), (1, .int (zI z))] := hl
  obtain ⟨hlo, hbi, hru, hol, hob, hfib, hgra, hres, hbuy, hlst, hbst, hrea, hbid, hpri, hitm, hakf, hakg, hgot, hriv, hrf, hro, hrs, hpai, hcl, hcb⟩ := id hI
  have hbz := hbst z.toNat
  have hiz := hitm z.toNat
  have hpz := hpri z.toNat
  have hrz := hrea z.toNat
  refine lv_aload_n hx hb dX7_paid_0 rfl (lv_at hl 0 rfl) ?_
  refine lv_iload_n hx hb dX7_paid_1 rfl (lv_at hl 1 rfl) ?_
  refine go_i X hW (run_V X hW (As := [.int (zI z)]) (rest := []) 10 0 rfl (c_X7_noBid l G a th lo bi ru ol ob tk fib gra res buy lst bst rea bid pri itm akf akg got pai riv rf ro rs lat bat val cos row ahe wan giv Y (zI z) z rfl (by omega) (by omega) _) (gi_V wq_1332 wq_1334 wq_58 wq_67 wq_1335) rfl hyX7_noBid rfl rfl rfl hl.1 (Nat.le_of_ble_eq_true rfl) ⟨Nat.le_of_ble_eq_true rfl, Nat.le_of_ble_eq_true rfl⟩ ⟨by decide, by decide⟩ dX7_paid_2) (fun r w2 H locs hp hW => ?_)
  obtain ⟨rfl, rfl⟩ := hp
  refine p_if_eq hx hb (tgt := 10) dX7_paid_5 (by decide) (fun c_5 => ?_) (fun c_5 => ?_)
  · rw [if_neg c_5] at hW
    refine lv_aload_n hx hb dX7_paid_10 rfl (lv_at hl 0 rfl) ?_
    refine x_get X hW 0 rfl 12 rfl rfl iwX7 (by decide) wq_1092 rfl dX7_paid_11 ?_
    refine lv_iload_n hx hb dX7_paid_14 rfl (lv_at hl 1 rfl) ?_
    refine r_zn (a := z.toNat) (by omega) ?_
    refine n_cald X hW (n := 40) (f := bst) 6 rfl (by omega) (by decide) dX7_paid_15 ?_
    refine lv_bipush (v := nI 119) hx hb dX7_paid_16 (by decide) ?_
    refine n_icmp_eq hx hb rfl rfl (by omega) (by omega) (tgt := 27) dX7_paid_18 (by decide) (fun c_18 => ?_) (fun c_18 => ?_)
    · refine lv_aload_n hx hb dX7_paid_27 rfl (lv_at hl 0 rfl) ?_
      refine x_get X hW 0 rfl 20 rfl rfl iwX7 (by decide) wq_1100 rfl dX7_paid_28 ?_
      refine lv_iload_n hx hb dX7_paid_31 rfl (lv_at hl 1 rfl) ?_
      refine r_zn (a := z.toNat) (by omega) ?_
      refine z_iald X hW (n := 40) (f := pai) 14 rfl (by omega) (by decide) dX7_paid_32 ?_
      exact ret_i X hW (v := (zI (pai z.toNat))) (Or.inr (Or.inr (⟨by omega, rfl, rfl⟩))) rfl (by decide) (by decide) dX7_paid_33
    · refine lv_aload_n hx hb dX7_paid_21 rfl (lv_at hl 0 rfl) ?_
      refine lv_iconst (v := nI 2) hx hb dX7_paid_22 (by decide) ?_
      refine go_i X hW (run_V X hW (As := [.int (nI 2)]) (rest := []) 10 0 rfl (c_X7_fail l G a 0 lo bi ru ol ob tk fib gra res buy lst bst rea bid pri itm akf akg got pai riv rf ro rs lat bat val cos row ahe wan giv Y 2 _) (gi_V wq_1195 wq_1197 wq_44 wq_67 wq_1198) rfl hyX7_fail rfl rfl rfl hl.1 (Nat.le_of_ble_eq_true rfl) ⟨Nat.le_of_ble_eq_true rfl, Nat.le_of_ble_eq_true rfl⟩ ⟨by decide, by decide⟩ dX7_paid_23) (fun r w2 H locs hp hW => ?_)
      obtain ⟨rfl, rfl⟩ := hp
      exact ret_i X hW (v := (nI 0)) (Or.inr (Or.inl (⟨by omega, rfl, rfl⟩))) rfl (by decide) (by decide) dX7_paid_26
  · rw [if_pos c_5] at hW
    refine lv_iconst (v := nI 0) hx hb dX7_paid_8 (by decide) ?_
    exact ret_i X hW (v := (nI 0)) (Or.inl (⟨by omega, rfl, rfl⟩)) rfl (by decide) (by decide) dX7_paid_9

set_option maxRecDepth 100000 in
set_option maxHeartbeats 4000000 in
theorem c_X7_lotOf (l : Launch) (G : Gt) (a : Nat → Nat) (th lo bi ru ol ob : Nat) (tk : Int) (fib gra res buy lst bst rea bid pri itm akf akg got : Nat → Nat) (pai : Nat → Int) (riv rf ro rs lat bat : Nat → Nat) (val : Nat → Int) (cos row ahe wan giv : Nat → Nat) (Y : va_W) (z y : Int) (hI : MIa lo bi ru ol ob fib gra res buy lst bst rea bid pri itm akf akg got pai riv rf ro rs) (hz : iR z) (hy : iR y) : Ci l G yX7_lotOf (ww yX7_lotOf cX7_lotOf 3 (some FieldType.int)) (RM 3 0 0) [.ref (a 0), .int (zI z), .int (zI y)] (mW G a th lo bi ru ol ob tk fib gra res buy lst bst rea bid pri itm akf akg got pai riv rf ro rs lat bat val cos row ahe wan giv ++ Y) (fun r w2 => ((¬ (0 ≤ z ∧ z < ((bi : Nat) : Int))) ∧ r = (nI 0) ∧ w2 = (mW G a 1 lo bi ru ol ob tk fib gra res buy lst bst rea bid pri itm akf akg got pai riv rf ro rs lat bat val cos row ahe wan giv ++ Y)) ∨ (((0 ≤ z ∧ z < ((bi : Nat) : Int)) ∧ ¬ (0 ≤ y ∧ y < ((itm z.toNat : Nat) : Int))) ∧ r = (nI 0) ∧ w2 = (mW G a 2 lo bi ru ol ob tk fib gra res buy lst bst rea bid pri itm akf akg got pai riv rf ro rs lat bat val cos row ahe wan giv ++ Y)) ∨ (((0 ≤ z ∧ z < ((bi : Nat) : Int)) ∧ (0 ≤ y ∧ y < ((itm z.toNat : Nat) : Int)) ∧ bst z.toNat ≠ 119) ∧ r = (nI 0) ∧ w2 = (mW G a 3 lo bi ru ol ob tk fib gra res buy lst bst rea bid pri itm akf akg got pai riv rf ro rs lat bat val cos row ahe wan giv ++ Y)) ∨ (((0 ≤ z ∧ z < ((bi : Nat) : Int)) ∧ (0 ≤ y ∧ y < ((itm z.toNat : Nat) : Int)) ∧ bst z.toNat = 119) ∧ r = (nI (got (3 * z.toNat + y.toNat))) ∧ w2 = (mW G a 0 lo bi ru ol ob tk fib gra res buy lst bst rea bid pri itm akf akg got pai riv rf ro rs lat bat val cos row ahe wan giv ++ Y))) := by
  refine Ci.intro (by decide) (Nat.le_of_ble_eq_true rfl) ?_
  intro p e s m args below meth c A X hW ls hl
  have hx := X.exec
  have hb := X.bytes
  have hl : lv_has ls 3 [(0, .ref (a 0)), (1, .int (zI z)), (2, .int (zI y))] := hl
  obtain ⟨hlo, hbi, hru, hol, hob, hfib, hgra, hres, hbuy, hlst, hbst, hrea, hbid, hpri, hitm, hakf, hakg, hgot, hriv, hrf, hro, hrs, hpai, hcl, hcb⟩ := id hI
  have hbz := hbst z.toNat
  have hiz := hitm z.toNat
  have hpz := hpri z.toNat
  have hrz := hrea z.toNat
  refine lv_aload_n hx hb dX7_lotOf_0 rfl (lv_at hl 0 rfl) ?_
  refine lv_iload_n hx hb dX7_lotOf_1 rfl (lv_at hl 1 rfl) ?_
  refine go_i X hW (run_V X hW (As := [.int (zI z)]) (rest := []) 10 0 rfl (c_X7_noBid l G a th lo bi ru ol ob tk fib gra res buy lst bst rea bid pri itm akf akg got pai riv rf ro rs lat bat val cos row ahe wan giv Y (zI z) z rfl (by omega) (by omega) _) (gi_V wq_1332 wq_1334 wq_58 wq_67 wq_1335) rfl hyX7_noBid rfl rfl rfl hl.1 (Nat.le_of_ble_eq_true rfl) ⟨Nat.le_of_ble_eq_true rfl, Nat.le_of_ble_eq_true rfl⟩ ⟨by decide, by decide⟩ dX7_lotOf_2) (fun r w2 H locs hp hW => ?_)
  obtain ⟨rfl, rfl⟩ := hp
  refine p_if_eq hx hb (tgt := 10) dX7_lotOf_5 (by decide) (fun c_5 => ?_) (fun c_5 => ?_)
  · rw [if_neg c_5] at hW
    refine lv_iload_n hx hb dX7_lotOf_10 rfl (lv_at hl 2 rfl) ?_
    refine lv_iconst (v := nI 0) hx hb dX7_lotOf_11 (by decide) ?_
    refine lv_aload_n hx hb dX7_lotOf_12 rfl (lv_at hl 0 rfl) ?_
    refine x_get X hW 0 rfl 16 rfl rfl iwX7 (by decide) wq_1096 rfl dX7_lotOf_13 ?_
    refine lv_iload_n hx hb dX7_lotOf_16 rfl (lv_at hl 1 rfl) ?_
    refine r_zn (a := z.toNat) (by omega) ?_
    refine n_iald X hW (n := 40) (f := itm) 10 rfl (by omega) (by decide) dX7_lotOf_17 ?_
    refine lv_iconst (v := nI 1) hx hb dX7_lotOf_18 (by decide) ?_
    refine z_isub hx hb (nZ _) (nZ _) dX7_lotOf_19 ?_
    refine go_i X hW (run_S X hW (As := [.int (zI y), .int (nI 0), .int (zI ((((itm z.toNat) : Nat) : Int) - ((1 : Nat) : Int)))]) (rest := []) (c_X7_isIn l G (mW G a 0 lo bi ru ol ob tk fib gra res buy lst bst rea bid pri itm akf akg got pai riv rf ro rs lat bat val cos row ahe wan giv ++ Y) (zI y) (nI 0) (zI ((((itm z.toNat) : Nat) : Int) - ((1 : Nat) : Int))) y ((0 : Nat) : Int) ((((itm z.toNat) : Nat) : Int) - ((1 : Nat) : Int)) rfl (nZ _) rfl (by omega) (by omega) (by omega) _) (gi_S wq_1189 wq_1190 wq_67 wq_1191) hyX7_isIn rfl rfl hl.1 (Nat.le_of_ble_eq_true rfl) ⟨Nat.le_of_ble_eq_true rfl, Nat.le_of_ble_eq_true rfl⟩ ⟨by decide, by decide⟩ dX7_lotOf_20) (fun r w2 H locs hp hW => ?_)
    obtain ⟨rfl, rfl⟩ := hp
    refine p_if_ne hx hb (tgt := 32) dX7_lotOf_23 (by decide) (fun c_23 => ?_) (fun c_23 => ?_)
    · refine lv_aload_n hx hb dX7_lotOf_32 rfl (lv_at hl 0 rfl) ?_
      refine x_get X hW 0 rfl 12 rfl rfl iwX7 (by decide) wq_1092 rfl dX7_lotOf_33 ?_
      refine lv_iload_n hx hb dX7_lotOf_36 rfl (lv_at hl 1 rfl) ?_
      refine r_zn (a := z.toNat) (by omega) ?_
      refine n_cald X hW (n := 40) (f := bst) 6 rfl (by omega) (by decide) dX7_lotOf_37 ?_
      refine lv_bipush (v := nI 119) hx hb dX7_lotOf_38 (by decide) ?_
      refine n_icmp_eq hx hb rfl rfl (by omega) (by omega) (tgt := 49) dX7_lotOf_40 (by decide) (fun c_40 => ?_) (fun c_40 => ?_)
      · refine lv_aload_n hx hb dX7_lotOf_49 rfl (lv_at hl 0 rfl) ?_
        refine x_get X hW 0 rfl 19 rfl rfl iwX7 (by decide) wq_1099 rfl dX7_lotOf_50 ?_
        refine lv_iconst (v := nI 3) hx hb dX7_lotOf_53 (by decide) ?_
        refine lv_iload_n hx hb dX7_lotOf_54 rfl (lv_at hl 1 rfl) ?_
        refine r_zn (a := z.toNat) (by omega) ?_
        refine n_imul hx hb dX7_lotOf_55 ?_
        refine lv_iload_n hx hb dX7_lotOf_56 rfl (lv_at hl 2 rfl) ?_
        refine r_zn (a := y.toNat) (by omega) ?_
        refine n_iadd hx hb dX7_lotOf_57 ?_
        refine n_iald X hW (n := 120) (f := got) 13 rfl (by omega) (by decide) dX7_lotOf_58 ?_
        exact ret_i X hW (v := (nI (got ((3 * z.toNat) + y.toNat)))) (Or.inr (Or.inr (Or.inr (⟨by omega, rfl, rfl⟩)))) rfl (by decide) (by decide) dX7_lotOf_59
      · refine lv_aload_n hx hb dX7_lotOf_43 rfl (lv_at hl 0 rfl) ?_
        refine lv_iconst (v := nI 3) hx hb dX7_lotOf_44 (by decide) ?_
        refine go_i X hW (run_V X hW (As := [.int (nI 3)]) (rest := []) 10 0 rfl (c_X7_fail l G a 0 lo bi ru ol ob tk fib gra res buy lst bst rea bid pri itm akf akg got pai riv rf ro rs lat bat val cos row ahe wan giv Y 3 _) (gi_V wq_1195 wq_1197 wq_44 wq_67 wq_1198) rfl hyX7_fail rfl rfl rfl hl.1 (Nat.le_of_ble_eq_true rfl) ⟨Nat.le_of_ble_eq_true rfl, Nat.le_of_ble_eq_true rfl⟩ ⟨by decide, by decide⟩ dX7_lotOf_45) (fun r w2 H locs hp hW => ?_)
        obtain ⟨rfl, rfl⟩ := hp
        exact ret_i X hW (v := (nI 0)) (Or.inr (Or.inr (Or.inl (⟨by omega, rfl, rfl⟩)))) rfl (by decide) (by decide) dX7_lotOf_48
    · refine lv_aload_n hx hb dX7_lotOf_26 rfl (lv_at hl 0 rfl) ?_
      refine lv_iconst (v := nI 2) hx hb dX7_lotOf_27 (by decide) ?_
      refine go_i X hW (run_V X hW (As := [.int (nI 2)]) (rest := []) 10 0 rfl (c_X7_fail l G a 0 lo bi ru ol ob tk fib gra res buy lst bst rea bid pri itm akf akg got pai riv rf ro rs lat bat val cos row ahe wan giv Y 2 _) (gi_V wq_1195 wq_1197 wq_44 wq_67 wq_1198) rfl hyX7_fail rfl rfl rfl hl.1 (Nat.le_of_ble_eq_true rfl) ⟨Nat.le_of_ble_eq_true rfl, Nat.le_of_ble_eq_true rfl⟩ ⟨by decide, by decide⟩ dX7_lotOf_28) (fun r w2 H locs hp hW => ?_)
      obtain ⟨rfl, rfl⟩ := hp
      exact ret_i X hW (v := (nI 0)) (Or.inr (Or.inl (⟨by omega, rfl, rfl⟩))) rfl (by decide) (by decide) dX7_lotOf_31
  · rw [if_pos c_5] at hW
    refine lv_iconst (v := nI 0) hx hb dX7_lotOf_8 (by decide) ?_
    exact ret_i X hW (v := (nI 0)) (Or.inl (⟨by omega, rfl, rfl⟩)) rfl (by decide) (by decide) dX7_lotOf_9

