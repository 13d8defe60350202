set_option maxRecDepth 100000 in
set_option maxHeartbeats 4000000 in
theorem c_X7_fitting (l : Launch) (G : Gt) (a : Nat → Nat) (th lo bi ru ol ob : Nat) (tk : Int) (fib gra res buy lst bst rea bid pri itm akf akg got : Nat → Nat) (pai : Nat → Int) (riv rf ro rs lat bat : Nat → Nat) (val : Nat → Int) (cos row ahe wan giv : Nat → Nat) (Y : va_W) (z y : Int) (hI : MIa lo bi ru ol ob fib gra res buy lst bst rea bid pri itm akf akg got pai riv rf ro rs) (hz : iR z) (hy : iR y) : Ci l G yX7_fitting (ww yX7_fitting cX7_fitting 5 (some FieldType.int)) (RM 3 0 0) [.ref (a 0), .int (zI z), .int (zI y)] (mW G a th lo bi ru ol ob tk fib gra res buy lst bst rea bid pri itm akf akg got pai riv rf ro rs lat bat val cos row ahe wan giv ++ Y) (fun r w2 => ((¬ (0 ≤ z ∧ z < ((bi : Nat) : Int))) ∧ r = (nI 0) ∧ w2 = (mW G a 1 lo bi ru ol ob tk fib gra res buy lst bst rea bid pri itm akf akg got pai riv rf ro rs lat bat val cos row ahe wan giv ++ Y)) ∨ (((0 ≤ z ∧ z < ((bi : Nat) : Int)) ∧ ¬ (0 ≤ y ∧ y < ((itm z.toNat : Nat) : Int))) ∧ r = (nI 0) ∧ w2 = (mW G a 2 lo bi ru ol ob tk fib gra res buy lst bst rea bid pri itm akf akg got pai riv rf ro rs lat bat val cos row ahe wan giv ++ Y)) ∨ (((0 ≤ z ∧ z < ((bi : Nat) : Int)) ∧ (0 ≤ y ∧ y < ((itm z.toNat : Nat) : Int))) ∧ r = (nI (cntB (fun k => decide (lst k = 111) && suiB fib gra rf ro rs ru akf akg k (3 * z.toNat + y.toNat)) lo)) ∧ w2 = (mW G a 0 lo bi ru ol ob tk fib gra res buy lst bst rea bid pri itm akf akg got pai riv rf ro rs lat bat val cos row ahe wan giv ++ Y))) := by
  refine Ci.intro (by decide) (Nat.le_of_ble_eq_true rfl) ?_
  intro p e s m args below meth c A X hW ls hl
  have hx := X.exec
  have hb := X.bytes
  have hl : lv_has ls 5 [(0, .ref (a 0)), (1, .int (zI z)), (2, .int (zI y))] := hl
  obtain ⟨hlo, hbi, hru, hol, hob, hfib, hgra, hres, hbuy, hlst, hbst, hrea, hbid, hpri, hitm, hakf, hakg, hgot, hriv, hrf, hro, hrs, hpai, hcl, hcb⟩ := id hI
  have hiz := hitm z.toNat
  refine lv_aload_n hx hb dX7_fitting_0 rfl (lv_at hl 0 rfl) ?_
  refine lv_iload_n hx hb dX7_fitting_1 rfl (lv_at hl 1 rfl) ?_
  refine go_i X hW (run_V X hW (As := [.int (zI z)]) (rest := []) 10 0 rfl (c_X7_noBid l G a th lo bi ru ol ob tk fib gra res buy lst bst rea bid pri itm akf akg got pai riv rf ro rs lat bat val cos row ahe wan giv Y (zI z) z rfl (by omega) (by omega) _) (gi_V wq_1332 wq_1334 wq_58 wq_67 wq_1335) rfl hyX7_noBid rfl rfl rfl hl.1 (Nat.le_of_ble_eq_true rfl) ⟨Nat.le_of_ble_eq_true rfl, Nat.le_of_ble_eq_true rfl⟩ ⟨by decide, by decide⟩ dX7_fitting_2) (fun r w2 H locs hp hW => ?_)
  obtain ⟨rfl, rfl⟩ := hp
  refine p_if_eq hx hb (tgt := 10) dX7_fitting_5 (by decide) (fun c_5 => ?_) (fun c_5 => ?_)
  · rw [if_neg c_5] at hW
    refine lv_iload_n hx hb dX7_fitting_10 rfl (lv_at hl 2 rfl) ?_
    refine lv_iconst (v := nI 0) hx hb dX7_fitting_11 (by decide) ?_
    refine lv_aload_n hx hb dX7_fitting_12 rfl (lv_at hl 0 rfl) ?_
    refine x_get X hW 0 rfl 16 rfl rfl iwX7 (by decide) wq_1096 rfl dX7_fitting_13 ?_
    refine lv_iload_n hx hb dX7_fitting_16 rfl (lv_at hl 1 rfl) ?_
    refine r_zn (a := z.toNat) (by omega) ?_
    refine n_iald X hW (n := 40) (f := itm) 10 rfl (by omega) (by decide) dX7_fitting_17 ?_
    refine lv_iconst (v := nI 1) hx hb dX7_fitting_18 (by decide) ?_
    refine z_isub hx hb (nZ _) (nZ _) dX7_fitting_19 ?_
    refine go_i X hW (run_S X hW (As := [.int (zI y), .int (nI 0), .int (zI ((((itm z.toNat) : Nat) : Int) - ((1 : Nat) : Int)))]) (rest := []) (c_X7_isIn l G (mW G a 0 lo bi ru ol ob tk fib gra res buy lst bst rea bid pri itm akf akg got pai riv rf ro rs lat bat val cos row ahe wan giv ++ Y) (zI y) (nI 0) (zI ((((itm z.toNat) : Nat) : Int) - ((1 : Nat) : Int))) y ((0 : Nat) : Int) ((((itm z.toNat) : Nat) : Int) - ((1 : Nat) : Int)) rfl (nZ _) rfl (by omega) (by omega) (by omega) _) (gi_S wq_1189 wq_1190 wq_67 wq_1191) hyX7_isIn rfl rfl hl.1 (Nat.le_of_ble_eq_true rfl) ⟨Nat.le_of_ble_eq_true rfl, Nat.le_of_ble_eq_true rfl⟩ ⟨by decide, by decide⟩ dX7_fitting_20) (fun r w2 H locs hp hW => ?_)
    obtain ⟨rfl, rfl⟩ := hp
    refine p_if_ne hx hb (tgt := 32) dX7_fitting_23 (by decide) (fun c_23 => ?_) (fun c_23 => ?_)
    · refine lv_iconst (v := nI 0) hx hb dX7_fitting_32 (by decide) ?_
      refine lv_istore_n (lv' := [(3, .int (nI 0)), (0, .ref (a 0)), (1, .int (zI z)), (2, .int (zI y))]) hx hb dX7_fitting_33 rfl hl (by decide) rfl (fun ls hl => ?_)
      refine lv_iconst (v := nI 0) hx hb dX7_fitting_34 (by decide) ?_
      refine lv_istore (lv' := [(4, .int (nI 0)), (3, .int (nI 0)), (0, .ref (a 0)), (1, .int (zI z)), (2, .int (zI y))]) hx hb dX7_fitting_35 hl (by decide) rfl (fun ls hl => ?_)
      have loop : ∀ (n : Nat) (k : Nat), ((0 ≤ z ∧ z < ((bi : Nat) : Int)) ∧ (0 ≤ y ∧ y < ((itm z.toNat : Nat) : Int))) → lo + 1 ≤ k + n → k ≤ lo → ∀ (H : Heap) (locs : List Loc) (ls : Array Slot), Wd G A s (mW G a 0 lo bi ru ol ob tk fib gra res buy lst bst rea bid pri itm akf akg got pai riv rf ro rs lat bat val cos row ahe wan giv ++ Y) H locs → lv_has ls 5 [(0, .ref (a 0)), (1, .int (zI z)), (2, .int (zI y)), (3, .int (nI (cntB (fun k => decide (lst k = 111) && suiB fib gra rf ro rs ru akf akg k (3 * z.toNat + y.toNat)) k))), (4, .int (nI k))] → W p l e (RM 3 0 0) s m args below meth c H locs 0 0 (MQ below (Qi G A (fun r w2 => ((¬ (0 ≤ z ∧ z < ((bi : Nat) : Int))) ∧ r = (nI 0) ∧ w2 = (mW G a 1 lo bi ru ol ob tk fib gra res buy lst bst rea bid pri itm akf akg got pai riv rf ro rs lat bat val cos row ahe wan giv ++ Y)) ∨ (((0 ≤ z ∧ z < ((bi : Nat) : Int)) ∧ ¬ (0 ≤ y ∧ y < ((itm z.toNat : Nat) : Int))) ∧ r = (nI 0) ∧ w2 = (mW G a 2 lo bi ru ol ob tk fib gra res buy lst bst rea bid pri itm akf akg got pai riv rf ro rs lat bat val cos row ahe wan giv ++ Y)) ∨ (((0 ≤ z ∧ z < ((bi : Nat) : Int)) ∧ (0 ≤ y ∧ y < ((itm z.toNat : Nat) : Int))) ∧ r = (nI (cntB (fun k => decide (lst k = 111) && suiB fib gra rf ro rs ru akf akg k (3 * z.toNat + y.toNat)) lo)) ∧ w2 = (mW G a 0 lo bi ru ol ob tk fib gra res buy lst bst rea bid pri itm akf akg got pai riv rf ro rs lat bat val cos row ahe wan giv ++ Y)))) args s (RM 3 0 0).cells (RM 3 0 0).slots A) (F0 m 37 ls []) := by
        intro n
        induction n with
        | zero => intro k hq h1 h2; exact absurd h1 (by omega)
        | succ n ih =>
          intro k hq h1 h2 H locs ls hW hl
          have hcn := cntB_le (fun k => decide (lst k = 111) && suiB fib gra rf ro rs ru akf akg k (3 * z.toNat + y.toNat)) k
          refine lv_iload hx hb dX7_fitting_37 (lv_at hl 4 rfl) ?_
          refine lv_aload_n hx hb dX7_fitting_39 rfl (lv_at hl 0 rfl) ?_
          refine x_get X hW 0 rfl 1 rfl rfl iwX7 (by decide) wq_1081 rfl dX7_fitting_40 ?_
          refine n_icmp_ge hx hb rfl rfl (by omega) (by omega) (tgt := 81) dX7_fitting_43 (by decide) (fun c_43 => ?_) (fun c_43 => ?_)
          · refine lv_iload_n hx hb dX7_fitting_81 rfl (lv_at hl 3 rfl) ?_
            exact ret_i X hW (v := (nI (cntB (fun k => decide (lst k = 111) && suiB fib gra rf ro rs ru akf akg k (3 * z.toNat + y.toNat)) k))) (Or.inr (Or.inr (⟨by omega, by rw [show lo = k by omega], rfl⟩))) rfl (by decide) (by decide) dX7_fitting_82
          · refine lv_aload_n hx hb dX7_fitting_46 rfl (lv_at hl 0 rfl) ?_
            refine x_get X hW 0 rfl 11 rfl rfl iwX7 (by decide) wq_1091 rfl dX7_fitting_47 ?_
            refine lv_iload hx hb dX7_fitting_50 (lv_at hl 4 rfl) ?_
            refine n_cald X hW (n := 40) (f := lst) 5 rfl (by omega) (by decide) dX7_fitting_52 ?_
            refine lv_bipush (v := nI 111) hx hb dX7_fitting_53 (by decide) ?_
            refine n_icmp_ne hx hb rfl rfl (by have := hlst k; omega) (by omega) (tgt := 75) dX7_fitting_55 (by decide) (fun c_55 => ?_) (fun c_55 => ?_)
            · refine lv_iinc (v := (nI (k + 1))) (lv' := [(4, .int (nI (k + 1))), (0, .ref (a 0)), (1, .int (zI z)), (2, .int (zI y)), (3, .int (nI (cntB (fun k => decide (lst k = 111) && suiB fib gra rf ro rs ru akf akg k (3 * z.toNat + y.toNat)) k)))]) hx hb dX7_fitting_75 hl (k := 4) rfl (nI_add _ _) (by decide) rfl (fun ls hl => ?_)
              refine lv_goto (tgt := 37) hx hb dX7_fitting_78 (by decide) ?_
              exact ih (k + 1) hq (by omega) (by omega) _ _ _ hW (by rw [show cntB (fun k => decide (lst k = 111) && suiB fib gra rf ro rs ru akf akg k (3 * z.toNat + y.toNat)) (k + 1) = (cntB (fun k => decide (lst k = 111) && suiB fib gra rf ro rs ru akf akg k (3 * z.toNat + y.toNat)) k) from bsum_f (by show (_ && _) = false; rw [decide_eq_false c_55]; rfl)]; exact lv_sub hl [1, 2, 3, 4, 0] rfl)
            · refine lv_aload_n hx hb dX7_fitting_58 rfl (lv_at hl 0 rfl) ?_
              refine lv_iload hx hb dX7_fitting_59 (lv_at hl 4 rfl) ?_
              refine lv_iconst (v := nI 3) hx hb dX7_fitting_61 (by decide) ?_
              refine lv_iload_n hx hb dX7_fitting_62 rfl (lv_at hl 1 rfl) ?_
              refine r_zn (a := z.toNat) (by omega) ?_
              refine n_imul hx hb dX7_fitting_63 ?_
              refine lv_iload_n hx hb dX7_fitting_64 rfl (lv_at hl 2 rfl) ?_
              refine r_zn (a := y.toNat) (by omega) ?_
              refine n_iadd hx hb dX7_fitting_65 ?_
              refine go_i X hW (run_V X hW (As := [.int (nI k), .int (nI ((3 * z.toNat) + y.toNat))]) (rest := []) 10 0 rfl (c_X7_suits l G a 0 lo bi ru ol ob tk fib gra res buy lst bst rea bid pri itm akf akg got pai riv rf ro rs lat bat val cos row ahe wan giv Y k ((3 * z.toNat) + y.toNat) hI (by omega) (by omega) _) (gi_V wq_1257 wq_1259 wq_51 wq_67 wq_1260) rfl hyX7_suits rfl rfl rfl hl.1 (Nat.le_of_ble_eq_true rfl) ⟨Nat.le_of_ble_eq_true rfl, Nat.le_of_ble_eq_true rfl⟩ ⟨by decide, by decide⟩ dX7_fitting_66) (fun r w2 H locs hp hW => ?_)
              obtain ⟨rfl, rfl⟩ := hp
              refine p_if_eq hx hb (tgt := 75) dX7_fitting_69 (by decide) (fun c_69 => ?_) (fun c_69 => ?_)
              · refine lv_iinc (v := (nI (k + 1))) (lv' := [(4, .int (nI (k + 1))), (0, .ref (a 0)), (1, .int (zI z)), (2, .int (zI y)), (3, .int (nI (cntB (fun k => decide (lst k = 111) && suiB fib gra rf ro rs ru akf akg k (3 * z.toNat + y.toNat)) k)))]) hx hb dX7_fitting_75 hl (k := 4) rfl (nI_add _ _) (by decide) rfl (fun ls hl => ?_)
                refine lv_goto (tgt := 37) hx hb dX7_fitting_78 (by decide) ?_
                exact ih (k + 1) hq (by omega) (by omega) _ _ _ hW (by rw [show cntB (fun k => decide (lst k = 111) && suiB fib gra rf ro rs ru akf akg k (3 * z.toNat + y.toNat)) (k + 1) = (cntB (fun k => decide (lst k = 111) && suiB fib gra rf ro rs ru akf akg k (3 * z.toNat + y.toNat)) k) from bsum_f (by show (_ && _) = false; rw [Bool.eq_false_iff.mpr c_69, Bool.and_false])]; exact lv_sub hl [1, 2, 3, 4, 0] rfl)
              · refine lv_iinc (v := (nI ((cntB (fun k => decide (lst k = 111) && suiB fib gra rf ro rs ru akf akg k (3 * z.toNat + y.toNat)) k) + 1))) (lv' := [(3, .int (nI ((cntB (fun k => decide (lst k = 111) && suiB fib gra rf ro rs ru akf akg k (3 * z.toNat + y.toNat)) k) + 1))), (0, .ref (a 0)), (1, .int (zI z)), (2, .int (zI y)), (4, .int (nI k))]) hx hb dX7_fitting_72 hl (k := 3) rfl (nI_add _ _) (by decide) rfl (fun ls hl => ?_)
                refine lv_iinc (v := (nI (k + 1))) (lv' := [(4, .int (nI (k + 1))), (3, .int (nI ((cntB (fun k => decide (lst k = 111) && suiB fib gra rf ro rs ru akf akg k (3 * z.toNat + y.toNat)) k) + 1))), (0, .ref (a 0)), (1, .int (zI z)), (2, .int (zI y))]) hx hb dX7_fitting_75 hl (k := 4) rfl (nI_add _ _) (by decide) rfl (fun ls hl => ?_)
                refine lv_goto (tgt := 37) hx hb dX7_fitting_78 (by decide) ?_
                exact ih (k + 1) hq (by omega) (by omega) _ _ _ hW (by rw [show cntB (fun k => decide (lst k = 111) && suiB fib gra rf ro rs ru akf akg k (3 * z.toNat + y.toNat)) (k + 1) = ((cntB (fun k => decide (lst k = 111) && suiB fib gra rf ro rs ru akf akg k (3 * z.toNat + y.toNat)) k) + 1) from bsum_t (by show (_ && _) = true; rw [decide_eq_true c_55, c_69]; rfl)]; exact lv_sub hl [2, 3, 4, 1, 0] rfl)
      exact loop (lo + 1) 0 (by omega) (by omega) (by omega) _ _ _ hW (lv_sub hl [2, 3, 4, 1, 0] rfl)
    · refine lv_aload_n hx hb dX7_fitting_26 rfl (lv_at hl 0 rfl) ?_
      refine lv_iconst (v := nI 2) hx hb dX7_fitting_27 (by decide) ?_
      refine go_i X hW (run_V X hW (As := [.int (nI 2)]) (rest := []) 10 0 rfl (c_X7_fail l G a 0 lo bi ru ol ob tk fib gra res buy lst bst rea bid pri itm akf akg got pai riv rf ro rs lat bat val cos row ahe wan giv Y 2 _) (gi_V wq_1195 wq_1197 wq_44 wq_67 wq_1198) rfl hyX7_fail rfl rfl rfl hl.1 (Nat.le_of_ble_eq_true rfl) ⟨Nat.le_of_ble_eq_true rfl, Nat.le_of_ble_eq_true rfl⟩ ⟨by decide, by decide⟩ dX7_fitting_28) (fun r w2 H locs hp hW => ?_)
      obtain ⟨rfl, rfl⟩ := hp
      exact ret_i X hW (v := (nI 0)) (Or.inr (Or.inl (⟨by omega, rfl, rfl⟩))) rfl (by decide) (by decide) dX7_fitting_31
  · rw [if_pos c_5] at hW
    refine lv_iconst (v := nI 0) hx hb dX7_fitting_8 (by decide) ?_
    exact ret_i X hW (v := (nI 0)) (Or.inl (⟨by omega, rfl, rfl⟩)) rfl (by decide) (by decide) dX7_fitting_9

/-- the places below n with p, in their order -/
def opn (p : Nat → Bool) (n : Nat) : List Nat := match n with
  | 0 => []
  | n + 1 => opn p n ++ (if p n = true then [n] else [])
theorem opn_len (p : Nat → Bool) (n : Nat) : (opn p n).length = cntB p n := by
  induction n with
  | zero => rfl
  | succ n ih =>
    rw [opn, List.length_append, ih]
    unfold cntB
    rw [bsum]
    split <;> rfl
theorem opn_old {p : Nat → Bool} {n t : Nat} (h : t < cntB p n) : qf (opn p (n + 1)) t = qf (opn p n) t := by
  rw [opn]; exact qf_l (by rw [opn_len]; exact h)
theorem opn_new {p : Nat → Bool} {n : Nat} (hp : p n = true) : qf (opn p (n + 1)) (cntB p n) = n := by
  have h := @qf_r (opn p n) [n] 0
  rw [opn_len, Nat.add_zero] at h
  rw [opn, if_pos hp, h]; rfl
theorem opn_in {p : Nat → Bool} {n t : Nat} (h : t < cntB p n) : qf (opn p n) t < n ∧ p (qf (opn p n) t) = true := by
  induction n with
  | zero => exact absurd h (Nat.not_lt_zero _)
  | succ n ih =>
    by_cases q : t < cntB p n
    · rw [opn_old q]; have := ih q; exact ⟨by omega, this.2⟩
    · cases hp : p n with
      | false => rw [show cntB p (n + 1) = cntB p n from bsum_f hp] at h; omega
      | true =>
        rw [show cntB p (n + 1) = cntB p n + 1 from bsum_t hp] at h
        rw [show t = cntB p n by omega, opn_new hp]; exact ⟨by omega, hp⟩
theorem cntB_mono {p : Nat → Bool} {k n : Nat} (h : k ≤ n) : cntB p k ≤ cntB p n := by
  induction n with
  | zero => rw [show k = 0 by omega]; exact Nat.le_refl _
  | succ n ih =>
    by_cases q : k = n + 1
    · rw [q]; exact Nat.le_refl _
    · have h1 := ih (by omega)
      have h2 : cntB p n ≤ cntB p (n + 1) := by unfold cntB; rw [bsum]; omega
      omega
abbrev isO (st : Nat → Nat) : Nat → Bool := fun k => decide (st k = 111)
set_option maxRecDepth 100000 in
set_option maxHeartbeats 4000000 in
theorem c_X7_gather (l : Launch) (G : Gt) (a : Nat → Nat) (th lo bi ru ol ob : Nat) (tk : Int) (fib gra res buy lst bst rea bid pri itm akf akg got : Nat → Nat) (pai : Nat → Int) (riv rf ro rs lat bat : Nat → Nat) (val : Nat → Int) (cos row ahe wan giv : Nat → Nat) (Y : va_W) (hI : MIa lo bi ru ol ob fib gra res buy lst bst rea bid pri itm akf akg got pai riv rf ro rs) (hlat : ∀ k, lat k < 40) (hbat : ∀ k, bat k < 40) : Cv l G yX7_gather (ww yX7_gather cX7_gather 3 (none : Option ClassFile.FieldType)) (RM 0 0 0) [.ref (a 0)] (mW G a th lo bi ru ol ob tk fib gra res buy lst bst rea bid pri itm akf akg got pai riv rf ro rs lat bat val cos row ahe wan giv ++ Y) (fun w2 => ∃ la ba : Nat → Nat, (∀ k, la k < 40) ∧ (∀ k, ba k < 40) ∧ (∀ x, x < ol → la x = qf (opn (isO lst) lo) x) ∧ (∀ x, x < ob → ba x = qf (opn (isO bst) bi) x) ∧ w2 = (mW G a th lo bi ru ol ob tk fib gra res buy lst bst rea bid pri itm akf akg got pai riv rf ro rs la ba val cos row ahe wan giv ++ Y)) := by
  refine Cv.intro (by decide) (Nat.le_of_ble_eq_true rfl) ?_
  intro p e s m args below meth c A X hW ls hl
  have hx := X.exec
  have hb := X.bytes
  have hl : lv_has ls 3 [(0, .ref (a 0))] := hl
  obtain ⟨hlo, hbi, hru, hol, hob, hfib, hgra, hres, hbuy, hlst, hbst, hrea, hbid, hpri, hitm, hakf, hakg, hgot, hriv, hrf, hro, hrs, hpai, hcl, hcb⟩ := id hI
  have hcl : cntB (isO lst) lo = ol := hcl
  have hcb : cntB (isO bst) bi = ob := hcb
  refine lv_iconst (v := nI 0) hx hb dX7_gather_0 (by decide) ?_
  refine lv_istore_n (lv' := [(1, .int (nI 0)), (0, .ref (a 0))]) hx hb dX7_gather_1 rfl hl (by decide) rfl (fun ls hl => ?_)
  refine lv_iconst (v := nI 0) hx hb dX7_gather_2 (by decide) ?_
  refine lv_istore_n (lv' := [(2, .int (nI 0)), (1, .int (nI 0)), (0, .ref (a 0))]) hx hb dX7_gather_3 rfl hl (by decide) rfl (fun ls hl => ?_)
  have loop : ∀ (n : Nat) (k : Nat) (la : Nat → Nat), lo + 1 ≤ k + n → k ≤ lo → (∀ x, la x < 40) → (∀ x, x < cntB (isO lst) k → la x = qf (opn (isO lst) k) x) → ∀ (H : Heap) (locs : List Loc) (ls : Array Slot), Wd G A s (mW G a th lo bi ru ol ob tk fib gra res buy lst bst rea bid pri itm akf akg got pai riv rf ro rs la bat val cos row ahe wan giv ++ Y) H locs → lv_has ls 3 [(0, .ref (a 0)), (1, .int (nI (cntB (isO lst) k))), (2, .int (nI k))] → W p l e (RM 0 0 0) s m args below meth c H locs 0 0 (MQ below (Qv G A (fun w2 => ∃ la ba : Nat → Nat, (∀ k, la k < 40) ∧ (∀ k, ba k < 40) ∧ (∀ x, x < ol → la x = qf (opn (isO lst) lo) x) ∧ (∀ x, x < ob → ba x = qf (opn (isO bst) bi) x) ∧ w2 = (mW G a th lo bi ru ol ob tk fib gra res buy lst bst rea bid pri itm akf akg got pai riv rf ro rs la ba val cos row ahe wan giv ++ Y))) args s (RM 0 0 0).cells (RM 0 0 0).slots A) (F0 m 4 ls []) := by
    intro n
    induction n with
    | zero => intro k la h1 h2 h3 h4; exact absurd h1 (by omega)
    | succ n ih =>
      intro k la h1 h2 h3 h4 H locs ls hW hl
      have hmo := fun (h : k < lo) => @cntB_mono (isO lst) (k + 1) lo h
      have hmt := fun (h : lst k = 111) => (show cntB (isO lst) (k + 1) = cntB (isO lst) k + 1 from bsum_t (decide_eq_true h))
      have hck := cntB_le (isO lst) k
      refine lv_iload_n hx hb dX7_gather_4 rfl (lv_at hl 2 rfl) ?_
      refine lv_aload_n hx hb dX7_gather_5 rfl (lv_at hl 0 rfl) ?_
      refine x_get X hW 0 rfl 1 rfl rfl iwX7 (by decide) wq_1081 rfl dX7_gather_6 ?_
      refine n_icmp_ge hx hb rfl rfl (by omega) (by omega) (tgt := 39) dX7_gather_9 (by decide) (fun c_9 => ?_) (fun c_9 => ?_)
      · refine lv_iconst (v := nI 0) hx hb dX7_gather_39 (by decide) ?_
        refine lv_istore_n (lv' := [(1, .int (nI 0)), (0, .ref (a 0)), (2, .int (nI k))]) hx hb dX7_gather_40 rfl hl (by decide) rfl (fun ls hl => ?_)
        refine lv_iconst (v := nI 0) hx hb dX7_gather_41 (by decide) ?_
        refine lv_istore_n (lv' := [(2, .int (nI 0)), (1, .int (nI 0)), (0, .ref (a 0))]) hx hb dX7_gather_42 rfl hl (by decide) rfl (fun ls hl => ?_)
        have hla := h3
        have hla2 : ∀ x, x < ol → la x = qf (opn (isO lst) lo) x := fun x hx => by rw [show lo = k by omega]; exact h4 x (by rw [show k = lo by omega]; exact hcl ▸ hx)
        skip
        have loop2 : ∀ (n : Nat) (k : Nat) (ba : Nat → Nat), bi + 1 ≤ k + n → k ≤ bi → (∀ x, ba x < 40) → (∀ x, x < cntB (isO bst) k → ba x = qf (opn (isO bst) k) x) → ∀ (H : Heap) (locs : List Loc) (ls : Array Slot), Wd G A s (mW G a th lo bi ru ol ob tk fib gra res buy lst bst rea bid pri itm akf akg got pai riv rf ro rs la ba val cos row ahe wan giv ++ Y) H locs → lv_has ls 3 [(0, .ref (a 0)), (1, .int (nI (cntB (isO bst) k))), (2, .int (nI k))] → W p l e (RM 0 0 0) s m args below meth c H locs 0 0 (MQ below (Qv G A (fun w2 => ∃ la ba : Nat → Nat, (∀ k, la k < 40) ∧ (∀ k, ba k < 40) ∧ (∀ x, x < ol → la x = qf (opn (isO lst) lo) x) ∧ (∀ x, x < ob → ba x = qf (opn (isO bst) bi) x) ∧ w2 = (mW G a th lo bi ru ol ob tk fib gra res buy lst bst rea bid pri itm akf akg got pai riv rf ro rs la ba val cos row ahe wan giv ++ Y))) args s (RM 0 0 0).cells (RM 0 0 0).slots A) (F0 m 43 ls []) := by
          intro n
          induction n with
          | zero => intro k ba h1 h2 h3 h4; exact absurd h1 (by omega)
          | succ n ih =>
            intro k ba h1 h2 h3 h4 H locs ls hW hl
            have hmo := fun (h : k < bi) => @cntB_mono (isO bst) (k + 1) bi h
            have hmt := fun (h : bst k = 111) => (show cntB (isO bst) (k + 1) = cntB (isO bst) k + 1 from bsum_t (decide_eq_true h))
            have hck := cntB_le (isO bst) k
            refine lv_iload_n hx hb dX7_gather_43 rfl (lv_at hl 2 rfl) ?_
            refine lv_aload_n hx hb dX7_gather_44 rfl (lv_at hl 0 rfl) ?_
            refine x_get X hW 0 rfl 2 rfl rfl iwX7 (by decide) wq_1082 rfl dX7_gather_45 ?_
            refine n_icmp_ge hx hb rfl rfl (by omega) (by omega) (tgt := 78) dX7_gather_48 (by decide) (fun c_48 => ?_) (fun c_48 => ?_)
            · exact ret_v X hW (⟨la, ba, hla, h3, hla2, fun x hx => by rw [show bi = k by omega]; exact h4 x (by rw [show k = bi by omega]; exact hcb ▸ hx), rfl⟩) rfl (by decide) (by decide) dX7_gather_78
            · refine lv_aload_n hx hb dX7_gather_51 rfl (lv_at hl 0 rfl) ?_
              refine x_get X hW 0 rfl 12 rfl rfl iwX7 (by decide) wq_1092 rfl dX7_gather_52 ?_
              refine lv_iload_n hx hb dX7_gather_55 rfl (lv_at hl 2 rfl) ?_
              refine n_cald X hW (n := 40) (f := bst) 6 rfl (by omega) (by decide) dX7_gather_56 ?_
              refine lv_bipush (v := nI 111) hx hb dX7_gather_57 (by decide) ?_
              refine n_icmp_ne hx hb rfl rfl (by have := hbst k; omega) (by omega) (tgt := 72) dX7_gather_59 (by decide) (fun c_59 => ?_) (fun c_59 => ?_)
              · refine lv_iinc (v := (nI (k + 1))) (lv' := [(2, .int (nI (k + 1))), (0, .ref (a 0)), (1, .int (nI (cntB (isO bst) k)))]) hx hb dX7_gather_72 hl (k := 2) rfl (nI_add _ _) (by decide) rfl (fun ls hl => ?_)
                refine lv_goto (tgt := 43) hx hb dX7_gather_75 (by decide) ?_
                exact ih (k + 1) ba (by omega) (by omega) h3 (fun x hx => by rw [show cntB (isO bst) (k + 1) = (cntB (isO bst) k) from bsum_f (decide_eq_false c_59)] at hx; rw [opn_old hx]; exact h4 x hx) _ _ _ hW (by rw [show cntB (isO bst) (k + 1) = (cntB (isO bst) k) from bsum_f (decide_eq_false c_59)]; exact lv_sub hl [1, 2, 0] rfl)
              · refine lv_aload_n hx hb dX7_gather_62 rfl (lv_at hl 0 rfl) ?_
                refine x_get X hW 0 rfl 26 rfl rfl iwX7 (by decide) wq_1106 rfl dX7_gather_63 ?_
                have := hmo (by omega)
                have := hmt c_59
                refine lv_iload_n hx hb dX7_gather_66 rfl (lv_at hl 1 rfl) ?_
                refine lv_iinc (v := (nI ((cntB (isO bst) k) + 1))) (lv' := [(1, .int (nI ((cntB (isO bst) k) + 1))), (0, .ref (a 0)), (2, .int (nI k))]) hx hb dX7_gather_67 hl (k := 1) rfl (nI_add _ _) (by decide) rfl (fun ls hl => ?_)
                refine lv_iload_n hx hb dX7_gather_70 rfl (lv_at hl 2 rfl) ?_
                refine n_iast X hW (n := 8) (f := ba) 20 rfl (w2 := (mW G a th lo bi ru ol ob tk fib gra res buy lst bst rea bid pri itm akf akg got pai riv rf ro rs la (va_up ba (cntB (isO bst) k) k) val cos row ahe wan giv ++ Y)) rfl (by omega) (by decide) dX7_gather_71 (fun H locs hW => ?_)
                refine lv_iinc (v := (nI (k + 1))) (lv' := [(2, .int (nI (k + 1))), (1, .int (nI ((cntB (isO bst) k) + 1))), (0, .ref (a 0))]) hx hb dX7_gather_72 hl (k := 2) rfl (nI_add _ _) (by decide) rfl (fun ls hl => ?_)
                refine lv_goto (tgt := 43) hx hb dX7_gather_75 (by decide) ?_
                exact ih (k + 1) _ (by omega) (by omega) (fun x => by unfold va_up; split; omega; exact h3 x) (fun x hx => by rw [show cntB (isO bst) (k + 1) = ((cntB (isO bst) k) + 1) from bsum_t (decide_eq_true c_59)] at hx; unfold va_up; split; rename_i q; rw [q, opn_new (decide_eq_true c_59)]; rw [opn_old (by omega)]; exact h4 x (by omega)) _ _ _ hW (by rw [show cntB (isO bst) (k + 1) = ((cntB (isO bst) k) + 1) from bsum_t (decide_eq_true c_59)]; exact lv_sub hl [2, 1, 0] rfl)
        exact loop2 (bi + 1) 0 bat (by omega) (by omega) hbat (fun x hx => absurd hx (Nat.not_lt_zero _)) _ _ _ hW (lv_sub hl [2, 1, 0] rfl)
      · refine lv_aload_n hx hb dX7_gather_12 rfl (lv_at hl 0 rfl) ?_
        refine x_get X hW 0 rfl 11 rfl rfl iwX7 (by decide) wq_1091 rfl dX7_gather_13 ?_
        refine lv_iload_n hx hb dX7_gather_16 rfl (lv_at hl 2 rfl) ?_
        refine n_cald X hW (n := 40) (f := lst) 5 rfl (by omega) (by decide) dX7_gather_17 ?_
        refine lv_bipush (v := nI 111) hx hb dX7_gather_18 (by decide) ?_
        refine n_icmp_ne hx hb rfl rfl (by have := hlst k; omega) (by omega) (tgt := 33) dX7_gather_20 (by decide) (fun c_20 => ?_) (fun c_20 => ?_)
        · refine lv_iinc (v := (nI (k + 1))) (lv' := [(2, .int (nI (k + 1))), (0, .ref (a 0)), (1, .int (nI (cntB (isO lst) k)))]) hx hb dX7_gather_33 hl (k := 2) rfl (nI_add _ _) (by decide) rfl (fun ls hl => ?_)
          refine lv_goto (tgt := 4) hx hb dX7_gather_36 (by decide) ?_
          exact ih (k + 1) la (by omega) (by omega) h3 (fun x hx => by rw [show cntB (isO lst) (k + 1) = (cntB (isO lst) k) from bsum_f (decide_eq_false c_20)] at hx; rw [opn_old hx]; exact h4 x hx) _ _ _ hW (by rw [show cntB (isO lst) (k + 1) = (cntB (isO lst) k) from bsum_f (decide_eq_false c_20)]; exact lv_sub hl [1, 2, 0] rfl)
        · refine lv_aload_n hx hb dX7_gather_23 rfl (lv_at hl 0 rfl) ?_
          refine x_get X hW 0 rfl 25 rfl rfl iwX7 (by decide) wq_1105 rfl dX7_gather_24 ?_
          have := hmo (by omega)
          have := hmt c_20
          refine lv_iload_n hx hb dX7_gather_27 rfl (lv_at hl 1 rfl) ?_
          refine lv_iinc (v := (nI ((cntB (isO lst) k) + 1))) (lv' := [(1, .int (nI ((cntB (isO lst) k) + 1))), (0, .ref (a 0)), (2, .int (nI k))]) hx hb dX7_gather_28 hl (k := 1) rfl (nI_add _ _) (by decide) rfl (fun ls hl => ?_)
          refine lv_iload_n hx hb dX7_gather_31 rfl (lv_at hl 2 rfl) ?_
          refine n_iast X hW (n := 8) (f := la) 19 rfl (w2 := (mW G a th lo bi ru ol ob tk fib gra res buy lst bst rea bid pri itm akf akg got pai riv rf ro rs (va_up la (cntB (isO lst) k) k) bat val cos row ahe wan giv ++ Y)) rfl (by omega) (by decide) dX7_gather_32 (fun H locs hW => ?_)
          refine lv_iinc (v := (nI (k + 1))) (lv' := [(2, .int (nI (k + 1))), (1, .int (nI ((cntB (isO lst) k) + 1))), (0, .ref (a 0))]) hx hb dX7_gather_33 hl (k := 2) rfl (nI_add _ _) (by decide) rfl (fun ls hl => ?_)
          refine lv_goto (tgt := 4) hx hb dX7_gather_36 (by decide) ?_
          exact ih (k + 1) _ (by omega) (by omega) (fun x => by unfold va_up; split; omega; exact h3 x) (fun x hx => by rw [show cntB (isO lst) (k + 1) = ((cntB (isO lst) k) + 1) from bsum_t (decide_eq_true c_20)] at hx; unfold va_up; split; rename_i q; rw [q, opn_new (decide_eq_true c_20)]; rw [opn_old (by omega)]; exact h4 x (by omega)) _ _ _ hW (by rw [show cntB (isO lst) (k + 1) = ((cntB (isO lst) k) + 1) from bsum_t (decide_eq_true c_20)]; exact lv_sub hl [2, 1, 0] rfl)
  exact loop (lo + 1) 0 lat (by omega) (by omega) hlat (fun x hx => absurd hx (Nat.not_lt_zero _)) _ _ _ hW (lv_sub hl [2, 1, 0] rfl)

