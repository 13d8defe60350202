theorem cr_mem {G : Gt} {z f h : Nat → Nat} {ol ob sc wc : Nat} {tk : Int} {lo bi ru : Nat} {fib gra res lst : Nat → Nat} {byr : Nat → Int} {rf ro rs bid pri bst rea : Nat → Nat} {rvl pad : Nat → Int} {itm akf akg : Nat → Nat} {gt : Nat → Int} {Y w : va_W} {x : Nat × va_E} (hC : CR G z f h ol ob sc wc tk lo bi ru fib gra res lst byr rf ro rs bid pri bst rea rvl pad itm akf akg gt Y w) (hx : x ∈ Y) : x ∈ w := by
  obtain ⟨e0, k0, m0, e1, k1, m1, e2, k2, m2, la, ra, ba, wo, we, wk, wm, ia, r0, r1, r2, r3, hc⟩ := hC
  refine hc.mem_iff.mpr ?_
  unfold CW
  simp only [List.mem_append]
  simp only [hx, or_true]
section KCASES
variable {p : Program} {l : Launch} {e : Env} {s : State} {m : MethodId} {args : Array Value} {below : List Frame} {meth : Method} {c : Code} {H : Heap} {locs : List Loc} {cells slots : Nat} {Q : State → Prop}
variable {ls : Array Slot} {rt : Option FieldType} {G : Gt} {A : Nat → Prop} {w : va_W} {b L i o1 o2 : Nat} {xs : Nat → Int32} {z f h a : Nat → Nat} {fl : Nat → Int64} {fd : Nat → UInt64} {k : Nat}
set_option maxRecDepth 100000 in
set_option maxHeartbeats 4000000 in
theorem k_fibreOf (hl9 : l.stackTraces = false) (X : Cx p s m args meth c cL_law 9 RL rt G A) (hX : va_X b L xs s s.heap) (hbl : b < s.heap.size) (hbA : ¬ A b) (hL : L ≤ 2048) (hi : i + 4 ≤ L) (hcl : cells + 30 ≤ 603072) (hsl : slots + 400 ≤ 7215210) (hLI : LI G z f h a o1 o2 w) (hW : Wd G A s w H locs) (hl : lv_has ls 9 (LV6 b (z 0) (a 0) o1 o2 i)) (kk : ∀ (w : va_W) (H : Heap) (locs : List Loc) (ls : Array Slot), LI G z f h a o1 o2 w → Wd G A s w H locs → lv_has ls 9 (LV6 b (z 0) (a 0) o1 o2 i) → W p l e room_1 s m args below meth c H locs (cells + 30) (slots + 400) Q (F0 m 2290 ls [])) : W p l e room_1 s m args below meth c H locs cells slots Q (F0 m 848 ls []) := by
  have hx := X.exec
  have hb := X.bytes
  obtain ⟨th, fl, fd, lo, bi, ru, ol, ob, tk, fib, gra, res, buy, lst, bst, rea, bid, pri, itm, akf, akg, got, pai, riv, rf, ro, rs, lat, bat, val, cos, row, ahe, wan, giv, sc, wc, byr, reaC, rvl, pad, gt, X1, hM, hSB, hRel, hC0, hp1⟩ := hLI
  have hC1 := cf_inn hC0 hp1
  have hm1 : outL G o1 fl ∈ w := cf_mem hC1 (List.mem_append_right _ List.mem_cons_self)
  have hCI := cia_of hM hRel.1
  obtain ⟨fs, hz0⟩ := cf_z hC1
  obtain ⟨hlo, hbi, hru, hol, hob, hfib, hgra, hres, hbuy, hlst, hbst, hrea, hbid, hpri, hitm, hakf, hakg, hgot, hriv, hrf, hro, hrs, hpai, hcl9, hcb9⟩ := id hM
  obtain ⟨hlat, hbat, hcos, hrow, hahe, hwan, hgiv⟩ := id hSB
  obtain ⟨hrC, hrB, hrR, hrV, hrP, hsc, hwc⟩ := id hRel
  obtain ⟨lc, bc, ql, ln, rv, rm, bn, bd, pr, ic, flx, qu, rc, gp, bs, bv, cf, wt, ho, hFI, hCR⟩ := id hC1
  obtain ⟨v1, hv1, hv1e⟩ := z_ex (xs (i + 1))
  refine lv_aload_n hx hb dL_law_848 rfl (lv_at hl 1 rfl) ?_
  refine law_arg X hX hbl hbA hW (lv_at hl 0 rfl) (lv_at hl 5 rfl) 1 (by decide) hi hL (v := zI v1) hv1e (by decide) dL_law_849 dL_law_850 dL_law_852 dL_law_853 dL_law_854 ?_
  refine lv_aload_n hx hb dL_law_855 rfl (lv_at hl 3 rfl) ?_
  refine go_i X hW (rest := []) (run_SW X hW (As := [.ref (z 0), .int (zI v1), .ref o1]) (rest := []) (h_fibreOf l G w (z 0) o1 fs fl _ (c_X6_fibreOf l hl9 G _ _ _ _ _ _ _ _ _ _ _ _ _ _ _ _ _ _ _ _ _ _ _ _ _ _ _ _ _ _ _ _ hCI hCR hv1) hz0 (fun r w2 q => by rw [q.2.2]; exact hm1) (fun E w2 q => q.1) H.size) wq_819 wq_820 wq_821 rfl hyL_fibreOf rfl rfl hl.1 (Nat.le_of_ble_eq_true rfl) ⟨Nat.le_of_ble_eq_true rfl, Nat.le_of_ble_eq_true rfl⟩ ⟨by show cells + 3 ≤ 603072; omega, by show slots + 18 ≤ 7215210; omega⟩ dL_law_856) (fun r6 w2 H locs hP hW => ?_)
  have hz1 := hz0
  rcases hP with ⟨h6, v0, w3, hpp, hF⟩ | ⟨h6, hxx⟩
  · obtain ⟨hc, hr, hC2⟩ := hpp
    rw [hC2] at hF
    obtain ⟨X2, hC3, hp2⟩ := cf_out (cf_upd hC1 hF)
    have hW := hW.perm hp2
    refine lv_istore (lv' := (6, .int r6) :: LV6 b (z 0) (a 0) o1 o2 i) hx hb dL_law_859 hl (by decide) rfl (fun ls hl => ?_)
    refine lv_aload_n hx hb dL_law_861 rfl (lv_at hl 3 rfl) ?_
    refine law_arg X hX hbl hbA hW (lv_at hl 1 rfl) (lv_at hl 6 rfl) 1 (by decide) hi hL (v := zI v1) hv1e (by decide) dL_law_862 dL_law_863 dL_law_865 dL_law_866 dL_law_867 ?_
    refine go_i X hW (rest := []) (run_V X hW (As := [.int (zI v1)]) (rest := []) 10 0 rfl (c_X7_fibreOf l G a _ _ _ _ _ _ _ _ _ _ _ _ _ _ _ _ _ _ _ _ _ _ _ _ _ _ _ _ _ _ _ _ _ _ _ hM hv1 H.size) (gi_V wq_1300 wq_1301 wq_1302 wq_67 wq_1303) rfl hyX7_fibreOf rfl rfl rfl hl.1 (Nat.le_of_ble_eq_true rfl) ⟨Nat.le_of_ble_eq_true rfl, Nat.le_of_ble_eq_true rfl⟩ ⟨by show cells + 3 + 0 ≤ 603072; omega, by show slots + 18 + 0 ≤ 7215210; omega⟩ dL_law_868) (fun r7 w7 H locs hp7 hW => ?_)
    refine lv_istore (lv' := (7, .int r7) :: (6, .int r6) :: LV6 b (z 0) (a 0) o1 o2 i) hx hb dL_law_871 hl (by decide) rfl (fun ls hl => ?_)
    rcases hp7 with ⟨hd, hr7, hw7⟩ | ⟨hd, hr7, hw7⟩
    · exfalso; clear hM hSB hRel hCI hC1; omega
    · rw [hw7] at hW
      exact law_tailI X (k := 0) ⟨lo, bi, ru, ol, ob, tk, fib, gra, res, buy, lst, bst, rea, bid, pri, itm, akf, akg, got, pai, riv, rf, ro, rs, lat, bat, val, cos, row, ahe, wan, giv, sc, wc, byr, reaC, rvl, pad, gt, X2, hM, hSB, hRel, hC3, List.Perm.refl _⟩ hW hl h6 (fun _ => (if_pos rfl).trans (congrArg Int32.toInt64 (hr.trans hr7.symm))) ⟨by show cells + 3 + 0 + 0 ≤ 603072; omega, by show slots + 18 + 0 + 0 ≤ 7215210; omega⟩ 873 dL_law_873 dL_law_874 dL_law_877 dL_law_879 dL_law_884 dL_law_886 dL_law_889 dL_law_890 dL_law_891 dL_law_892 dL_law_894 dL_law_895 dL_law_896 dL_law_901 rfl (fun w H1 locs1 q1 q2 q3 => W.widen (by show cells + 3 + 0 ≤ _; omega) (by show slots + 18 + 0 ≤ _; omega) (kk w H1 locs1 ls q1 q2 q3))
  · obtain ⟨hE, hc, hC2⟩ := hxx
    rw [hC2] at hW
    obtain ⟨X2, hC3, hp2⟩ := cf_out hC1
    have hW := hW.perm hp2
    refine lv_istore (lv' := (6, .int r6) :: LV6 b (z 0) (a 0) o1 o2 i) hx hb dL_law_859 hl (by decide) rfl (fun ls hl => ?_)
    refine lv_aload_n hx hb dL_law_861 rfl (lv_at hl 3 rfl) ?_
    refine law_arg X hX hbl hbA hW (lv_at hl 1 rfl) (lv_at hl 6 rfl) 1 (by decide) hi hL (v := zI v1) hv1e (by decide) dL_law_862 dL_law_863 dL_law_865 dL_law_866 dL_law_867 ?_
    refine go_i X hW (rest := []) (run_V X hW (As := [.int (zI v1)]) (rest := []) 10 0 rfl (c_X7_fibreOf l G a _ _ _ _ _ _ _ _ _ _ _ _ _ _ _ _ _ _ _ _ _ _ _ _ _ _ _ _ _ _ _ _ _ _ _ hM hv1 H.size) (gi_V wq_1300 wq_1301 wq_1302 wq_67 wq_1303) rfl hyX7_fibreOf rfl rfl rfl hl.1 (Nat.le_of_ble_eq_true rfl) ⟨Nat.le_of_ble_eq_true rfl, Nat.le_of_ble_eq_true rfl⟩ ⟨by show cells + 3 + 0 ≤ 603072; omega, by show slots + 18 + 0 ≤ 7215210; omega⟩ dL_law_868) (fun r7 w7 H locs hp7 hW => ?_)
    refine lv_istore (lv' := (7, .int r7) :: (6, .int r6) :: LV6 b (z 0) (a 0) o1 o2 i) hx hb dL_law_871 hl (by decide) rfl (fun ls hl => ?_)
    rcases hp7 with ⟨hd, hr7, hw7⟩ | ⟨hd, hr7, hw7⟩
    · rw [hw7] at hW
      exact law_tailI X (k := 1) ⟨lo, bi, ru, ol, ob, tk, fib, gra, res, buy, lst, bst, rea, bid, pri, itm, akf, akg, got, pai, riv, rf, ro, rs, lat, bat, val, cos, row, ahe, wan, giv, sc, wc, byr, reaC, rvl, pad, gt, X2, hM, hSB, hRel, hC3, List.Perm.refl _⟩ hW hl h6 (fun q => absurd (h6.symm.trans q) (by decide)) ⟨by show cells + 3 + 0 + 0 ≤ 603072; omega, by show slots + 18 + 0 + 0 ≤ 7215210; omega⟩ 873 dL_law_873 dL_law_874 dL_law_877 dL_law_879 dL_law_884 dL_law_886 dL_law_889 dL_law_890 dL_law_891 dL_law_892 dL_law_894 dL_law_895 dL_law_896 dL_law_901 rfl (fun w H1 locs1 q1 q2 q3 => W.widen (by show cells + 3 + 0 ≤ _; omega) (by show slots + 18 + 0 ≤ _; omega) (kk w H1 locs1 ls q1 q2 q3))
    · exfalso; clear hM hSB hRel hCI hC1; omega
set_option maxRecDepth 100000 in
set_option maxHeartbeats 4000000 in
theorem k_gradeOf (hl9 : l.stackTraces = false) (X : Cx p s m args meth c cL_law 9 RL rt G A) (hX : va_X b L xs s s.heap) (hbl : b < s.heap.size) (hbA : ¬ A b) (hL : L ≤ 2048) (hi : i + 4 ≤ L) (hcl : cells + 30 ≤ 603072) (hsl : slots + 400 ≤ 7215210) (hLI : LI G z f h a o1 o2 w) (hW : Wd G A s w H locs) (hl : lv_has ls 9 (LV6 b (z 0) (a 0) o1 o2 i)) (kk : ∀ (w : va_W) (H : Heap) (locs : List Loc) (ls : Array Slot), LI G z f h a o1 o2 w → Wd G A s w H locs → lv_has ls 9 (LV6 b (z 0) (a 0) o1 o2 i) → W p l e room_1 s m args below meth c H locs (cells + 30) (slots + 400) Q (F0 m 2290 ls [])) : W p l e room_1 s m args below meth c H locs cells slots Q (F0 m 904 ls []) := by
  have hx := X.exec
  have hb := X.bytes
  obtain ⟨th, fl, fd, lo, bi, ru, ol, ob, tk, fib, gra, res, buy, lst, bst, rea, bid, pri, itm, akf, akg, got, pai, riv, rf, ro, rs, lat, bat, val, cos, row, ahe, wan, giv, sc, wc, byr, reaC, rvl, pad, gt, X1, hM, hSB, hRel, hC0, hp1⟩ := hLI
  have hC1 := cf_inn hC0 hp1
  have hm1 : outL G o1 fl ∈ w := cf_mem hC1 (List.mem_append_right _ List.mem_cons_self)
  have hCI := cia_of hM hRel.1
  obtain ⟨fs, hz0⟩ := cf_z hC1
  obtain ⟨hlo, hbi, hru, hol, hob, hfib, hgra, hres, hbuy, hlst, hbst, hrea, hbid, hpri, hitm, hakf, hakg, hgot, hriv, hrf, hro, hrs, hpai, hcl9, hcb9⟩ := id hM
  obtain ⟨hlat, hbat, hcos, hrow, hahe, hwan, hgiv⟩ := id hSB
  obtain ⟨hrC, hrB, hrR, hrV, hrP, hsc, hwc⟩ := id hRel
  obtain ⟨lc, bc, ql, ln, rv, rm, bn, bd, pr, ic, flx, qu, rc, gp, bs, bv, cf, wt, ho, hFI, hCR⟩ := id hC1
  obtain ⟨v1, hv1, hv1e⟩ := z_ex (xs (i + 1))
  refine lv_aload_n hx hb dL_law_904 rfl (lv_at hl 1 rfl) ?_
  refine law_arg X hX hbl hbA hW (lv_at hl 0 rfl) (lv_at hl 5 rfl) 1 (by decide) hi hL (v := zI v1) hv1e (by decide) dL_law_905 dL_law_906 dL_law_908 dL_law_909 dL_law_910 ?_
  refine lv_aload_n hx hb dL_law_911 rfl (lv_at hl 3 rfl) ?_
  refine go_i X hW (rest := []) (run_SW X hW (As := [.ref (z 0), .int (zI v1), .ref o1]) (rest := []) (h_gradeOf l G w (z 0) o1 fs fl _ (c_X6_gradeOf l hl9 G _ _ _ _ _ _ _ _ _ _ _ _ _ _ _ _ _ _ _ _ _ _ _ _ _ _ _ _ _ _ _ _ hCI hCR hv1) hz0 (fun r w2 q => by rw [q.2.2]; exact hm1) (fun E w2 q => q.1) H.size) wq_826 wq_827 wq_828 rfl hyL_gradeOf rfl rfl hl.1 (Nat.le_of_ble_eq_true rfl) ⟨Nat.le_of_ble_eq_true rfl, Nat.le_of_ble_eq_true rfl⟩ ⟨by show cells + 3 ≤ 603072; omega, by show slots + 18 ≤ 7215210; omega⟩ dL_law_912) (fun r6 w2 H locs hP hW => ?_)
  have hz1 := hz0
  rcases hP with ⟨h6, v0, w3, hpp, hF⟩ | ⟨h6, hxx⟩
  · obtain ⟨hc, hr, hC2⟩ := hpp
    rw [hC2] at hF
    obtain ⟨X2, hC3, hp2⟩ := cf_out (cf_upd hC1 hF)
    have hW := hW.perm hp2
    refine lv_istore (lv' := (6, .int r6) :: LV6 b (z 0) (a 0) o1 o2 i) hx hb dL_law_915 hl (by decide) rfl (fun ls hl => ?_)
    refine lv_aload_n hx hb dL_law_917 rfl (lv_at hl 3 rfl) ?_
    refine law_arg X hX hbl hbA hW (lv_at hl 1 rfl) (lv_at hl 6 rfl) 1 (by decide) hi hL (v := zI v1) hv1e (by decide) dL_law_918 dL_law_919 dL_law_921 dL_law_922 dL_law_923 ?_
    refine go_i X hW (rest := []) (run_V X hW (As := [.int (zI v1)]) (rest := []) 10 0 rfl (c_X7_gradeOf l G a _ _ _ _ _ _ _ _ _ _ _ _ _ _ _ _ _ _ _ _ _ _ _ _ _ _ _ _ _ _ _ _ _ _ _ hM hv1 H.size) (gi_V wq_1308 wq_1309 wq_1310 wq_67 wq_1311) rfl hyX7_gradeOf rfl rfl rfl hl.1 (Nat.le_of_ble_eq_true rfl) ⟨Nat.le_of_ble_eq_true rfl, Nat.le_of_ble_eq_true rfl⟩ ⟨by show cells + 3 + 0 ≤ 603072; omega, by show slots + 18 + 0 ≤ 7215210; omega⟩ dL_law_924) (fun r7 w7 H locs hp7 hW => ?_)
    refine lv_istore (lv' := (7, .int r7) :: (6, .int r6) :: LV6 b (z 0) (a 0) o1 o2 i) hx hb dL_law_927 hl (by decide) rfl (fun ls hl => ?_)
    rcases hp7 with ⟨hd, hr7, hw7⟩ | ⟨hd, hr7, hw7⟩
    · exfalso; clear hM hSB hRel hCI hC1; omega
    · rw [hw7] at hW
      exact law_tailI X (k := 0) ⟨lo, bi, ru, ol, ob, tk, fib, gra, res, buy, lst, bst, rea, bid, pri, itm, akf, akg, got, pai, riv, rf, ro, rs, lat, bat, val, cos, row, ahe, wan, giv, sc, wc, byr, reaC, rvl, pad, gt, X2, hM, hSB, hRel, hC3, List.Perm.refl _⟩ hW hl h6 (fun _ => (if_pos rfl).trans (congrArg Int32.toInt64 (hr.trans hr7.symm))) ⟨by show cells + 3 + 0 + 0 ≤ 603072; omega, by show slots + 18 + 0 + 0 ≤ 7215210; omega⟩ 929 dL_law_929 dL_law_930 dL_law_933 dL_law_935 dL_law_940 dL_law_942 dL_law_945 dL_law_946 dL_law_947 dL_law_948 dL_law_950 dL_law_951 dL_law_952 dL_law_957 rfl (fun w H1 locs1 q1 q2 q3 => W.widen (by show cells + 3 + 0 ≤ _; omega) (by show slots + 18 + 0 ≤ _; omega) (kk w H1 locs1 ls q1 q2 q3))
  · obtain ⟨hE, hc, hC2⟩ := hxx
    rw [hC2] at hW
    obtain ⟨X2, hC3, hp2⟩ := cf_out hC1
    have hW := hW.perm hp2
    refine lv_istore (lv' := (6, .int r6) :: LV6 b (z 0) (a 0) o1 o2 i) hx hb dL_law_915 hl (by decide) rfl (fun ls hl => ?_)
    refine lv_aload_n hx hb dL_law_917 rfl (lv_at hl 3 rfl) ?_
    refine law_arg X hX hbl hbA hW (lv_at hl 1 rfl) (lv_at hl 6 rfl) 1 (by decide) hi hL (v := zI v1) hv1e (by decide) dL_law_918 dL_law_919 dL_law_921 dL_law_922 dL_law_923 ?_
    refine go_i X hW (rest := []) (run_V X hW (As := [.int (zI v1)]) (rest := []) 10 0 rfl (c_X7_gradeOf l G a _ _ _ _ _ _ _ _ _ _ _ _ _ _ _ _ _ _ _ _ _ _ _ _ _ _ _ _ _ _ _ _ _ _ _ hM hv1 H.size) (gi_V wq_1308 wq_1309 wq_1310 wq_67 wq_1311) rfl hyX7_gradeOf rfl rfl rfl hl.1 (Nat.le_of_ble_eq_true rfl) ⟨Nat.le_of_ble_eq_true rfl, Nat.le_of_ble_eq_true rfl⟩ ⟨by show cells + 3 + 0 ≤ 603072; omega, by show slots + 18 + 0 ≤ 7215210; omega⟩ dL_law_924) (fun r7 w7 H locs hp7 hW => ?_)
    refine lv_istore (lv' := (7, .int r7) :: (6, .int r6) :: LV6 b (z 0) (a 0) o1 o2 i) hx hb dL_law_927 hl (by decide) rfl (fun ls hl => ?_)
    rcases hp7 with ⟨hd, hr7, hw7⟩ | ⟨hd, hr7, hw7⟩
    · rw [hw7] at hW
      exact law_tailI X (k := 1) ⟨lo, bi, ru, ol, ob, tk, fib, gra, res, buy, lst, bst, rea, bid, pri, itm, akf, akg, got, pai, riv, rf, ro, rs, lat, bat, val, cos, row, ahe, wan, giv, sc, wc, byr, reaC, rvl, pad, gt, X2, hM, hSB, hRel, hC3, List.Perm.refl _⟩ hW hl h6 (fun q => absurd (h6.symm.trans q) (by decide)) ⟨by show cells + 3 + 0 + 0 ≤ 603072; omega, by show slots + 18 + 0 + 0 ≤ 7215210; omega⟩ 929 dL_law_929 dL_law_930 dL_law_933 dL_law_935 dL_law_940 dL_law_942 dL_law_945 dL_law_946 dL_law_947 dL_law_948 dL_law_950 dL_law_951 dL_law_952 dL_law_957 rfl (fun w H1 locs1 q1 q2 q3 => W.widen (by show cells + 3 + 0 ≤ _; omega) (by show slots + 18 + 0 ≤ _; omega) (kk w H1 locs1 ls q1 q2 q3))
    · exfalso; clear hM hSB hRel hCI hC1; omega
set_option maxRecDepth 100000 in
set_option maxHeartbeats 4000000 in
theorem k_reserveOf (hl9 : l.stackTraces = false) (X : Cx p s m args meth c cL_law 9 RL rt G A) (hX : va_X b L xs s s.heap) (hbl : b < s.heap.size) (hbA : ¬ A b) (hL : L ≤ 2048) (hi : i + 4 ≤ L) (hcl : cells + 30 ≤ 603072) (hsl : slots + 400 ≤ 7215210) (hLI : LI G z f h a o1 o2 w) (hW : Wd G A s w H locs) (hl : lv_has ls 9 (LV6 b (z 0) (a 0) o1 o2 i)) (kk : ∀ (w : va_W) (H : Heap) (locs : List Loc) (ls : Array Slot), LI G z f h a o1 o2 w → Wd G A s w H locs → lv_has ls 9 (LV6 b (z 0) (a 0) o1 o2 i) → W p l e room_1 s m args below meth c H locs (cells + 30) (slots + 400) Q (F0 m 2290 ls [])) : W p l e room_1 s m args below meth c H locs cells slots Q (F0 m 960 ls []) := by
  have hx := X.exec
  have hb := X.bytes
  obtain ⟨th, fl, fd, lo, bi, ru, ol, ob, tk, fib, gra, res, buy, lst, bst, rea, bid, pri, itm, akf, akg, got, pai, riv, rf, ro, rs, lat, bat, val, cos, row, ahe, wan, giv, sc, wc, byr, reaC, rvl, pad, gt, X1, hM, hSB, hRel, hC0, hp1⟩ := hLI
  have hC1 := cf_inn hC0 hp1
  have hm1 : outL G o1 fl ∈ w := cf_mem hC1 (List.mem_append_right _ List.mem_cons_self)
  have hCI := cia_of hM hRel.1
  obtain ⟨fs, hz0⟩ := cf_z hC1
  obtain ⟨hlo, hbi, hru, hol, hob, hfib, hgra, hres, hbuy, hlst, hbst, hrea, hbid, hpri, hitm, hakf, hakg, hgot, hriv, hrf, hro, hrs, hpai, hcl9, hcb9⟩ := id hM
  obtain ⟨hlat, hbat, hcos, hrow, hahe, hwan, hgiv⟩ := id hSB
  obtain ⟨hrC, hrB, hrR, hrV, hrP, hsc, hwc⟩ := id hRel
  obtain ⟨lc, bc, ql, ln, rv, rm, bn, bd, pr, ic, flx, qu, rc, gp, bs, bv, cf, wt, ho, hFI, hCR⟩ := id hC1
  obtain ⟨v1, hv1, hv1e⟩ := z_ex (xs (i + 1))
  refine lv_aload_n hx hb dL_law_960 rfl (lv_at hl 1 rfl) ?_
  refine law_arg X hX hbl hbA hW (lv_at hl 0 rfl) (lv_at hl 5 rfl) 1 (by decide) hi hL (v := zI v1) hv1e (by decide) dL_law_961 dL_law_962 dL_law_964 dL_law_965 dL_law_966 ?_
  refine lv_aload_n hx hb dL_law_967 rfl (lv_at hl 3 rfl) ?_
  refine go_i X hW (rest := []) (run_SW X hW (As := [.ref (z 0), .int (zI v1), .ref o1]) (rest := []) (h_reserveOf l G w (z 0) o1 fs fl _ (c_X6_reserveOf l hl9 G _ _ _ _ _ _ _ _ _ _ _ _ _ _ _ _ _ _ _ _ _ _ _ _ _ _ _ _ _ _ _ _ hCI hCR hv1) hz0 (fun r w2 q => by rw [q.2.2]; exact hm1) (fun E w2 q => q.1) H.size) wq_833 wq_834 wq_835 rfl hyL_reserveOf rfl rfl hl.1 (Nat.le_of_ble_eq_true rfl) ⟨Nat.le_of_ble_eq_true rfl, Nat.le_of_ble_eq_true rfl⟩ ⟨by show cells + 3 ≤ 603072; omega, by show slots + 18 ≤ 7215210; omega⟩ dL_law_968) (fun r6 w2 H locs hP hW => ?_)
  have hz1 := hz0
  rcases hP with ⟨h6, v0, w3, hpp, hF⟩ | ⟨h6, hxx⟩
  · obtain ⟨hc, hr, hC2⟩ := hpp
    rw [hC2] at hF
    obtain ⟨X2, hC3, hp2⟩ := cf_out (cf_upd hC1 hF)
    have hW := hW.perm hp2
    refine lv_istore (lv' := (6, .int r6) :: LV6 b (z 0) (a 0) o1 o2 i) hx hb dL_law_971 hl (by decide) rfl (fun ls hl => ?_)
    refine lv_aload_n hx hb dL_law_973 rfl (lv_at hl 3 rfl) ?_
    refine law_arg X hX hbl hbA hW (lv_at hl 1 rfl) (lv_at hl 6 rfl) 1 (by decide) hi hL (v := zI v1) hv1e (by decide) dL_law_974 dL_law_975 dL_law_977 dL_law_978 dL_law_979 ?_
    refine go_i X hW (rest := []) (run_V X hW (As := [.int (zI v1)]) (rest := []) 10 0 rfl (c_X7_reserveOf l G a _ _ _ _ _ _ _ _ _ _ _ _ _ _ _ _ _ _ _ _ _ _ _ _ _ _ _ _ _ _ _ _ _ _ _ hM hv1 H.size) (gi_V wq_1312 wq_1313 wq_1314 wq_67 wq_1315) rfl hyX7_reserveOf rfl rfl rfl hl.1 (Nat.le_of_ble_eq_true rfl) ⟨Nat.le_of_ble_eq_true rfl, Nat.le_of_ble_eq_true rfl⟩ ⟨by show cells + 3 + 0 ≤ 603072; omega, by show slots + 18 + 0 ≤ 7215210; omega⟩ dL_law_980) (fun r7 w7 H locs hp7 hW => ?_)
    refine lv_istore (lv' := (7, .int r7) :: (6, .int r6) :: LV6 b (z 0) (a 0) o1 o2 i) hx hb dL_law_983 hl (by decide) rfl (fun ls hl => ?_)
    rcases hp7 with ⟨hd, hr7, hw7⟩ | ⟨hd, hr7, hw7⟩
    · exfalso; clear hM hSB hRel hCI hC1; omega
    · rw [hw7] at hW
      exact law_tailI X (k := 0) ⟨lo, bi, ru, ol, ob, tk, fib, gra, res, buy, lst, bst, rea, bid, pri, itm, akf, akg, got, pai, riv, rf, ro, rs, lat, bat, val, cos, row, ahe, wan, giv, sc, wc, byr, reaC, rvl, pad, gt, X2, hM, hSB, hRel, hC3, List.Perm.refl _⟩ hW hl h6 (fun _ => (if_pos rfl).trans (congrArg Int32.toInt64 (hr.trans hr7.symm))) ⟨by show cells + 3 + 0 + 0 ≤ 603072; omega, by show slots + 18 + 0 + 0 ≤ 7215210; omega⟩ 985 dL_law_985 dL_law_986 dL_law_989 dL_law_991 dL_law_996 dL_law_998 dL_law_1001 dL_law_1002 dL_law_1003 dL_law_1004 dL_law_1006 dL_law_1007 dL_law_1008 dL_law_1013 rfl (fun w H1 locs1 q1 q2 q3 => W.widen (by show cells + 3 + 0 ≤ _; omega) (by show slots + 18 + 0 ≤ _; omega) (kk w H1 locs1 ls q1 q2 q3))
  · obtain ⟨hE, hc, hC2⟩ := hxx
    rw [hC2] at hW
    obtain ⟨X2, hC3, hp2⟩ := cf_out hC1
    have hW := hW.perm hp2
    refine lv_istore (lv' := (6, .int r6) :: LV6 b (z 0) (a 0) o1 o2 i) hx hb dL_law_971 hl (by decide) rfl (fun ls hl => ?_)
    refine lv_aload_n hx hb dL_law_973 rfl (lv_at hl 3 rfl) ?_
    refine law_arg X hX hbl hbA hW (lv_at hl 1 rfl) (lv_at hl 6 rfl) 1 (by decide) hi hL (v := zI v1) hv1e (by decide) dL_law_974 dL_law_975 dL_law_977 dL_law_978 dL_law_979 ?_
    refine go_i X hW (rest := []) (run_V X hW (As := [.int (zI v1)]) (rest := []) 10 0 rfl (c_X7_reserveOf l G a _ _ _ _ _ _ _ _ _ _ _ _ _ _ _ _ _ _ _ _ _ _ _ _ _ _ _ _ _ _ _ _ _ _ _ hM hv1 H.size) (gi_V wq_1312 wq_1313 wq_1314 wq_67 wq_1315) rfl hyX7_reserveOf rfl rfl rfl hl.1 (Nat.le_of_ble_eq_true rfl) ⟨Nat.le_of_ble_eq_true rfl, Nat.le_of_ble_eq_true rfl⟩ ⟨by show cells + 3 + 0 ≤ 603072; omega, by show slots + 18 + 0 ≤ 7215210; omega⟩ dL_law_980) (fun r7 w7 H locs hp7 hW => ?_)
    refine lv_istore (lv' := (7, .int r7) :: (6, .int r6) :: LV6 b (z 0) (a 0) o1 o2 i) hx hb dL_law_983 hl (by decide) rfl (fun ls hl => ?_)
    rcases hp7 with ⟨hd, hr7, hw7⟩ | ⟨hd, hr7, hw7⟩
    · rw [hw7] at hW
      exact law_tailI X (k := 1) ⟨lo, bi, ru, ol, ob, tk, fib, gra, res, buy, lst, bst, rea, bid, pri, itm, akf, akg, got, pai, riv, rf, ro, rs, lat, bat, val, cos, row, ahe, wan, giv, sc, wc, byr, reaC, rvl, pad, gt, X2, hM, hSB, hRel, hC3, List.Perm.refl _⟩ hW hl h6 (fun q => absurd (h6.symm.trans q) (by decide)) ⟨by show cells + 3 + 0 + 0 ≤ 603072; omega, by show slots + 18 + 0 + 0 ≤ 7215210; omega⟩ 985 dL_law_985 dL_law_986 dL_law_989 dL_law_991 dL_law_996 dL_law_998 dL_law_1001 dL_law_1002 dL_law_1003 dL_law_1004 dL_law_1006 dL_law_1007 dL_law_1008 dL_law_1013 rfl (fun w H1 locs1 q1 q2 q3 => W.widen (by show cells + 3 + 0 ≤ _; omega) (by show slots + 18 + 0 ≤ _; omega) (kk w H1 locs1 ls q1 q2 q3))
    · exfalso; clear hM hSB hRel hCI hC1; omega
set_option maxRecDepth 100000 in
set_option maxHeartbeats 4000000 in
theorem k_lotState (hl9 : l.stackTraces = false) (X : Cx p s m args meth c cL_law 9 RL rt G A) (hX : va_X b L xs s s.heap) (hbl : b < s.heap.size) (hbA : ¬ A b) (hL : L ≤ 2048) (hi : i + 4 ≤ L) (hcl : cells + 30 ≤ 603072) (hsl : slots + 400 ≤ 7215210) (hLI : LI G z f h a o1 o2 w) (hW : Wd G A s w H locs) (hl : lv_has ls 9 (LV6 b (z 0) (a 0) o1 o2 i)) (kk : ∀ (w : va_W) (H : Heap) (locs : List Loc) (ls : Array Slot), LI G z f h a o1 o2 w → Wd G A s w H locs → lv_has ls 9 (LV6 b (z 0) (a 0) o1 o2 i) → W p l e room_1 s m args below meth c H locs (cells + 30) (slots + 400) Q (F0 m 2290 ls [])) : W p l e room_1 s m args below meth c H locs cells slots Q (F0 m 1016 ls []) := by
  have hx := X.exec
  have hb := X.bytes
  obtain ⟨th, fl, fd, lo, bi, ru, ol, ob, tk, fib, gra, res, buy, lst, bst, rea, bid, pri, itm, akf, akg, got, pai, riv, rf, ro, rs, lat, bat, val, cos, row, ahe, wan, giv, sc, wc, byr, reaC, rvl, pad, gt, X1, hM, hSB, hRel, hC0, hp1⟩ := hLI
  have hC1 := cf_inn hC0 hp1
  have hm1 : outL G o1 fl ∈ w := cf_mem hC1 (List.mem_append_right _ List.mem_cons_self)
  have hCI := cia_of hM hRel.1
  obtain ⟨fs, hz0⟩ := cf_z hC1
  obtain ⟨hlo, hbi, hru, hol, hob, hfib, hgra, hres, hbuy, hlst, hbst, hrea, hbid, hpri, hitm, hakf, hakg, hgot, hriv, hrf, hro, hrs, hpai, hcl9, hcb9⟩ := id hM
  obtain ⟨hlat, hbat, hcos, hrow, hahe, hwan, hgiv⟩ := id hSB
  obtain ⟨hrC, hrB, hrR, hrV, hrP, hsc, hwc⟩ := id hRel
  obtain ⟨lc, bc, ql, ln, rv, rm, bn, bd, pr, ic, flx, qu, rc, gp, bs, bv, cf, wt, ho, hFI, hCR⟩ := id hC1
  obtain ⟨v1, hv1, hv1e⟩ := z_ex (xs (i + 1))
  refine lv_aload_n hx hb dL_law_1016 rfl (lv_at hl 1 rfl) ?_
  refine law_arg X hX hbl hbA hW (lv_at hl 0 rfl) (lv_at hl 5 rfl) 1 (by decide) hi hL (v := zI v1) hv1e (by decide) dL_law_1017 dL_law_1018 dL_law_1020 dL_law_1021 dL_law_1022 ?_
  refine lv_aload_n hx hb dL_law_1023 rfl (lv_at hl 3 rfl) ?_
  refine go_i X hW (rest := []) (run_SW X hW (As := [.ref (z 0), .int (zI v1), .ref o1]) (rest := []) (h_lotState l G w (z 0) o1 fs fl _ (c_X6_lotState l hl9 G _ _ _ _ _ _ _ _ _ _ _ _ _ _ _ _ _ _ _ _ _ _ _ _ _ _ _ _ _ _ _ _ hCI hCR hv1) hz0 (fun r w2 q => by rw [q.2.2]; exact hm1) (fun E w2 q => q.1) H.size) wq_840 wq_841 wq_842 rfl hyL_lotState rfl rfl hl.1 (Nat.le_of_ble_eq_true rfl) ⟨Nat.le_of_ble_eq_true rfl, Nat.le_of_ble_eq_true rfl⟩ ⟨by show cells + 3 ≤ 603072; omega, by show slots + 18 ≤ 7215210; omega⟩ dL_law_1024) (fun r6 w2 H locs hP hW => ?_)
  have hz1 := hz0
  rcases hP with ⟨h6, v0, w3, hpp, hF⟩ | ⟨h6, hxx⟩
  · obtain ⟨hc, hr, hC2⟩ := hpp
    rw [hC2] at hF
    obtain ⟨X2, hC3, hp2⟩ := cf_out (cf_upd hC1 hF)
    have hW := hW.perm hp2
    refine lv_istore (lv' := (6, .int r6) :: LV6 b (z 0) (a 0) o1 o2 i) hx hb dL_law_1027 hl (by decide) rfl (fun ls hl => ?_)
    refine lv_aload_n hx hb dL_law_1029 rfl (lv_at hl 3 rfl) ?_
    refine law_arg X hX hbl hbA hW (lv_at hl 1 rfl) (lv_at hl 6 rfl) 1 (by decide) hi hL (v := zI v1) hv1e (by decide) dL_law_1030 dL_law_1031 dL_law_1033 dL_law_1034 dL_law_1035 ?_
    refine go_i X hW (rest := []) (run_V X hW (As := [.int (zI v1)]) (rest := []) 10 0 rfl (c_X7_lotState l G a _ _ _ _ _ _ _ _ _ _ _ _ _ _ _ _ _ _ _ _ _ _ _ _ _ _ _ _ _ _ _ _ _ _ _ hM hv1 H.size) (gi_V wq_1316 wq_1317 wq_1318 wq_67 wq_1319) rfl hyX7_lotState rfl rfl rfl hl.1 (Nat.le_of_ble_eq_true rfl) ⟨Nat.le_of_ble_eq_true rfl, Nat.le_of_ble_eq_true rfl⟩ ⟨by show cells + 3 + 0 ≤ 603072; omega, by show slots + 18 + 0 ≤ 7215210; omega⟩ dL_law_1036) (fun r7 w7 H locs hp7 hW => ?_)
    refine lv_istore (lv' := (7, .int r7) :: (6, .int r6) :: LV6 b (z 0) (a 0) o1 o2 i) hx hb dL_law_1039 hl (by decide) rfl (fun ls hl => ?_)
    rcases hp7 with ⟨hd, hr7, hw7⟩ | ⟨hd, hr7, hw7⟩
    · exfalso; clear hM hSB hRel hCI hC1; omega
    · rw [hw7] at hW
      exact law_tailI X (k := 0) ⟨lo, bi, ru, ol, ob, tk, fib, gra, res, buy, lst, bst, rea, bid, pri, itm, akf, akg, got, pai, riv, rf, ro, rs, lat, bat, val, cos, row, ahe, wan, giv, sc, wc, byr, reaC, rvl, pad, gt, X2, hM, hSB, hRel, hC3, List.Perm.refl _⟩ hW hl h6 (fun _ => (if_pos rfl).trans (congrArg Int32.toInt64 (hr.trans hr7.symm))) ⟨by show cells + 3 + 0 + 0 ≤ 603072; omega, by show slots + 18 + 0 + 0 ≤ 7215210; omega⟩ 1041 dL_law_1041 dL_law_1042 dL_law_1045 dL_law_1047 dL_law_1052 dL_law_1054 dL_law_1057 dL_law_1058 dL_law_1059 dL_law_1060 dL_law_1062 dL_law_1063 dL_law_1064 dL_law_1069 rfl (fun w H1 locs1 q1 q2 q3 => W.widen (by show cells + 3 + 0 ≤ _; omega) (by show slots + 18 + 0 ≤ _; omega) (kk w H1 locs1 ls q1 q2 q3))
  · obtain ⟨hE, hc, hC2⟩ := hxx
    rw [hC2] at hW
    obtain ⟨X2, hC3, hp2⟩ := cf_out hC1
    have hW := hW.perm hp2
    refine lv_istore (lv' := (6, .int r6) :: LV6 b (z 0) (a 0) o1 o2 i) hx hb dL_law_1027 hl (by decide) rfl (fun ls hl => ?_)
    refine lv_aload_n hx hb dL_law_1029 rfl (lv_at hl 3 rfl) ?_
    refine law_arg X hX hbl hbA hW (lv_at hl 1 rfl) (lv_at hl 6 rfl) 1 (by decide) hi hL (v := zI v1) hv1e (by decide) dL_law_1030 dL_law_1031 dL_law_1033 dL_law_1034 dL_law_1035 ?_
    refine go_i X hW (rest := []) (run_V X hW (As := [.int (zI v1)]) (rest := []) 10 0 rfl (c_X7_lotState l G a _ _ _ _ _ _ _ _ _ _ _ _ _ _ _ _ _ _ _ _ _ _ _ _ _ _ _ _ _ _ _ _ _ _ _ hM hv1 H.size) (gi_V wq_1316 wq_1317 wq_1318 wq_67 wq_1319) rfl hyX7_lotState rfl rfl rfl hl.1 (Nat.le_of_ble_eq_true rfl) ⟨Nat.le_of_ble_eq_true rfl, Nat.le_of_ble_eq_true rfl⟩ ⟨by show cells + 3 + 0 ≤ 603072; omega, by show slots + 18 + 0 ≤ 7215210; omega⟩ dL_law_1036) (fun r7 w7 H locs hp7 hW => ?_)
    refine lv_istore (lv' := (7, .int r7) :: (6, .int r6) :: LV6 b (z 0) (a 0) o1 o2 i) hx hb dL_law_1039 hl (by decide) rfl (fun ls hl => ?_)
    rcases hp7 with ⟨hd, hr7, hw7⟩ | ⟨hd, hr7, hw7⟩
    · rw [hw7] at hW
      exact law_tailI X (k := 1) ⟨lo, bi, ru, ol, ob, tk, fib, gra, res, buy, lst, bst, rea, bid, pri, itm, akf, akg, got, pai, riv, rf, ro, rs, lat, bat, val, cos, row, ahe, wan, giv, sc, wc, byr, reaC, rvl, pad, gt, X2, hM, hSB, hRel, hC3, List.Perm.refl _⟩ hW hl h6 (fun q => absurd (h6.symm.trans q) (by decide)) ⟨by show cells + 3 + 0 + 0 ≤ 603072; omega, by show slots + 18 + 0 + 0 ≤ 7215210; omega⟩ 1041 dL_law_1041 dL_law_1042 dL_law_1045 dL_law_1047 dL_law_1052 dL_law_1054 dL_law_1057 dL_law_1058 dL_law_1059 dL_law_1060 dL_law_1062 dL_law_1063 dL_law_1064 dL_law_1069 rfl (fun w H1 locs1 q1 q2 q3 => W.widen (by show cells + 3 + 0 ≤ _; omega) (by show slots + 18 + 0 ≤ _; omega) (kk w H1 locs1 ls q1 q2 q3))
    · exfalso; clear hM hSB hRel hCI hC1; omega
set_option maxRecDepth 100000 in
set_option maxHeartbeats 4000000 in
theorem k_soldTo (hl9 : l.stackTraces = false) (X : Cx p s m args meth c cL_law 9 RL rt G A) (hX : va_X b L xs s s.heap) (hbl : b < s.heap.size) (hbA : ¬ A b) (hL : L ≤ 2048) (hi : i + 4 ≤ L) (hcl : cells + 30 ≤ 603072) (hsl : slots + 400 ≤ 7215210) (hLI : LI G z f h a o1 o2 w) (hW : Wd G A s w H locs) (hl : lv_has ls 9 (LV6 b (z 0) (a 0) o1 o2 i)) (kk : ∀ (w : va_W) (H : Heap) (locs : List Loc) (ls : Array Slot), LI G z f h a o1 o2 w → Wd G A s w H locs → lv_has ls 9 (LV6 b (z 0) (a 0) o1 o2 i) → W p l e room_1 s m args below meth c H locs (cells + 30) (slots + 400) Q (F0 m 2290 ls [])) : W p l e room_1 s m args below meth c H locs cells slots Q (F0 m 1072 ls []) := by
  have hx := X.exec
  have hb := X.bytes
  obtain ⟨th, fl, fd, lo, bi, ru, ol, ob, tk, fib, gra, res, buy, lst, bst, rea, bid, pri, itm, akf, akg, got, pai, riv, rf, ro, rs, lat, bat, val, cos, row, ahe, wan, giv, sc, wc, byr, reaC, rvl, pad, gt, X1, hM, hSB, hRel, hC0, hp1⟩ := hLI
  have hC1 := cf_inn hC0 hp1
  have hm1 : outL G o1 fl ∈ w := cf_mem hC1 (List.mem_append_right _ List.mem_cons_self)
  have hCI := cia_of hM hRel.1
  obtain ⟨fs, hz0⟩ := cf_z hC1
  obtain ⟨hlo, hbi, hru, hol, hob, hfib, hgra, hres, hbuy, hlst, hbst, hrea, hbid, hpri, hitm, hakf, hakg, hgot, hriv, hrf, hro, hrs, hpai, hcl9, hcb9⟩ := id hM
  obtain ⟨hlat, hbat, hcos, hrow, hahe, hwan, hgiv⟩ := id hSB
  obtain ⟨hrC, hrB, hrR, hrV, hrP, hsc, hwc⟩ := id hRel
  obtain ⟨lc, bc, ql, ln, rv, rm, bn, bd, pr, ic, flx, qu, rc, gp, bs, bv, cf, wt, ho, hFI, hCR⟩ := id hC1
  obtain ⟨v1, hv1, hv1e⟩ := z_ex (xs (i + 1))
  refine lv_aload_n hx hb dL_law_1072 rfl (lv_at hl 1 rfl) ?_
  refine law_arg X hX hbl hbA hW (lv_at hl 0 rfl) (lv_at hl 5 rfl) 1 (by decide) hi hL (v := zI v1) hv1e (by decide) dL_law_1073 dL_law_1074 dL_law_1076 dL_law_1077 dL_law_1078 ?_
  refine lv_aload_n hx hb dL_law_1079 rfl (lv_at hl 3 rfl) ?_
  refine go_i X hW (rest := []) (run_SW X hW (As := [.ref (z 0), .int (zI v1), .ref o1]) (rest := []) (h_soldTo l G w (z 0) o1 fs fl _ (c_X6_soldTo l hl9 G _ _ _ _ _ _ _ _ _ _ _ _ _ _ _ _ _ _ _ _ _ _ _ _ _ _ _ _ _ _ _ _ hCI hCR hv1) hz0 (fun r w2 q => by rw [q.2.2]; exact hm1) (fun E w2 q => by rcases q with ⟨q, -⟩ | ⟨q, -⟩ <;> simp [q]) H.size) wq_847 wq_848 wq_849 rfl hyL_soldTo rfl rfl hl.1 (Nat.le_of_ble_eq_true rfl) ⟨Nat.le_of_ble_eq_true rfl, Nat.le_of_ble_eq_true rfl⟩ ⟨by show cells + 3 ≤ 603072; omega, by show slots + 18 ≤ 7215210; omega⟩ dL_law_1080) (fun r6 w2 H locs hP hW => ?_)
  have hz1 := hz0
  rcases hP with ⟨h6, v0, w3, hpp, hF⟩ | ⟨h6, hxx⟩ | ⟨h6, hxx⟩
  · obtain ⟨hc, hr, hC2⟩ := hpp
    rw [hC2] at hF
    obtain ⟨X2, hC3, hp2⟩ := cf_out (cf_upd hC1 hF)
    have hW := hW.perm hp2
    refine lv_istore (lv' := (6, .int r6) :: LV6 b (z 0) (a 0) o1 o2 i) hx hb dL_law_1083 hl (by decide) rfl (fun ls hl => ?_)
    refine lv_aload_n hx hb dL_law_1085 rfl (lv_at hl 3 rfl) ?_
    refine law_arg X hX hbl hbA hW (lv_at hl 1 rfl) (lv_at hl 6 rfl) 1 (by decide) hi hL (v := zI v1) hv1e (by decide) dL_law_1086 dL_law_1087 dL_law_1089 dL_law_1090 dL_law_1091 ?_
    refine go_i X hW (rest := []) (run_V X hW (As := [.int (zI v1)]) (rest := []) 10 0 rfl (c_X7_soldTo l G a _ _ _ _ _ _ _ _ _ _ _ _ _ _ _ _ _ _ _ _ _ _ _ _ _ _ _ _ _ _ _ _ _ _ _ hM hv1 H.size) (gi_V wq_1320 wq_1321 wq_1322 wq_67 wq_1323) rfl hyX7_soldTo rfl rfl rfl hl.1 (Nat.le_of_ble_eq_true rfl) ⟨Nat.le_of_ble_eq_true rfl, Nat.le_of_ble_eq_true rfl⟩ ⟨by show cells + 3 + 0 ≤ 603072; omega, by show slots + 18 + 0 ≤ 7215210; omega⟩ dL_law_1092) (fun r7 w7 H locs hp7 hW => ?_)
    refine lv_istore (lv' := (7, .int r7) :: (6, .int r6) :: LV6 b (z 0) (a 0) o1 o2 i) hx hb dL_law_1095 hl (by decide) rfl (fun ls hl => ?_)
    rcases hp7 with ⟨hd, hr7, hw7⟩ | ⟨hd, hr7, hw7⟩ | ⟨hd, hr7, hw7⟩
    · exfalso; clear hM hSB hRel hCI hC1; omega
    · exfalso; clear hM hSB hRel hCI hC1; omega
    · rw [hw7] at hW
      exact law_tailI X (k := 0) ⟨lo, bi, ru, ol, ob, tk, fib, gra, res, buy, lst, bst, rea, bid, pri, itm, akf, akg, got, pai, riv, rf, ro, rs, lat, bat, val, cos, row, ahe, wan, giv, sc, wc, byr, reaC, rvl, pad, gt, X2, hM, hSB, hRel, hC3, List.Perm.refl _⟩ hW hl h6 (fun _ => (if_pos rfl).trans (congrArg Int32.toInt64 (by rw [hr, hr7, hrB _ (by omega) hc.2]; rfl))) ⟨by show cells + 3 + 0 + 0 ≤ 603072; omega, by show slots + 18 + 0 + 0 ≤ 7215210; omega⟩ 1097 dL_law_1097 dL_law_1098 dL_law_1101 dL_law_1103 dL_law_1108 dL_law_1110 dL_law_1113 dL_law_1114 dL_law_1115 dL_law_1116 dL_law_1118 dL_law_1119 dL_law_1120 dL_law_1125 rfl (fun w H1 locs1 q1 q2 q3 => W.widen (by show cells + 3 + 0 ≤ _; omega) (by show slots + 18 + 0 ≤ _; omega) (kk w H1 locs1 ls q1 q2 q3))
  · obtain ⟨hc, hC2⟩ : _ ∧ _ := by
      rcases hxx with ⟨hE, hc, hC2⟩ | ⟨hE, hc, hC2⟩
      · exact ⟨hc, hC2⟩
      · exact absurd hE (by decide)
    rw [hC2] at hW
    obtain ⟨X2, hC3, hp2⟩ := cf_out hC1
    have hW := hW.perm hp2
    refine lv_istore (lv' := (6, .int r6) :: LV6 b (z 0) (a 0) o1 o2 i) hx hb dL_law_1083 hl (by decide) rfl (fun ls hl => ?_)
    refine lv_aload_n hx hb dL_law_1085 rfl (lv_at hl 3 rfl) ?_
    refine law_arg X hX hbl hbA hW (lv_at hl 1 rfl) (lv_at hl 6 rfl) 1 (by decide) hi hL (v := zI v1) hv1e (by decide) dL_law_1086 dL_law_1087 dL_law_1089 dL_law_1090 dL_law_1091 ?_
    refine go_i X hW (rest := []) (run_V X hW (As := [.int (zI v1)]) (rest := []) 10 0 rfl (c_X7_soldTo l G a _ _ _ _ _ _ _ _ _ _ _ _ _ _ _ _ _ _ _ _ _ _ _ _ _ _ _ _ _ _ _ _ _ _ _ hM hv1 H.size) (gi_V wq_1320 wq_1321 wq_1322 wq_67 wq_1323) rfl hyX7_soldTo rfl rfl rfl hl.1 (Nat.le_of_ble_eq_true rfl) ⟨Nat.le_of_ble_eq_true rfl, Nat.le_of_ble_eq_true rfl⟩ ⟨by show cells + 3 + 0 ≤ 603072; omega, by show slots + 18 + 0 ≤ 7215210; omega⟩ dL_law_1092) (fun r7 w7 H locs hp7 hW => ?_)
    refine lv_istore (lv' := (7, .int r7) :: (6, .int r6) :: LV6 b (z 0) (a 0) o1 o2 i) hx hb dL_law_1095 hl (by decide) rfl (fun ls hl => ?_)
    rcases hp7 with ⟨hd, hr7, hw7⟩ | ⟨hd, hr7, hw7⟩ | ⟨hd, hr7, hw7⟩
    · rw [hw7] at hW
      exact law_tailI X (k := 1) ⟨lo, bi, ru, ol, ob, tk, fib, gra, res, buy, lst, bst, rea, bid, pri, itm, akf, akg, got, pai, riv, rf, ro, rs, lat, bat, val, cos, row, ahe, wan, giv, sc, wc, byr, reaC, rvl, pad, gt, X2, hM, hSB, hRel, hC3, List.Perm.refl _⟩ hW hl h6 (fun q => absurd (h6.symm.trans q) (by decide)) ⟨by show cells + 3 + 0 + 0 ≤ 603072; omega, by show slots + 18 + 0 + 0 ≤ 7215210; omega⟩ 1097 dL_law_1097 dL_law_1098 dL_law_1101 dL_law_1103 dL_law_1108 dL_law_1110 dL_law_1113 dL_law_1114 dL_law_1115 dL_law_1116 dL_law_1118 dL_law_1119 dL_law_1120 dL_law_1125 rfl (fun w H1 locs1 q1 q2 q3 => W.widen (by show cells + 3 + 0 ≤ _; omega) (by show slots + 18 + 0 ≤ _; omega) (kk w H1 locs1 ls q1 q2 q3))
    · exfalso; clear hM hSB hRel hCI hC1; omega
    · exfalso; clear hM hSB hRel hCI hC1; omega
  · obtain ⟨hc, hC2⟩ : _ ∧ _ := by
      rcases hxx with ⟨hE, hc, hC2⟩ | ⟨hE, hc, hC2⟩
      · exact absurd hE (by decide)
      · exact ⟨hc, hC2⟩
    rw [hC2] at hW
    obtain ⟨X2, hC3, hp2⟩ := cf_out hC1
    have hW := hW.perm hp2
    refine lv_istore (lv' := (6, .int r6) :: LV6 b (z 0) (a 0) o1 o2 i) hx hb dL_law_1083 hl (by decide) rfl (fun ls hl => ?_)
    refine lv_aload_n hx hb dL_law_1085 rfl (lv_at hl 3 rfl) ?_
    refine law_arg X hX hbl hbA hW (lv_at hl 1 rfl) (lv_at hl 6 rfl) 1 (by decide) hi hL (v := zI v1) hv1e (by decide) dL_law_1086 dL_law_1087 dL_law_1089 dL_law_1090 dL_law_1091 ?_
    refine go_i X hW (rest := []) (run_V X hW (As := [.int (zI v1)]) (rest := []) 10 0 rfl (c_X7_soldTo l G a _ _ _ _ _ _ _ _ _ _ _ _ _ _ _ _ _ _ _ _ _ _ _ _ _ _ _ _ _ _ _ _ _ _ _ hM hv1 H.size) (gi_V wq_1320 wq_1321 wq_1322 wq_67 wq_1323) rfl hyX7_soldTo rfl rfl rfl hl.1 (Nat.le_of_ble_eq_true rfl) ⟨Nat.le_of_ble_eq_true rfl, Nat.le_of_ble_eq_true rfl⟩ ⟨by show cells + 3 + 0 ≤ 603072; omega, by show slots + 18 + 0 ≤ 7215210; omega⟩ dL_law_1092) (fun r7 w7 H locs hp7 hW => ?_)
    refine lv_istore (lv' := (7, .int r7) :: (6, .int r6) :: LV6 b (z 0) (a 0) o1 o2 i) hx hb dL_law_1095 hl (by decide) rfl (fun ls hl => ?_)
    rcases hp7 with ⟨hd, hr7, hw7⟩ | ⟨hd, hr7, hw7⟩ | ⟨hd, hr7, hw7⟩
    · exfalso; clear hM hSB hRel hCI hC1; omega
    · rw [hw7] at hW
      exact law_tailI X (k := 2) ⟨lo, bi, ru, ol, ob, tk, fib, gra, res, buy, lst, bst, rea, bid, pri, itm, akf, akg, got, pai, riv, rf, ro, rs, lat, bat, val, cos, row, ahe, wan, giv, sc, wc, byr, reaC, rvl, pad, gt, X2, hM, hSB, hRel, hC3, List.Perm.refl _⟩ hW hl h6 (fun q => absurd (h6.symm.trans q) (by decide)) ⟨by show cells + 3 + 0 + 0 ≤ 603072; omega, by show slots + 18 + 0 + 0 ≤ 7215210; omega⟩ 1097 dL_law_1097 dL_law_1098 dL_law_1101 dL_law_1103 dL_law_1108 dL_law_1110 dL_law_1113 dL_law_1114 dL_law_1115 dL_law_1116 dL_law_1118 dL_law_1119 dL_law_1120 dL_law_1125 rfl (fun w H1 locs1 q1 q2 q3 => W.widen (by show cells + 3 + 0 ≤ _; omega) (by show slots + 18 + 0 ≤ _; omega) (kk w H1 locs1 ls q1 q2 q3))
    · exfalso; clear hM hSB hRel hCI hC1; omega
set_option maxRecDepth 100000 in
set_option maxHeartbeats 4000000 in
theorem k_countOf (hl9 : l.stackTraces = false) (X : Cx p s m args meth c cL_law 9 RL rt G A) (hX : va_X b L xs s s.heap) (hbl : b < s.heap.size) (hbA : ¬ A b) (hL : L ≤ 2048) (hi : i + 4 ≤ L) (hcl : cells + 30 ≤ 603072) (hsl : slots + 400 ≤ 7215210) (hLI : LI G z f h a o1 o2 w) (hW : Wd G A s w H locs) (hl : lv_has ls 9 (LV6 b (z 0) (a 0) o1 o2 i)) (kk : ∀ (w : va_W) (H : Heap) (locs : List Loc) (ls : Array Slot), LI G z f h a o1 o2 w → Wd G A s w H locs → lv_has ls 9 (LV6 b (z 0) (a 0) o1 o2 i) → W p l e room_1 s m args below meth c H locs (cells + 30) (slots + 400) Q (F0 m 2290 ls [])) : W p l e room_1 s m args below meth c H locs cells slots Q (F0 m 1128 ls []) := by
  have hx := X.exec
  have hb := X.bytes
  obtain ⟨th, fl, fd, lo, bi, ru, ol, ob, tk, fib, gra, res, buy, lst, bst, rea, bid, pri, itm, akf, akg, got, pai, riv, rf, ro, rs, lat, bat, val, cos, row, ahe, wan, giv, sc, wc, byr, reaC, rvl, pad, gt, X1, hM, hSB, hRel, hC0, hp1⟩ := hLI
  have hC1 := cf_inn hC0 hp1
  have hm1 : outL G o1 fl ∈ w := cf_mem hC1 (List.mem_append_right _ List.mem_cons_self)
  have hCI := cia_of hM hRel.1
  obtain ⟨fs, hz0⟩ := cf_z hC1
  obtain ⟨hlo, hbi, hru, hol, hob, hfib, hgra, hres, hbuy, hlst, hbst, hrea, hbid, hpri, hitm, hakf, hakg, hgot, hriv, hrf, hro, hrs, hpai, hcl9, hcb9⟩ := id hM
  obtain ⟨hlat, hbat, hcos, hrow, hahe, hwan, hgiv⟩ := id hSB
  obtain ⟨hrC, hrB, hrR, hrV, hrP, hsc, hwc⟩ := id hRel
  obtain ⟨lc, bc, ql, ln, rv, rm, bn, bd, pr, ic, flx, qu, rc, gp, bs, bv, cf, wt, ho, hFI, hCR⟩ := id hC1
  obtain ⟨v1, hv1, hv1e⟩ := z_ex (xs (i + 1))
  obtain ⟨g2, hg2, hg2e⟩ := g_ex (xs (i + 2))
  refine lv_aload_n hx hb dL_law_1128 rfl (lv_at hl 1 rfl) ?_
  refine law_arg X hX hbl hbA hW (lv_at hl 0 rfl) (lv_at hl 5 rfl) 1 (by decide) hi hL (v := zI v1) hv1e (by decide) dL_law_1129 dL_law_1130 dL_law_1132 dL_law_1133 dL_law_1134 ?_
  refine law_arg X hX hbl hbA hW (lv_at hl 0 rfl) (lv_at hl 5 rfl) 2 (by decide) hi hL (v := _) rfl (by decide) dL_law_1135 dL_law_1136 dL_law_1138 dL_law_1139 dL_law_1140 ?_
  refine lv_i2c (v := nI g2) hx hb dL_law_1141 hg2e ?_
  refine lv_aload_n hx hb dL_law_1142 rfl (lv_at hl 3 rfl) ?_
  refine go_i X hW (rest := []) (run_SW X hW (As := [.ref (z 0), .int (zI v1), .int (nI g2), .ref o1]) (rest := []) (h_countOf l G w (z 0) o1 fs fl _ _ (c_X6_countOf l hl9 G _ _ _ _ _ _ _ _ _ _ _ _ _ _ _ _ _ _ _ _ _ _ _ _ _ _ _ _ _ _ _ _ _ hCI hCR hv1 hg2) hz0 (fun r w2 q => by rw [q.2.2]; exact hm1) (fun E w2 q => q.1) H.size) wq_855 wq_856 wq_857 rfl hyL_countOf rfl rfl hl.1 (Nat.le_of_ble_eq_true rfl) ⟨Nat.le_of_ble_eq_true rfl, Nat.le_of_ble_eq_true rfl⟩ ⟨by show cells + 3 ≤ 603072; omega, by show slots + 18 ≤ 7215210; omega⟩ dL_law_1143) (fun r6 w2 H locs hP hW => ?_)
  have hz1 := hz0
  rcases hP with ⟨h6, v0, w3, hpp, hF⟩ | ⟨h6, hxx⟩
  · obtain ⟨hc, hr, hC2⟩ := hpp
    rw [hC2] at hF
    obtain ⟨X2, hC3, hp2⟩ := cf_out (cf_upd hC1 hF)
    have hW := hW.perm hp2
    refine lv_istore (lv' := (6, .int r6) :: LV6 b (z 0) (a 0) o1 o2 i) hx hb dL_law_1146 hl (by decide) rfl (fun ls hl => ?_)
    refine lv_aload_n hx hb dL_law_1148 rfl (lv_at hl 3 rfl) ?_
    refine law_arg X hX hbl hbA hW (lv_at hl 1 rfl) (lv_at hl 6 rfl) 1 (by decide) hi hL (v := zI v1) hv1e (by decide) dL_law_1149 dL_law_1150 dL_law_1152 dL_law_1153 dL_law_1154 ?_
    refine law_arg X hX hbl hbA hW (lv_at hl 1 rfl) (lv_at hl 6 rfl) 2 (by decide) hi hL (v := _) rfl (by decide) dL_law_1155 dL_law_1156 dL_law_1158 dL_law_1159 dL_law_1160 ?_
    refine lv_i2c (v := nI g2) hx hb dL_law_1161 hg2e ?_
    refine go_i X hW (rest := []) (run_V X hW (As := [.int (zI v1), .int (nI g2)]) (rest := []) 10 0 rfl (c_X7_countOf l G a _ _ _ _ _ _ _ _ _ _ _ _ _ _ _ _ _ _ _ _ _ _ _ _ _ _ _ _ _ _ _ _ _ _ _ _ hM hv1 hg2 H.size) (gi_V wq_1324 wq_1325 wq_1326 wq_67 wq_1327) rfl hyX7_countOf rfl rfl rfl hl.1 (Nat.le_of_ble_eq_true rfl) ⟨Nat.le_of_ble_eq_true rfl, Nat.le_of_ble_eq_true rfl⟩ ⟨by show cells + 3 + 0 ≤ 603072; omega, by show slots + 18 + 0 ≤ 7215210; omega⟩ dL_law_1162) (fun r7 w7 H locs hp7 hW => ?_)
    refine lv_istore (lv' := (7, .int r7) :: (6, .int r6) :: LV6 b (z 0) (a 0) o1 o2 i) hx hb dL_law_1165 hl (by decide) rfl (fun ls hl => ?_)
    rcases hp7 with ⟨hd, hr7, hw7⟩ | ⟨hd, hr7, hw7⟩
    · exfalso; clear hM hSB hRel hCI hC1; omega
    · rw [hw7] at hW
      exact law_tailI X (k := 0) ⟨lo, bi, ru, ol, ob, tk, fib, gra, res, buy, lst, bst, rea, bid, pri, itm, akf, akg, got, pai, riv, rf, ro, rs, lat, bat, val, cos, row, ahe, wan, giv, sc, wc, byr, reaC, rvl, pad, gt, X2, hM, hSB, hRel, hC3, List.Perm.refl _⟩ hW hl h6 (fun _ => (if_pos rfl).trans (congrArg Int32.toInt64 (hr.trans hr7.symm))) ⟨by show cells + 3 + 0 + 0 ≤ 603072; omega, by show slots + 18 + 0 + 0 ≤ 7215210; omega⟩ 1167 dL_law_1167 dL_law_1168 dL_law_1171 dL_law_1173 dL_law_1178 dL_law_1180 dL_law_1183 dL_law_1184 dL_law_1185 dL_law_1186 dL_law_1188 dL_law_1189 dL_law_1190 dL_law_1195 rfl (fun w H1 locs1 q1 q2 q3 => W.widen (by show cells + 3 + 0 ≤ _; omega) (by show slots + 18 + 0 ≤ _; omega) (kk w H1 locs1 ls q1 q2 q3))
  · obtain ⟨hE, hc, hC2⟩ := hxx
    rw [hC2] at hW
    obtain ⟨X2, hC3, hp2⟩ := cf_out hC1
    have hW := hW.perm hp2
    refine lv_istore (lv' := (6, .int r6) :: LV6 b (z 0) (a 0) o1 o2 i) hx hb dL_law_1146 hl (by decide) rfl (fun ls hl => ?_)
    refine lv_aload_n hx hb dL_law_1148 rfl (lv_at hl 3 rfl) ?_
    refine law_arg X hX hbl hbA hW (lv_at hl 1 rfl) (lv_at hl 6 rfl) 1 (by decide) hi hL (v := zI v1) hv1e (by decide) dL_law_1149 dL_law_1150 dL_law_1152 dL_law_1153 dL_law_1154 ?_
    refine law_arg X hX hbl hbA hW (lv_at hl 1 rfl) (lv_at hl 6 rfl) 2 (by decide) hi hL (v := _) rfl (by decide) dL_law_1155 dL_law_1156 dL_law_1158 dL_law_1159 dL_law_1160 ?_
    refine lv_i2c (v := nI g2) hx hb dL_law_1161 hg2e ?_
    refine go_i X hW (rest := []) (run_V X hW (As := [.int (zI v1), .int (nI g2)]) (rest := []) 10 0 rfl (c_X7_countOf l G a _ _ _ _ _ _ _ _ _ _ _ _ _ _ _ _ _ _ _ _ _ _ _ _ _ _ _ _ _ _ _ _ _ _ _ _ hM hv1 hg2 H.size) (gi_V wq_1324 wq_1325 wq_1326 wq_67 wq_1327) rfl hyX7_countOf rfl rfl rfl hl.1 (Nat.le_of_ble_eq_true rfl) ⟨Nat.le_of_ble_eq_true rfl, Nat.le_of_ble_eq_true rfl⟩ ⟨by show cells + 3 + 0 ≤ 603072; omega, by show slots + 18 + 0 ≤ 7215210; omega⟩ dL_law_1162) (fun r7 w7 H locs hp7 hW => ?_)
    refine lv_istore (lv' := (7, .int r7) :: (6, .int r6) :: LV6 b (z 0) (a 0) o1 o2 i) hx hb dL_law_1165 hl (by decide) rfl (fun ls hl => ?_)
    rcases hp7 with ⟨hd, hr7, hw7⟩ | ⟨hd, hr7, hw7⟩
    · rw [hw7] at hW
      exact law_tailI X (k := 1) ⟨lo, bi, ru, ol, ob, tk, fib, gra, res, buy, lst, bst, rea, bid, pri, itm, akf, akg, got, pai, riv, rf, ro, rs, lat, bat, val, cos, row, ahe, wan, giv, sc, wc, byr, reaC, rvl, pad, gt, X2, hM, hSB, hRel, hC3, List.Perm.refl _⟩ hW hl h6 (fun q => absurd (h6.symm.trans q) (by decide)) ⟨by show cells + 3 + 0 + 0 ≤ 603072; omega, by show slots + 18 + 0 + 0 ≤ 7215210; omega⟩ 1167 dL_law_1167 dL_law_1168 dL_law_1171 dL_law_1173 dL_law_1178 dL_law_1180 dL_law_1183 dL_law_1184 dL_law_1185 dL_law_1186 dL_law_1188 dL_law_1189 dL_law_1190 dL_law_1195 rfl (fun w H1 locs1 q1 q2 q3 => W.widen (by show cells + 3 + 0 ≤ _; omega) (by show slots + 18 + 0 ≤ _; omega) (kk w H1 locs1 ls q1 q2 q3))
    · exfalso; clear hM hSB hRel hCI hC1; omega
set_option maxRecDepth 100000 in
set_option maxHeartbeats 4000000 in
theorem k_items (hl9 : l.stackTraces = false) (X : Cx p s m args meth c cL_law 9 RL rt G A) (hX : va_X b L xs s s.heap) (hbl : b < s.heap.size) (hbA : ¬ A b) (hL : L ≤ 2048) (hi : i + 4 ≤ L) (hcl : cells + 30 ≤ 603072) (hsl : slots + 400 ≤ 7215210) (hLI : LI G z f h a o1 o2 w) (hW : Wd G A s w H locs) (hl : lv_has ls 9 (LV6 b (z 0) (a 0) o1 o2 i)) (kk : ∀ (w : va_W) (H : Heap) (locs : List Loc) (ls : Array Slot), LI G z f h a o1 o2 w → Wd G A s w H locs → lv_has ls 9 (LV6 b (z 0) (a 0) o1 o2 i) → W p l e room_1 s m args below meth c H locs (cells + 30) (slots + 400) Q (F0 m 2290 ls [])) : W p l e room_1 s m args below meth c H locs cells slots Q (F0 m 1198 ls []) := by
  have hx := X.exec
  have hb := X.bytes
  obtain ⟨th, fl, fd, lo, bi, ru, ol, ob, tk, fib, gra, res, buy, lst, bst, rea, bid, pri, itm, akf, akg, got, pai, riv, rf, ro, rs, lat, bat, val, cos, row, ahe, wan, giv, sc, wc, byr, reaC, rvl, pad, gt, X1, hM, hSB, hRel, hC0, hp1⟩ := hLI
  have hC1 := cf_inn hC0 hp1
  have hm1 : outL G o1 fl ∈ w := cf_mem hC1 (List.mem_append_right _ List.mem_cons_self)
  have hCI := cia_of hM hRel.1
  obtain ⟨fs, hz0⟩ := cf_z hC1
  obtain ⟨hlo, hbi, hru, hol, hob, hfib, hgra, hres, hbuy, hlst, hbst, hrea, hbid, hpri, hitm, hakf, hakg, hgot, hriv, hrf, hro, hrs, hpai, hcl9, hcb9⟩ := id hM
  obtain ⟨hlat, hbat, hcos, hrow, hahe, hwan, hgiv⟩ := id hSB
  obtain ⟨hrC, hrB, hrR, hrV, hrP, hsc, hwc⟩ := id hRel
  obtain ⟨lc, bc, ql, ln, rv, rm, bn, bd, pr, ic, flx, qu, rc, gp, bs, bv, cf, wt, ho, hFI, hCR⟩ := id hC1
  obtain ⟨v1, hv1, hv1e⟩ := z_ex (xs (i + 1))
  refine lv_aload_n hx hb dL_law_1198 rfl (lv_at hl 1 rfl) ?_
  refine law_arg X hX hbl hbA hW (lv_at hl 0 rfl) (lv_at hl 5 rfl) 1 (by decide) hi hL (v := zI v1) hv1e (by decide) dL_law_1199 dL_law_1200 dL_law_1202 dL_law_1203 dL_law_1204 ?_
  refine lv_aload_n hx hb dL_law_1205 rfl (lv_at hl 3 rfl) ?_
  refine go_i X hW (rest := []) (run_SW X hW (As := [.ref (z 0), .int (zI v1), .ref o1]) (rest := []) (h_items l G w (z 0) o1 fs fl _ (c_X6_items l hl9 G _ _ _ _ _ _ _ _ _ _ _ _ _ _ _ _ _ _ _ _ _ _ _ _ _ _ _ _ _ _ _ _ hCI hCR hv1) hz0 (fun r w2 q => by rw [q.2.2]; exact hm1) (fun E w2 q => q.1) H.size) wq_862 wq_863 wq_864 rfl hyL_items rfl rfl hl.1 (Nat.le_of_ble_eq_true rfl) ⟨Nat.le_of_ble_eq_true rfl, Nat.le_of_ble_eq_true rfl⟩ ⟨by show cells + 3 ≤ 603072; omega, by show slots + 18 ≤ 7215210; omega⟩ dL_law_1206) (fun r6 w2 H locs hP hW => ?_)
  have hz1 := hz0
  rcases hP with ⟨h6, v0, w3, hpp, hF⟩ | ⟨h6, hxx⟩
  · obtain ⟨hc, hr, hC2⟩ := hpp
    rw [hC2] at hF
    obtain ⟨X2, hC3, hp2⟩ := cf_out (cf_upd hC1 hF)
    have hW := hW.perm hp2
    refine lv_istore (lv' := (6, .int r6) :: LV6 b (z 0) (a 0) o1 o2 i) hx hb dL_law_1209 hl (by decide) rfl (fun ls hl => ?_)
    refine lv_aload_n hx hb dL_law_1211 rfl (lv_at hl 3 rfl) ?_
    refine law_arg X hX hbl hbA hW (lv_at hl 1 rfl) (lv_at hl 6 rfl) 1 (by decide) hi hL (v := zI v1) hv1e (by decide) dL_law_1212 dL_law_1213 dL_law_1215 dL_law_1216 dL_law_1217 ?_
    refine go_i X hW (rest := []) (run_V X hW (As := [.int (zI v1)]) (rest := []) 10 0 rfl (c_X7_items l G a _ _ _ _ _ _ _ _ _ _ _ _ _ _ _ _ _ _ _ _ _ _ _ _ _ _ _ _ _ _ _ _ _ _ _ hM hv1 H.size) (gi_V wq_1328 wq_1329 wq_1330 wq_67 wq_1331) rfl hyX7_items rfl rfl rfl hl.1 (Nat.le_of_ble_eq_true rfl) ⟨Nat.le_of_ble_eq_true rfl, Nat.le_of_ble_eq_true rfl⟩ ⟨by show cells + 3 + 0 ≤ 603072; omega, by show slots + 18 + 0 ≤ 7215210; omega⟩ dL_law_1218) (fun r7 w7 H locs hp7 hW => ?_)
    refine lv_istore (lv' := (7, .int r7) :: (6, .int r6) :: LV6 b (z 0) (a 0) o1 o2 i) hx hb dL_law_1221 hl (by decide) rfl (fun ls hl => ?_)
    rcases hp7 with ⟨hd, hr7, hw7⟩ | ⟨hd, hr7, hw7⟩
    · exfalso; clear hM hSB hRel hCI hC1; omega
    · rw [hw7] at hW
      exact law_tailI X (k := 0) ⟨lo, bi, ru, ol, ob, tk, fib, gra, res, buy, lst, bst, rea, bid, pri, itm, akf, akg, got, pai, riv, rf, ro, rs, lat, bat, val, cos, row, ahe, wan, giv, sc, wc, byr, reaC, rvl, pad, gt, X2, hM, hSB, hRel, hC3, List.Perm.refl _⟩ hW hl h6 (fun _ => (if_pos rfl).trans (congrArg Int32.toInt64 (hr.trans hr7.symm))) ⟨by show cells + 3 + 0 + 0 ≤ 603072; omega, by show slots + 18 + 0 + 0 ≤ 7215210; omega⟩ 1223 dL_law_1223 dL_law_1224 dL_law_1227 dL_law_1229 dL_law_1234 dL_law_1236 dL_law_1239 dL_law_1240 dL_law_1241 dL_law_1242 dL_law_1244 dL_law_1245 dL_law_1246 dL_law_1251 rfl (fun w H1 locs1 q1 q2 q3 => W.widen (by show cells + 3 + 0 ≤ _; omega) (by show slots + 18 + 0 ≤ _; omega) (kk w H1 locs1 ls q1 q2 q3))
  · obtain ⟨hE, hc, hC2⟩ := hxx
    rw [hC2] at hW
    obtain ⟨X2, hC3, hp2⟩ := cf_out hC1
    have hW := hW.perm hp2
    refine lv_istore (lv' := (6, .int r6) :: LV6 b (z 0) (a 0) o1 o2 i) hx hb dL_law_1209 hl (by decide) rfl (fun ls hl => ?_)
    refine lv_aload_n hx hb dL_law_1211 rfl (lv_at hl 3 rfl) ?_
    refine law_arg X hX hbl hbA hW (lv_at hl 1 rfl) (lv_at hl 6 rfl) 1 (by decide) hi hL (v := zI v1) hv1e (by decide) dL_law_1212 dL_law_1213 dL_law_1215 dL_law_1216 dL_law_1217 ?_
    refine go_i X hW (rest := []) (run_V X hW (As := [.int (zI v1)]) (rest := []) 10 0 rfl (c_X7_items l G a _ _ _ _ _ _ _ _ _ _ _ _ _ _ _ _ _ _ _ _ _ _ _ _ _ _ _ _ _ _ _ _ _ _ _ hM hv1 H.size) (gi_V wq_1328 wq_1329 wq_1330 wq_67 wq_1331) rfl hyX7_items rfl rfl rfl hl.1 (Nat.le_of_ble_eq_true rfl) ⟨Nat.le_of_ble_eq_true rfl, Nat.le_of_ble_eq_true rfl⟩ ⟨by show cells + 3 + 0 ≤ 603072; omega, by show slots + 18 + 0 ≤ 7215210; omega⟩ dL_law_1218) (fun r7 w7 H locs hp7 hW => ?_)
    refine lv_istore (lv' := (7, .int r7) :: (6, .int r6) :: LV6 b (z 0) (a 0) o1 o2 i) hx hb dL_law_1221 hl (by decide) rfl (fun ls hl => ?_)
    rcases hp7 with ⟨hd, hr7, hw7⟩ | ⟨hd, hr7, hw7⟩
    · rw [hw7] at hW
      exact law_tailI X (k := 1) ⟨lo, bi, ru, ol, ob, tk, fib, gra, res, buy, lst, bst, rea, bid, pri, itm, akf, akg, got, pai, riv, rf, ro, rs, lat, bat, val, cos, row, ahe, wan, giv, sc, wc, byr, reaC, rvl, pad, gt, X2, hM, hSB, hRel, hC3, List.Perm.refl _⟩ hW hl h6 (fun q => absurd (h6.symm.trans q) (by decide)) ⟨by show cells + 3 + 0 + 0 ≤ 603072; omega, by show slots + 18 + 0 + 0 ≤ 7215210; omega⟩ 1223 dL_law_1223 dL_law_1224 dL_law_1227 dL_law_1229 dL_law_1234 dL_law_1236 dL_law_1239 dL_law_1240 dL_law_1241 dL_law_1242 dL_law_1244 dL_law_1245 dL_law_1246 dL_law_1251 rfl (fun w H1 locs1 q1 q2 q3 => W.widen (by show cells + 3 + 0 ≤ _; omega) (by show slots + 18 + 0 ≤ _; omega) (kk w H1 locs1 ls q1 q2 q3))
    · exfalso; clear hM hSB hRel hCI hC1; omega
set_option maxRecDepth 100000 in
set_option maxHeartbeats 4000000 in
theorem k_fits (hl9 : l.stackTraces = false) (X : Cx p s m args meth c cL_law 9 RL rt G A) (hX : va_X b L xs s s.heap) (hbl : b < s.heap.size) (hbA : ¬ A b) (hL : L ≤ 2048) (hi : i + 4 ≤ L) (hcl : cells + 30 ≤ 603072) (hsl : slots + 400 ≤ 7215210) (hLI : LI G z f h a o1 o2 w) (hW : Wd G A s w H locs) (hl : lv_has ls 9 (LV6 b (z 0) (a 0) o1 o2 i)) (kk : ∀ (w : va_W) (H : Heap) (locs : List Loc) (ls : Array Slot), LI G z f h a o1 o2 w → Wd G A s w H locs → lv_has ls 9 (LV6 b (z 0) (a 0) o1 o2 i) → W p l e room_1 s m args below meth c H locs (cells + 30) (slots + 400) Q (F0 m 2290 ls [])) : W p l e room_1 s m args below meth c H locs cells slots Q (F0 m 1254 ls []) := by
  have hx := X.exec
  have hb := X.bytes
  obtain ⟨th, fl, fd, lo, bi, ru, ol, ob, tk, fib, gra, res, buy, lst, bst, rea, bid, pri, itm, akf, akg, got, pai, riv, rf, ro, rs, lat, bat, val, cos, row, ahe, wan, giv, sc, wc, byr, reaC, rvl, pad, gt, X1, hM, hSB, hRel, hC0, hp1⟩ := hLI
  have hC1 := cf_inn hC0 hp1
  have hm1 : outL G o1 fl ∈ w := cf_mem hC1 (List.mem_append_right _ List.mem_cons_self)
  have hCI := cia_of hM hRel.1
  obtain ⟨fs, hz0⟩ := cf_z hC1
  obtain ⟨hlo, hbi, hru, hol, hob, hfib, hgra, hres, hbuy, hlst, hbst, hrea, hbid, hpri, hitm, hakf, hakg, hgot, hriv, hrf, hro, hrs, hpai, hcl9, hcb9⟩ := id hM
  obtain ⟨hlat, hbat, hcos, hrow, hahe, hwan, hgiv⟩ := id hSB
  obtain ⟨hrC, hrB, hrR, hrV, hrP, hsc, hwc⟩ := id hRel
  obtain ⟨lc, bc, ql, ln, rv, rm, bn, bd, pr, ic, flx, qu, rc, gp, bs, bv, cf, wt, ho, hFI, hCR⟩ := id hC1
  obtain ⟨v1, hv1, hv1e⟩ := z_ex (xs (i + 1))
  obtain ⟨v2, hv2, hv2e⟩ := z_ex (xs (i + 2))
  obtain ⟨v3, hv3, hv3e⟩ := z_ex (xs (i + 3))
  refine lv_aload_n hx hb dL_law_1254 rfl (lv_at hl 1 rfl) ?_
  refine law_arg X hX hbl hbA hW (lv_at hl 0 rfl) (lv_at hl 5 rfl) 1 (by decide) hi hL (v := zI v1) hv1e (by decide) dL_law_1255 dL_law_1256 dL_law_1258 dL_law_1259 dL_law_1260 ?_
  refine law_arg X hX hbl hbA hW (lv_at hl 0 rfl) (lv_at hl 5 rfl) 2 (by decide) hi hL (v := zI v2) hv2e (by decide) dL_law_1261 dL_law_1262 dL_law_1264 dL_law_1265 dL_law_1266 ?_
  refine law_arg X hX hbl hbA hW (lv_at hl 0 rfl) (lv_at hl 5 rfl) 3 (by decide) hi hL (v := zI v3) hv3e (by decide) dL_law_1267 dL_law_1268 dL_law_1270 dL_law_1271 dL_law_1272 ?_
  refine lv_aload_n hx hb dL_law_1273 rfl (lv_at hl 3 rfl) ?_
  refine go_i X hW (rest := []) (run_SW X hW (As := [.ref (z 0), .int (zI v1), .int (zI v2), .int (zI v3), .ref o1]) (rest := []) (h_fits l G w (z 0) o1 fs fl _ _ _ (c_X6_fits l hl9 G _ _ _ _ _ _ _ _ _ _ _ _ _ _ _ _ _ _ _ _ _ _ _ _ _ _ _ _ _ _ _ _ _ _ hCI hCR hv1 hv2 hv3) hz0 (fun r w2 q => by rw [q.2.2]; exact hm1) (fun E w2 q => by rcases q with ⟨q, -⟩ | ⟨q, -⟩ <;> simp [q]) H.size) wq_869 wq_870 wq_871 rfl hyL_fits rfl rfl hl.1 (Nat.le_of_ble_eq_true rfl) ⟨Nat.le_of_ble_eq_true rfl, Nat.le_of_ble_eq_true rfl⟩ ⟨by show cells + 3 ≤ 603072; omega, by show slots + 18 ≤ 7215210; omega⟩ dL_law_1274) (fun r6 w2 H locs hP hW => ?_)
  have hz1 := hz0
  rcases hP with ⟨h6, v0, w3, hpp, hF⟩ | ⟨h6, hxx⟩ | ⟨h6, hxx⟩
  · obtain ⟨hc, hr, hC2⟩ := hpp
    rw [hC2] at hF
    obtain ⟨X2, hC3, hp2⟩ := cf_out (cf_upd hC1 hF)
    have hW := hW.perm hp2
    refine lv_istore (lv' := (6, .int r6) :: LV6 b (z 0) (a 0) o1 o2 i) hx hb dL_law_1277 hl (by decide) rfl (fun ls hl => ?_)
    refine lv_aload_n hx hb dL_law_1279 rfl (lv_at hl 3 rfl) ?_
    refine law_arg X hX hbl hbA hW (lv_at hl 1 rfl) (lv_at hl 6 rfl) 1 (by decide) hi hL (v := zI v1) hv1e (by decide) dL_law_1280 dL_law_1281 dL_law_1283 dL_law_1284 dL_law_1285 ?_
    refine law_arg X hX hbl hbA hW (lv_at hl 1 rfl) (lv_at hl 6 rfl) 2 (by decide) hi hL (v := zI v2) hv2e (by decide) dL_law_1286 dL_law_1287 dL_law_1289 dL_law_1290 dL_law_1291 ?_
    refine law_arg X hX hbl hbA hW (lv_at hl 1 rfl) (lv_at hl 6 rfl) 3 (by decide) hi hL (v := zI v3) hv3e (by decide) dL_law_1292 dL_law_1293 dL_law_1295 dL_law_1296 dL_law_1297 ?_
    refine go_i X hW (rest := []) (run_V X hW (As := [.int (zI v1), .int (zI v2), .int (zI v3)]) (rest := []) 10 0 rfl (c_X7_fits l G a _ _ _ _ _ _ _ _ _ _ _ _ _ _ _ _ _ _ _ _ _ _ _ _ _ _ _ _ _ _ _ _ _ _ _ _ _ hM hv1 hv2 hv3 H.size) (gi_V wq_1336 wq_1337 wq_1338 wq_67 wq_1339) rfl hyX7_fits rfl rfl rfl hl.1 (Nat.le_of_ble_eq_true rfl) ⟨Nat.le_of_ble_eq_true rfl, Nat.le_of_ble_eq_true rfl⟩ ⟨by show cells + 3 + 0 ≤ 603072; omega, by show slots + 18 + 0 ≤ 7215210; omega⟩ dL_law_1298) (fun r7 w7 H locs hp7 hW => ?_)
    refine lv_istore (lv' := (7, .int r7) :: (6, .int r6) :: LV6 b (z 0) (a 0) o1 o2 i) hx hb dL_law_1301 hl (by decide) rfl (fun ls hl => ?_)
    rcases hp7 with ⟨hd, hr7, hw7⟩ | ⟨hd, hr7, hw7⟩ | ⟨hd, hr7, hw7⟩
    · exfalso; clear hM hSB hRel hCI hC1; omega
    · exfalso; clear hM hSB hRel hCI hC1; omega
    · rw [hw7] at hW
      exact law_tailB X (k := 0) ⟨lo, bi, ru, ol, ob, tk, fib, gra, res, buy, lst, bst, rea, bid, pri, itm, akf, akg, got, pai, riv, rf, ro, rs, lat, bat, val, cos, row, ahe, wan, giv, sc, wc, byr, reaC, rvl, pad, gt, X2, hM, hSB, hRel, hC3, List.Perm.refl _⟩ hW hl h6 (fun _ => (if_pos rfl).trans (congrArg (fun q : Int32 => if q = 0 then (0 : Int64) else 1) (hr.trans hr7.symm))) ⟨by show cells + 3 + 0 + 0 ≤ 603072; omega, by show slots + 18 + 0 + 0 ≤ 7215210; omega⟩ 1303 dL_law_1303 dL_law_1304 dL_law_1307 dL_law_1309 dL_law_1314 dL_law_1316 dL_law_1319 dL_law_1320 dL_law_1321 dL_law_1322 dL_law_1324 dL_law_1327 dL_law_1328 dL_law_1331 dL_law_1332 dL_law_1333 dL_law_1338 rfl (fun w H1 locs1 q1 q2 q3 => W.widen (by show cells + 3 + 0 ≤ _; omega) (by show slots + 18 + 0 ≤ _; omega) (kk w H1 locs1 ls q1 q2 q3))
  · obtain ⟨hc, hC2⟩ : _ ∧ _ := by
      rcases hxx with ⟨hE, hc, hC2⟩ | ⟨hE, hc, hC2⟩
      · exact ⟨hc, hC2⟩
      · exact absurd hE (by decide)
    rw [hC2] at hW
    obtain ⟨X2, hC3, hp2⟩ := cf_out hC1
    have hW := hW.perm hp2
    refine lv_istore (lv' := (6, .int r6) :: LV6 b (z 0) (a 0) o1 o2 i) hx hb dL_law_1277 hl (by decide) rfl (fun ls hl => ?_)
    refine lv_aload_n hx hb dL_law_1279 rfl (lv_at hl 3 rfl) ?_
    refine law_arg X hX hbl hbA hW (lv_at hl 1 rfl) (lv_at hl 6 rfl) 1 (by decide) hi hL (v := zI v1) hv1e (by decide) dL_law_1280 dL_law_1281 dL_law_1283 dL_law_1284 dL_law_1285 ?_
    refine law_arg X hX hbl hbA hW (lv_at hl 1 rfl) (lv_at hl 6 rfl) 2 (by decide) hi hL (v := zI v2) hv2e (by decide) dL_law_1286 dL_law_1287 dL_law_1289 dL_law_1290 dL_law_1291 ?_
    refine law_arg X hX hbl hbA hW (lv_at hl 1 rfl) (lv_at hl 6 rfl) 3 (by decide) hi hL (v := zI v3) hv3e (by decide) dL_law_1292 dL_law_1293 dL_law_1295 dL_law_1296 dL_law_1297 ?_
    refine go_i X hW (rest := []) (run_V X hW (As := [.int (zI v1), .int (zI v2), .int (zI v3)]) (rest := []) 10 0 rfl (c_X7_fits l G a _ _ _ _ _ _ _ _ _ _ _ _ _ _ _ _ _ _ _ _ _ _ _ _ _ _ _ _ _ _ _ _ _ _ _ _ _ hM hv1 hv2 hv3 H.size) (gi_V wq_1336 wq_1337 wq_1338 wq_67 wq_1339) rfl hyX7_fits rfl rfl rfl hl.1 (Nat.le_of_ble_eq_true rfl) ⟨Nat.le_of_ble_eq_true rfl, Nat.le_of_ble_eq_true rfl⟩ ⟨by show cells + 3 + 0 ≤ 603072; omega, by show slots + 18 + 0 ≤ 7215210; omega⟩ dL_law_1298) (fun r7 w7 H locs hp7 hW => ?_)
    refine lv_istore (lv' := (7, .int r7) :: (6, .int r6) :: LV6 b (z 0) (a 0) o1 o2 i) hx hb dL_law_1301 hl (by decide) rfl (fun ls hl => ?_)
    rcases hp7 with ⟨hd, hr7, hw7⟩ | ⟨hd, hr7, hw7⟩ | ⟨hd, hr7, hw7⟩
    · rw [hw7] at hW
      exact law_tailB X (k := 1) ⟨lo, bi, ru, ol, ob, tk, fib, gra, res, buy, lst, bst, rea, bid, pri, itm, akf, akg, got, pai, riv, rf, ro, rs, lat, bat, val, cos, row, ahe, wan, giv, sc, wc, byr, reaC, rvl, pad, gt, X2, hM, hSB, hRel, hC3, List.Perm.refl _⟩ hW hl h6 (fun q => absurd (h6.symm.trans q) (by decide)) ⟨by show cells + 3 + 0 + 0 ≤ 603072; omega, by show slots + 18 + 0 + 0 ≤ 7215210; omega⟩ 1303 dL_law_1303 dL_law_1304 dL_law_1307 dL_law_1309 dL_law_1314 dL_law_1316 dL_law_1319 dL_law_1320 dL_law_1321 dL_law_1322 dL_law_1324 dL_law_1327 dL_law_1328 dL_law_1331 dL_law_1332 dL_law_1333 dL_law_1338 rfl (fun w H1 locs1 q1 q2 q3 => W.widen (by show cells + 3 + 0 ≤ _; omega) (by show slots + 18 + 0 ≤ _; omega) (kk w H1 locs1 ls q1 q2 q3))
    · exfalso; clear hM hSB hRel hCI hC1; omega
    · exfalso; clear hM hSB hRel hCI hC1; omega
  · obtain ⟨hc, hC2⟩ : _ ∧ _ := by
      rcases hxx with ⟨hE, hc, hC2⟩ | ⟨hE, hc, hC2⟩
      · exact absurd hE (by decide)
      · exact ⟨hc, hC2⟩
    rw [hC2] at hW
    obtain ⟨X2, hC3, hp2⟩ := cf_out hC1
    have hW := hW.perm hp2
    refine lv_istore (lv' := (6, .int r6) :: LV6 b (z 0) (a 0) o1 o2 i) hx hb dL_law_1277 hl (by decide) rfl (fun ls hl => ?_)
    refine lv_aload_n hx hb dL_law_1279 rfl (lv_at hl 3 rfl) ?_
    refine law_arg X hX hbl hbA hW (lv_at hl 1 rfl) (lv_at hl 6 rfl) 1 (by decide) hi hL (v := zI v1) hv1e (by decide) dL_law_1280 dL_law_1281 dL_law_1283 dL_law_1284 dL_law_1285 ?_
    refine law_arg X hX hbl hbA hW (lv_at hl 1 rfl) (lv_at hl 6 rfl) 2 (by decide) hi hL (v := zI v2) hv2e (by decide) dL_law_1286 dL_law_1287 dL_law_1289 dL_law_1290 dL_law_1291 ?_
    refine law_arg X hX hbl hbA hW (lv_at hl 1 rfl) (lv_at hl 6 rfl) 3 (by decide) hi hL (v := zI v3) hv3e (by decide) dL_law_1292 dL_law_1293 dL_law_1295 dL_law_1296 dL_law_1297 ?_
    refine go_i X hW (rest := []) (run_V X hW (As := [.int (zI v1), .int (zI v2), .int (zI v3)]) (rest := []) 10 0 rfl (c_X7_fits l G a _ _ _ _ _ _ _ _ _ _ _ _ _ _ _ _ _ _ _ _ _ _ _ _ _ _ _ _ _ _ _ _ _ _ _ _ _ hM hv1 hv2 hv3 H.size) (gi_V wq_1336 wq_1337 wq_1338 wq_67 wq_1339) rfl hyX7_fits rfl rfl rfl hl.1 (Nat.le_of_ble_eq_true rfl) ⟨Nat.le_of_ble_eq_true rfl, Nat.le_of_ble_eq_true rfl⟩ ⟨by show cells + 3 + 0 ≤ 603072; omega, by show slots + 18 + 0 ≤ 7215210; omega⟩ dL_law_1298) (fun r7 w7 H locs hp7 hW => ?_)
    refine lv_istore (lv' := (7, .int r7) :: (6, .int r6) :: LV6 b (z 0) (a 0) o1 o2 i) hx hb dL_law_1301 hl (by decide) rfl (fun ls hl => ?_)
    rcases hp7 with ⟨hd, hr7, hw7⟩ | ⟨hd, hr7, hw7⟩ | ⟨hd, hr7, hw7⟩
    · exfalso; clear hM hSB hRel hCI hC1; omega
    · rw [hw7] at hW
      exact law_tailB X (k := 2) ⟨lo, bi, ru, ol, ob, tk, fib, gra, res, buy, lst, bst, rea, bid, pri, itm, akf, akg, got, pai, riv, rf, ro, rs, lat, bat, val, cos, row, ahe, wan, giv, sc, wc, byr, reaC, rvl, pad, gt, X2, hM, hSB, hRel, hC3, List.Perm.refl _⟩ hW hl h6 (fun q => absurd (h6.symm.trans q) (by decide)) ⟨by show cells + 3 + 0 + 0 ≤ 603072; omega, by show slots + 18 + 0 + 0 ≤ 7215210; omega⟩ 1303 dL_law_1303 dL_law_1304 dL_law_1307 dL_law_1309 dL_law_1314 dL_law_1316 dL_law_1319 dL_law_1320 dL_law_1321 dL_law_1322 dL_law_1324 dL_law_1327 dL_law_1328 dL_law_1331 dL_law_1332 dL_law_1333 dL_law_1338 rfl (fun w H1 locs1 q1 q2 q3 => W.widen (by show cells + 3 + 0 ≤ _; omega) (by show slots + 18 + 0 ≤ _; omega) (kk w H1 locs1 ls q1 q2 q3))
    · exfalso; clear hM hSB hRel hCI hC1; omega
set_option maxRecDepth 100000 in
set_option maxHeartbeats 4000000 in
theorem k_fitting (hl9 : l.stackTraces = false) (X : Cx p s m args meth c cL_law 9 RL rt G A) (hX : va_X b L xs s s.heap) (hbl : b < s.heap.size) (hbA : ¬ A b) (hL : L ≤ 2048) (hi : i + 4 ≤ L) (hcl : cells + 30 ≤ 603072) (hsl : slots + 400 ≤ 7215210) (hLI : LI G z f h a o1 o2 w) (hW : Wd G A s w H locs) (hl : lv_has ls 9 (LV6 b (z 0) (a 0) o1 o2 i)) (kk : ∀ (w : va_W) (H : Heap) (locs : List Loc) (ls : Array Slot), LI G z f h a o1 o2 w → Wd G A s w H locs → lv_has ls 9 (LV6 b (z 0) (a 0) o1 o2 i) → W p l e room_1 s m args below meth c H locs (cells + 30) (slots + 400) Q (F0 m 2290 ls [])) : W p l e room_1 s m args below meth c H locs cells slots Q (F0 m 1341 ls []) := by
  have hx := X.exec
  have hb := X.bytes
  obtain ⟨th, fl, fd, lo, bi, ru, ol, ob, tk, fib, gra, res, buy, lst, bst, rea, bid, pri, itm, akf, akg, got, pai, riv, rf, ro, rs, lat, bat, val, cos, row, ahe, wan, giv, sc, wc, byr, reaC, rvl, pad, gt, X1, hM, hSB, hRel, hC0, hp1⟩ := hLI
  have hC1 := cf_inn hC0 hp1
  have hm1 : outL G o1 fl ∈ w := cf_mem hC1 (List.mem_append_right _ List.mem_cons_self)
  have hCI := cia_of hM hRel.1
  obtain ⟨fs, hz0⟩ := cf_z hC1
  obtain ⟨hlo, hbi, hru, hol, hob, hfib, hgra, hres, hbuy, hlst, hbst, hrea, hbid, hpri, hitm, hakf, hakg, hgot, hriv, hrf, hro, hrs, hpai, hcl9, hcb9⟩ := id hM
  obtain ⟨hlat, hbat, hcos, hrow, hahe, hwan, hgiv⟩ := id hSB
  obtain ⟨hrC, hrB, hrR, hrV, hrP, hsc, hwc⟩ := id hRel
  obtain ⟨lc, bc, ql, ln, rv, rm, bn, bd, pr, ic, flx, qu, rc, gp, bs, bv, cf, wt, ho, hFI, hCR⟩ := id hC1
  obtain ⟨v1, hv1, hv1e⟩ := z_ex (xs (i + 1))
  obtain ⟨v2, hv2, hv2e⟩ := z_ex (xs (i + 2))
  refine lv_aload_n hx hb dL_law_1341 rfl (lv_at hl 1 rfl) ?_
  refine law_arg X hX hbl hbA hW (lv_at hl 0 rfl) (lv_at hl 5 rfl) 1 (by decide) hi hL (v := zI v1) hv1e (by decide) dL_law_1342 dL_law_1343 dL_law_1345 dL_law_1346 dL_law_1347 ?_
  refine law_arg X hX hbl hbA hW (lv_at hl 0 rfl) (lv_at hl 5 rfl) 2 (by decide) hi hL (v := zI v2) hv2e (by decide) dL_law_1348 dL_law_1349 dL_law_1351 dL_law_1352 dL_law_1353 ?_
  refine lv_aload_n hx hb dL_law_1354 rfl (lv_at hl 3 rfl) ?_
  refine go_i X hW (rest := []) (run_SW X hW (As := [.ref (z 0), .int (zI v1), .int (zI v2), .ref o1]) (rest := []) (h_fitting l G w (z 0) o1 fs fl _ _ (c_X6_fitting l hl9 G _ _ _ _ _ _ _ _ _ _ _ _ _ _ _ _ _ _ _ _ _ _ _ _ _ _ _ _ _ _ _ _ _ hCI hCR hv1 hv2) hz0 (fun r w2 q => by rw [q.2.2]; exact hm1) (fun E w2 q => by rcases q with ⟨q, -⟩ | ⟨q, -⟩ <;> simp [q]) H.size) wq_916 wq_917 wq_918 rfl hyL_fitting rfl rfl hl.1 (Nat.le_of_ble_eq_true rfl) ⟨Nat.le_of_ble_eq_true rfl, Nat.le_of_ble_eq_true rfl⟩ ⟨by show cells + 3 ≤ 603072; omega, by show slots + 18 ≤ 7215210; omega⟩ dL_law_1355) (fun r6 w2 H locs hP hW => ?_)
  have hz1 := hz0
  rcases hP with ⟨h6, v0, w3, hpp, hF⟩ | ⟨h6, hxx⟩ | ⟨h6, hxx⟩
  · obtain ⟨hc, hr, hC2⟩ := hpp
    rw [hC2] at hF
    obtain ⟨X2, hC3, hp2⟩ := cf_out (cf_upd hC1 hF)
    have hW := hW.perm hp2
    refine lv_istore (lv' := (6, .int r6) :: LV6 b (z 0) (a 0) o1 o2 i) hx hb dL_law_1358 hl (by decide) rfl (fun ls hl => ?_)
    refine lv_aload_n hx hb dL_law_1360 rfl (lv_at hl 3 rfl) ?_
    refine law_arg X hX hbl hbA hW (lv_at hl 1 rfl) (lv_at hl 6 rfl) 1 (by decide) hi hL (v := zI v1) hv1e (by decide) dL_law_1361 dL_law_1362 dL_law_1364 dL_law_1365 dL_law_1366 ?_
    refine law_arg X hX hbl hbA hW (lv_at hl 1 rfl) (lv_at hl 6 rfl) 2 (by decide) hi hL (v := zI v2) hv2e (by decide) dL_law_1367 dL_law_1368 dL_law_1370 dL_law_1371 dL_law_1372 ?_
    refine go_i X hW (rest := []) (run_V X hW (As := [.int (zI v1), .int (zI v2)]) (rest := []) 10 0 rfl (c_X7_fitting l G a _ _ _ _ _ _ _ _ _ _ _ _ _ _ _ _ _ _ _ _ _ _ _ _ _ _ _ _ _ _ _ _ _ _ _ _ hM hv1 hv2 H.size) (gi_V wq_1340 wq_1341 wq_1342 wq_67 wq_1343) rfl hyX7_fitting rfl rfl rfl hl.1 (Nat.le_of_ble_eq_true rfl) ⟨Nat.le_of_ble_eq_true rfl, Nat.le_of_ble_eq_true rfl⟩ ⟨by show cells + 3 + 0 ≤ 603072; omega, by show slots + 18 + 0 ≤ 7215210; omega⟩ dL_law_1373) (fun r7 w7 H locs hp7 hW => ?_)
    refine lv_istore (lv' := (7, .int r7) :: (6, .int r6) :: LV6 b (z 0) (a 0) o1 o2 i) hx hb dL_law_1376 hl (by decide) rfl (fun ls hl => ?_)
    rcases hp7 with ⟨hd, hr7, hw7⟩ | ⟨hd, hr7, hw7⟩ | ⟨hd, hr7, hw7⟩
    · exfalso; clear hM hSB hRel hCI hC1; omega
    · exfalso; clear hM hSB hRel hCI hC1; omega
    · rw [hw7] at hW
      exact law_tailI X (k := 0) ⟨lo, bi, ru, ol, ob, tk, fib, gra, res, buy, lst, bst, rea, bid, pri, itm, akf, akg, got, pai, riv, rf, ro, rs, lat, bat, val, cos, row, ahe, wan, giv, sc, wc, byr, reaC, rvl, pad, gt, X2, hM, hSB, hRel, hC3, List.Perm.refl _⟩ hW hl h6 (fun _ => (if_pos rfl).trans (congrArg Int32.toInt64 (hr.trans hr7.symm))) ⟨by show cells + 3 + 0 + 0 ≤ 603072; omega, by show slots + 18 + 0 + 0 ≤ 7215210; omega⟩ 1378 dL_law_1378 dL_law_1379 dL_law_1382 dL_law_1384 dL_law_1389 dL_law_1391 dL_law_1394 dL_law_1395 dL_law_1396 dL_law_1397 dL_law_1399 dL_law_1400 dL_law_1401 dL_law_1406 rfl (fun w H1 locs1 q1 q2 q3 => W.widen (by show cells + 3 + 0 ≤ _; omega) (by show slots + 18 + 0 ≤ _; omega) (kk w H1 locs1 ls q1 q2 q3))
  · obtain ⟨hc, hC2⟩ : _ ∧ _ := by
      rcases hxx with ⟨hE, hc, hC2⟩ | ⟨hE, hc, hC2⟩
      · exact ⟨hc, hC2⟩
      · exact absurd hE (by decide)
    rw [hC2] at hW
    obtain ⟨X2, hC3, hp2⟩ := cf_out hC1
    have hW := hW.perm hp2
    refine lv_istore (lv' := (6, .int r6) :: LV6 b (z 0) (a 0) o1 o2 i) hx hb dL_law_1358 hl (by decide) rfl (fun ls hl => ?_)
    refine lv_aload_n hx hb dL_law_1360 rfl (lv_at hl 3 rfl) ?_
    refine law_arg X hX hbl hbA hW (lv_at hl 1 rfl) (lv_at hl 6 rfl) 1 (by decide) hi hL (v := zI v1) hv1e (by decide) dL_law_1361 dL_law_1362 dL_law_1364 dL_law_1365 dL_law_1366 ?_
    refine law_arg X hX hbl hbA hW (lv_at hl 1 rfl) (lv_at hl 6 rfl) 2 (by decide) hi hL (v := zI v2) hv2e (by decide) dL_law_1367 dL_law_1368 dL_law_1370 dL_law_1371 dL_law_1372 ?_
    refine go_i X hW (rest := []) (run_V X hW (As := [.int (zI v1), .int (zI v2)]) (rest := []) 10 0 rfl (c_X7_fitting l G a _ _ _ _ _ _ _ _ _ _ _ _ _ _ _ _ _ _ _ _ _ _ _ _ _ _ _ _ _ _ _ _ _ _ _ _ hM hv1 hv2 H.size) (gi_V wq_1340 wq_1341 wq_1342 wq_67 wq_1343) rfl hyX7_fitting rfl rfl rfl hl.1 (Nat.le_of_ble_eq_true rfl) ⟨Nat.le_of_ble_eq_true rfl, Nat.le_of_ble_eq_true rfl⟩ ⟨by show cells + 3 + 0 ≤ 603072; omega, by show slots + 18 + 0 ≤ 7215210; omega⟩ dL_law_1373) (fun r7 w7 H locs hp7 hW => ?_)
    refine lv_istore (lv' := (7, .int r7) :: (6, .int r6) :: LV6 b (z 0) (a 0) o1 o2 i) hx hb dL_law_1376 hl (by decide) rfl (fun ls hl => ?_)
    rcases hp7 with ⟨hd, hr7, hw7⟩ | ⟨hd, hr7, hw7⟩ | ⟨hd, hr7, hw7⟩
    · rw [hw7] at hW
      exact law_tailI X (k := 1) ⟨lo, bi, ru, ol, ob, tk, fib, gra, res, buy, lst, bst, rea, bid, pri, itm, akf, akg, got, pai, riv, rf, ro, rs, lat, bat, val, cos, row, ahe, wan, giv, sc, wc, byr, reaC, rvl, pad, gt, X2, hM, hSB, hRel, hC3, List.Perm.refl _⟩ hW hl h6 (fun q => absurd (h6.symm.trans q) (by decide)) ⟨by show cells + 3 + 0 + 0 ≤ 603072; omega, by show slots + 18 + 0 + 0 ≤ 7215210; omega⟩ 1378 dL_law_1378 dL_law_1379 dL_law_1382 dL_law_1384 dL_law_1389 dL_law_1391 dL_law_1394 dL_law_1395 dL_law_1396 dL_law_1397 dL_law_1399 dL_law_1400 dL_law_1401 dL_law_1406 rfl (fun w H1 locs1 q1 q2 q3 => W.widen (by show cells + 3 + 0 ≤ _; omega) (by show slots + 18 + 0 ≤ _; omega) (kk w H1 locs1 ls q1 q2 q3))
    · exfalso; clear hM hSB hRel hCI hC1; omega
    · exfalso; clear hM hSB hRel hCI hC1; omega
  · obtain ⟨hc, hC2⟩ : _ ∧ _ := by
      rcases hxx with ⟨hE, hc, hC2⟩ | ⟨hE, hc, hC2⟩
      · exact absurd hE (by decide)
      · exact ⟨hc, hC2⟩
    rw [hC2] at hW
    obtain ⟨X2, hC3, hp2⟩ := cf_out hC1
    have hW := hW.perm hp2
    refine lv_istore (lv' := (6, .int r6) :: LV6 b (z 0) (a 0) o1 o2 i) hx hb dL_law_1358 hl (by decide) rfl (fun ls hl => ?_)
    refine lv_aload_n hx hb dL_law_1360 rfl (lv_at hl 3 rfl) ?_
    refine law_arg X hX hbl hbA hW (lv_at hl 1 rfl) (lv_at hl 6 rfl) 1 (by decide) hi hL (v := zI v1) hv1e (by decide) dL_law_1361 dL_law_1362 dL_law_1364 dL_law_1365 dL_law_1366 ?_
    refine law_arg X hX hbl hbA hW (lv_at hl 1 rfl) (lv_at hl 6 rfl) 2 (by decide) hi hL (v := zI v2) hv2e (by decide) dL_law_1367 dL_law_1368 dL_law_1370 dL_law_1371 dL_law_1372 ?_
    refine go_i X hW (rest := []) (run_V X hW (As := [.int (zI v1), .int (zI v2)]) (rest := []) 10 0 rfl (c_X7_fitting l G a _ _ _ _ _ _ _ _ _ _ _ _ _ _ _ _ _ _ _ _ _ _ _ _ _ _ _ _ _ _ _ _ _ _ _ _ hM hv1 hv2 H.size) (gi_V wq_1340 wq_1341 wq_1342 wq_67 wq_1343) rfl hyX7_fitting rfl rfl rfl hl.1 (Nat.le_of_ble_eq_true rfl) ⟨Nat.le_of_ble_eq_true rfl, Nat.le_of_ble_eq_true rfl⟩ ⟨by show cells + 3 + 0 ≤ 603072; omega, by show slots + 18 + 0 ≤ 7215210; omega⟩ dL_law_1373) (fun r7 w7 H locs hp7 hW => ?_)
    refine lv_istore (lv' := (7, .int r7) :: (6, .int r6) :: LV6 b (z 0) (a 0) o1 o2 i) hx hb dL_law_1376 hl (by decide) rfl (fun ls hl => ?_)
    rcases hp7 with ⟨hd, hr7, hw7⟩ | ⟨hd, hr7, hw7⟩ | ⟨hd, hr7, hw7⟩
    · exfalso; clear hM hSB hRel hCI hC1; omega
    · rw [hw7] at hW
      exact law_tailI X (k := 2) ⟨lo, bi, ru, ol, ob, tk, fib, gra, res, buy, lst, bst, rea, bid, pri, itm, akf, akg, got, pai, riv, rf, ro, rs, lat, bat, val, cos, row, ahe, wan, giv, sc, wc, byr, reaC, rvl, pad, gt, X2, hM, hSB, hRel, hC3, List.Perm.refl _⟩ hW hl h6 (fun q => absurd (h6.symm.trans q) (by decide)) ⟨by show cells + 3 + 0 + 0 ≤ 603072; omega, by show slots + 18 + 0 + 0 ≤ 7215210; omega⟩ 1378 dL_law_1378 dL_law_1379 dL_law_1382 dL_law_1384 dL_law_1389 dL_law_1391 dL_law_1394 dL_law_1395 dL_law_1396 dL_law_1397 dL_law_1399 dL_law_1400 dL_law_1401 dL_law_1406 rfl (fun w H1 locs1 q1 q2 q3 => W.widen (by show cells + 3 + 0 ≤ _; omega) (by show slots + 18 + 0 ≤ _; omega) (kk w H1 locs1 ls q1 q2 q3))
    · exfalso; clear hM hSB hRel hCI hC1; omega
set_option maxRecDepth 100000 in
set_option maxHeartbeats 4000000 in
theorem k_priceOf (hl9 : l.stackTraces = false) (X : Cx p s m args meth c cL_law 9 RL rt G A) (hX : va_X b L xs s s.heap) (hbl : b < s.heap.size) (hbA : ¬ A b) (hL : L ≤ 2048) (hi : i + 4 ≤ L) (hcl : cells + 30 ≤ 603072) (hsl : slots + 400 ≤ 7215210) (hLI : LI G z f h a o1 o2 w) (hW : Wd G A s w H locs) (hl : lv_has ls 9 (LV6 b (z 0) (a 0) o1 o2 i)) (kk : ∀ (w : va_W) (H : Heap) (locs : List Loc) (ls : Array Slot), LI G z f h a o1 o2 w → Wd G A s w H locs → lv_has ls 9 (LV6 b (z 0) (a 0) o1 o2 i) → W p l e room_1 s m args below meth c H locs (cells + 30) (slots + 400) Q (F0 m 2290 ls [])) : W p l e room_1 s m args below meth c H locs cells slots Q (F0 m 1409 ls []) := by
  have hx := X.exec
  have hb := X.bytes
  obtain ⟨th, fl, fd, lo, bi, ru, ol, ob, tk, fib, gra, res, buy, lst, bst, rea, bid, pri, itm, akf, akg, got, pai, riv, rf, ro, rs, lat, bat, val, cos, row, ahe, wan, giv, sc, wc, byr, reaC, rvl, pad, gt, X1, hM, hSB, hRel, hC0, hp1⟩ := hLI
  have hC1 := cf_inn hC0 hp1
  have hm1 : outL G o1 fl ∈ w := cf_mem hC1 (List.mem_append_right _ List.mem_cons_self)
  have hCI := cia_of hM hRel.1
  obtain ⟨fs, hz0⟩ := cf_z hC1
  obtain ⟨hlo, hbi, hru, hol, hob, hfib, hgra, hres, hbuy, hlst, hbst, hrea, hbid, hpri, hitm, hakf, hakg, hgot, hriv, hrf, hro, hrs, hpai, hcl9, hcb9⟩ := id hM
  obtain ⟨hlat, hbat, hcos, hrow, hahe, hwan, hgiv⟩ := id hSB
  obtain ⟨hrC, hrB, hrR, hrV, hrP, hsc, hwc⟩ := id hRel
  obtain ⟨lc, bc, ql, ln, rv, rm, bn, bd, pr, ic, flx, qu, rc, gp, bs, bv, cf, wt, ho, hFI, hCR⟩ := id hC1
  obtain ⟨v1, hv1, hv1e⟩ := z_ex (xs (i + 1))
  refine lv_aload_n hx hb dL_law_1409 rfl (lv_at hl 1 rfl) ?_
  refine law_arg X hX hbl hbA hW (lv_at hl 0 rfl) (lv_at hl 5 rfl) 1 (by decide) hi hL (v := zI v1) hv1e (by decide) dL_law_1410 dL_law_1411 dL_law_1413 dL_law_1414 dL_law_1415 ?_
  refine lv_aload_n hx hb dL_law_1416 rfl (lv_at hl 3 rfl) ?_
  refine go_i X hW (rest := []) (run_SW X hW (As := [.ref (z 0), .int (zI v1), .ref o1]) (rest := []) (h_priceOf l G w (z 0) o1 fs fl _ (c_X6_priceOf l hl9 G _ _ _ _ _ _ _ _ _ _ _ _ _ _ _ _ _ _ _ _ _ _ _ _ _ _ _ _ _ _ _ _ hCI hCR hv1) hz0 (fun r w2 q => by rw [q.2.2]; exact hm1) (fun E w2 q => q.1) H.size) wq_923 wq_924 wq_925 rfl hyL_priceOf rfl rfl hl.1 (Nat.le_of_ble_eq_true rfl) ⟨Nat.le_of_ble_eq_true rfl, Nat.le_of_ble_eq_true rfl⟩ ⟨by show cells + 3 ≤ 603072; omega, by show slots + 18 ≤ 7215210; omega⟩ dL_law_1417) (fun r6 w2 H locs hP hW => ?_)
  have hz1 := hz0
  rcases hP with ⟨h6, v0, w3, hpp, hF⟩ | ⟨h6, hxx⟩
  · obtain ⟨hc, hr, hC2⟩ := hpp
    rw [hC2] at hF
    obtain ⟨X2, hC3, hp2⟩ := cf_out (cf_upd hC1 hF)
    have hW := hW.perm hp2
    refine lv_istore (lv' := (6, .int r6) :: LV6 b (z 0) (a 0) o1 o2 i) hx hb dL_law_1420 hl (by decide) rfl (fun ls hl => ?_)
    refine lv_aload_n hx hb dL_law_1422 rfl (lv_at hl 3 rfl) ?_
    refine law_arg X hX hbl hbA hW (lv_at hl 1 rfl) (lv_at hl 6 rfl) 1 (by decide) hi hL (v := zI v1) hv1e (by decide) dL_law_1423 dL_law_1424 dL_law_1426 dL_law_1427 dL_law_1428 ?_
    refine go_i X hW (rest := []) (run_V X hW (As := [.int (zI v1)]) (rest := []) 10 0 rfl (c_X7_priceOf l G a _ _ _ _ _ _ _ _ _ _ _ _ _ _ _ _ _ _ _ _ _ _ _ _ _ _ _ _ _ _ _ _ _ _ _ hM hv1 H.size) (gi_V wq_1344 wq_1345 wq_1346 wq_67 wq_1347) rfl hyX7_priceOf rfl rfl rfl hl.1 (Nat.le_of_ble_eq_true rfl) ⟨Nat.le_of_ble_eq_true rfl, Nat.le_of_ble_eq_true rfl⟩ ⟨by show cells + 3 + 0 ≤ 603072; omega, by show slots + 18 + 0 ≤ 7215210; omega⟩ dL_law_1429) (fun r7 w7 H locs hp7 hW => ?_)
    refine lv_istore (lv' := (7, .int r7) :: (6, .int r6) :: LV6 b (z 0) (a 0) o1 o2 i) hx hb dL_law_1432 hl (by decide) rfl (fun ls hl => ?_)
    rcases hp7 with ⟨hd, hr7, hw7⟩ | ⟨hd, hr7, hw7⟩
    · exfalso; clear hM hSB hRel hCI hC1; omega
    · rw [hw7] at hW
      exact law_tailI X (k := 0) ⟨lo, bi, ru, ol, ob, tk, fib, gra, res, buy, lst, bst, rea, bid, pri, itm, akf, akg, got, pai, riv, rf, ro, rs, lat, bat, val, cos, row, ahe, wan, giv, sc, wc, byr, reaC, rvl, pad, gt, X2, hM, hSB, hRel, hC3, List.Perm.refl _⟩ hW hl h6 (fun _ => (if_pos rfl).trans (congrArg Int32.toInt64 (hr.trans hr7.symm))) ⟨by show cells + 3 + 0 + 0 ≤ 603072; omega, by show slots + 18 + 0 + 0 ≤ 7215210; omega⟩ 1434 dL_law_1434 dL_law_1435 dL_law_1438 dL_law_1440 dL_law_1445 dL_law_1447 dL_law_1450 dL_law_1451 dL_law_1452 dL_law_1453 dL_law_1455 dL_law_1456 dL_law_1457 dL_law_1462 rfl (fun w H1 locs1 q1 q2 q3 => W.widen (by show cells + 3 + 0 ≤ _; omega) (by show slots + 18 + 0 ≤ _; omega) (kk w H1 locs1 ls q1 q2 q3))
  · obtain ⟨hE, hc, hC2⟩ := hxx
    rw [hC2] at hW
    obtain ⟨X2, hC3, hp2⟩ := cf_out hC1
    have hW := hW.perm hp2
    refine lv_istore (lv' := (6, .int r6) :: LV6 b (z 0) (a 0) o1 o2 i) hx hb dL_law_1420 hl (by decide) rfl (fun ls hl => ?_)
    refine lv_aload_n hx hb dL_law_1422 rfl (lv_at hl 3 rfl) ?_
    refine law_arg X hX hbl hbA hW (lv_at hl 1 rfl) (lv_at hl 6 rfl) 1 (by decide) hi hL (v := zI v1) hv1e (by decide) dL_law_1423 dL_law_1424 dL_law_1426 dL_law_1427 dL_law_1428 ?_
    refine go_i X hW (rest := []) (run_V X hW (As := [.int (zI v1)]) (rest := []) 10 0 rfl (c_X7_priceOf l G a _ _ _ _ _ _ _ _ _ _ _ _ _ _ _ _ _ _ _ _ _ _ _ _ _ _ _ _ _ _ _ _ _ _ _ hM hv1 H.size) (gi_V wq_1344 wq_1345 wq_1346 wq_67 wq_1347) rfl hyX7_priceOf rfl rfl rfl hl.1 (Nat.le_of_ble_eq_true rfl) ⟨Nat.le_of_ble_eq_true rfl, Nat.le_of_ble_eq_true rfl⟩ ⟨by show cells + 3 + 0 ≤ 603072; omega, by show slots + 18 + 0 ≤ 7215210; omega⟩ dL_law_1429) (fun r7 w7 H locs hp7 hW => ?_)
    refine lv_istore (lv' := (7, .int r7) :: (6, .int r6) :: LV6 b (z 0) (a 0) o1 o2 i) hx hb dL_law_1432 hl (by decide) rfl (fun ls hl => ?_)
    rcases hp7 with ⟨hd, hr7, hw7⟩ | ⟨hd, hr7, hw7⟩
    · rw [hw7] at hW
      exact law_tailI X (k := 1) ⟨lo, bi, ru, ol, ob, tk, fib, gra, res, buy, lst, bst, rea, bid, pri, itm, akf, akg, got, pai, riv, rf, ro, rs, lat, bat, val, cos, row, ahe, wan, giv, sc, wc, byr, reaC, rvl, pad, gt, X2, hM, hSB, hRel, hC3, List.Perm.refl _⟩ hW hl h6 (fun q => absurd (h6.symm.trans q) (by decide)) ⟨by show cells + 3 + 0 + 0 ≤ 603072; omega, by show slots + 18 + 0 + 0 ≤ 7215210; omega⟩ 1434 dL_law_1434 dL_law_1435 dL_law_1438 dL_law_1440 dL_law_1445 dL_law_1447 dL_law_1450 dL_law_1451 dL_law_1452 dL_law_1453 dL_law_1455 dL_law_1456 dL_law_1457 dL_law_1462 rfl (fun w H1 locs1 q1 q2 q3 => W.widen (by show cells + 3 + 0 ≤ _; omega) (by show slots + 18 + 0 ≤ _; omega) (kk w H1 locs1 ls q1 q2 q3))
    · exfalso; clear hM hSB hRel hCI hC1; omega
set_option maxRecDepth 100000 in
set_option maxHeartbeats 4000000 in
theorem k_stateOf (hl9 : l.stackTraces = false) (X : Cx p s m args meth c cL_law 9 RL rt G A) (hX : va_X b L xs s s.heap) (hbl : b < s.heap.size) (hbA : ¬ A b) (hL : L ≤ 2048) (hi : i + 4 ≤ L) (hcl : cells + 30 ≤ 603072) (hsl : slots + 400 ≤ 7215210) (hLI : LI G z f h a o1 o2 w) (hW : Wd G A s w H locs) (hl : lv_has ls 9 (LV6 b (z 0) (a 0) o1 o2 i)) (kk : ∀ (w : va_W) (H : Heap) (locs : List Loc) (ls : Array Slot), LI G z f h a o1 o2 w → Wd G A s w H locs → lv_has ls 9 (LV6 b (z 0) (a 0) o1 o2 i) → W p l e room_1 s m args below meth c H locs (cells + 30) (slots + 400) Q (F0 m 2290 ls [])) : W p l e room_1 s m args below meth c H locs cells slots Q (F0 m 1465 ls []) := by
  have hx := X.exec
  have hb := X.bytes
  obtain ⟨th, fl, fd, lo, bi, ru, ol, ob, tk, fib, gra, res, buy, lst, bst, rea, bid, pri, itm, akf, akg, got, pai, riv, rf, ro, rs, lat, bat, val, cos, row, ahe, wan, giv, sc, wc, byr, reaC, rvl, pad, gt, X1, hM, hSB, hRel, hC0, hp1⟩ := hLI
  have hC1 := cf_inn hC0 hp1
  have hm1 : outL G o1 fl ∈ w := cf_mem hC1 (List.mem_append_right _ List.mem_cons_self)
  have hCI := cia_of hM hRel.1
  obtain ⟨fs, hz0⟩ := cf_z hC1
  obtain ⟨hlo, hbi, hru, hol, hob, hfib, hgra, hres, hbuy, hlst, hbst, hrea, hbid, hpri, hitm, hakf, hakg, hgot, hriv, hrf, hro, hrs, hpai, hcl9, hcb9⟩ := id hM
  obtain ⟨hlat, hbat, hcos, hrow, hahe, hwan, hgiv⟩ := id hSB
  obtain ⟨hrC, hrB, hrR, hrV, hrP, hsc, hwc⟩ := id hRel
  obtain ⟨lc, bc, ql, ln, rv, rm, bn, bd, pr, ic, flx, qu, rc, gp, bs, bv, cf, wt, ho, hFI, hCR⟩ := id hC1
  obtain ⟨v1, hv1, hv1e⟩ := z_ex (xs (i + 1))
  refine lv_aload_n hx hb dL_law_1465 rfl (lv_at hl 1 rfl) ?_
  refine law_arg X hX hbl hbA hW (lv_at hl 0 rfl) (lv_at hl 5 rfl) 1 (by decide) hi hL (v := zI v1) hv1e (by decide) dL_law_1466 dL_law_1467 dL_law_1469 dL_law_1470 dL_law_1471 ?_
  refine lv_aload_n hx hb dL_law_1472 rfl (lv_at hl 3 rfl) ?_
  refine go_i X hW (rest := []) (run_SW X hW (As := [.ref (z 0), .int (zI v1), .ref o1]) (rest := []) (h_stateOf l G w (z 0) o1 fs fl _ (c_X6_stateOf l hl9 G _ _ _ _ _ _ _ _ _ _ _ _ _ _ _ _ _ _ _ _ _ _ _ _ _ _ _ _ _ _ _ _ hCI hCR hv1) hz0 (fun r w2 q => by rw [q.2.2]; exact hm1) (fun E w2 q => q.1) H.size) wq_930 wq_931 wq_932 rfl hyL_stateOf rfl rfl hl.1 (Nat.le_of_ble_eq_true rfl) ⟨Nat.le_of_ble_eq_true rfl, Nat.le_of_ble_eq_true rfl⟩ ⟨by show cells + 3 ≤ 603072; omega, by show slots + 18 ≤ 7215210; omega⟩ dL_law_1473) (fun r6 w2 H locs hP hW => ?_)
  have hz1 := hz0
  rcases hP with ⟨h6, v0, w3, hpp, hF⟩ | ⟨h6, hxx⟩
  · obtain ⟨hc, hr, hC2⟩ := hpp
    rw [hC2] at hF
    obtain ⟨X2, hC3, hp2⟩ := cf_out (cf_upd hC1 hF)
    have hW := hW.perm hp2
    refine lv_istore (lv' := (6, .int r6) :: LV6 b (z 0) (a 0) o1 o2 i) hx hb dL_law_1476 hl (by decide) rfl (fun ls hl => ?_)
    refine lv_aload_n hx hb dL_law_1478 rfl (lv_at hl 3 rfl) ?_
    refine law_arg X hX hbl hbA hW (lv_at hl 1 rfl) (lv_at hl 6 rfl) 1 (by decide) hi hL (v := zI v1) hv1e (by decide) dL_law_1479 dL_law_1480 dL_law_1482 dL_law_1483 dL_law_1484 ?_
    refine go_i X hW (rest := []) (run_V X hW (As := [.int (zI v1)]) (rest := []) 10 0 rfl (c_X7_stateOf l G a _ _ _ _ _ _ _ _ _ _ _ _ _ _ _ _ _ _ _ _ _ _ _ _ _ _ _ _ _ _ _ _ _ _ _ hM hv1 H.size) (gi_V wq_1348 wq_1349 wq_1350 wq_67 wq_1351) rfl hyX7_stateOf rfl rfl rfl hl.1 (Nat.le_of_ble_eq_true rfl) ⟨Nat.le_of_ble_eq_true rfl, Nat.le_of_ble_eq_true rfl⟩ ⟨by show cells + 3 + 0 ≤ 603072; omega, by show slots + 18 + 0 ≤ 7215210; omega⟩ dL_law_1485) (fun r7 w7 H locs hp7 hW => ?_)
    refine lv_istore (lv' := (7, .int r7) :: (6, .int r6) :: LV6 b (z 0) (a 0) o1 o2 i) hx hb dL_law_1488 hl (by decide) rfl (fun ls hl => ?_)
    rcases hp7 with ⟨hd, hr7, hw7⟩ | ⟨hd, hr7, hw7⟩
    · exfalso; clear hM hSB hRel hCI hC1; omega
    · rw [hw7] at hW
      exact law_tailI X (k := 0) ⟨lo, bi, ru, ol, ob, tk, fib, gra, res, buy, lst, bst, rea, bid, pri, itm, akf, akg, got, pai, riv, rf, ro, rs, lat, bat, val, cos, row, ahe, wan, giv, sc, wc, byr, reaC, rvl, pad, gt, X2, hM, hSB, hRel, hC3, List.Perm.refl _⟩ hW hl h6 (fun _ => (if_pos rfl).trans (congrArg Int32.toInt64 (hr.trans hr7.symm))) ⟨by show cells + 3 + 0 + 0 ≤ 603072; omega, by show slots + 18 + 0 + 0 ≤ 7215210; omega⟩ 1490 dL_law_1490 dL_law_1491 dL_law_1494 dL_law_1496 dL_law_1501 dL_law_1503 dL_law_1506 dL_law_1507 dL_law_1508 dL_law_1509 dL_law_1511 dL_law_1512 dL_law_1513 dL_law_1518 rfl (fun w H1 locs1 q1 q2 q3 => W.widen (by show cells + 3 + 0 ≤ _; omega) (by show slots + 18 + 0 ≤ _; omega) (kk w H1 locs1 ls q1 q2 q3))
  · obtain ⟨hE, hc, hC2⟩ := hxx
    rw [hC2] at hW
    obtain ⟨X2, hC3, hp2⟩ := cf_out hC1
    have hW := hW.perm hp2
    refine lv_istore (lv' := (6, .int r6) :: LV6 b (z 0) (a 0) o1 o2 i) hx hb dL_law_1476 hl (by decide) rfl (fun ls hl => ?_)
    refine lv_aload_n hx hb dL_law_1478 rfl (lv_at hl 3 rfl) ?_
    refine law_arg X hX hbl hbA hW (lv_at hl 1 rfl) (lv_at hl 6 rfl) 1 (by decide) hi hL (v := zI v1) hv1e (by decide) dL_law_1479 dL_law_1480 dL_law_1482 dL_law_1483 dL_law_1484 ?_
    refine go_i X hW (rest := []) (run_V X hW (As := [.int (zI v1)]) (rest := []) 10 0 rfl (c_X7_stateOf l G a _ _ _ _ _ _ _ _ _ _ _ _ _ _ _ _ _ _ _ _ _ _ _ _ _ _ _ _ _ _ _ _ _ _ _ hM hv1 H.size) (gi_V wq_1348 wq_1349 wq_1350 wq_67 wq_1351) rfl hyX7_stateOf rfl rfl rfl hl.1 (Nat.le_of_ble_eq_true rfl) ⟨Nat.le_of_ble_eq_true rfl, Nat.le_of_ble_eq_true rfl⟩ ⟨by show cells + 3 + 0 ≤ 603072; omega, by show slots + 18 + 0 ≤ 7215210; omega⟩ dL_law_1485) (fun r7 w7 H locs hp7 hW => ?_)
    refine lv_istore (lv' := (7, .int r7) :: (6, .int r6) :: LV6 b (z 0) (a 0) o1 o2 i) hx hb dL_law_1488 hl (by decide) rfl (fun ls hl => ?_)
    rcases hp7 with ⟨hd, hr7, hw7⟩ | ⟨hd, hr7, hw7⟩
    · rw [hw7] at hW
      exact law_tailI X (k := 1) ⟨lo, bi, ru, ol, ob, tk, fib, gra, res, buy, lst, bst, rea, bid, pri, itm, akf, akg, got, pai, riv, rf, ro, rs, lat, bat, val, cos, row, ahe, wan, giv, sc, wc, byr, reaC, rvl, pad, gt, X2, hM, hSB, hRel, hC3, List.Perm.refl _⟩ hW hl h6 (fun q => absurd (h6.symm.trans q) (by decide)) ⟨by show cells + 3 + 0 + 0 ≤ 603072; omega, by show slots + 18 + 0 + 0 ≤ 7215210; omega⟩ 1490 dL_law_1490 dL_law_1491 dL_law_1494 dL_law_1496 dL_law_1501 dL_law_1503 dL_law_1506 dL_law_1507 dL_law_1508 dL_law_1509 dL_law_1511 dL_law_1512 dL_law_1513 dL_law_1518 rfl (fun w H1 locs1 q1 q2 q3 => W.widen (by show cells + 3 + 0 ≤ _; omega) (by show slots + 18 + 0 ≤ _; omega) (kk w H1 locs1 ls q1 q2 q3))
    · exfalso; clear hM hSB hRel hCI hC1; omega
set_option maxRecDepth 100000 in
set_option maxHeartbeats 4000000 in
theorem k_reason (hl9 : l.stackTraces = false) (X : Cx p s m args meth c cL_law 9 RL rt G A) (hX : va_X b L xs s s.heap) (hbl : b < s.heap.size) (hbA : ¬ A b) (hL : L ≤ 2048) (hi : i + 4 ≤ L) (hcl : cells + 30 ≤ 603072) (hsl : slots + 400 ≤ 7215210) (hLI : LI G z f h a o1 o2 w) (hW : Wd G A s w H locs) (hl : lv_has ls 9 (LV6 b (z 0) (a 0) o1 o2 i)) (kk : ∀ (w : va_W) (H : Heap) (locs : List Loc) (ls : Array Slot), LI G z f h a o1 o2 w → Wd G A s w H locs → lv_has ls 9 (LV6 b (z 0) (a 0) o1 o2 i) → W p l e room_1 s m args below meth c H locs (cells + 30) (slots + 400) Q (F0 m 2290 ls [])) : W p l e room_1 s m args below meth c H locs cells slots Q (F0 m 1521 ls []) := by
  have hx := X.exec
  have hb := X.bytes
  obtain ⟨th, fl, fd, lo, bi, ru, ol, ob, tk, fib, gra, res, buy, lst, bst, rea, bid, pri, itm, akf, akg, got, pai, riv, rf, ro, rs, lat, bat, val, cos, row, ahe, wan, giv, sc, wc, byr, reaC, rvl, pad, gt, X1, hM, hSB, hRel, hC0, hp1⟩ := hLI
  have hC1 := cf_inn hC0 hp1
  have hm1 : outL G o1 fl ∈ w := cf_mem hC1 (List.mem_append_right _ List.mem_cons_self)
  have hCI := cia_of hM hRel.1
  obtain ⟨fs, hz0⟩ := cf_z hC1
  obtain ⟨hlo, hbi, hru, hol, hob, hfib, hgra, hres, hbuy, hlst, hbst, hrea, hbid, hpri, hitm, hakf, hakg, hgot, hriv, hrf, hro, hrs, hpai, hcl9, hcb9⟩ := id hM
  obtain ⟨hlat, hbat, hcos, hrow, hahe, hwan, hgiv⟩ := id hSB
  obtain ⟨hrC, hrB, hrR, hrV, hrP, hsc, hwc⟩ := id hRel
  obtain ⟨lc, bc, ql, ln, rv, rm, bn, bd, pr, ic, flx, qu, rc, gp, bs, bv, cf, wt, ho, hFI, hCR⟩ := id hC1
  obtain ⟨v1, hv1, hv1e⟩ := z_ex (xs (i + 1))
  refine lv_aload_n hx hb dL_law_1521 rfl (lv_at hl 1 rfl) ?_
  refine law_arg X hX hbl hbA hW (lv_at hl 0 rfl) (lv_at hl 5 rfl) 1 (by decide) hi hL (v := zI v1) hv1e (by decide) dL_law_1522 dL_law_1523 dL_law_1525 dL_law_1526 dL_law_1527 ?_
  refine lv_aload_n hx hb dL_law_1528 rfl (lv_at hl 3 rfl) ?_
  refine go_i X hW (rest := []) (run_SW X hW (As := [.ref (z 0), .int (zI v1), .ref o1]) (rest := []) (h_reason l G w (z 0) o1 fs fl _ (c_X6_reason l hl9 G _ _ _ _ _ _ _ _ _ _ _ _ _ _ _ _ _ _ _ _ _ _ _ _ _ _ _ _ _ _ _ _ hCI hCR hv1) hz0 (fun r w2 q => by rw [q.2.2]; exact hm1) (fun E w2 q => by rcases q with ⟨q, -⟩ | ⟨q, -⟩ <;> simp [q]) H.size) wq_937 wq_938 wq_939 rfl hyL_reason rfl rfl hl.1 (Nat.le_of_ble_eq_true rfl) ⟨Nat.le_of_ble_eq_true rfl, Nat.le_of_ble_eq_true rfl⟩ ⟨by show cells + 3 ≤ 603072; omega, by show slots + 18 ≤ 7215210; omega⟩ dL_law_1529) (fun r6 w2 H locs hP hW => ?_)
  have hz1 := hz0
  rcases hP with ⟨h6, v0, w3, hpp, hF⟩ | ⟨h6, hxx⟩ | ⟨h6, hxx⟩
  · obtain ⟨hc, hr, hC2⟩ := hpp
    rw [hC2] at hF
    obtain ⟨X2, hC3, hp2⟩ := cf_out (cf_upd hC1 hF)
    have hW := hW.perm hp2
    refine lv_istore (lv' := (6, .int r6) :: LV6 b (z 0) (a 0) o1 o2 i) hx hb dL_law_1532 hl (by decide) rfl (fun ls hl => ?_)
    refine lv_aload_n hx hb dL_law_1534 rfl (lv_at hl 3 rfl) ?_
    refine law_arg X hX hbl hbA hW (lv_at hl 1 rfl) (lv_at hl 6 rfl) 1 (by decide) hi hL (v := zI v1) hv1e (by decide) dL_law_1535 dL_law_1536 dL_law_1538 dL_law_1539 dL_law_1540 ?_
    refine go_i X hW (rest := []) (run_V X hW (As := [.int (zI v1)]) (rest := []) 10 0 rfl (c_X7_reason l G a _ _ _ _ _ _ _ _ _ _ _ _ _ _ _ _ _ _ _ _ _ _ _ _ _ _ _ _ _ _ _ _ _ _ _ hM hv1 H.size) (gi_V wq_1352 wq_1353 wq_1354 wq_67 wq_1355) rfl hyX7_reason rfl rfl rfl hl.1 (Nat.le_of_ble_eq_true rfl) ⟨Nat.le_of_ble_eq_true rfl, Nat.le_of_ble_eq_true rfl⟩ ⟨by show cells + 3 + 0 ≤ 603072; omega, by show slots + 18 + 0 ≤ 7215210; omega⟩ dL_law_1541) (fun r7 w7 H locs hp7 hW => ?_)
    refine lv_istore (lv' := (7, .int r7) :: (6, .int r6) :: LV6 b (z 0) (a 0) o1 o2 i) hx hb dL_law_1544 hl (by decide) rfl (fun ls hl => ?_)
    rcases hp7 with ⟨hd, hr7, hw7⟩ | ⟨hd, hr7, hw7⟩ | ⟨hd, hr7, hw7⟩
    · exfalso; clear hM hSB hRel hCI hC1; omega
    · exfalso; clear hM hSB hRel hCI hC1; omega
    · rw [hw7] at hW
      exact law_tailI X (k := 0) ⟨lo, bi, ru, ol, ob, tk, fib, gra, res, buy, lst, bst, rea, bid, pri, itm, akf, akg, got, pai, riv, rf, ro, rs, lat, bat, val, cos, row, ahe, wan, giv, sc, wc, byr, reaC, rvl, pad, gt, X2, hM, hSB, hRel, hC3, List.Perm.refl _⟩ hW hl h6 (fun _ => (if_pos rfl).trans (congrArg Int32.toInt64 (by rw [hr, hr7, hrR _ (by omega) hc.2]))) ⟨by show cells + 3 + 0 + 0 ≤ 603072; omega, by show slots + 18 + 0 + 0 ≤ 7215210; omega⟩ 1546 dL_law_1546 dL_law_1547 dL_law_1550 dL_law_1552 dL_law_1557 dL_law_1559 dL_law_1562 dL_law_1563 dL_law_1564 dL_law_1565 dL_law_1567 dL_law_1568 dL_law_1569 dL_law_1574 rfl (fun w H1 locs1 q1 q2 q3 => W.widen (by show cells + 3 + 0 ≤ _; omega) (by show slots + 18 + 0 ≤ _; omega) (kk w H1 locs1 ls q1 q2 q3))
  · obtain ⟨hc, hC2⟩ : _ ∧ _ := by
      rcases hxx with ⟨hE, hc, hC2⟩ | ⟨hE, hc, hC2⟩
      · exact ⟨hc, hC2⟩
      · exact absurd hE (by decide)
    rw [hC2] at hW
    obtain ⟨X2, hC3, hp2⟩ := cf_out hC1
    have hW := hW.perm hp2
    refine lv_istore (lv' := (6, .int r6) :: LV6 b (z 0) (a 0) o1 o2 i) hx hb dL_law_1532 hl (by decide) rfl (fun ls hl => ?_)
    refine lv_aload_n hx hb dL_law_1534 rfl (lv_at hl 3 rfl) ?_
    refine law_arg X hX hbl hbA hW (lv_at hl 1 rfl) (lv_at hl 6 rfl) 1 (by decide) hi hL (v := zI v1) hv1e (by decide) dL_law_1535 dL_law_1536 dL_law_1538 dL_law_1539 dL_law_1540 ?_
    refine go_i X hW (rest := []) (run_V X hW (As := [.int (zI v1)]) (rest := []) 10 0 rfl (c_X7_reason l G a _ _ _ _ _ _ _ _ _ _ _ _ _ _ _ _ _ _ _ _ _ _ _ _ _ _ _ _ _ _ _ _ _ _ _ hM hv1 H.size) (gi_V wq_1352 wq_1353 wq_1354 wq_67 wq_1355) rfl hyX7_reason rfl rfl rfl hl.1 (Nat.le_of_ble_eq_true rfl) ⟨Nat.le_of_ble_eq_true rfl, Nat.le_of_ble_eq_true rfl⟩ ⟨by show cells + 3 + 0 ≤ 603072; omega, by show slots + 18 + 0 ≤ 7215210; omega⟩ dL_law_1541) (fun r7 w7 H locs hp7 hW => ?_)
    refine lv_istore (lv' := (7, .int r7) :: (6, .int r6) :: LV6 b (z 0) (a 0) o1 o2 i) hx hb dL_law_1544 hl (by decide) rfl (fun ls hl => ?_)
    rcases hp7 with ⟨hd, hr7, hw7⟩ | ⟨hd, hr7, hw7⟩ | ⟨hd, hr7, hw7⟩
    · rw [hw7] at hW
      exact law_tailI X (k := 1) ⟨lo, bi, ru, ol, ob, tk, fib, gra, res, buy, lst, bst, rea, bid, pri, itm, akf, akg, got, pai, riv, rf, ro, rs, lat, bat, val, cos, row, ahe, wan, giv, sc, wc, byr, reaC, rvl, pad, gt, X2, hM, hSB, hRel, hC3, List.Perm.refl _⟩ hW hl h6 (fun q => absurd (h6.symm.trans q) (by decide)) ⟨by show cells + 3 + 0 + 0 ≤ 603072; omega, by show slots + 18 + 0 + 0 ≤ 7215210; omega⟩ 1546 dL_law_1546 dL_law_1547 dL_law_1550 dL_law_1552 dL_law_1557 dL_law_1559 dL_law_1562 dL_law_1563 dL_law_1564 dL_law_1565 dL_law_1567 dL_law_1568 dL_law_1569 dL_law_1574 rfl (fun w H1 locs1 q1 q2 q3 => W.widen (by show cells + 3 + 0 ≤ _; omega) (by show slots + 18 + 0 ≤ _; omega) (kk w H1 locs1 ls q1 q2 q3))
    · exfalso; clear hM hSB hRel hCI hC1; omega
    · exfalso; clear hM hSB hRel hCI hC1; omega
  · obtain ⟨hc, hC2⟩ : _ ∧ _ := by
      rcases hxx with ⟨hE, hc, hC2⟩ | ⟨hE, hc, hC2⟩
      · exact absurd hE (by decide)
      · exact ⟨hc, hC2⟩
    rw [hC2] at hW
    obtain ⟨X2, hC3, hp2⟩ := cf_out hC1
    have hW := hW.perm hp2
    refine lv_istore (lv' := (6, .int r6) :: LV6 b (z 0) (a 0) o1 o2 i) hx hb dL_law_1532 hl (by decide) rfl (fun ls hl => ?_)
    refine lv_aload_n hx hb dL_law_1534 rfl (lv_at hl 3 rfl) ?_
    refine law_arg X hX hbl hbA hW (lv_at hl 1 rfl) (lv_at hl 6 rfl) 1 (by decide) hi hL (v := zI v1) hv1e (by decide) dL_law_1535 dL_law_1536 dL_law_1538 dL_law_1539 dL_law_1540 ?_
    refine go_i X hW (rest := []) (run_V X hW (As := [.int (zI v1)]) (rest := []) 10 0 rfl (c_X7_reason l G a _ _ _ _ _ _ _ _ _ _ _ _ _ _ _ _ _ _ _ _ _ _ _ _ _ _ _ _ _ _ _ _ _ _ _ hM hv1 H.size) (gi_V wq_1352 wq_1353 wq_1354 wq_67 wq_1355) rfl hyX7_reason rfl rfl rfl hl.1 (Nat.le_of_ble_eq_true rfl) ⟨Nat.le_of_ble_eq_true rfl, Nat.le_of_ble_eq_true rfl⟩ ⟨by show cells + 3 + 0 ≤ 603072; omega, by show slots + 18 + 0 ≤ 7215210; omega⟩ dL_law_1541) (fun r7 w7 H locs hp7 hW => ?_)
    refine lv_istore (lv' := (7, .int r7) :: (6, .int r6) :: LV6 b (z 0) (a 0) o1 o2 i) hx hb dL_law_1544 hl (by decide) rfl (fun ls hl => ?_)
    rcases hp7 with ⟨hd, hr7, hw7⟩ | ⟨hd, hr7, hw7⟩ | ⟨hd, hr7, hw7⟩
    · exfalso; clear hM hSB hRel hCI hC1; omega
    · rw [hw7] at hW
      exact law_tailI X (k := 2) ⟨lo, bi, ru, ol, ob, tk, fib, gra, res, buy, lst, bst, rea, bid, pri, itm, akf, akg, got, pai, riv, rf, ro, rs, lat, bat, val, cos, row, ahe, wan, giv, sc, wc, byr, reaC, rvl, pad, gt, X2, hM, hSB, hRel, hC3, List.Perm.refl _⟩ hW hl h6 (fun q => absurd (h6.symm.trans q) (by decide)) ⟨by show cells + 3 + 0 + 0 ≤ 603072; omega, by show slots + 18 + 0 + 0 ≤ 7215210; omega⟩ 1546 dL_law_1546 dL_law_1547 dL_law_1550 dL_law_1552 dL_law_1557 dL_law_1559 dL_law_1562 dL_law_1563 dL_law_1564 dL_law_1565 dL_law_1567 dL_law_1568 dL_law_1569 dL_law_1574 rfl (fun w H1 locs1 q1 q2 q3 => W.widen (by show cells + 3 + 0 ≤ _; omega) (by show slots + 18 + 0 ≤ _; omega) (kk w H1 locs1 ls q1 q2 q3))
    · exfalso; clear hM hSB hRel hCI hC1; omega
set_option maxRecDepth 100000 in
set_option maxHeartbeats 4000000 in
theorem k_rival (hl9 : l.stackTraces = false) (X : Cx p s m args meth c cL_law 9 RL rt G A) (hX : va_X b L xs s s.heap) (hbl : b < s.heap.size) (hbA : ¬ A b) (hL : L ≤ 2048) (hi : i + 4 ≤ L) (hcl : cells + 30 ≤ 603072) (hsl : slots + 400 ≤ 7215210) (hLI : LI G z f h a o1 o2 w) (hW : Wd G A s w H locs) (hl : lv_has ls 9 (LV6 b (z 0) (a 0) o1 o2 i)) (kk : ∀ (w : va_W) (H : Heap) (locs : List Loc) (ls : Array Slot), LI G z f h a o1 o2 w → Wd G A s w H locs → lv_has ls 9 (LV6 b (z 0) (a 0) o1 o2 i) → W p l e room_1 s m args below meth c H locs (cells + 30) (slots + 400) Q (F0 m 2290 ls [])) : W p l e room_1 s m args below meth c H locs cells slots Q (F0 m 1577 ls []) := by
  have hx := X.exec
  have hb := X.bytes
  obtain ⟨th, fl, fd, lo, bi, ru, ol, ob, tk, fib, gra, res, buy, lst, bst, rea, bid, pri, itm, akf, akg, got, pai, riv, rf, ro, rs, lat, bat, val, cos, row, ahe, wan, giv, sc, wc, byr, reaC, rvl, pad, gt, X1, hM, hSB, hRel, hC0, hp1⟩ := hLI
  have hC1 := cf_inn hC0 hp1
  have hm1 : outL G o1 fl ∈ w := cf_mem hC1 (List.mem_append_right _ List.mem_cons_self)
  have hCI := cia_of hM hRel.1
  obtain ⟨fs, hz0⟩ := cf_z hC1
  obtain ⟨hlo, hbi, hru, hol, hob, hfib, hgra, hres, hbuy, hlst, hbst, hrea, hbid, hpri, hitm, hakf, hakg, hgot, hriv, hrf, hro, hrs, hpai, hcl9, hcb9⟩ := id hM
  obtain ⟨hlat, hbat, hcos, hrow, hahe, hwan, hgiv⟩ := id hSB
  obtain ⟨hrC, hrB, hrR, hrV, hrP, hsc, hwc⟩ := id hRel
  obtain ⟨lc, bc, ql, ln, rv, rm, bn, bd, pr, ic, flx, qu, rc, gp, bs, bv, cf, wt, ho, hFI, hCR⟩ := id hC1
  obtain ⟨v1, hv1, hv1e⟩ := z_ex (xs (i + 1))
  have hrx : 0 ≤ v1 ∧ v1 < ((bi : Nat) : Int) → bst v1.toNat = 108 → reaC v1.toNat = rea v1.toNat := fun q1 q2 => hrR _ (by omega) q2
  refine lv_aload_n hx hb dL_law_1577 rfl (lv_at hl 1 rfl) ?_
  refine law_arg X hX hbl hbA hW (lv_at hl 0 rfl) (lv_at hl 5 rfl) 1 (by decide) hi hL (v := zI v1) hv1e (by decide) dL_law_1578 dL_law_1579 dL_law_1581 dL_law_1582 dL_law_1583 ?_
  refine lv_aload_n hx hb dL_law_1584 rfl (lv_at hl 3 rfl) ?_
  refine go_i X hW (rest := []) (run_SW X hW (As := [.ref (z 0), .int (zI v1), .ref o1]) (rest := []) (h_rival l G w (z 0) o1 fs fl _ (c_X6_rival l hl9 G _ _ _ _ _ _ _ _ _ _ _ _ _ _ _ _ _ _ _ _ _ _ _ _ _ _ _ _ _ _ _ _ hCI hCR hv1) hz0 (fun r w2 q => by rw [q.2.2]; exact hm1) (fun E w2 q => by rcases q with ⟨q, -⟩ | ⟨q, -⟩ <;> simp [q]) H.size) wq_945 wq_946 wq_947 rfl hyL_rival rfl rfl hl.1 (Nat.le_of_ble_eq_true rfl) ⟨Nat.le_of_ble_eq_true rfl, Nat.le_of_ble_eq_true rfl⟩ ⟨by show cells + 3 ≤ 603072; omega, by show slots + 18 ≤ 7215210; omega⟩ dL_law_1585) (fun r6 w2 H locs hP hW => ?_)
  have hz1 := hz0
  rcases hP with ⟨h6, v0, w3, hpp, hF⟩ | ⟨h6, hxx⟩ | ⟨h6, hxx⟩
  · obtain ⟨hc, hr, hC2⟩ := hpp
    rw [hC2] at hF
    obtain ⟨X2, hC3, hp2⟩ := cf_out (cf_upd hC1 hF)
    have hW := hW.perm hp2
    refine lv_istore (lv' := (6, .int r6) :: LV6 b (z 0) (a 0) o1 o2 i) hx hb dL_law_1588 hl (by decide) rfl (fun ls hl => ?_)
    refine lv_aload_n hx hb dL_law_1590 rfl (lv_at hl 3 rfl) ?_
    refine law_arg X hX hbl hbA hW (lv_at hl 1 rfl) (lv_at hl 6 rfl) 1 (by decide) hi hL (v := zI v1) hv1e (by decide) dL_law_1591 dL_law_1592 dL_law_1594 dL_law_1595 dL_law_1596 ?_
    refine go_i X hW (rest := []) (run_V X hW (As := [.int (zI v1)]) (rest := []) 10 0 rfl (c_X7_rival l G a _ _ _ _ _ _ _ _ _ _ _ _ _ _ _ _ _ _ _ _ _ _ _ _ _ _ _ _ _ _ _ _ _ _ _ hM hv1 H.size) (gi_V wq_1356 wq_1357 wq_1358 wq_67 wq_1359) rfl hyX7_rival rfl rfl rfl hl.1 (Nat.le_of_ble_eq_true rfl) ⟨Nat.le_of_ble_eq_true rfl, Nat.le_of_ble_eq_true rfl⟩ ⟨by show cells + 3 + 0 ≤ 603072; omega, by show slots + 18 + 0 ≤ 7215210; omega⟩ dL_law_1597) (fun r7 w7 H locs hp7 hW => ?_)
    refine lv_istore (lv' := (7, .int r7) :: (6, .int r6) :: LV6 b (z 0) (a 0) o1 o2 i) hx hb dL_law_1600 hl (by decide) rfl (fun ls hl => ?_)
    rcases hp7 with ⟨hd, hr7, hw7⟩ | ⟨hd, hr7, hw7⟩ | ⟨hd, hr7, hw7⟩
    · exfalso; clear hM hSB hRel hCI hC1; omega
    · exfalso; clear hM hSB hRel hCI hC1; omega
    · rw [hw7] at hW
      exact law_tailI X (k := 0) ⟨lo, bi, ru, ol, ob, tk, fib, gra, res, buy, lst, bst, rea, bid, pri, itm, akf, akg, got, pai, riv, rf, ro, rs, lat, bat, val, cos, row, ahe, wan, giv, sc, wc, byr, reaC, rvl, pad, gt, X2, hM, hSB, hRel, hC3, List.Perm.refl _⟩ hW hl h6 (fun _ => (if_pos rfl).trans (congrArg Int32.toInt64 (by rw [hr, hr7, hrV _ (by omega) hc.2.1 hd.2.2]; rfl))) ⟨by show cells + 3 + 0 + 0 ≤ 603072; omega, by show slots + 18 + 0 + 0 ≤ 7215210; omega⟩ 1602 dL_law_1602 dL_law_1603 dL_law_1606 dL_law_1608 dL_law_1613 dL_law_1615 dL_law_1618 dL_law_1619 dL_law_1620 dL_law_1621 dL_law_1623 dL_law_1624 dL_law_1625 dL_law_1630 rfl (fun w H1 locs1 q1 q2 q3 => W.widen (by show cells + 3 + 0 ≤ _; omega) (by show slots + 18 + 0 ≤ _; omega) (kk w H1 locs1 ls q1 q2 q3))
  · obtain ⟨hc, hC2⟩ : _ ∧ _ := by
      rcases hxx with ⟨hE, hc, hC2⟩ | ⟨hE, hc, hC2⟩
      · exact ⟨hc, hC2⟩
      · exact absurd hE (by decide)
    rw [hC2] at hW
    obtain ⟨X2, hC3, hp2⟩ := cf_out hC1
    have hW := hW.perm hp2
    refine lv_istore (lv' := (6, .int r6) :: LV6 b (z 0) (a 0) o1 o2 i) hx hb dL_law_1588 hl (by decide) rfl (fun ls hl => ?_)
    refine lv_aload_n hx hb dL_law_1590 rfl (lv_at hl 3 rfl) ?_
    refine law_arg X hX hbl hbA hW (lv_at hl 1 rfl) (lv_at hl 6 rfl) 1 (by decide) hi hL (v := zI v1) hv1e (by decide) dL_law_1591 dL_law_1592 dL_law_1594 dL_law_1595 dL_law_1596 ?_
    refine go_i X hW (rest := []) (run_V X hW (As := [.int (zI v1)]) (rest := []) 10 0 rfl (c_X7_rival l G a _ _ _ _ _ _ _ _ _ _ _ _ _ _ _ _ _ _ _ _ _ _ _ _ _ _ _ _ _ _ _ _ _ _ _ hM hv1 H.size) (gi_V wq_1356 wq_1357 wq_1358 wq_67 wq_1359) rfl hyX7_rival rfl rfl rfl hl.1 (Nat.le_of_ble_eq_true rfl) ⟨Nat.le_of_ble_eq_true rfl, Nat.le_of_ble_eq_true rfl⟩ ⟨by show cells + 3 + 0 ≤ 603072; omega, by show slots + 18 + 0 ≤ 7215210; omega⟩ dL_law_1597) (fun r7 w7 H locs hp7 hW => ?_)
    refine lv_istore (lv' := (7, .int r7) :: (6, .int r6) :: LV6 b (z 0) (a 0) o1 o2 i) hx hb dL_law_1600 hl (by decide) rfl (fun ls hl => ?_)
    rcases hp7 with ⟨hd, hr7, hw7⟩ | ⟨hd, hr7, hw7⟩ | ⟨hd, hr7, hw7⟩
    · rw [hw7] at hW
      exact law_tailI X (k := 1) ⟨lo, bi, ru, ol, ob, tk, fib, gra, res, buy, lst, bst, rea, bid, pri, itm, akf, akg, got, pai, riv, rf, ro, rs, lat, bat, val, cos, row, ahe, wan, giv, sc, wc, byr, reaC, rvl, pad, gt, X2, hM, hSB, hRel, hC3, List.Perm.refl _⟩ hW hl h6 (fun q => absurd (h6.symm.trans q) (by decide)) ⟨by show cells + 3 + 0 + 0 ≤ 603072; omega, by show slots + 18 + 0 + 0 ≤ 7215210; omega⟩ 1602 dL_law_1602 dL_law_1603 dL_law_1606 dL_law_1608 dL_law_1613 dL_law_1615 dL_law_1618 dL_law_1619 dL_law_1620 dL_law_1621 dL_law_1623 dL_law_1624 dL_law_1625 dL_law_1630 rfl (fun w H1 locs1 q1 q2 q3 => W.widen (by show cells + 3 + 0 ≤ _; omega) (by show slots + 18 + 0 ≤ _; omega) (kk w H1 locs1 ls q1 q2 q3))
    · exfalso; clear hM hSB hRel hCI hC1; omega
    · exfalso; clear hM hSB hRel hCI hC1; omega
  · obtain ⟨hc, hC2⟩ : _ ∧ _ := by
      rcases hxx with ⟨hE, hc, hC2⟩ | ⟨hE, hc, hC2⟩
      · exact absurd hE (by decide)
      · exact ⟨hc, hC2⟩
    rw [hC2] at hW
    obtain ⟨X2, hC3, hp2⟩ := cf_out hC1
    have hW := hW.perm hp2
    refine lv_istore (lv' := (6, .int r6) :: LV6 b (z 0) (a 0) o1 o2 i) hx hb dL_law_1588 hl (by decide) rfl (fun ls hl => ?_)
    refine lv_aload_n hx hb dL_law_1590 rfl (lv_at hl 3 rfl) ?_
    refine law_arg X hX hbl hbA hW (lv_at hl 1 rfl) (lv_at hl 6 rfl) 1 (by decide) hi hL (v := zI v1) hv1e (by decide) dL_law_1591 dL_law_1592 dL_law_1594 dL_law_1595 dL_law_1596 ?_
    refine go_i X hW (rest := []) (run_V X hW (As := [.int (zI v1)]) (rest := []) 10 0 rfl (c_X7_rival l G a _ _ _ _ _ _ _ _ _ _ _ _ _ _ _ _ _ _ _ _ _ _ _ _ _ _ _ _ _ _ _ _ _ _ _ hM hv1 H.size) (gi_V wq_1356 wq_1357 wq_1358 wq_67 wq_1359) rfl hyX7_rival rfl rfl rfl hl.1 (Nat.le_of_ble_eq_true rfl) ⟨Nat.le_of_ble_eq_true rfl, Nat.le_of_ble_eq_true rfl⟩ ⟨by show cells + 3 + 0 ≤ 603072; omega, by show slots + 18 + 0 ≤ 7215210; omega⟩ dL_law_1597) (fun r7 w7 H locs hp7 hW => ?_)
    refine lv_istore (lv' := (7, .int r7) :: (6, .int r6) :: LV6 b (z 0) (a 0) o1 o2 i) hx hb dL_law_1600 hl (by decide) rfl (fun ls hl => ?_)
    rcases hp7 with ⟨hd, hr7, hw7⟩ | ⟨hd, hr7, hw7⟩ | ⟨hd, hr7, hw7⟩
    · exfalso; clear hM hSB hRel hCI hC1; omega
    · rw [hw7] at hW
      exact law_tailI X (k := 2) ⟨lo, bi, ru, ol, ob, tk, fib, gra, res, buy, lst, bst, rea, bid, pri, itm, akf, akg, got, pai, riv, rf, ro, rs, lat, bat, val, cos, row, ahe, wan, giv, sc, wc, byr, reaC, rvl, pad, gt, X2, hM, hSB, hRel, hC3, List.Perm.refl _⟩ hW hl h6 (fun q => absurd (h6.symm.trans q) (by decide)) ⟨by show cells + 3 + 0 + 0 ≤ 603072; omega, by show slots + 18 + 0 + 0 ≤ 7215210; omega⟩ 1602 dL_law_1602 dL_law_1603 dL_law_1606 dL_law_1608 dL_law_1613 dL_law_1615 dL_law_1618 dL_law_1619 dL_law_1620 dL_law_1621 dL_law_1623 dL_law_1624 dL_law_1625 dL_law_1630 rfl (fun w H1 locs1 q1 q2 q3 => W.widen (by show cells + 3 + 0 ≤ _; omega) (by show slots + 18 + 0 ≤ _; omega) (kk w H1 locs1 ls q1 q2 q3))
    · exfalso; clear hM hSB hRel hCI hC1; omega
set_option maxRecDepth 100000 in
set_option maxHeartbeats 4000000 in
theorem k_lotOf (hl9 : l.stackTraces = false) (X : Cx p s m args meth c cL_law 9 RL rt G A) (hX : va_X b L xs s s.heap) (hbl : b < s.heap.size) (hbA : ¬ A b) (hL : L ≤ 2048) (hi : i + 4 ≤ L) (hcl : cells + 30 ≤ 603072) (hsl : slots + 400 ≤ 7215210) (hLI : LI G z f h a o1 o2 w) (hW : Wd G A s w H locs) (hl : lv_has ls 9 (LV6 b (z 0) (a 0) o1 o2 i)) (kk : ∀ (w : va_W) (H : Heap) (locs : List Loc) (ls : Array Slot), LI G z f h a o1 o2 w → Wd G A s w H locs → lv_has ls 9 (LV6 b (z 0) (a 0) o1 o2 i) → W p l e room_1 s m args below meth c H locs (cells + 30) (slots + 400) Q (F0 m 2290 ls [])) : W p l e room_1 s m args below meth c H locs cells slots Q (F0 m 1633 ls []) := by
  have hx := X.exec
  have hb := X.bytes
  obtain ⟨th, fl, fd, lo, bi, ru, ol, ob, tk, fib, gra, res, buy, lst, bst, rea, bid, pri, itm, akf, akg, got, pai, riv, rf, ro, rs, lat, bat, val, cos, row, ahe, wan, giv, sc, wc, byr, reaC, rvl, pad, gt, X1, hM, hSB, hRel, hC0, hp1⟩ := hLI
  have hC1 := cf_inn hC0 hp1
  have hm1 : outL G o1 fl ∈ w := cf_mem hC1 (List.mem_append_right _ List.mem_cons_self)
  have hCI := cia_of hM hRel.1
  obtain ⟨fs, hz0⟩ := cf_z hC1
  obtain ⟨hlo, hbi, hru, hol, hob, hfib, hgra, hres, hbuy, hlst, hbst, hrea, hbid, hpri, hitm, hakf, hakg, hgot, hriv, hrf, hro, hrs, hpai, hcl9, hcb9⟩ := id hM
  obtain ⟨hlat, hbat, hcos, hrow, hahe, hwan, hgiv⟩ := id hSB
  obtain ⟨hrC, hrB, hrR, hrV, hrP, hsc, hwc⟩ := id hRel
  obtain ⟨lc, bc, ql, ln, rv, rm, bn, bd, pr, ic, flx, qu, rc, gp, bs, bv, cf, wt, ho, hFI, hCR⟩ := id hC1
  obtain ⟨v1, hv1, hv1e⟩ := z_ex (xs (i + 1))
  obtain ⟨v2, hv2, hv2e⟩ := z_ex (xs (i + 2))
  refine lv_aload_n hx hb dL_law_1633 rfl (lv_at hl 1 rfl) ?_
  refine law_arg X hX hbl hbA hW (lv_at hl 0 rfl) (lv_at hl 5 rfl) 1 (by decide) hi hL (v := zI v1) hv1e (by decide) dL_law_1634 dL_law_1635 dL_law_1637 dL_law_1638 dL_law_1639 ?_
  refine law_arg X hX hbl hbA hW (lv_at hl 0 rfl) (lv_at hl 5 rfl) 2 (by decide) hi hL (v := zI v2) hv2e (by decide) dL_law_1640 dL_law_1641 dL_law_1643 dL_law_1644 dL_law_1645 ?_
  refine lv_aload_n hx hb dL_law_1646 rfl (lv_at hl 3 rfl) ?_
  refine go_i X hW (rest := []) (run_SW X hW (As := [.ref (z 0), .int (zI v1), .int (zI v2), .ref o1]) (rest := []) (h_lotOf l G w (z 0) o1 fs fl _ _ (c_X6_lotOf l hl9 G _ _ _ _ _ _ _ _ _ _ _ _ _ _ _ _ _ _ _ _ _ _ _ _ _ _ _ _ _ _ _ _ _ hCI hCR hv1 hv2) hz0 (fun r w2 q => by rw [q.2.2]; exact hm1) (fun E w2 q => by rcases q with ⟨q, -⟩ | ⟨q, -⟩ | ⟨q, -⟩ <;> simp [q]) H.size) wq_953 wq_954 wq_955 rfl hyL_lotOf rfl rfl hl.1 (Nat.le_of_ble_eq_true rfl) ⟨Nat.le_of_ble_eq_true rfl, Nat.le_of_ble_eq_true rfl⟩ ⟨by show cells + 3 ≤ 603072; omega, by show slots + 18 ≤ 7215210; omega⟩ dL_law_1647) (fun r6 w2 H locs hP hW => ?_)
  have hz1 := hz0
  rcases hP with ⟨h6, v0, w3, hpp, hF⟩ | ⟨h6, hxx⟩ | ⟨h6, hxx⟩ | ⟨h6, hxx⟩
  · obtain ⟨hc, hr, hC2⟩ := hpp
    rw [hC2] at hF
    obtain ⟨X2, hC3, hp2⟩ := cf_out (cf_upd hC1 hF)
    have hW := hW.perm hp2
    refine lv_istore (lv' := (6, .int r6) :: LV6 b (z 0) (a 0) o1 o2 i) hx hb dL_law_1650 hl (by decide) rfl (fun ls hl => ?_)
    refine lv_aload_n hx hb dL_law_1652 rfl (lv_at hl 3 rfl) ?_
    refine law_arg X hX hbl hbA hW (lv_at hl 1 rfl) (lv_at hl 6 rfl) 1 (by decide) hi hL (v := zI v1) hv1e (by decide) dL_law_1653 dL_law_1654 dL_law_1656 dL_law_1657 dL_law_1658 ?_
    refine law_arg X hX hbl hbA hW (lv_at hl 1 rfl) (lv_at hl 6 rfl) 2 (by decide) hi hL (v := zI v2) hv2e (by decide) dL_law_1659 dL_law_1660 dL_law_1662 dL_law_1663 dL_law_1664 ?_
    refine go_i X hW (rest := []) (run_V X hW (As := [.int (zI v1), .int (zI v2)]) (rest := []) 10 0 rfl (c_X7_lotOf l G a _ _ _ _ _ _ _ _ _ _ _ _ _ _ _ _ _ _ _ _ _ _ _ _ _ _ _ _ _ _ _ _ _ _ _ _ hM hv1 hv2 H.size) (gi_V wq_1360 wq_1361 wq_1362 wq_67 wq_1363) rfl hyX7_lotOf rfl rfl rfl hl.1 (Nat.le_of_ble_eq_true rfl) ⟨Nat.le_of_ble_eq_true rfl, Nat.le_of_ble_eq_true rfl⟩ ⟨by show cells + 3 + 0 ≤ 603072; omega, by show slots + 18 + 0 ≤ 7215210; omega⟩ dL_law_1665) (fun r7 w7 H locs hp7 hW => ?_)
    refine lv_istore (lv' := (7, .int r7) :: (6, .int r6) :: LV6 b (z 0) (a 0) o1 o2 i) hx hb dL_law_1668 hl (by decide) rfl (fun ls hl => ?_)
    rcases hp7 with ⟨hd, hr7, hw7⟩ | ⟨hd, hr7, hw7⟩ | ⟨hd, hr7, hw7⟩ | ⟨hd, hr7, hw7⟩
    · exfalso; clear hM hSB hRel hCI hC1; omega
    · exfalso; clear hM hSB hRel hCI hC1; omega
    · exfalso; clear hM hSB hRel hCI hC1; omega
    · rw [hw7] at hW
      exact law_tailI X (k := 0) ⟨lo, bi, ru, ol, ob, tk, fib, gra, res, buy, lst, bst, rea, bid, pri, itm, akf, akg, got, pai, riv, rf, ro, rs, lat, bat, val, cos, row, ahe, wan, giv, sc, wc, byr, reaC, rvl, pad, gt, X2, hM, hSB, hRel, hC3, List.Perm.refl _⟩ hW hl h6 (fun _ => (if_pos rfl).trans (congrArg Int32.toInt64 (by rw [hr, hr7, (hrP v1.toNat (by omega) hc.2.2).2 v2.toNat (by omega)]; rfl))) ⟨by show cells + 3 + 0 + 0 ≤ 603072; omega, by show slots + 18 + 0 + 0 ≤ 7215210; omega⟩ 1670 dL_law_1670 dL_law_1671 dL_law_1674 dL_law_1676 dL_law_1681 dL_law_1683 dL_law_1686 dL_law_1687 dL_law_1688 dL_law_1689 dL_law_1691 dL_law_1692 dL_law_1693 dL_law_1698 rfl (fun w H1 locs1 q1 q2 q3 => W.widen (by show cells + 3 + 0 ≤ _; omega) (by show slots + 18 + 0 ≤ _; omega) (kk w H1 locs1 ls q1 q2 q3))
  · obtain ⟨hc, hC2⟩ : _ ∧ _ := by
      rcases hxx with ⟨hE, hc, hC2⟩ | ⟨hE, hc, hC2⟩ | ⟨hE, hc, hC2⟩
      · exact ⟨hc, hC2⟩
      · exact absurd hE (by decide)
      · exact absurd hE (by decide)
    rw [hC2] at hW
    obtain ⟨X2, hC3, hp2⟩ := cf_out hC1
    have hW := hW.perm hp2
    refine lv_istore (lv' := (6, .int r6) :: LV6 b (z 0) (a 0) o1 o2 i) hx hb dL_law_1650 hl (by decide) rfl (fun ls hl => ?_)
    refine lv_aload_n hx hb dL_law_1652 rfl (lv_at hl 3 rfl) ?_
    refine law_arg X hX hbl hbA hW (lv_at hl 1 rfl) (lv_at hl 6 rfl) 1 (by decide) hi hL (v := zI v1) hv1e (by decide) dL_law_1653 dL_law_1654 dL_law_1656 dL_law_1657 dL_law_1658 ?_
    refine law_arg X hX hbl hbA hW (lv_at hl 1 rfl) (lv_at hl 6 rfl) 2 (by decide) hi hL (v := zI v2) hv2e (by decide) dL_law_1659 dL_law_1660 dL_law_1662 dL_law_1663 dL_law_1664 ?_
    refine go_i X hW (rest := []) (run_V X hW (As := [.int (zI v1), .int (zI v2)]) (rest := []) 10 0 rfl (c_X7_lotOf l G a _ _ _ _ _ _ _ _ _ _ _ _ _ _ _ _ _ _ _ _ _ _ _ _ _ _ _ _ _ _ _ _ _ _ _ _ hM hv1 hv2 H.size) (gi_V wq_1360 wq_1361 wq_1362 wq_67 wq_1363) rfl hyX7_lotOf rfl rfl rfl hl.1 (Nat.le_of_ble_eq_true rfl) ⟨Nat.le_of_ble_eq_true rfl, Nat.le_of_ble_eq_true rfl⟩ ⟨by show cells + 3 + 0 ≤ 603072; omega, by show slots + 18 + 0 ≤ 7215210; omega⟩ dL_law_1665) (fun r7 w7 H locs hp7 hW => ?_)
    refine lv_istore (lv' := (7, .int r7) :: (6, .int r6) :: LV6 b (z 0) (a 0) o1 o2 i) hx hb dL_law_1668 hl (by decide) rfl (fun ls hl => ?_)
    rcases hp7 with ⟨hd, hr7, hw7⟩ | ⟨hd, hr7, hw7⟩ | ⟨hd, hr7, hw7⟩ | ⟨hd, hr7, hw7⟩
    · rw [hw7] at hW
      exact law_tailI X (k := 1) ⟨lo, bi, ru, ol, ob, tk, fib, gra, res, buy, lst, bst, rea, bid, pri, itm, akf, akg, got, pai, riv, rf, ro, rs, lat, bat, val, cos, row, ahe, wan, giv, sc, wc, byr, reaC, rvl, pad, gt, X2, hM, hSB, hRel, hC3, List.Perm.refl _⟩ hW hl h6 (fun q => absurd (h6.symm.trans q) (by decide)) ⟨by show cells + 3 + 0 + 0 ≤ 603072; omega, by show slots + 18 + 0 + 0 ≤ 7215210; omega⟩ 1670 dL_law_1670 dL_law_1671 dL_law_1674 dL_law_1676 dL_law_1681 dL_law_1683 dL_law_1686 dL_law_1687 dL_law_1688 dL_law_1689 dL_law_1691 dL_law_1692 dL_law_1693 dL_law_1698 rfl (fun w H1 locs1 q1 q2 q3 => W.widen (by show cells + 3 + 0 ≤ _; omega) (by show slots + 18 + 0 ≤ _; omega) (kk w H1 locs1 ls q1 q2 q3))
    · exfalso; clear hM hSB hRel hCI hC1; omega
    · exfalso; clear hM hSB hRel hCI hC1; omega
    · exfalso; clear hM hSB hRel hCI hC1; omega
  · obtain ⟨hc, hC2⟩ : _ ∧ _ := by
      rcases hxx with ⟨hE, hc, hC2⟩ | ⟨hE, hc, hC2⟩ | ⟨hE, hc, hC2⟩
      · exact absurd hE (by decide)
      · exact ⟨hc, hC2⟩
      · exact absurd hE (by decide)
    rw [hC2] at hW
    obtain ⟨X2, hC3, hp2⟩ := cf_out hC1
    have hW := hW.perm hp2
    refine lv_istore (lv' := (6, .int r6) :: LV6 b (z 0) (a 0) o1 o2 i) hx hb dL_law_1650 hl (by decide) rfl (fun ls hl => ?_)
    refine lv_aload_n hx hb dL_law_1652 rfl (lv_at hl 3 rfl) ?_
    refine law_arg X hX hbl hbA hW (lv_at hl 1 rfl) (lv_at hl 6 rfl) 1 (by decide) hi hL (v := zI v1) hv1e (by decide) dL_law_1653 dL_law_1654 dL_law_1656 dL_law_1657 dL_law_1658 ?_
    refine law_arg X hX hbl hbA hW (lv_at hl 1 rfl) (lv_at hl 6 rfl) 2 (by decide) hi hL (v := zI v2) hv2e (by decide) dL_law_1659 dL_law_1660 dL_law_1662 dL_law_1663 dL_law_1664 ?_
    refine go_i X hW (rest := []) (run_V X hW (As := [.int (zI v1), .int (zI v2)]) (rest := []) 10 0 rfl (c_X7_lotOf l G a _ _ _ _ _ _ _ _ _ _ _ _ _ _ _ _ _ _ _ _ _ _ _ _ _ _ _ _ _ _ _ _ _ _ _ _ hM hv1 hv2 H.size) (gi_V wq_1360 wq_1361 wq_1362 wq_67 wq_1363) rfl hyX7_lotOf rfl rfl rfl hl.1 (Nat.le_of_ble_eq_true rfl) ⟨Nat.le_of_ble_eq_true rfl, Nat.le_of_ble_eq_true rfl⟩ ⟨by show cells + 3 + 0 ≤ 603072; omega, by show slots + 18 + 0 ≤ 7215210; omega⟩ dL_law_1665) (fun r7 w7 H locs hp7 hW => ?_)
    refine lv_istore (lv' := (7, .int r7) :: (6, .int r6) :: LV6 b (z 0) (a 0) o1 o2 i) hx hb dL_law_1668 hl (by decide) rfl (fun ls hl => ?_)
    rcases hp7 with ⟨hd, hr7, hw7⟩ | ⟨hd, hr7, hw7⟩ | ⟨hd, hr7, hw7⟩ | ⟨hd, hr7, hw7⟩
    · exfalso; clear hM hSB hRel hCI hC1; omega
    · rw [hw7] at hW
      exact law_tailI X (k := 2) ⟨lo, bi, ru, ol, ob, tk, fib, gra, res, buy, lst, bst, rea, bid, pri, itm, akf, akg, got, pai, riv, rf, ro, rs, lat, bat, val, cos, row, ahe, wan, giv, sc, wc, byr, reaC, rvl, pad, gt, X2, hM, hSB, hRel, hC3, List.Perm.refl _⟩ hW hl h6 (fun q => absurd (h6.symm.trans q) (by decide)) ⟨by show cells + 3 + 0 + 0 ≤ 603072; omega, by show slots + 18 + 0 + 0 ≤ 7215210; omega⟩ 1670 dL_law_1670 dL_law_1671 dL_law_1674 dL_law_1676 dL_law_1681 dL_law_1683 dL_law_1686 dL_law_1687 dL_law_1688 dL_law_1689 dL_law_1691 dL_law_1692 dL_law_1693 dL_law_1698 rfl (fun w H1 locs1 q1 q2 q3 => W.widen (by show cells + 3 + 0 ≤ _; omega) (by show slots + 18 + 0 ≤ _; omega) (kk w H1 locs1 ls q1 q2 q3))
    · exfalso; clear hM hSB hRel hCI hC1; omega
    · exfalso; clear hM hSB hRel hCI hC1; omega
  · obtain ⟨hc, hC2⟩ : _ ∧ _ := by
      rcases hxx with ⟨hE, hc, hC2⟩ | ⟨hE, hc, hC2⟩ | ⟨hE, hc, hC2⟩
      · exact absurd hE (by decide)
      · exact absurd hE (by decide)
      · exact ⟨hc, hC2⟩
    rw [hC2] at hW
    obtain ⟨X2, hC3, hp2⟩ := cf_out hC1
    have hW := hW.perm hp2
    refine lv_istore (lv' := (6, .int r6) :: LV6 b (z 0) (a 0) o1 o2 i) hx hb dL_law_1650 hl (by decide) rfl (fun ls hl => ?_)
    refine lv_aload_n hx hb dL_law_1652 rfl (lv_at hl 3 rfl) ?_
    refine law_arg X hX hbl hbA hW (lv_at hl 1 rfl) (lv_at hl 6 rfl) 1 (by decide) hi hL (v := zI v1) hv1e (by decide) dL_law_1653 dL_law_1654 dL_law_1656 dL_law_1657 dL_law_1658 ?_
    refine law_arg X hX hbl hbA hW (lv_at hl 1 rfl) (lv_at hl 6 rfl) 2 (by decide) hi hL (v := zI v2) hv2e (by decide) dL_law_1659 dL_law_1660 dL_law_1662 dL_law_1663 dL_law_1664 ?_
    refine go_i X hW (rest := []) (run_V X hW (As := [.int (zI v1), .int (zI v2)]) (rest := []) 10 0 rfl (c_X7_lotOf l G a _ _ _ _ _ _ _ _ _ _ _ _ _ _ _ _ _ _ _ _ _ _ _ _ _ _ _ _ _ _ _ _ _ _ _ _ hM hv1 hv2 H.size) (gi_V wq_1360 wq_1361 wq_1362 wq_67 wq_1363) rfl hyX7_lotOf rfl rfl rfl hl.1 (Nat.le_of_ble_eq_true rfl) ⟨Nat.le_of_ble_eq_true rfl, Nat.le_of_ble_eq_true rfl⟩ ⟨by show cells + 3 + 0 ≤ 603072; omega, by show slots + 18 + 0 ≤ 7215210; omega⟩ dL_law_1665) (fun r7 w7 H locs hp7 hW => ?_)
    refine lv_istore (lv' := (7, .int r7) :: (6, .int r6) :: LV6 b (z 0) (a 0) o1 o2 i) hx hb dL_law_1668 hl (by decide) rfl (fun ls hl => ?_)
    rcases hp7 with ⟨hd, hr7, hw7⟩ | ⟨hd, hr7, hw7⟩ | ⟨hd, hr7, hw7⟩ | ⟨hd, hr7, hw7⟩
    · exfalso; clear hM hSB hRel hCI hC1; omega
    · exfalso; clear hM hSB hRel hCI hC1; omega
    · rw [hw7] at hW
      exact law_tailI X (k := 3) ⟨lo, bi, ru, ol, ob, tk, fib, gra, res, buy, lst, bst, rea, bid, pri, itm, akf, akg, got, pai, riv, rf, ro, rs, lat, bat, val, cos, row, ahe, wan, giv, sc, wc, byr, reaC, rvl, pad, gt, X2, hM, hSB, hRel, hC3, List.Perm.refl _⟩ hW hl h6 (fun q => absurd (h6.symm.trans q) (by decide)) ⟨by show cells + 3 + 0 + 0 ≤ 603072; omega, by show slots + 18 + 0 + 0 ≤ 7215210; omega⟩ 1670 dL_law_1670 dL_law_1671 dL_law_1674 dL_law_1676 dL_law_1681 dL_law_1683 dL_law_1686 dL_law_1687 dL_law_1688 dL_law_1689 dL_law_1691 dL_law_1692 dL_law_1693 dL_law_1698 rfl (fun w H1 locs1 q1 q2 q3 => W.widen (by show cells + 3 + 0 ≤ _; omega) (by show slots + 18 + 0 ≤ _; omega) (kk w H1 locs1 ls q1 q2 q3))
    · exfalso; clear hM hSB hRel hCI hC1; omega
set_option maxRecDepth 100000 in
set_option maxHeartbeats 4000000 in
theorem k_paid (hl9 : l.stackTraces = false) (X : Cx p s m args meth c cL_law 9 RL rt G A) (hX : va_X b L xs s s.heap) (hbl : b < s.heap.size) (hbA : ¬ A b) (hL : L ≤ 2048) (hi : i + 4 ≤ L) (hcl : cells + 30 ≤ 603072) (hsl : slots + 400 ≤ 7215210) (hLI : LI G z f h a o1 o2 w) (hW : Wd G A s w H locs) (hl : lv_has ls 9 (LV6 b (z 0) (a 0) o1 o2 i)) (kk : ∀ (w : va_W) (H : Heap) (locs : List Loc) (ls : Array Slot), LI G z f h a o1 o2 w → Wd G A s w H locs → lv_has ls 9 (LV6 b (z 0) (a 0) o1 o2 i) → W p l e room_1 s m args below meth c H locs (cells + 30) (slots + 400) Q (F0 m 2290 ls [])) : W p l e room_1 s m args below meth c H locs cells slots Q (F0 m 1701 ls []) := by
  have hx := X.exec
  have hb := X.bytes
  obtain ⟨th, fl, fd, lo, bi, ru, ol, ob, tk, fib, gra, res, buy, lst, bst, rea, bid, pri, itm, akf, akg, got, pai, riv, rf, ro, rs, lat, bat, val, cos, row, ahe, wan, giv, sc, wc, byr, reaC, rvl, pad, gt, X1, hM, hSB, hRel, hC0, hp1⟩ := hLI
  have hC1 := cf_inn hC0 hp1
  have hm1 : outL G o1 fl ∈ w := cf_mem hC1 (List.mem_append_right _ List.mem_cons_self)
  have hCI := cia_of hM hRel.1
  obtain ⟨fs, hz0⟩ := cf_z hC1
  obtain ⟨hlo, hbi, hru, hol, hob, hfib, hgra, hres, hbuy, hlst, hbst, hrea, hbid, hpri, hitm, hakf, hakg, hgot, hriv, hrf, hro, hrs, hpai, hcl9, hcb9⟩ := id hM
  obtain ⟨hlat, hbat, hcos, hrow, hahe, hwan, hgiv⟩ := id hSB
  obtain ⟨hrC, hrB, hrR, hrV, hrP, hsc, hwc⟩ := id hRel
  obtain ⟨lc, bc, ql, ln, rv, rm, bn, bd, pr, ic, flx, qu, rc, gp, bs, bv, cf, wt, ho, hFI, hCR⟩ := id hC1
  obtain ⟨v1, hv1, hv1e⟩ := z_ex (xs (i + 1))
  refine lv_aload_n hx hb dL_law_1701 rfl (lv_at hl 1 rfl) ?_
  refine law_arg X hX hbl hbA hW (lv_at hl 0 rfl) (lv_at hl 5 rfl) 1 (by decide) hi hL (v := zI v1) hv1e (by decide) dL_law_1702 dL_law_1703 dL_law_1705 dL_law_1706 dL_law_1707 ?_
  refine lv_aload_n hx hb dL_law_1708 rfl (lv_at hl 3 rfl) ?_
  refine go_i X hW (rest := []) (run_SW X hW (As := [.ref (z 0), .int (zI v1), .ref o1]) (rest := []) (h_paid l G w (z 0) o1 fs fl _ (c_X6_paid l hl9 G _ _ _ _ _ _ _ _ _ _ _ _ _ _ _ _ _ _ _ _ _ _ _ _ _ _ _ _ _ _ _ _ hCI hCR hv1) hz0 (fun r w2 q => by rw [q.2.2]; exact hm1) (fun E w2 q => by rcases q with ⟨q, -⟩ | ⟨q, -⟩ <;> simp [q]) H.size) wq_961 wq_962 wq_963 rfl hyL_paid rfl rfl hl.1 (Nat.le_of_ble_eq_true rfl) ⟨Nat.le_of_ble_eq_true rfl, Nat.le_of_ble_eq_true rfl⟩ ⟨by show cells + 3 ≤ 603072; omega, by show slots + 18 ≤ 7215210; omega⟩ dL_law_1709) (fun r6 w2 H locs hP hW => ?_)
  have hz1 := hz0
  rcases hP with ⟨h6, v0, w3, hpp, hF⟩ | ⟨h6, hxx⟩ | ⟨h6, hxx⟩
  · obtain ⟨hc, hr, hC2⟩ := hpp
    rw [hC2] at hF
    obtain ⟨X2, hC3, hp2⟩ := cf_out (cf_upd hC1 hF)
    have hW := hW.perm hp2
    refine lv_istore (lv' := (6, .int r6) :: LV6 b (z 0) (a 0) o1 o2 i) hx hb dL_law_1712 hl (by decide) rfl (fun ls hl => ?_)
    refine lv_aload_n hx hb dL_law_1714 rfl (lv_at hl 3 rfl) ?_
    refine law_arg X hX hbl hbA hW (lv_at hl 1 rfl) (lv_at hl 6 rfl) 1 (by decide) hi hL (v := zI v1) hv1e (by decide) dL_law_1715 dL_law_1716 dL_law_1718 dL_law_1719 dL_law_1720 ?_
    refine go_i X hW (rest := []) (run_V X hW (As := [.int (zI v1)]) (rest := []) 10 0 rfl (c_X7_paid l G a _ _ _ _ _ _ _ _ _ _ _ _ _ _ _ _ _ _ _ _ _ _ _ _ _ _ _ _ _ _ _ _ _ _ _ hM hv1 H.size) (gi_V wq_1364 wq_1365 wq_1366 wq_67 wq_1367) rfl hyX7_paid rfl rfl rfl hl.1 (Nat.le_of_ble_eq_true rfl) ⟨Nat.le_of_ble_eq_true rfl, Nat.le_of_ble_eq_true rfl⟩ ⟨by show cells + 3 + 0 ≤ 603072; omega, by show slots + 18 + 0 ≤ 7215210; omega⟩ dL_law_1721) (fun r7 w7 H locs hp7 hW => ?_)
    refine lv_istore (lv' := (7, .int r7) :: (6, .int r6) :: LV6 b (z 0) (a 0) o1 o2 i) hx hb dL_law_1724 hl (by decide) rfl (fun ls hl => ?_)
    rcases hp7 with ⟨hd, hr7, hw7⟩ | ⟨hd, hr7, hw7⟩ | ⟨hd, hr7, hw7⟩
    · exfalso; clear hM hSB hRel hCI hC1; omega
    · exfalso; clear hM hSB hRel hCI hC1; omega
    · rw [hw7] at hW
      exact law_tailI X (k := 0) ⟨lo, bi, ru, ol, ob, tk, fib, gra, res, buy, lst, bst, rea, bid, pri, itm, akf, akg, got, pai, riv, rf, ro, rs, lat, bat, val, cos, row, ahe, wan, giv, sc, wc, byr, reaC, rvl, pad, gt, X2, hM, hSB, hRel, hC3, List.Perm.refl _⟩ hW hl h6 (fun _ => (if_pos rfl).trans (congrArg Int32.toInt64 (by rw [hr, hr7, (hrP v1.toNat (by omega) hc.2).1]))) ⟨by show cells + 3 + 0 + 0 ≤ 603072; omega, by show slots + 18 + 0 + 0 ≤ 7215210; omega⟩ 1726 dL_law_1726 dL_law_1727 dL_law_1730 dL_law_1732 dL_law_1737 dL_law_1739 dL_law_1742 dL_law_1743 dL_law_1744 dL_law_1745 dL_law_1747 dL_law_1748 dL_law_1749 dL_law_1754 rfl (fun w H1 locs1 q1 q2 q3 => W.widen (by show cells + 3 + 0 ≤ _; omega) (by show slots + 18 + 0 ≤ _; omega) (kk w H1 locs1 ls q1 q2 q3))
  · obtain ⟨hc, hC2⟩ : _ ∧ _ := by
      rcases hxx with ⟨hE, hc, hC2⟩ | ⟨hE, hc, hC2⟩
      · exact ⟨hc, hC2⟩
      · exact absurd hE (by decide)
    rw [hC2] at hW
    obtain ⟨X2, hC3, hp2⟩ := cf_out hC1
    have hW := hW.perm hp2
    refine lv_istore (lv' := (6, .int r6) :: LV6 b (z 0) (a 0) o1 o2 i) hx hb dL_law_1712 hl (by decide) rfl (fun ls hl => ?_)
    refine lv_aload_n hx hb dL_law_1714 rfl (lv_at hl 3 rfl) ?_
    refine law_arg X hX hbl hbA hW (lv_at hl 1 rfl) (lv_at hl 6 rfl) 1 (by decide) hi hL (v := zI v1) hv1e (by decide) dL_law_1715 dL_law_1716 dL_law_1718 dL_law_1719 dL_law_1720 ?_
    refine go_i X hW (rest := []) (run_V X hW (As := [.int (zI v1)]) (rest := []) 10 0 rfl (c_X7_paid l G a _ _ _ _ _ _ _ _ _ _ _ _ _ _ _ _ _ _ _ _ _ _ _ _ _ _ _ _ _ _ _ _ _ _ _ hM hv1 H.size) (gi_V wq_1364 wq_1365 wq_1366 wq_67 wq_1367) rfl hyX7_paid rfl rfl rfl hl.1 (Nat.le_of_ble_eq_true rfl) ⟨Nat.le_of_ble_eq_true rfl, Nat.le_of_ble_eq_true rfl⟩ ⟨by show cells + 3 + 0 ≤ 603072; omega, by show slots + 18 + 0 ≤ 7215210; omega⟩ dL_law_1721) (fun r7 w7 H locs hp7 hW => ?_)
    refine lv_istore (lv' := (7, .int r7) :: (6, .int r6) :: LV6 b (z 0) (a 0) o1 o2 i) hx hb dL_law_1724 hl (by decide) rfl (fun ls hl => ?_)
    rcases hp7 with ⟨hd, hr7, hw7⟩ | ⟨hd, hr7, hw7⟩ | ⟨hd, hr7, hw7⟩
    · rw [hw7] at hW
      exact law_tailI X (k := 1) ⟨lo, bi, ru, ol, ob, tk, fib, gra, res, buy, lst, bst, rea, bid, pri, itm, akf, akg, got, pai, riv, rf, ro, rs, lat, bat, val, cos, row, ahe, wan, giv, sc, wc, byr, reaC, rvl, pad, gt, X2, hM, hSB, hRel, hC3, List.Perm.refl _⟩ hW hl h6 (fun q => absurd (h6.symm.trans q) (by decide)) ⟨by show cells + 3 + 0 + 0 ≤ 603072; omega, by show slots + 18 + 0 + 0 ≤ 7215210; omega⟩ 1726 dL_law_1726 dL_law_1727 dL_law_1730 dL_law_1732 dL_law_1737 dL_law_1739 dL_law_1742 dL_law_1743 dL_law_1744 dL_law_1745 dL_law_1747 dL_law_1748 dL_law_1749 dL_law_1754 rfl (fun w H1 locs1 q1 q2 q3 => W.widen (by show cells + 3 + 0 ≤ _; omega) (by show slots + 18 + 0 ≤ _; omega) (kk w H1 locs1 ls q1 q2 q3))
    · exfalso; clear hM hSB hRel hCI hC1; omega
    · exfalso; clear hM hSB hRel hCI hC1; omega
  · obtain ⟨hc, hC2⟩ : _ ∧ _ := by
      rcases hxx with ⟨hE, hc, hC2⟩ | ⟨hE, hc, hC2⟩
      · exact absurd hE (by decide)
      · exact ⟨hc, hC2⟩
    rw [hC2] at hW
    obtain ⟨X2, hC3, hp2⟩ := cf_out hC1
    have hW := hW.perm hp2
    refine lv_istore (lv' := (6, .int r6) :: LV6 b (z 0) (a 0) o1 o2 i) hx hb dL_law_1712 hl (by decide) rfl (fun ls hl => ?_)
    refine lv_aload_n hx hb dL_law_1714 rfl (lv_at hl 3 rfl) ?_
    refine law_arg X hX hbl hbA hW (lv_at hl 1 rfl) (lv_at hl 6 rfl) 1 (by decide) hi hL (v := zI v1) hv1e (by decide) dL_law_1715 dL_law_1716 dL_law_1718 dL_law_1719 dL_law_1720 ?_
    refine go_i X hW (rest := []) (run_V X hW (As := [.int (zI v1)]) (rest := []) 10 0 rfl (c_X7_paid l G a _ _ _ _ _ _ _ _ _ _ _ _ _ _ _ _ _ _ _ _ _ _ _ _ _ _ _ _ _ _ _ _ _ _ _ hM hv1 H.size) (gi_V wq_1364 wq_1365 wq_1366 wq_67 wq_1367) rfl hyX7_paid rfl rfl rfl hl.1 (Nat.le_of_ble_eq_true rfl) ⟨Nat.le_of_ble_eq_true rfl, Nat.le_of_ble_eq_true rfl⟩ ⟨by show cells + 3 + 0 ≤ 603072; omega, by show slots + 18 + 0 ≤ 7215210; omega⟩ dL_law_1721) (fun r7 w7 H locs hp7 hW => ?_)
    refine lv_istore (lv' := (7, .int r7) :: (6, .int r6) :: LV6 b (z 0) (a 0) o1 o2 i) hx hb dL_law_1724 hl (by decide) rfl (fun ls hl => ?_)
    rcases hp7 with ⟨hd, hr7, hw7⟩ | ⟨hd, hr7, hw7⟩ | ⟨hd, hr7, hw7⟩
    · exfalso; clear hM hSB hRel hCI hC1; omega
    · rw [hw7] at hW
      exact law_tailI X (k := 2) ⟨lo, bi, ru, ol, ob, tk, fib, gra, res, buy, lst, bst, rea, bid, pri, itm, akf, akg, got, pai, riv, rf, ro, rs, lat, bat, val, cos, row, ahe, wan, giv, sc, wc, byr, reaC, rvl, pad, gt, X2, hM, hSB, hRel, hC3, List.Perm.refl _⟩ hW hl h6 (fun q => absurd (h6.symm.trans q) (by decide)) ⟨by show cells + 3 + 0 + 0 ≤ 603072; omega, by show slots + 18 + 0 + 0 ≤ 7215210; omega⟩ 1726 dL_law_1726 dL_law_1727 dL_law_1730 dL_law_1732 dL_law_1737 dL_law_1739 dL_law_1742 dL_law_1743 dL_law_1744 dL_law_1745 dL_law_1747 dL_law_1748 dL_law_1749 dL_law_1754 rfl (fun w H1 locs1 q1 q2 q3 => W.widen (by show cells + 3 + 0 ≤ _; omega) (by show slots + 18 + 0 ≤ _; omega) (kk w H1 locs1 ls q1 q2 q3))
    · exfalso; clear hM hSB hRel hCI hC1; omega
end KCASES
