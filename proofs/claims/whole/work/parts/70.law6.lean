theorem dself {x : UInt64} (h : vf_n64 x) : Op.cmpValue (FP.dcmp x x) .l = 0 := by
  rcases hc : FP.dcmp x x with _ | (_ | _ | _)
  · exact absurd h (Jvm.Free.Fl.relNe_self.mp (by rw [hc]; rfl))
  · exact absurd h (Jvm.Free.Fl.relNe_self.mp (by rw [hc]; rfl))
  · rfl
  · exact absurd h (Jvm.Free.Fl.relNe_self.mp (by rw [hc]; rfl))
section KDB
variable {p : Program} {l : Launch} {e : Env} {s : State} {m : MethodId} {args : Array Value} {below : List Frame} {meth : Method} {c : Code} {H : Heap} {locs : List Loc} {cells slots : Nat} {Q : State → Prop}
variable {ls : Array Slot} {rt : Option FieldType} {G : Gt} {A : Nat → Prop} {w : va_W} {b L i o1 o2 : Nat} {xs : Nat → Int32} {z f h a : Nat → Nat} {fl : Nat → Int64} {fd : Nat → UInt64} {k : Nat}
set_option maxRecDepth 100000 in
set_option maxHeartbeats 4000000 in
theorem k_soldShare (hl9 : l.stackTraces = false) (X : Cx p s m args meth c cL_law 9 RL rt G A) (hX : va_X b L xs s s.heap) (hbl : b < s.heap.size) (hbA : ¬ A b) (hL : L ≤ 2048) (hi : i + 4 ≤ L) (hcl : cells + 30 ≤ 603072) (hsl : slots + 400 ≤ 7215210) (hLI : LI G z f h a o1 o2 w) (hW : Wd G A s w H locs) (hl : lv_has ls 9 (LV6 b (z 0) (a 0) o1 o2 i)) (kk : ∀ (w : va_W) (H : Heap) (locs : List Loc) (ls : Array Slot), LI G z f h a o1 o2 w → Wd G A s w H locs → lv_has ls 9 (LV6 b (z 0) (a 0) o1 o2 i) → W p l e room_1 s m args below meth c H locs (cells + 30) (slots + 400) Q (F0 m 2290 ls [])) : W p l e room_1 s m args below meth c H locs cells slots Q (F0 m 2159 ls []) := by
  have hx := X.exec
  have hb := X.bytes
  obtain ⟨th, fl, fd, lo, bi, ru, ol, ob, tk, fib, gra, res, buy, lst, bst, rea, bid, pri, itm, akf, akg, got, pai, riv, rf, ro, rs, lat, bat, val, cos, row, ahe, wan, giv, sc, wc, byr, reaC, rvl, pad, gt, X1, hM, hSB, hRel, hC0, hp1⟩ := hLI
  have hC1 := cf_inn hC0 hp1
  have hm2 : outD G o2 fd ∈ w := cf_mem hC1 (List.mem_append_right _ (List.mem_cons_of_mem _ List.mem_cons_self))
  have hCI := cia_of hM hRel.1
  obtain ⟨fs, hz0⟩ := cf_z hC1
  obtain ⟨hlo, hbi, hru, hol, hob, hfib, hgra, hres, hbuy, hlst, hbst, hrea, hbid, hpri, hitm, hakf, hakg, hgot, hriv, hrf, hro, hrs, hpai, hcl9, hcb9⟩ := id hM
  obtain ⟨hrC, hrB, hrR, hrV, hrP, hsc, hwc⟩ := id hRel
  obtain ⟨lc, bc, ql, ln, rv, rm, bn, bd, pr, ic, flx, qu, rc, gp, bs, bv, cf, wt, ho, hFI, hCR⟩ := id hC1
  have hwc40 : wc ≤ 40 := by rw [hwc]; exact Nat.le_trans (cntB_le _ _) hbi
  refine lv_aload_n hx hb dL_law_2159 rfl (lv_at hl 1 rfl) ?_
  refine lv_aload hx hb dL_law_2160 (lv_at hl 4 rfl) ?_
  refine go_i X hW (rest := []) (run_SW X hW (As := [.ref (z 0), .ref o2]) (rest := []) (h_soldShare l G w (z 0) o2 fs fd (c_X6_soldShare l hl9 G _ _ _ _ _ _ _ _ _ _ _ _ _ _ _ _ _ _ _ _ _ _ _ _ _ _ _ _ _ _ _ hCI hCR) hz0 (fun r w2 q => by rw [q.2.2]; exact hm2) (fun E w2 q => q.1) (fun r w2 q => by rw [q.2.1]; exact Jvm.Free.Fl.f2d_out (fdiv_nI (by omega) (by omega))) H.size) wq_1042 wq_1043 wq_1044 rfl hyL_soldShare rfl rfl hl.1 (Nat.le_of_ble_eq_true rfl) ⟨Nat.le_of_ble_eq_true rfl, Nat.le_of_ble_eq_true rfl⟩ ⟨by show cells + 3 ≤ 603072; omega, by show slots + 18 ≤ 7215210; omega⟩ dL_law_2162) (fun r6 w2 H locs hP hW => ?_)
  rcases hP with ⟨h6, v0, w3, ⟨hc, hr, hC2⟩, hF⟩ | ⟨h6, hE, hc, hC2⟩
  · rw [hC2] at hF
    obtain ⟨X2, hC3, hp2⟩ := cf_out (cf_upd2 hC1 hF)
    have hW := hW.perm hp2
    refine lv_istore (lv' := (6, .int r6) :: LV6 b (z 0) (a 0) o1 o2 i) hx hb dL_law_2165 hl (by decide) rfl (fun ls hl => ?_)
    refine lv_aload_n hx hb dL_law_2167 rfl (lv_at hl 3 rfl) ?_
    refine go_f X hW (rest := []) (run_V X hW (As := []) (rest := []) 10 0 rfl (c_X7_soldShare l G a _ _ _ _ _ _ _ _ _ _ _ _ _ _ _ _ _ _ _ _ _ _ _ _ _ _ _ _ _ _ _ _ _ _ hM H.size) (gi_V wq_1410 wq_1411 wq_1412 wq_67 wq_1413) rfl hyX7_soldShare rfl rfl rfl hl.1 (Nat.le_of_ble_eq_true rfl) ⟨Nat.le_of_ble_eq_true rfl, Nat.le_of_ble_eq_true rfl⟩ ⟨by show cells + 3 + 0 ≤ 603072; omega, by show slots + 18 + 0 ≤ 7215210; omega⟩ dL_law_2168) (fun r7 w7 H locs hp7 hW => ?_)
    refine lv_fstore (lv' := (7, .float r7) :: (6, .int r6) :: LV6 b (z 0) (a 0) o1 o2 i) hx hb dL_law_2171 hl (by decide) rfl (fun ls hl => ?_)
    rcases hp7 with ⟨hd, hw7⟩ | ⟨hd, hr7, hw7⟩
    · exfalso; clear hM hSB hRel hCI hC1; omega
    · rw [hw7] at hW
      refine law_thrown X (k := 0) (fl := fl) (fd := (vf_upd fd 0 (FP.f2d v0))) ⟨lo, bi, ru, ol, ob, tk, fib, gra, res, buy, lst, bst, rea, bid, pri, itm, akf, akg, got, pai, riv, rf, ro, rs, lat, bat, val, cos, row, ahe, wan, giv, sc, wc, byr, reaC, rvl, pad, gt, X2, hM, hSB, hRel, hC3, List.Perm.refl _⟩ hW hl.1 (lv_at hl 4 rfl) ⟨by show cells + 3 + 0 + 0 ≤ 603072; omega, by show slots + 18 + 0 + 0 ≤ 7215210; omega⟩ dL_law_2173 dL_law_2174 (fun w H1 locs1 hJ hm1 hm2 hW => ?_)
      have hend : W p l e room_1 s m args below meth c H1 locs1 (cells + 3 + 0) (slots + 18 + 0) Q (F0 m 2222 ls []) := lv_goto (tgt := 2290) hx hb dL_law_2222 rfl (W.widen (by show cells + 3 + 0 ≤ _; omega) (by show slots + 18 + 0 ≤ _; omega) (kk w H1 locs1 ls ⟨0, fl, (vf_upd fd 0 (FP.f2d v0)), hJ⟩ hW (has_drop (has_drop hl))))
      refine lv_iload hx hb dL_law_2177 (lv_at hl 1 rfl) ?_
      refine lv_icmp_eq (tgt := 2184) hx hb dL_law_2179 rfl (fun _ => ?_) (fun q => absurd h6.symm q)
      refine lv_iload hx hb dL_law_2184 (lv_at hl 1 rfl) ?_
      refine lv_if_ne (tgt := 2222) hx hb dL_law_2186 rfl (fun _ => hend) (fun q => ?_)
      refine lv_aload hx hb dL_law_2189 (lv_at hl 6 rfl) ?_
      refine lv_iconst (v := nI 0) hx hb dL_law_2191 (by decide) ?_
      refine x_dald X hW hm2 dL_law_2192 ?_
      refine lv_fload hx hb dL_law_2193 (lv_at hl 0 rfl) ?_
      have hn : vf_n64 (FP.f2d r7) := by rw [hr7]; exact Jvm.Free.Fl.f2d_out (fdiv_nI (by omega) (by omega))
      refine lv_f2d hx hb dL_law_2195 hn ?_
      have he : (vf_upd fd 0 (FP.f2d v0)) 0 = FP.f2d r7 := (if_pos rfl).trans (by rw [hr, hr7, hsc])
      refine lv_dcmp hx hb dL_law_2196 ?_
      rw [he]
      exact lv_if_eq (tgt := 2222) hx hb dL_law_2197 rfl (fun _ => hend) (fun q => absurd (dself hn) q)
  · rw [hC2] at hW
    obtain ⟨X2, hC3, hp2⟩ := cf_out hC1
    have hW := hW.perm hp2
    refine lv_istore (lv' := (6, .int r6) :: LV6 b (z 0) (a 0) o1 o2 i) hx hb dL_law_2165 hl (by decide) rfl (fun ls hl => ?_)
    refine lv_aload_n hx hb dL_law_2167 rfl (lv_at hl 3 rfl) ?_
    refine go_f X hW (rest := []) (run_V X hW (As := []) (rest := []) 10 0 rfl (c_X7_soldShare l G a _ _ _ _ _ _ _ _ _ _ _ _ _ _ _ _ _ _ _ _ _ _ _ _ _ _ _ _ _ _ _ _ _ _ hM H.size) (gi_V wq_1410 wq_1411 wq_1412 wq_67 wq_1413) rfl hyX7_soldShare rfl rfl rfl hl.1 (Nat.le_of_ble_eq_true rfl) ⟨Nat.le_of_ble_eq_true rfl, Nat.le_of_ble_eq_true rfl⟩ ⟨by show cells + 3 + 0 ≤ 603072; omega, by show slots + 18 + 0 ≤ 7215210; omega⟩ dL_law_2168) (fun r7 w7 H locs hp7 hW => ?_)
    refine lv_fstore (lv' := (7, .float r7) :: (6, .int r6) :: LV6 b (z 0) (a 0) o1 o2 i) hx hb dL_law_2171 hl (by decide) rfl (fun ls hl => ?_)
    rcases hp7 with ⟨hd, hw7⟩ | ⟨hd, hr7, hw7⟩
    · rw [hw7] at hW
      refine law_thrown X (k := 1) (fl := fl) (fd := fd) ⟨lo, bi, ru, ol, ob, tk, fib, gra, res, buy, lst, bst, rea, bid, pri, itm, akf, akg, got, pai, riv, rf, ro, rs, lat, bat, val, cos, row, ahe, wan, giv, sc, wc, byr, reaC, rvl, pad, gt, X2, hM, hSB, hRel, hC3, List.Perm.refl _⟩ hW hl.1 (lv_at hl 4 rfl) ⟨by show cells + 3 + 0 + 0 ≤ 603072; omega, by show slots + 18 + 0 + 0 ≤ 7215210; omega⟩ dL_law_2173 dL_law_2174 (fun w H1 locs1 hJ hm1 hm2 hW => ?_)
      have hend : W p l e room_1 s m args below meth c H1 locs1 (cells + 3 + 0) (slots + 18 + 0) Q (F0 m 2222 ls []) := lv_goto (tgt := 2290) hx hb dL_law_2222 rfl (W.widen (by show cells + 3 + 0 ≤ _; omega) (by show slots + 18 + 0 ≤ _; omega) (kk w H1 locs1 ls ⟨1, fl, fd, hJ⟩ hW (has_drop (has_drop hl))))
      refine lv_iload hx hb dL_law_2177 (lv_at hl 1 rfl) ?_
      refine lv_icmp_eq (tgt := 2184) hx hb dL_law_2179 rfl (fun _ => ?_) (fun q => absurd h6.symm q)
      refine lv_iload hx hb dL_law_2184 (lv_at hl 1 rfl) ?_
      exact lv_if_ne (tgt := 2222) hx hb dL_law_2186 rfl (fun _ => hend) (fun q => absurd (h6.symm.trans q) (by decide))
    · exfalso; clear hM hSB hRel hCI hC1; omega
set_option maxRecDepth 100000 in
set_option maxHeartbeats 4000000 in
theorem k_meanPaid (hl9 : l.stackTraces = false) (X : Cx p s m args meth c cL_law 9 RL rt G A) (hX : va_X b L xs s s.heap) (hbl : b < s.heap.size) (hbA : ¬ A b) (hL : L ≤ 2048) (hi : i + 4 ≤ L) (hcl : cells + 30 ≤ 603072) (hsl : slots + 400 ≤ 7215210) (hLI : LI G z f h a o1 o2 w) (hW : Wd G A s w H locs) (hl : lv_has ls 9 (LV6 b (z 0) (a 0) o1 o2 i)) (kk : ∀ (w : va_W) (H : Heap) (locs : List Loc) (ls : Array Slot), LI G z f h a o1 o2 w → Wd G A s w H locs → lv_has ls 9 (LV6 b (z 0) (a 0) o1 o2 i) → W p l e room_1 s m args below meth c H locs (cells + 30) (slots + 400) Q (F0 m 2290 ls [])) : W p l e room_1 s m args below meth c H locs cells slots Q (F0 m 2225 ls []) := by
  have hx := X.exec
  have hb := X.bytes
  obtain ⟨th, fl, fd, lo, bi, ru, ol, ob, tk, fib, gra, res, buy, lst, bst, rea, bid, pri, itm, akf, akg, got, pai, riv, rf, ro, rs, lat, bat, val, cos, row, ahe, wan, giv, sc, wc, byr, reaC, rvl, pad, gt, X1, hM, hSB, hRel, hC0, hp1⟩ := hLI
  have hC1 := cf_inn hC0 hp1
  have hm2 : outD G o2 fd ∈ w := cf_mem hC1 (List.mem_append_right _ (List.mem_cons_of_mem _ List.mem_cons_self))
  have hCI := cia_of hM hRel.1
  obtain ⟨fs, hz0⟩ := cf_z hC1
  obtain ⟨hlo, hbi, hru, hol, hob, hfib, hgra, hres, hbuy, hlst, hbst, hrea, hbid, hpri, hitm, hakf, hakg, hgot, hriv, hrf, hro, hrs, hpai, hcl9, hcb9⟩ := id hM
  obtain ⟨hrC, hrB, hrR, hrV, hrP, hsc, hwc⟩ := id hRel
  obtain ⟨lc, bc, ql, ln, rv, rm, bn, bd, pr, ic, flx, qu, rc, gp, bs, bv, cf, wt, ho, hFI, hCR⟩ := id hC1
  have hwc40 : wc ≤ 40 := by rw [hwc]; exact Nat.le_trans (cntB_le _ _) hbi
  refine lv_aload_n hx hb dL_law_2225 rfl (lv_at hl 1 rfl) ?_
  refine lv_aload hx hb dL_law_2226 (lv_at hl 4 rfl) ?_
  refine go_i X hW (rest := []) (run_SW X hW (As := [.ref (z 0), .ref o2]) (rest := []) (h_meanPaid l G w (z 0) o2 fs fd (c_X6_meanPaid l hl9 G _ _ _ _ _ _ _ _ _ _ _ _ _ _ _ _ _ _ _ _ _ _ _ _ _ _ _ _ _ _ _ hCI hCR hwc40) hz0 (fun r w2 q => by rw [q.2.2]; exact hm2) (fun E w2 q => q.1) H.size) wq_1066 wq_1067 wq_1068 rfl hyL_meanPaid rfl rfl hl.1 (Nat.le_of_ble_eq_true rfl) ⟨Nat.le_of_ble_eq_true rfl, Nat.le_of_ble_eq_true rfl⟩ ⟨by show cells + 3 ≤ 603072; omega, by show slots + 18 ≤ 7215210; omega⟩ dL_law_2228) (fun r6 w2 H locs hP hW => ?_)
  rcases hP with ⟨h6, v0, w3, ⟨hc, hr, hC2⟩, hF⟩ | ⟨h6, hE, hc, hC2⟩
  · rw [hC2] at hF
    obtain ⟨X2, hC3, hp2⟩ := cf_out (cf_upd2 hC1 hF)
    have hW := hW.perm hp2
    refine lv_istore (lv' := (6, .int r6) :: LV6 b (z 0) (a 0) o1 o2 i) hx hb dL_law_2231 hl (by decide) rfl (fun ls hl => ?_)
    refine lv_aload_n hx hb dL_law_2233 rfl (lv_at hl 3 rfl) ?_
    refine go_d X hW (rest := []) (run_V X hW (As := []) (rest := []) 10 0 rfl (c_X7_meanPaid l G a _ _ _ _ _ _ _ _ _ _ _ _ _ _ _ _ _ _ _ _ _ _ _ _ _ _ _ _ _ _ _ _ _ _ hM H.size) (gi_V wq_1414 wq_1415 wq_1416 wq_67 wq_1417) rfl hyX7_meanPaid rfl rfl rfl hl.1 (Nat.le_of_ble_eq_true rfl) ⟨Nat.le_of_ble_eq_true rfl, Nat.le_of_ble_eq_true rfl⟩ ⟨by show cells + 3 + 0 ≤ 603072; omega, by show slots + 18 + 0 ≤ 7215210; omega⟩ dL_law_2234) (fun r7 w7 H locs hp7 hW => ?_)
    refine lv_dstore (lv' := (7, .double r7) :: (6, .int r6) :: LV6 b (z 0) (a 0) o1 o2 i) hx hb dL_law_2237 hl (by decide) rfl (fun ls hl => ?_)
    rcases hp7 with ⟨hd, hw7⟩ | ⟨hd, hr7, hw7⟩
    · exfalso; clear hM hSB hRel hCI hC1; omega
    · rw [hw7] at hW
      refine law_thrown X (k := 0) (fl := fl) (fd := (vf_upd fd 0 v0)) ⟨lo, bi, ru, ol, ob, tk, fib, gra, res, buy, lst, bst, rea, bid, pri, itm, akf, akg, got, pai, riv, rf, ro, rs, lat, bat, val, cos, row, ahe, wan, giv, sc, wc, byr, reaC, rvl, pad, gt, X2, hM, hSB, hRel, hC3, List.Perm.refl _⟩ hW hl.1 (lv_at hl 4 rfl) ⟨by show cells + 3 + 0 + 0 ≤ 603072; omega, by show slots + 18 + 0 + 0 ≤ 7215210; omega⟩ dL_law_2239 dL_law_2240 (fun w H1 locs1 hJ hm1 hm2 hW => ?_)
      have hend : W p l e room_1 s m args below meth c H1 locs1 (cells + 3 + 0) (slots + 18 + 0) Q (F0 m 2287 ls []) := lv_goto (tgt := 2290) hx hb dL_law_2287 rfl (W.widen (by show cells + 3 + 0 ≤ _; omega) (by show slots + 18 + 0 ≤ _; omega) (kk w H1 locs1 ls ⟨0, fl, (vf_upd fd 0 v0), hJ⟩ hW (has_drop (has_drop hl))))
      refine lv_iload hx hb dL_law_2243 (lv_at hl 1 rfl) ?_
      refine lv_icmp_eq (tgt := 2250) hx hb dL_law_2245 rfl (fun _ => ?_) (fun q => absurd h6.symm q)
      refine lv_iload hx hb dL_law_2250 (lv_at hl 1 rfl) ?_
      refine lv_if_ne (tgt := 2287) hx hb dL_law_2252 rfl (fun _ => hend) (fun q => ?_)
      refine lv_aload hx hb dL_law_2255 (lv_at hl 6 rfl) ?_
      refine lv_iconst (v := nI 0) hx hb dL_law_2257 (by decide) ?_
      refine x_dald X hW hm2 dL_law_2258 ?_
      refine lv_dload hx hb dL_law_2259 (lv_at hl 0 rfl) ?_
      have hn : vf_n64 r7 := by rw [hr7]; exact ddiv_lZ (by omega) (by have := cntB_le (isV bst 119) bi; omega)
      have he : (vf_upd fd 0 v0) 0 = r7 := (if_pos rfl).trans (by rw [hr, hr7, hwc])
      refine lv_dcmp hx hb dL_law_2261 ?_
      rw [he]
      exact lv_if_eq (tgt := 2287) hx hb dL_law_2262 rfl (fun _ => hend) (fun q => absurd (dself hn) q)
  · rw [hC2] at hW
    obtain ⟨X2, hC3, hp2⟩ := cf_out hC1
    have hW := hW.perm hp2
    refine lv_istore (lv' := (6, .int r6) :: LV6 b (z 0) (a 0) o1 o2 i) hx hb dL_law_2231 hl (by decide) rfl (fun ls hl => ?_)
    refine lv_aload_n hx hb dL_law_2233 rfl (lv_at hl 3 rfl) ?_
    refine go_d X hW (rest := []) (run_V X hW (As := []) (rest := []) 10 0 rfl (c_X7_meanPaid l G a _ _ _ _ _ _ _ _ _ _ _ _ _ _ _ _ _ _ _ _ _ _ _ _ _ _ _ _ _ _ _ _ _ _ hM H.size) (gi_V wq_1414 wq_1415 wq_1416 wq_67 wq_1417) rfl hyX7_meanPaid rfl rfl rfl hl.1 (Nat.le_of_ble_eq_true rfl) ⟨Nat.le_of_ble_eq_true rfl, Nat.le_of_ble_eq_true rfl⟩ ⟨by show cells + 3 + 0 ≤ 603072; omega, by show slots + 18 + 0 ≤ 7215210; omega⟩ dL_law_2234) (fun r7 w7 H locs hp7 hW => ?_)
    refine lv_dstore (lv' := (7, .double r7) :: (6, .int r6) :: LV6 b (z 0) (a 0) o1 o2 i) hx hb dL_law_2237 hl (by decide) rfl (fun ls hl => ?_)
    rcases hp7 with ⟨hd, hw7⟩ | ⟨hd, hr7, hw7⟩
    · rw [hw7] at hW
      refine law_thrown X (k := 1) (fl := fl) (fd := fd) ⟨lo, bi, ru, ol, ob, tk, fib, gra, res, buy, lst, bst, rea, bid, pri, itm, akf, akg, got, pai, riv, rf, ro, rs, lat, bat, val, cos, row, ahe, wan, giv, sc, wc, byr, reaC, rvl, pad, gt, X2, hM, hSB, hRel, hC3, List.Perm.refl _⟩ hW hl.1 (lv_at hl 4 rfl) ⟨by show cells + 3 + 0 + 0 ≤ 603072; omega, by show slots + 18 + 0 + 0 ≤ 7215210; omega⟩ dL_law_2239 dL_law_2240 (fun w H1 locs1 hJ hm1 hm2 hW => ?_)
      have hend : W p l e room_1 s m args below meth c H1 locs1 (cells + 3 + 0) (slots + 18 + 0) Q (F0 m 2287 ls []) := lv_goto (tgt := 2290) hx hb dL_law_2287 rfl (W.widen (by show cells + 3 + 0 ≤ _; omega) (by show slots + 18 + 0 ≤ _; omega) (kk w H1 locs1 ls ⟨1, fl, fd, hJ⟩ hW (has_drop (has_drop hl))))
      refine lv_iload hx hb dL_law_2243 (lv_at hl 1 rfl) ?_
      refine lv_icmp_eq (tgt := 2250) hx hb dL_law_2245 rfl (fun _ => ?_) (fun q => absurd h6.symm q)
      refine lv_iload hx hb dL_law_2250 (lv_at hl 1 rfl) ?_
      exact lv_if_ne (tgt := 2287) hx hb dL_law_2252 rfl (fun _ => hend) (fun q => absurd (h6.symm.trans q) (by decide))
    · exfalso; clear hM hSB hRel hCI hC1; omega
end KDB
