/-- what the scratch of the reference keeps -/
def SBd (lat bat cos row ahe wan giv : Nat → Nat) : Prop := (∀ k, lat k < 40) ∧ (∀ k, bat k < 40) ∧ (∀ x, cos x ≤ 2000000) ∧ (∀ x, row x ≤ 2000000) ∧ (∀ x, ahe x ≤ 2000000) ∧ (∀ x, wan x < 120) ∧ (∀ x, giv x < 40)
/-- both sides: what each shows -/
def RelL (lo bi : Nat) (lst bst itm rea buy got riv : Nat → Nat) (pai : Nat → Int) (sc wc : Nat) (byr : Nat → Int) (reaC : Nat → Nat) (rvl pad gt : Nat → Int) : Prop :=
  (∀ k, reaC k < 65536) ∧ (∀ i, i < lo → lst i = 115 → byr i = ((buy i : Nat) : Int)) ∧ (∀ b, b < bi → bst b = 108 → reaC b = rea b) ∧ (∀ b, b < bi → bst b = 108 → rea b = 98 → rvl b = ((riv b : Nat) : Int)) ∧ (∀ b, b < bi → bst b = 119 → pad b = pai b ∧ ∀ j, j < itm b → gt (3 * b + j) = ((got (3 * b + j) : Nat) : Int)) ∧ sc = cntB (isV lst 115) lo ∧ wc = cntB (isV bst 119) bi
def LJ (G : Gt) (z f h a : Nat → Nat) (o1 o2 th : Nat) (fl : Nat → Int64) (fd : Nat → UInt64) (w : va_W) : Prop := ∃ (lo bi ru ol ob : Nat) (tk : Int) (fib gra res buy lst bst rea bid pri itm akf akg got : Nat → Nat) (pai : Nat → Int) (riv rf ro rs lat bat : Nat → Nat) (val : Nat → Int) (cos row ahe wan giv : Nat → Nat) (sc wc : Nat) (byr : Nat → Int) (reaC : Nat → Nat) (rvl pad gt : Nat → Int) (X : va_W), MIa lo bi ru ol ob fib gra res buy lst bst rea bid pri itm akf akg got pai riv rf ro rs ∧ SBd lat bat cos row ahe wan giv ∧ RelL lo bi lst bst itm rea buy got riv pai sc wc byr reaC rvl pad gt ∧ CF G z f h ol ob sc wc tk lo bi ru fib gra res lst byr rf ro rs bid pri bst reaC rvl pad itm akf akg gt [outL G o1 fl, outD G o2 fd] X ∧ w.Perm (mW G a th lo bi ru ol ob tk fib gra res buy lst bst rea bid pri itm akf akg got pai riv rf ro rs lat bat val cos row ahe wan giv ++ X)
def LI (G : Gt) (z f h a : Nat → Nat) (o1 o2 : Nat) (w : va_W) : Prop := ∃ th fl fd, LJ G z f h a o1 o2 th fl fd w
section LCF
variable {G : Gt} {z f h : Nat → Nat} {ol ob sc wc : Nat} {tk : Int} {lo bi ru : Nat} {fib gra res lst : Nat → Nat} {byr : Nat → Int} {rf ro rs bid pri bst rea : Nat → Nat} {rvl pad : Nat → Int} {itm akf akg : Nat → Nat} {gt : Nat → Int} {Y Y2 M X w w2 w3 : va_W}
theorem cf_Y (hC : CF G z f h ol ob sc wc tk lo bi ru fib gra res lst byr rf ro rs bid pri bst rea rvl pad itm akf akg gt Y w) (hY : Y.Perm Y2) : CF G z f h ol ob sc wc tk lo bi ru fib gra res lst byr rf ro rs bid pri bst rea rvl pad itm akf akg gt Y2 w := by
  obtain ⟨lc, bc, ql, ln, rv, rm, bn, bd, pr, ic, fl, qu, rc, gp, bs, bv, cf, wt, ho, hF, e0, k0, m0, e1, k1, m1, e2, k2, m2, la, ra, ba, wo, we, wk, wm, ia, r0, r1, r2, r3, hc⟩ := hC
  exact ⟨lc, bc, ql, ln, rv, rm, bn, bd, pr, ic, fl, qu, rc, gp, bs, bv, cf, wt, ho, hF, e0, k0, m0, e1, k1, m1, e2, k2, m2, la, ra, ba, wo, we, wk, wm, ia, r0, r1, r2, r3, hc.trans (cw_Y ((hY.append_left _).append_left _))⟩
theorem cf_inn (hC : CF G z f h ol ob sc wc tk lo bi ru fib gra res lst byr rf ro rs bid pri bst rea rvl pad itm akf akg gt Y X) (hp : w.Perm (M ++ X)) : CF G z f h ol ob sc wc tk lo bi ru fib gra res lst byr rf ro rs bid pri bst rea rvl pad itm akf akg gt (M ++ Y) w := by
  obtain ⟨lc, bc, ql, ln, rv, rm, bn, bd, pr, ic, fl, qu, rc, gp, bs, bv, cf, wt, ho, hF, e0, k0, m0, e1, k1, m1, e2, k2, m2, la, ra, ba, wo, we, wk, wm, ia, r0, r1, r2, r3, hc⟩ := hC
  refine ⟨lc, bc, ql, ln, rv, rm, bn, bd, pr, ic, fl, qu, rc, gp, bs, bv, cf, wt, ho, hF, e0, k0, m0, e1, k1, m1, e2, k2, m2, la, ra, ba, wo, we, wk, wm, ia, r0, r1, r2, r3, ?_⟩
  refine hp.trans ((hc.append_left M).trans ((cw_out M).symm.trans (cw_Y ?_)))
  rw [← List.append_assoc, ← List.append_assoc, ← List.append_assoc, ← List.append_assoc]
  refine List.Perm.append_right Y ?_
  rw [List.append_assoc]
  exact List.perm_append_comm
theorem cf_out (hC : CF G z f h ol ob sc wc tk lo bi ru fib gra res lst byr rf ro rs bid pri bst rea rvl pad itm akf akg gt (M ++ Y) w) : ∃ X, CF G z f h ol ob sc wc tk lo bi ru fib gra res lst byr rf ro rs bid pri bst rea rvl pad itm akf akg gt Y X ∧ w.Perm (M ++ X) := by
  obtain ⟨lc, bc, ql, ln, rv, rm, bn, bd, pr, ic, fl, qu, rc, gp, bs, bv, cf, wt, ho, hF, e0, k0, m0, e1, k1, m1, e2, k2, m2, la, ra, ba, wo, we, wk, wm, ia, r0, r1, r2, r3, hc⟩ := hC
  refine ⟨_, ⟨lc, bc, ql, ln, rv, rm, bn, bd, pr, ic, fl, qu, rc, gp, bs, bv, cf, wt, ho, hF, e0, k0, m0, e1, k1, m1, e2, k2, m2, la, ra, ba, wo, we, wk, wm, ia, r0, r1, r2, r3, List.Perm.refl _⟩, ?_⟩
  refine hc.trans ((cw_Y ?_).trans (cw_out M))
  rw [← List.append_assoc, ← List.append_assoc, ← List.append_assoc, ← List.append_assoc]
  refine List.Perm.append_right Y ?_
  rw [List.append_assoc M]
  exact List.perm_append_comm
theorem cf_upd {x y d : Nat × va_E} (hC : CF G z f h ol ob sc wc tk lo bi ru fib gra res lst byr rf ro rs bid pri bst rea rvl pad itm akf akg gt (M ++ [x, d]) w3) (hF : Fc w3 [x] [y] w2) : CF G z f h ol ob sc wc tk lo bi ru fib gra res lst byr rf ro rs bid pri bst rea rvl pad itm akf akg gt (M ++ [y, d]) w2 := by
  obtain ⟨X, h1, h2⟩ := cf_out (M := [x]) (Y := M ++ [d]) (cf_Y hC (List.perm_middle (l₁ := M) (l₂ := [d])))
  obtain ⟨r, h3, h4⟩ := hF
  have h5 : r.Perm X := ((List.perm_cons x).mp (h3.symm.trans h2))
  exact cf_Y (cf_inn (M := [y]) h1 (h4.symm.trans (h5.cons y))) (List.perm_middle (l₁ := M) (l₂ := [d])).symm
theorem cf_upd2 {x y d : Nat × va_E} (hC : CF G z f h ol ob sc wc tk lo bi ru fib gra res lst byr rf ro rs bid pri bst rea rvl pad itm akf akg gt (M ++ [d, x]) w3) (hF : Fc w3 [x] [y] w2) : CF G z f h ol ob sc wc tk lo bi ru fib gra res lst byr rf ro rs bid pri bst rea rvl pad itm akf akg gt (M ++ [d, y]) w2 := by
  have e1 : ∀ u : Nat × va_E, (M ++ [d, u]).Perm ([u] ++ (M ++ [d])) := fun u => by
    have := List.perm_middle (a := u) (l₁ := M ++ [d]) (l₂ := [])
    rw [List.append_nil, List.append_assoc] at this
    exact this
  obtain ⟨X, h1, h2⟩ := cf_out (M := [x]) (Y := M ++ [d]) (cf_Y hC (e1 x))
  obtain ⟨r, h3, h4⟩ := hF
  have h5 : r.Perm X := ((List.perm_cons x).mp (h3.symm.trans h2))
  exact cf_Y (cf_inn (M := [y]) h1 (h4.symm.trans (h5.cons y))) (e1 y).symm
theorem cf_mem {x : Nat × va_E} (hC : CF G z f h ol ob sc wc tk lo bi ru fib gra res lst byr rf ro rs bid pri bst rea rvl pad itm akf akg gt Y w) (hx : x ∈ Y) : x ∈ w := by
  obtain ⟨lc, bc, ql, ln, rv, rm, bn, bd, pr, ic, fl, qu, rc, gp, bs, bv, cf, wt, ho, hF, e0, k0, m0, e1, k1, m1, e2, k2, m2, la, ra, ba, wo, we, wk, wm, ia, r0, r1, r2, r3, hc⟩ := hC
  refine hc.mem_iff.mpr ?_
  unfold CW
  simp only [List.mem_append]
  simp only [hx, or_true]
theorem cf_z (hC : CF G z f h ol ob sc wc tk lo bi ru fib gra res lst byr rf ro rs bid pri bst rea rvl pad itm akf akg gt Y w) : ∃ fs, (z 0, .inr (9, fs)) ∈ w := by
  obtain ⟨lc, bc, ql, ln, rv, rm, bn, bd, pr, ic, fl, qu, rc, gp, bs, bv, cf, wt, ho, hF, e0, k0, m0, e1, k1, m1, e2, k2, m2, la, ra, ba, wo, we, wk, wm, ia, r0, r1, r2, r3, hc⟩ := hC
  exact ⟨_, hc.mem_iff.mpr List.mem_cons_self⟩
end LCF
theorem cia_of {lo bi ru ol ob : Nat} {fib gra res buy lst bst rea bid pri itm akf akg got : Nat → Nat} {pai : Nat → Int} {riv rf ro rs : Nat → Nat} {reaC : Nat → Nat} (hM : MIa lo bi ru ol ob fib gra res buy lst bst rea bid pri itm akf akg got pai riv rf ro rs) (hr : ∀ k, reaC k < 65536) : CIa lo bi ru ol ob fib gra res lst bst reaC bid pri itm akf akg rf ro rs := by
  obtain ⟨hlo, hbi, hru, hol, hob, hfib, hgra, hres, hbuy, hlst, hbst, hrea, hbid, hpri, hitm, hakf, hakg, hgot, hriv, hrf, hro, hrs, hpai, hcl, hcb⟩ := hM
  exact ⟨hlo, hbi, hru, hol, hob, hfib, hgra, hres, hlst, hbst, hr, hbid, hpri, hitm, hakf, hakg, hrf, hro, hrs, hcl, hcb⟩
theorem z_ex (x : Int32) : ∃ v : Int, iR v ∧ x = zI v := ⟨x.toInt, ⟨x.le_toInt, x.toInt_lt⟩, by show x = Int32.ofInt x.toInt; rw [Int32.ofInt_toInt]⟩
theorem g_ex (x : Int32) : ∃ g : Nat, g < 65536 ∧ (x.toUInt32 % 65536).toInt32 = nI g := by
  refine ⟨(x.toUInt32 % 65536).toNat, ?_, ?_⟩
  · rw [UInt32.toNat_mod]
    exact Nat.mod_lt _ (by decide)
  · apply Int32.toBitVec.inj
    show (x.toUInt32 % 65536).toBitVec = BitVec.ofNat 32 (x.toUInt32 % 65536).toBitVec.toNat
    rw [BitVec.ofNat_toNat, BitVec.setWidth_eq]
section LROW
variable {p : Program} {l : Launch} {e : Env} {s : State} {m : MethodId} {args : Array Value} {below : List Frame} {meth : Method} {c : Code} {H : Heap} {locs : List Loc} {cells slots : Nat} {Q : State → Prop}
variable {ls : Array Slot} {rt : Option FieldType} {G : Gt} {A : Nat → Prop} {w : va_W} {b L i o1 o2 : Nat} {xs : Nat → Int32} {z f h a : Nat → Nat} {fl : Nat → Int64} {fd : Nat → UInt64} {k : Nat}

theorem lv_lcmpE {cc : ByteArray} {R : Room} {pc : Nat} {rest : List Value} (hexec : p.tables.exec = Jvm.exec) (hb : c.code = cc) {x y : Int64} (hxy : x = y) (hdg : decode cc pc = .ok (.lcmp, 1)) (k : W p l e R s m args below meth c H locs cells slots Q (F0 m (pc + 1) ls (.int 0 :: rest))) : W p l e R s m args below meth c H locs cells slots Q (F0 m pc ls (.long y :: .long x :: rest)) := by
  subst hxy
  intro T hT X
  obtain ⟨t, a, b⟩ := k T hT X
  refine ⟨t, ?_, b⟩
  jvm_step X.here [X.here.top, hexec, hb, hdg, Int64.lt_irrefl]
  exact a
theorem run_SW (X : Cx p s m args meth c cL_law 9 RL rt G A) (hW : Wd G A s w H locs) {y : MethodName} {b9 : ByteArray} {pc n k : Nat} {hh : List (Nat × Nat × Nat × Nat)} {rm : Room} {As rest : List Value} {idx : Nat} {Qc : Array Value → State → Outcome → State → Prop} {st0 : List Value} (M : Met l y (Cond.codeWith y b9 n (some .int) hh :: WW) rm (Pre0 G As w H.size) Qc rm.cells rm.slots (va_A w H.size)) (g1 : Cond.methodLink RL idx y ∈ WW) (g2 : Cond.static y ∈ WW) (g3 : Cond.codeWith y b9 n (some .int) hh ∈ WW) (hcls : y.cls = RL) (hy : ynm y k) (hk : As.length = k) (hst : st0 = As.reverse ++ rest) (hsz : ls.size = 9) (hsum : (rest.map fun v => v.category).sum ≤ 8) (hR : rm.frames + 1 ≤ room_1.frames ∧ 8 + (n + 11) + rm.locals ≤ room_1.locals) (hf : cells + rm.cells ≤ 603072 ∧ slots + rm.slots ≤ 7215210) (hdg : decode cL_law pc = .ok (.invokestatic idx, 3)) :
    va_Run p l e room_1 s m args below meth c H locs cells slots rm.cells rm.slots (F0 m pc ls st0) rest (Qc As.toArray) (va_A w H.size) :=
  vx_runSW (As := As) (rest := rest) ⟨X.exec, X.bytes, X.ml, X.own, X.ws⟩ M (vx_cwSW k X.ws (gi_cons g1 (gi_cons g2 (gi_cons (by rw [hcls]; exact wq_60) (gi_cons g3 gi_self)))) rfl rfl rfl hy hR) ⟨pre0_blind, pre_of X hW⟩ rfl hk hsz hst (lv_room hsum) hdg hf
/-- one word of the script -/
theorem law_arg (X : Cx p s m args meth c cL_law 9 RL rt G A) (hX : va_X b L xs s s.heap) (hbl : b < s.heap.size) (hbA : ¬ A b) (hW : Wd G A s w H locs) {pc : Nat} {rest : List Value} (h0 : ls[0]? = some (.val (.ref b))) (h5 : ls[5]? = some (.val (.int (nI i)))) (k : Nat) (hk : k ≤ 3) (hi : i + 4 ≤ L) (hL : L ≤ 2048) {v : Int32} (hv : xs (i + k) = v) {kk : Int} (hkk : kk = (k : Int)) (d0 : decode cL_law pc = .ok (.aload_n 0, 1)) (d1 : decode cL_law (pc + 1) = .ok (.iload 5, 2)) (d3 : decode cL_law (pc + 3) = .ok (.iconst kk, 1)) (d4 : decode cL_law (pc + 4) = .ok (.iadd, 1)) (d5 : decode cL_law (pc + 5) = .ok (.iaload, 1))
    (kc : W p l e room_1 s m args below meth c H locs cells slots Q (F0 m (pc + 6) ls (.int v :: rest))) : W p l e room_1 s m args below meth c H locs cells slots Q (F0 m pc ls rest) := by
  have hx := X.exec
  have hb := X.bytes
  refine lv_aload_n hx hb d0 rfl h0 ?_
  refine lv_iload hx hb d1 h5 ?_
  refine lv_iconst (v := nI k) hx hb d3 (by rw [hkk]; rfl) ?_
  refine n_iadd hx hb d4 ?_
  have hc : (nI (i + k)).toNatClampNeg = i + k := nI_clamp (by omega)
  refine va_sld hx hb hX hbl hbA hW.2.2 (i := nI (i + k)) (fun q => ?_) d5 ?_
  · rcases q with q | q
    · exact absurd q (nI_pos (by omega))
    · rw [hc] at q; omega
  · rw [hc, hv]
    exact kc
abbrev LV6 (b z0 a0 o1 o2 i : Nat) : List (Nat × Value) := [(0, .ref b), (1, .ref z0), (2, .ref a0), (3, .ref o1), (4, .ref o2), (5, .int (nI i))]
theorem has_drop {nL : Nat} {q : Nat × Value} {lv : List (Nat × Value)} (hl : lv_has ls nL (q :: lv)) : lv_has ls nL lv := ⟨hl.1, hl.2.1, fun x hx => hl.2.2 x (List.mem_cons_of_mem _ hx)⟩
/-- 'thrown' is asked -/
theorem law_thrown (X : Cx p s m args meth c cL_law 9 RL rt G A) (hJ : LJ G z f h a o1 o2 k fl fd w) (hW : Wd G A s w H locs) (hsz : ls.size = 9) (h2 : ls[2]? = some (.val (.ref (a 0)))) (hcl : cells + 0 ≤ 603072 ∧ slots + 0 ≤ 7215210) {t : Nat} (d0 : decode cL_law t = .ok (.aload_n 2, 1)) (d1 : decode cL_law (t + 1) = .ok (.invokevirtual 139, 3))
    (kk : ∀ (w : va_W) (H1 : Heap) (locs1 : List Loc), LJ G z f h a o1 o2 k fl fd w → outL G o1 fl ∈ w → outD G o2 fd ∈ w → Wd G A s w H1 locs1 → W p l e room_1 s m args below meth c H1 locs1 cells slots Q (F0 m (t + 4) ls [.int (nI k)])) : W p l e room_1 s m args below meth c H locs cells slots Q (F0 m t ls []) := by
  have hx := X.exec
  have hb := X.bytes
  obtain ⟨lo, bi, ru, ol, ob, tk, fib, gra, res, buy, lst, bst, rea, bid, pri, itm, akf, akg, got, pai, riv, rf, ro, rs, lat, bat, val, cos, row, ahe, wan, giv, sc, wc, byr, reaC, rvl, pad, gt, X2, j1, j2, j3, j4, j5⟩ := hJ
  have hW := hW.perm j5
  refine lv_aload_n hx hb d0 rfl h2 ?_
  refine go_i X hW (rest := []) (run_V X hW (As := []) (rest := []) 10 0 rfl (c_X7_thrown l G a k lo bi ru ol ob tk fib gra res buy lst bst rea bid pri itm akf akg got pai riv rf ro rs lat bat val cos row ahe wan giv X2 H.size) (gi_V wq_1181 wq_1182 wq_1183 wq_67 wq_1184) rfl hyX7_thrown rfl rfl rfl hsz (Nat.le_of_ble_eq_true rfl) ⟨Nat.le_of_ble_eq_true rfl, Nat.le_of_ble_eq_true rfl⟩ hcl d1) (fun r w2 H1 locs1 hp hW => ?_)
  obtain ⟨e1, e2⟩ := hp
  subst e1
  subst e2
  exact kk _ H1 locs1 ⟨lo, bi, ru, ol, ob, tk, fib, gra, res, buy, lst, bst, rea, bid, pri, itm, akf, akg, got, pai, riv, rf, ro, rs, lat, bat, val, cos, row, ahe, wan, giv, sc, wc, byr, reaC, rvl, pad, gt, X2, j1, j2, j3, j4, List.Perm.refl _⟩ (List.mem_append_right _ (cf_mem j4 List.mem_cons_self)) (List.mem_append_right _ (cf_mem j4 (List.mem_cons_of_mem _ List.mem_cons_self))) hW
theorem x_lald (X : Cx p s m args meth c cL_law 9 RL rt G A) (hW : Wd G A s w H locs) {pc : Nat} {rest : List Value} (hm : outL G o1 fl ∈ w) (hdg : decode cL_law pc = .ok (.laload, 1)) (kk : W p l e room_1 s m args below meth c H locs cells slots Q (F0 m (pc + 1) ls (.long (fl 0) :: rest))) : W p l e room_1 s m args below meth c H locs cells slots Q (F0 m pc ls (.int (nI 0) :: .ref o1 :: rest)) := by
  obtain ⟨q0, hq⟩ := List.mem_iff_getElem?.mp hm
  exact va_lald X.exec X.bytes X.K hW.1 q0 4 hq rfl (by unfold vp_in; decide) hdg kk
theorem x_dald (X : Cx p s m args meth c cL_law 9 RL rt G A) (hW : Wd G A s w H locs) {pc : Nat} {rest : List Value} (hm : outD G o2 fd ∈ w) (hdg : decode cL_law pc = .ok (.daload, 1)) (kk : W p l e room_1 s m args below meth c H locs cells slots Q (F0 m (pc + 1) ls (.double (fd 0) :: rest))) : W p l e room_1 s m args below meth c H locs cells slots Q (F0 m pc ls (.int (nI 0) :: .ref o2 :: rest)) := by
  obtain ⟨q0, hq⟩ := List.mem_iff_getElem?.mp hm
  exact va_dald X.exec X.bytes X.K hW.1 q0 5 hq rfl (by unfold vp_in; decide) hdg kk
/-- the end of a case of ints -/
theorem law_tailI (X : Cx p s m args meth c cL_law 9 RL rt G A) (hJ : LJ G z f h a o1 o2 k fl fd w) (hW : Wd G A s w H locs) {r6 r7 : Int32} (hl : lv_has ls 9 ((7, .int r7) :: (6, .int r6) :: LV6 b (z 0) (a 0) o1 o2 i)) (h6 : r6 = nI k) (h7 : r6 = 0 → fl 0 = r7.toInt64) (hcl : cells + 0 ≤ 603072 ∧ slots + 0 ≤ 7215210) {off : Int} (t : Nat) (d0 : decode cL_law t = .ok (.aload_n 2, 1)) (d1 : decode cL_law (t + 1) = .ok (.invokevirtual 139, 3)) (d4 : decode cL_law (t + 4) = .ok (.iload 6, 2)) (d6 : decode cL_law (t + 6) = .ok (.if_icmp .eq 5, 3)) (d11 : decode cL_law (t + 11) = .ok (.iload 6, 2)) (d13 : decode cL_law (t + 13) = .ok (.ifCond .ne 15, 3)) (d16 : decode cL_law (t + 16) = .ok (.aload_n 3, 1)) (d17 : decode cL_law (t + 17) = .ok (.iconst 0, 1)) (d18 : decode cL_law (t + 18) = .ok (.laload, 1)) (d19 : decode cL_law (t + 19) = .ok (.iload 7, 2)) (d21 : decode cL_law (t + 21) = .ok (.i2l, 1)) (d22 : decode cL_law (t + 22) = .ok (.lcmp, 1)) (d23 : decode cL_law (t + 23) = .ok (.ifCond .eq 5, 3)) (d28 : decode cL_law (t + 28) = .ok (.goto off, 3)) (hoff : ((t + 28 : Nat) : Int) + off = 2290)
    (kk : ∀ (w : va_W) (H1 : Heap) (locs1 : List Loc), LI G z f h a o1 o2 w → Wd G A s w H1 locs1 → lv_has ls 9 (LV6 b (z 0) (a 0) o1 o2 i) → W p l e room_1 s m args below meth c H1 locs1 cells slots Q (F0 m 2290 ls [])) : W p l e room_1 s m args below meth c H locs cells slots Q (F0 m t ls []) := by
  have hx := X.exec
  have hb := X.bytes
  refine law_thrown X hJ hW hl.1 (lv_at hl 4 rfl) hcl d0 d1 (fun w H1 locs1 hJ hm1 hm2 hW => ?_)
  have hend : W p l e room_1 s m args below meth c H1 locs1 cells slots Q (F0 m (t + 28) ls []) := lv_goto (tgt := 2290) hx hb d28 hoff (kk w H1 locs1 ⟨k, fl, fd, hJ⟩ hW (has_drop (has_drop hl)))
  refine lv_iload hx hb d4 (lv_at hl 1 rfl) ?_
  refine lv_icmp_eq (tgt := t + 11) hx hb d6 (by omega) (fun _ => ?_) (fun q => absurd h6.symm q)
  refine lv_iload hx hb d11 (lv_at hl 1 rfl) ?_
  refine lv_if_ne (tgt := t + 28) hx hb d13 (by omega) (fun _ => hend) (fun q => ?_)
  refine lv_aload_n hx hb d16 rfl (lv_at hl 5 rfl) ?_
  refine lv_iconst (v := nI 0) hx hb d17 (by decide) ?_
  refine x_lald X hW hm1 d18 ?_
  refine lv_iload hx hb d19 (lv_at hl 0 rfl) ?_
  refine lv_i2l (v := r7.toInt64) hx hb d21 rfl ?_
  refine lv_lcmpE hx hb (h7 q) d22 ?_
  exact lv_if_eq (tgt := t + 28) hx hb d23 (by omega) (fun _ => hend) (fun q => absurd rfl q)
/-- the end of a case of booleans -/
theorem law_tailB (X : Cx p s m args meth c cL_law 9 RL rt G A) (hJ : LJ G z f h a o1 o2 k fl fd w) (hW : Wd G A s w H locs) {r6 r7 : Int32} (hl : lv_has ls 9 ((7, .int r7) :: (6, .int r6) :: LV6 b (z 0) (a 0) o1 o2 i)) (h6 : r6 = nI k) (h7 : r6 = 0 → fl 0 = if r7 = 0 then 0 else 1) (hcl : cells + 0 ≤ 603072 ∧ slots + 0 ≤ 7215210) {off : Int} (t : Nat) (d0 : decode cL_law t = .ok (.aload_n 2, 1)) (d1 : decode cL_law (t + 1) = .ok (.invokevirtual 139, 3)) (d4 : decode cL_law (t + 4) = .ok (.iload 6, 2)) (d6 : decode cL_law (t + 6) = .ok (.if_icmp .eq 5, 3)) (d11 : decode cL_law (t + 11) = .ok (.iload 6, 2)) (d13 : decode cL_law (t + 13) = .ok (.ifCond .ne 22, 3)) (d16 : decode cL_law (t + 16) = .ok (.aload_n 3, 1)) (d17 : decode cL_law (t + 17) = .ok (.iconst 0, 1)) (d18 : decode cL_law (t + 18) = .ok (.laload, 1)) (d19 : decode cL_law (t + 19) = .ok (.iload 7, 2)) (d21 : decode cL_law (t + 21) = .ok (.ifCond .eq 7, 3)) (d24 : decode cL_law (t + 24) = .ok (.lconst 1, 1)) (d25 : decode cL_law (t + 25) = .ok (.goto 4, 3)) (d28 : decode cL_law (t + 28) = .ok (.lconst 0, 1)) (d29 : decode cL_law (t + 29) = .ok (.lcmp, 1)) (d30 : decode cL_law (t + 30) = .ok (.ifCond .eq 5, 3)) (d35 : decode cL_law (t + 35) = .ok (.goto off, 3)) (hoff : ((t + 35 : Nat) : Int) + off = 2290)
    (kk : ∀ (w : va_W) (H1 : Heap) (locs1 : List Loc), LI G z f h a o1 o2 w → Wd G A s w H1 locs1 → lv_has ls 9 (LV6 b (z 0) (a 0) o1 o2 i) → W p l e room_1 s m args below meth c H1 locs1 cells slots Q (F0 m 2290 ls [])) : W p l e room_1 s m args below meth c H locs cells slots Q (F0 m t ls []) := by
  have hx := X.exec
  have hb := X.bytes
  refine law_thrown X hJ hW hl.1 (lv_at hl 4 rfl) hcl d0 d1 (fun w H1 locs1 hJ hm1 hm2 hW => ?_)
  have hend : W p l e room_1 s m args below meth c H1 locs1 cells slots Q (F0 m (t + 35) ls []) := lv_goto (tgt := 2290) hx hb d35 hoff (kk w H1 locs1 ⟨k, fl, fd, hJ⟩ hW (has_drop (has_drop hl)))
  refine lv_iload hx hb d4 (lv_at hl 1 rfl) ?_
  refine lv_icmp_eq (tgt := t + 11) hx hb d6 (by omega) (fun _ => ?_) (fun q => absurd h6.symm q)
  refine lv_iload hx hb d11 (lv_at hl 1 rfl) ?_
  refine lv_if_ne (tgt := t + 35) hx hb d13 (by omega) (fun _ => hend) (fun q => ?_)
  refine lv_aload_n hx hb d16 rfl (lv_at hl 5 rfl) ?_
  refine lv_iconst (v := nI 0) hx hb d17 (by decide) ?_
  refine x_lald X hW hm1 d18 ?_
  refine lv_iload hx hb d19 (lv_at hl 0 rfl) ?_
  have h8 := h7 q
  refine lv_if_eq (tgt := t + 28) hx hb d21 (by omega) (fun q2 => ?_) (fun q2 => ?_)
  · refine lv_lconst (v := 0) hx hb d28 rfl ?_
    refine lv_lcmpE hx hb (by rw [h8, if_pos q2]) d29 ?_
    exact lv_if_eq (tgt := t + 35) hx hb d30 (by omega) (fun _ => hend) (fun q => absurd rfl q)
  · refine lv_lconst (v := 1) hx hb d24 rfl ?_
    refine lv_goto (tgt := t + 29) hx hb d25 (by omega) ?_
    refine lv_lcmpE hx hb (by rw [h8, if_neg q2]) d29 ?_
    exact lv_if_eq (tgt := t + 35) hx hb d30 (by omega) (fun _ => hend) (fun q => absurd rfl q)
end LROW
