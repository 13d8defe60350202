abbrev Qf (G : Gt) (A : Nat → Prop) (post : UInt32 → va_W → Prop) := va_Qf post (B0 G A) A
def Cf (l : Launch) (G : Gt) (y : MethodName) (ws : List Cond) (rm : Room) (av : List Value) (w : va_W) (post : UInt32 → va_W → Prop) : Prop := ∀ sz, Met l y ws rm (Pre0 G av w sz) (Qf G (va_A w sz) post) rm.cells rm.slots (va_A w sz)
theorem Cf.intro {l : Launch} {G : Gt} {y : MethodName} {cc : ByteArray} {nL : Nat} {ret : Option FieldType} {rm : Room} {av : List Value} {w : va_W} {post : UInt32 → va_W → Prop} (hy : plainName y.cls = true) (hn : (lg_sl av).length ≤ nL)
    (body : ∀ (p : Program) (e : Env) (s : State) (m : MethodId) (args : Array Value) (below : List Frame) (meth : Method) (c : Code) (A : Nat → Prop), Cx p s m args meth c cc nL y.cls ret G A → Wd G A s w s.heap [] → ∀ ls : Array Slot, lv_has ls nL (lv_args 0 av) → W p l e rm s m args below meth c s.heap [] 0 0 (MQ below (Qf G A post) args s rm.cells rm.slots A) (F0 m 0 ls [])) : Cf l G y (ww y cc nL ret) rm av w post := by
  intro sz
  refine Met.ofW (cc := cc) (maxL := nL) (ret := ret) hy rfl ?_
  intro p e s m args below meth c s₁ B hml hv
  obtain ⟨ha, X, hW⟩ := cx_of B hml hv
  subst ha
  rw [lg_entry_eq]
  exact body p e s m _ below meth c _ X hW _ (lv_entry av hn)
section XFf
variable {p : Program} {l : Launch} {e : Env} {R : Room} {s : State} {m : MethodId} {args : Array Value} {below : List Frame} {meth : Method} {c : Code} {H : Heap} {locs : List Loc} {cells slots : Nat} {Q : State → Prop}
variable {cc : ByteArray} {nL pc : Nat} {ls : Array Slot} {rest : List Value} {own : String} {rt : Option FieldType} {G : Gt} {A : Nat → Prop} {w : va_W}
theorem ret_f (X : Cx p s m args meth c cc nL own rt G A) (hW : Wd G A s w H locs) {v : UInt32} {post : UInt32 → va_W → Prop} {mc ms : Nat} (hp : post v w) (hr : rt = some .float) (hc : cells ≤ mc) (hs : slots ≤ ms) (hdg : decode cc pc = .ok (.freturn, 1)) : W p l e R s m args below meth c H locs cells slots (MQ below (Qf G A post) args s mc ms A) (F0 m pc ls [.float v]) :=
  W.widen hc hs (W.fret X.exec X.bytes (by rw [X.ret, hr]) (fun t ht _ => ⟨⟨v, w, rfl, hp, by rw [ht]; exact hW.1, hW.2.1⟩, hW.2.2.F ht⟩) hW.2.2.2.2 hdg X.locks)
theorem go_f (X : Cx p s m args meth c cc nL own rt G A) (hW : Wd G A s w H locs) {post : UInt32 → va_W → Prop} {a : Array Value} {st0 : List Value} {mc ms : Nat} (hr : va_Run p l e R s m args below meth c H locs cells slots mc ms (F0 m pc ls st0) rest (Qf G (va_A w H.size) post a) (va_A w H.size)) (kk : ∀ (r : UInt32) (w2 : va_W) (H1 : Heap) (locs1 : List Loc), post r w2 → Wd G A s w2 H1 locs1 → W p l e R s m args below meth c H1 locs1 (cells + mc) (slots + ms) Q (F0 m (pc + 3) ls (.float r :: rest))) : W p l e R s m args below meth c H locs cells slots Q (F0 m pc ls st0) :=
  va_callf hr hW.2.2 (fun q _ h => X.free hW q h) (X.free hW) (fun r w2 t H1 locs1 ht _ hp hB _ _ hS => kk r w2 H1 locs1 hp ⟨by rw [← ht]; exact hB.1, hB.2.weaken (fun _ _ _ h => X.free hW _ h), hS⟩)
end XFf
abbrev Qd (G : Gt) (A : Nat → Prop) (post : UInt64 → va_W → Prop) := va_Qd post (B0 G A) A
def Cd (l : Launch) (G : Gt) (y : MethodName) (ws : List Cond) (rm : Room) (av : List Value) (w : va_W) (post : UInt64 → va_W → Prop) : Prop := ∀ sz, Met l y ws rm (Pre0 G av w sz) (Qd G (va_A w sz) post) rm.cells rm.slots (va_A w sz)
theorem Cd.intro {l : Launch} {G : Gt} {y : MethodName} {cc : ByteArray} {nL : Nat} {ret : Option FieldType} {rm : Room} {av : List Value} {w : va_W} {post : UInt64 → va_W → Prop} (hy : plainName y.cls = true) (hn : (lg_sl av).length ≤ nL)
    (body : ∀ (p : Program) (e : Env) (s : State) (m : MethodId) (args : Array Value) (below : List Frame) (meth : Method) (c : Code) (A : Nat → Prop), Cx p s m args meth c cc nL y.cls ret G A → Wd G A s w s.heap [] → ∀ ls : Array Slot, lv_has ls nL (lv_args 0 av) → W p l e rm s m args below meth c s.heap [] 0 0 (MQ below (Qd G A post) args s rm.cells rm.slots A) (F0 m 0 ls [])) : Cd l G y (ww y cc nL ret) rm av w post := by
  intro sz
  refine Met.ofW (cc := cc) (maxL := nL) (ret := ret) hy rfl ?_
  intro p e s m args below meth c s₁ B hml hv
  obtain ⟨ha, X, hW⟩ := cx_of B hml hv
  subst ha
  rw [lg_entry_eq]
  exact body p e s m _ below meth c _ X hW _ (lv_entry av hn)
section XFd
variable {p : Program} {l : Launch} {e : Env} {R : Room} {s : State} {m : MethodId} {args : Array Value} {below : List Frame} {meth : Method} {c : Code} {H : Heap} {locs : List Loc} {cells slots : Nat} {Q : State → Prop}
variable {cc : ByteArray} {nL pc : Nat} {ls : Array Slot} {rest : List Value} {own : String} {rt : Option FieldType} {G : Gt} {A : Nat → Prop} {w : va_W}
theorem ret_d (X : Cx p s m args meth c cc nL own rt G A) (hW : Wd G A s w H locs) {v : UInt64} {post : UInt64 → va_W → Prop} {mc ms : Nat} (hp : post v w) (hr : rt = some .double) (hc : cells ≤ mc) (hs : slots ≤ ms) (hdg : decode cc pc = .ok (.dreturn, 1)) : W p l e R s m args below meth c H locs cells slots (MQ below (Qd G A post) args s mc ms A) (F0 m pc ls [.double v]) :=
  W.widen hc hs (W.dret X.exec X.bytes (by rw [X.ret, hr]) (fun t ht _ => ⟨⟨v, w, rfl, hp, by rw [ht]; exact hW.1, hW.2.1⟩, hW.2.2.F ht⟩) hW.2.2.2.2 hdg X.locks)
theorem go_d (X : Cx p s m args meth c cc nL own rt G A) (hW : Wd G A s w H locs) {post : UInt64 → va_W → Prop} {a : Array Value} {st0 : List Value} {mc ms : Nat} (hr : va_Run p l e R s m args below meth c H locs cells slots mc ms (F0 m pc ls st0) rest (Qd G (va_A w H.size) post a) (va_A w H.size)) (kk : ∀ (r : UInt64) (w2 : va_W) (H1 : Heap) (locs1 : List Loc), post r w2 → Wd G A s w2 H1 locs1 → W p l e R s m args below meth c H1 locs1 (cells + mc) (slots + ms) Q (F0 m (pc + 3) ls (.double r :: rest))) : W p l e R s m args below meth c H locs cells slots Q (F0 m pc ls st0) :=
  va_calld hr hW.2.2 (fun q _ h => X.free hW q h) (X.free hW) (fun r w2 t H1 locs1 ht _ hp hB _ _ hS => kk r w2 H1 locs1 hp ⟨by rw [← ht]; exact hB.1, hB.2.weaken (fun _ _ _ h => X.free hW _ h), hS⟩)
end XFd
theorem fdiv_nI {x y : Nat} (hy : 0 < y) (h : y < 2 ^ 31) : vf_n32 (FP.fdiv (FP.i2f (nI x)) (FP.i2f (nI y))) :=
  Jvm.Free.Fl.fdiv_out (UInt32.le_of_lt (Jvm.Free.Fl.i2f_fin (nI x))) (Jvm.Free.Fl.i2f_fin _) (Jvm.Free.Fl.i2f_nz (nI_ne0 hy h))
theorem ddiv_lZ {x : Int} {y : Nat} (hy : 0 < y) (h : y < 2 ^ 31) : vf_n64 (FP.ddiv (FP.l2d (lZ x)) (FP.i2d (nI y))) :=
  Jvm.Free.Fl.ddiv_out (UInt64.le_of_lt (Jvm.Free.Fl.l2d_fin (lZ x))) (Jvm.Free.Fl.i2d_fin _) (Jvm.Free.Fl.i2d_nz (nI_ne0 hy h))
abbrev isV (st : Nat → Nat) (v : Nat) : Nat → Bool := fun k => decide (st k = v)
set_option maxRecDepth 100000 in
set_option maxHeartbeats 4000000 in
theorem c_X7_soldShare (l : Launch) (G : Gt) (a : Nat → Nat) (th lo bi ru ol ob : Nat) (tk : Int) (fib gra res buy lst bst rea bid pri itm akf akg got : Nat → Nat) (pai : Nat → Int) (riv rf ro rs lat bat : Nat → Nat) (val : Nat → Int) (cos row ahe wan giv : Nat → Nat) (Y : va_W) (hI : MIa lo bi ru ol ob fib gra res buy lst bst rea bid pri itm akf akg got pai riv rf ro rs) : Cf l G yX7_soldShare (ww yX7_soldShare cX7_soldShare 3 (some FieldType.float)) (RM 0 0 0) [.ref (a 0)] (mW G a th lo bi ru ol ob tk fib gra res buy lst bst rea bid pri itm akf akg got pai riv rf ro rs lat bat val cos row ahe wan giv ++ Y) (fun r w2 => (lo = 0 ∧ w2 = (mW G a 1 lo bi ru ol ob tk fib gra res buy lst bst rea bid pri itm akf akg got pai riv rf ro rs lat bat val cos row ahe wan giv ++ Y)) ∨ (lo ≠ 0 ∧ r = (FP.fdiv (FP.i2f (nI (cntB (isV lst 115) lo))) (FP.i2f (nI lo))) ∧ w2 = (mW G a 0 lo bi ru ol ob tk fib gra res buy lst bst rea bid pri itm akf akg got pai riv rf ro rs lat bat val cos row ahe wan giv ++ Y))) := by
  refine Cf.intro (by decide) (Nat.le_of_ble_eq_true rfl) ?_
  intro p e s m args below meth c A X hW ls hl
  have hx := X.exec
  have hb := X.bytes
  have hl : lv_has ls 3 [(0, .ref (a 0))] := hl
  obtain ⟨hlo, hbi, hru, hol, hob, hfib, hgra, hres, hbuy, hlst, hbst, hrea, hbid, hpri, hitm, hakf, hakg, hgot, hriv, hrf, hro, hrs, hpai, hcl, hcb⟩ := id hI
  refine lv_aload_n hx hb dX7_soldShare_0 rfl (lv_at hl 0 rfl) ?_
  refine lv_aload_n hx hb dX7_soldShare_1 rfl (lv_at hl 0 rfl) ?_
  refine x_get X hW 0 rfl 1 rfl rfl iwX7 (by decide) wq_1081 rfl dX7_soldShare_2 ?_
  refine n_if_ne hx hb rfl (by omega) (tgt := 12) dX7_soldShare_5 (by decide) (fun c_5 => ?_) (fun c_5 => ?_)
  · refine lv_iconst (v := nI 0) hx hb dX7_soldShare_12 (by decide) ?_
    refine x_put X hW 0 rfl 0 (w2 := (mW G a 0 lo bi ru ol ob tk fib gra res buy lst bst rea bid pri itm akf akg got pai riv rf ro rs lat bat val cos row ahe wan giv ++ Y)) rfl rfl iwX7 tyX7_ok nmX7 (by decide) wq_1080 rfl rfl rfl rfl (Nat.le_of_ble_eq_true rfl) dX7_soldShare_13 (fun H locs hW => ?_)
    refine lv_aload_n hx hb dX7_soldShare_16 rfl (lv_at hl 0 rfl) ?_
    refine x_get X hW 0 rfl 1 rfl rfl iwX7 (by decide) wq_1081 rfl dX7_soldShare_17 ?_
    refine n_if_ne hx hb rfl (by omega) (tgt := 25) dX7_soldShare_20 (by decide) (fun c_20 => ?_) (fun c_20 => absurd c_20 (by omega))
    refine lv_iconst (v := nI 0) hx hb dX7_soldShare_25 (by decide) ?_
    refine lv_istore_n (lv' := [(1, .int (nI 0)), (0, .ref (a 0))]) hx hb dX7_soldShare_26 rfl hl (by decide) rfl (fun ls hl => ?_)
    refine lv_iconst (v := nI 0) hx hb dX7_soldShare_27 (by decide) ?_
    refine lv_istore_n (lv' := [(2, .int (nI 0)), (1, .int (nI 0)), (0, .ref (a 0))]) hx hb dX7_soldShare_28 rfl hl (by decide) rfl (fun ls hl => ?_)
    have loop : ∀ (n : Nat) (k : Nat), lo + 1 ≤ k + n → k ≤ lo → ∀ (H : Heap) (locs : List Loc) (ls : Array Slot), Wd G A s (mW G a 0 lo bi ru ol ob tk fib gra res buy lst bst rea bid pri itm akf akg got pai riv rf ro rs lat bat val cos row ahe wan giv ++ Y) H locs → lv_has ls 3 [(0, .ref (a 0)), (1, .int (nI (cntB (isV lst 115) k))), (2, .int (nI k))] → W p l e (RM 0 0 0) s m args below meth c H locs 0 0 (MQ below (Qf G A (fun r w2 => (lo = 0 ∧ w2 = (mW G a 1 lo bi ru ol ob tk fib gra res buy lst bst rea bid pri itm akf akg got pai riv rf ro rs lat bat val cos row ahe wan giv ++ Y)) ∨ (lo ≠ 0 ∧ r = (FP.fdiv (FP.i2f (nI (cntB (isV lst 115) lo))) (FP.i2f (nI lo))) ∧ w2 = (mW G a 0 lo bi ru ol ob tk fib gra res buy lst bst rea bid pri itm akf akg got pai riv rf ro rs lat bat val cos row ahe wan giv ++ Y)))) args s (RM 0 0 0).cells (RM 0 0 0).slots A) (F0 m 29 ls []) := by
      intro n
      induction n with
      | zero => intro k h1 h2; exact absurd h1 (by omega)
      | succ n ih =>
        intro k h1 h2 H locs ls hW hl
        have hcl := cntB_le (isV lst 115) k
        refine lv_iload_n hx hb dX7_soldShare_29 rfl (lv_at hl 2 rfl) ?_
        refine lv_aload_n hx hb dX7_soldShare_30 rfl (lv_at hl 0 rfl) ?_
        refine x_get X hW 0 rfl 1 rfl rfl iwX7 (by decide) wq_1081 rfl dX7_soldShare_31 ?_
        refine n_icmp_ge hx hb rfl rfl (by omega) (by omega) (tgt := 57) dX7_soldShare_34 (by decide) (fun c_34 => ?_) (fun c_34 => ?_)
        · refine lv_iload_n hx hb dX7_soldShare_57 rfl (lv_at hl 1 rfl) ?_
          refine lv_i2f hx hb dX7_soldShare_58 ?_
          refine lv_aload_n hx hb dX7_soldShare_59 rfl (lv_at hl 0 rfl) ?_
          refine x_get X hW 0 rfl 1 rfl rfl iwX7 (by decide) wq_1081 rfl dX7_soldShare_60 ?_
          refine lv_i2f hx hb dX7_soldShare_63 ?_
          refine lv_fdiv hx hb dX7_soldShare_64 (fdiv_nI (by omega) (by omega)) ?_
          have hk : k = lo := by omega
          exact ret_f X hW (v := (FP.fdiv (FP.i2f (nI (cntB (isV lst 115) k))) (FP.i2f (nI lo)))) (Or.inr ⟨by omega, by rw [hk], rfl⟩) rfl (by decide) (by decide) dX7_soldShare_65
        · refine lv_aload_n hx hb dX7_soldShare_37 rfl (lv_at hl 0 rfl) ?_
          refine x_get X hW 0 rfl 11 rfl rfl iwX7 (by decide) wq_1091 rfl dX7_soldShare_38 ?_
          refine lv_iload_n hx hb dX7_soldShare_41 rfl (lv_at hl 2 rfl) ?_
          refine n_cald X hW (n := 40) (f := lst) 5 rfl (by omega) (by decide) dX7_soldShare_42 ?_
          refine lv_bipush (v := nI 115) hx hb dX7_soldShare_43 (by decide) ?_
          refine n_icmp_ne hx hb rfl rfl (by have := hlst k; omega) (by omega) (tgt := 51) dX7_soldShare_45 (by decide) (fun c_45 => ?_) (fun c_45 => ?_)
          · refine lv_iinc (v := (nI (k + 1))) (lv' := [(2, .int (nI (k + 1))), (0, .ref (a 0)), (1, .int (nI (cntB (isV lst 115) k)))]) hx hb dX7_soldShare_51 hl (k := 2) rfl (nI_add _ _) (by decide) rfl (fun ls hl => ?_)
            refine lv_goto (tgt := 29) hx hb dX7_soldShare_54 (by decide) ?_
            exact ih (k + 1) (by omega) (by omega) _ _ _ hW (by rw [show cntB (isV lst 115) (k + 1) = (cntB (isV lst 115) k) from bsum_f (decide_eq_false c_45)]; exact lv_sub hl [1, 2, 0] rfl)
          · refine lv_iinc (v := (nI ((cntB (isV lst 115) k) + 1))) (lv' := [(1, .int (nI ((cntB (isV lst 115) k) + 1))), (0, .ref (a 0)), (2, .int (nI k))]) hx hb dX7_soldShare_48 hl (k := 1) rfl (nI_add _ _) (by decide) rfl (fun ls hl => ?_)
            refine lv_iinc (v := (nI (k + 1))) (lv' := [(2, .int (nI (k + 1))), (1, .int (nI ((cntB (isV lst 115) k) + 1))), (0, .ref (a 0))]) hx hb dX7_soldShare_51 hl (k := 2) rfl (nI_add _ _) (by decide) rfl (fun ls hl => ?_)
            refine lv_goto (tgt := 29) hx hb dX7_soldShare_54 (by decide) ?_
            exact ih (k + 1) (by omega) (by omega) _ _ _ hW (by rw [show cntB (isV lst 115) (k + 1) = ((cntB (isV lst 115) k) + 1) from bsum_t (decide_eq_true c_45)]; exact lv_sub hl [2, 1, 0] rfl)
    exact loop (lo + 1) 0 (by omega) (by omega) _ _ _ hW (lv_sub hl [2, 1, 0] rfl)
  · refine lv_iconst (v := nI 1) hx hb dX7_soldShare_8 (by decide) ?_
    refine lv_goto (tgt := 13) hx hb dX7_soldShare_9 (by decide) ?_
    refine x_put X hW 0 rfl 0 (w2 := (mW G a 1 lo bi ru ol ob tk fib gra res buy lst bst rea bid pri itm akf akg got pai riv rf ro rs lat bat val cos row ahe wan giv ++ Y)) rfl rfl iwX7 tyX7_ok nmX7 (by decide) wq_1080 rfl rfl rfl rfl (Nat.le_of_ble_eq_true rfl) dX7_soldShare_13 (fun H locs hW => ?_)
    refine lv_aload_n hx hb dX7_soldShare_16 rfl (lv_at hl 0 rfl) ?_
    refine x_get X hW 0 rfl 1 rfl rfl iwX7 (by decide) wq_1081 rfl dX7_soldShare_17 ?_
    refine n_if_ne hx hb rfl (by omega) (tgt := 25) dX7_soldShare_20 (by decide) (fun c_20 => absurd c_20 (by omega)) (fun c_20 => ?_)
    refine lv_fconst0 hx hb dX7_soldShare_23 ?_
    exact ret_f X hW (v := FP.fconst0) (Or.inl ⟨by omega, rfl⟩) rfl (by decide) (by decide) dX7_soldShare_24

set_option maxRecDepth 100000 in
set_option maxHeartbeats 4000000 in
theorem c_X7_meanPaid (l : Launch) (G : Gt) (a : Nat → Nat) (th lo bi ru ol ob : Nat) (tk : Int) (fib gra res buy lst bst rea bid pri itm akf akg got : Nat → Nat) (pai : Nat → Int) (riv rf ro rs lat bat : Nat → Nat) (val : Nat → Int) (cos row ahe wan giv : Nat → Nat) (Y : va_W) (hI : MIa lo bi ru ol ob fib gra res buy lst bst rea bid pri itm akf akg got pai riv rf ro rs) : Cd l G yX7_meanPaid (ww yX7_meanPaid cX7_meanPaid 3 (some FieldType.double)) (RM 0 0 0) [.ref (a 0)] (mW G a th lo bi ru ol ob tk fib gra res buy lst bst rea bid pri itm akf akg got pai riv rf ro rs lat bat val cos row ahe wan giv ++ Y) (fun r w2 => ((cntB (isV bst 119) bi) = 0 ∧ w2 = (mW G a 1 lo bi ru ol ob tk fib gra res buy lst bst rea bid pri itm akf akg got pai riv rf ro rs lat bat val cos row ahe wan giv ++ Y)) ∨ ((cntB (isV bst 119) bi) ≠ 0 ∧ r = (FP.ddiv (FP.l2d (lZ tk)) (FP.i2d (nI (cntB (isV bst 119) bi)))) ∧ w2 = (mW G a 0 lo bi ru ol ob tk fib gra res buy lst bst rea bid pri itm akf akg got pai riv rf ro rs lat bat val cos row ahe wan giv ++ Y))) := by
  refine Cd.intro (by decide) (Nat.le_of_ble_eq_true rfl) ?_
  intro p e s m args below meth c A X hW ls hl
  have hx := X.exec
  have hb := X.bytes
  have hl : lv_has ls 3 [(0, .ref (a 0))] := hl
  obtain ⟨hlo, hbi, hru, hol, hob, hfib, hgra, hres, hbuy, hlst, hbst, hrea, hbid, hpri, hitm, hakf, hakg, hgot, hriv, hrf, hro, hrs, hpai, hcl, hcb⟩ := id hI
  refine lv_iconst (v := nI 0) hx hb dX7_meanPaid_0 (by decide) ?_
  refine lv_istore_n (lv' := [(1, .int (nI 0)), (0, .ref (a 0))]) hx hb dX7_meanPaid_1 rfl hl (by decide) rfl (fun ls hl => ?_)
  refine lv_iconst (v := nI 0) hx hb dX7_meanPaid_2 (by decide) ?_
  refine lv_istore_n (lv' := [(2, .int (nI 0)), (1, .int (nI 0)), (0, .ref (a 0))]) hx hb dX7_meanPaid_3 rfl hl (by decide) rfl (fun ls hl => ?_)
  have loop : ∀ (n : Nat) (k : Nat), bi + 1 ≤ k + n → k ≤ bi → ∀ (H : Heap) (locs : List Loc) (ls : Array Slot), Wd G A s (mW G a th lo bi ru ol ob tk fib gra res buy lst bst rea bid pri itm akf akg got pai riv rf ro rs lat bat val cos row ahe wan giv ++ Y) H locs → lv_has ls 3 [(0, .ref (a 0)), (1, .int (nI (cntB (isV bst 119) k))), (2, .int (nI k))] → W p l e (RM 0 0 0) s m args below meth c H locs 0 0 (MQ below (Qd G A (fun r w2 => ((cntB (isV bst 119) bi) = 0 ∧ w2 = (mW G a 1 lo bi ru ol ob tk fib gra res buy lst bst rea bid pri itm akf akg got pai riv rf ro rs lat bat val cos row ahe wan giv ++ Y)) ∨ ((cntB (isV bst 119) bi) ≠ 0 ∧ r = (FP.ddiv (FP.l2d (lZ tk)) (FP.i2d (nI (cntB (isV bst 119) bi)))) ∧ w2 = (mW G a 0 lo bi ru ol ob tk fib gra res buy lst bst rea bid pri itm akf akg got pai riv rf ro rs lat bat val cos row ahe wan giv ++ Y)))) args s (RM 0 0 0).cells (RM 0 0 0).slots A) (F0 m 4 ls []) := by
    intro n
    induction n with
    | zero => intro k h1 h2; exact absurd h1 (by omega)
    | succ n ih =>
      intro k h1 h2 H locs ls hW hl
      have hcl := cntB_le (isV bst 119) k
      refine lv_iload_n hx hb dX7_meanPaid_4 rfl (lv_at hl 2 rfl) ?_
      refine lv_aload_n hx hb dX7_meanPaid_5 rfl (lv_at hl 0 rfl) ?_
      refine x_get X hW 0 rfl 2 rfl rfl iwX7 (by decide) wq_1082 rfl dX7_meanPaid_6 ?_
      refine n_icmp_ge hx hb rfl rfl (by omega) (by omega) (tgt := 32) dX7_meanPaid_9 (by decide) (fun c_9 => ?_) (fun c_9 => ?_)
      · have hk : k = bi := by omega
        refine lv_aload_n hx hb dX7_meanPaid_32 rfl (lv_at hl 0 rfl) ?_
        refine lv_iload_n hx hb dX7_meanPaid_33 rfl (lv_at hl 1 rfl) ?_
        refine n_if_ne hx hb rfl (by omega) (tgt := 41) dX7_meanPaid_34 (by decide) (fun c_34 => ?_) (fun c_34 => ?_)
        · refine lv_iconst (v := nI 0) hx hb dX7_meanPaid_41 (by decide) ?_
          refine x_put X hW 0 rfl 0 (w2 := (mW G a 0 lo bi ru ol ob tk fib gra res buy lst bst rea bid pri itm akf akg got pai riv rf ro rs lat bat val cos row ahe wan giv ++ Y)) rfl rfl iwX7 tyX7_ok nmX7 (by decide) wq_1080 rfl rfl rfl rfl (Nat.le_of_ble_eq_true rfl) dX7_meanPaid_42 (fun H locs hW => ?_)
          refine lv_iload_n hx hb dX7_meanPaid_45 rfl (lv_at hl 1 rfl) ?_
          refine n_if_ne hx hb rfl (by omega) (tgt := 53) dX7_meanPaid_46 (by decide) (fun c_46 => ?_) (fun c_46 => absurd c_46 (by omega))
          refine lv_aload_n hx hb dX7_meanPaid_53 rfl (lv_at hl 0 rfl) ?_
          refine x_get X hW 0 rfl 6 rfl rfl iwX7 (by decide) wq_1086 rfl dX7_meanPaid_54 ?_
          refine lv_l2d hx hb dX7_meanPaid_57 ?_
          refine lv_iload_n hx hb dX7_meanPaid_58 rfl (lv_at hl 1 rfl) ?_
          refine lv_i2d hx hb dX7_meanPaid_59 ?_
          refine lv_ddiv hx hb dX7_meanPaid_60 (ddiv_lZ (by omega) (by omega)) ?_
          exact ret_d X hW (v := (FP.ddiv (FP.l2d (lZ tk)) (FP.i2d (nI (cntB (isV bst 119) k))))) (Or.inr ⟨by rw [← hk]; omega, by rw [hk], rfl⟩) rfl (by decide) (by decide) dX7_meanPaid_61
        · refine lv_iconst (v := nI 1) hx hb dX7_meanPaid_37 (by decide) ?_
          refine lv_goto (tgt := 42) hx hb dX7_meanPaid_38 (by decide) ?_
          refine x_put X hW 0 rfl 0 (w2 := (mW G a 1 lo bi ru ol ob tk fib gra res buy lst bst rea bid pri itm akf akg got pai riv rf ro rs lat bat val cos row ahe wan giv ++ Y)) rfl rfl iwX7 tyX7_ok nmX7 (by decide) wq_1080 rfl rfl rfl rfl (Nat.le_of_ble_eq_true rfl) dX7_meanPaid_42 (fun H locs hW => ?_)
          refine lv_iload_n hx hb dX7_meanPaid_45 rfl (lv_at hl 1 rfl) ?_
          refine n_if_ne hx hb rfl (by omega) (tgt := 53) dX7_meanPaid_46 (by decide) (fun c_46 => absurd c_46 (by omega)) (fun c_46 => ?_)
          refine lv_dconst0 hx hb dX7_meanPaid_49 ?_
          refine lv_goto (tgt := 61) hx hb dX7_meanPaid_50 (by decide) ?_
          exact ret_d X hW (v := FP.dconst0) (Or.inl ⟨by rw [← hk]; omega, rfl⟩) rfl (by decide) (by decide) dX7_meanPaid_61
      · refine lv_aload_n hx hb dX7_meanPaid_12 rfl (lv_at hl 0 rfl) ?_
        refine x_get X hW 0 rfl 12 rfl rfl iwX7 (by decide) wq_1092 rfl dX7_meanPaid_13 ?_
        refine lv_iload_n hx hb dX7_meanPaid_16 rfl (lv_at hl 2 rfl) ?_
        refine n_cald X hW (n := 40) (f := bst) 6 rfl (by omega) (by decide) dX7_meanPaid_17 ?_
        refine lv_bipush (v := nI 119) hx hb dX7_meanPaid_18 (by decide) ?_
        refine n_icmp_ne hx hb rfl rfl (by have := hbst k; omega) (by omega) (tgt := 26) dX7_meanPaid_20 (by decide) (fun c_20 => ?_) (fun c_20 => ?_)
        · refine lv_iinc (v := (nI (k + 1))) (lv' := [(2, .int (nI (k + 1))), (0, .ref (a 0)), (1, .int (nI (cntB (isV bst 119) k)))]) hx hb dX7_meanPaid_26 hl (k := 2) rfl (nI_add _ _) (by decide) rfl (fun ls hl => ?_)
          refine lv_goto (tgt := 4) hx hb dX7_meanPaid_29 (by decide) ?_
          exact ih (k + 1) (by omega) (by omega) _ _ _ hW (by rw [show cntB (isV bst 119) (k + 1) = (cntB (isV bst 119) k) from bsum_f (decide_eq_false c_20)]; exact lv_sub hl [1, 2, 0] rfl)
        · refine lv_iinc (v := (nI ((cntB (isV bst 119) k) + 1))) (lv' := [(1, .int (nI ((cntB (isV bst 119) k) + 1))), (0, .ref (a 0)), (2, .int (nI k))]) hx hb dX7_meanPaid_23 hl (k := 1) rfl (nI_add _ _) (by decide) rfl (fun ls hl => ?_)
          refine lv_iinc (v := (nI (k + 1))) (lv' := [(2, .int (nI (k + 1))), (1, .int (nI ((cntB (isV bst 119) k) + 1))), (0, .ref (a 0))]) hx hb dX7_meanPaid_26 hl (k := 2) rfl (nI_add _ _) (by decide) rfl (fun ls hl => ?_)
          refine lv_goto (tgt := 4) hx hb dX7_meanPaid_29 (by decide) ?_
          exact ih (k + 1) (by omega) (by omega) _ _ _ hW (by rw [show cntB (isV bst 119) (k + 1) = ((cntB (isV bst 119) k) + 1) from bsum_t (decide_eq_true c_20)]; exact lv_sub hl [2, 1, 0] rfl)
  exact loop (bi + 1) 0 (by omega) (by omega) _ _ _ hW (lv_sub hl [2, 1, 0] rfl)

