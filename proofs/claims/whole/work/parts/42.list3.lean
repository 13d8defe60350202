section XCPY
variable {p : Program} {l : Launch} {e : Env} {R : Room} {s : State} {m : MethodId} {args : Array Value} {below : List Frame} {meth : Method} {c : Code} {H : Heap} {locs : List Loc} {cells slots : Nat} {Q : State → Prop}
variable {cc : ByteArray} {nL pc : Nat} {ls : Array Slot} {rest : List Value} {own : String} {rt : Option FieldType} {G : Gt} {A : Nat → Prop} {w B Y : va_W}
theorem x_newQ (X : Cx p s m args meth c cc nL own rt G A) (hW : Wd G A s (B ++ Y) H locs) {n : Nat} (hn : n < 100000) {idx : Nat} (hlink : Cond.classLink own idx "java/lang/Object" ∈ WW) (hcells : cells + 1 ≤ R.cells) (hslots : slots + n ≤ R.slots) (hdg : decode cc pc = .ok (.anewarray idx, 3))
    (kk : ∀ (q : Nat) (H1 : Heap), Wd G A s ((B ++ [(q, aR G n (fun _ => none))]) ++ Y) H1 locs → W p l e R s m args below meth c H1 locs (cells + 1) (slots + n) Q (F0 m (pc + 3) ls (.ref q :: rest))) : W p l e R s m args below meth c H locs cells slots Q (F0 m pc ls (.int (nI n) :: rest)) := by
  refine va_newq X.exec X.bytes X.own (X.ws _ hlink) X.E.2.2.2.2.2.2.2.1 X.K hW.1 hW.2.1 hW.2.2 X.A (nI_pos (by omega)) (nI_clamp (by omega)) (by omega) hcells hslots hdg (fun q cA H1 hK hP hD hS => ?_)
  have e : cA = G.2.1 3 := Option.some.inj ((va_nmO (nm := "[Ljava/lang/Object;") (hK.2 6 (cA, .object "java/lang/Object") rfl).2 rfl).symm.trans (va_nmO (nm := "[Ljava/lang/Object;") (X.K.2 3 (G.2.1 3, .object "java/lang/Object") rfl).2 rfl))
  subst e
  exact kk q H1 ⟨hP.swap, hD.swap, hS⟩
theorem x_getC (X : Cx p s m args meth c cc nL own rt G A) (hW : Wd G A s w H locs) {a n : Nat} {f : Nat → Option Nat} (q0 : Nat) (ha : w[q0]? = some (a, aR G n f)) {idx : Nat} (hlink : Cond.methodLink own idx ⟨"java/lang/Object", "getClass", "()Ljava/lang/Class;"⟩ ∈ WW) (hsz : ls.size = nL) (hR : 1 ≤ R.frames) (hL : 40 ≤ R.locals) (hsum : (rest.map fun v => v.category).sum ≤ 8) (hdg : decode cc pc = .ok (.invokevirtual idx, 3)) (kk : W p l e R s m args below meth c H locs cells slots Q (F0 m (pc + 3) ls (.ref (G.2.2 1) :: rest))) : W p l e R s m args below meth c H locs cells slots Q (F0 m pc ls (.ref a :: rest)) :=
  va_getC X.exec X.bytes (by rw [X.ml, hsz]) X.own (X.ws _ hlink) (va_Nw.use rfl (X.nest wq_1442)) (X.ws _ wq_1441) (X.ws _ wq_565) (X.ws _ wq_native_getC) X.E.2.2.2.2.2.2.1 ⟨_, hW.1 q0 _ ha, rfl, va_nmO (nm := "[Ljava/lang/Object;") (X.K.2 3 (G.2.1 3, .object "java/lang/Object") rfl).2 rfl⟩ hR (by omega) hdg kk
theorem x_ldcM (X : Cx p s m args meth c cc nL own rt G A) {idx : Nat} (hlink : Cond.classLink own idx "[Ljava/lang/Object;" ∈ WW) (hdg : decode cc pc = .ok (.ldc idx, 2)) (kk : W p l e R s m args below meth c H locs cells slots Q (F0 m (pc + 2) ls (.ref (G.2.2 1) :: rest))) : W p l e R s m args below meth c H locs cells slots Q (F0 m pc ls rest) :=
  va_ldcM X.exec X.bytes X.own (X.ws _ hlink) X.E.2.2.2.2.2.2.1 hdg kk
theorem x_copyQ (X : Cx p s m args meth c cc nL own rt G A) (hW : Wd G A s w H locs) {a b n0 n1 k ci : Nat} {f g : Nat → Option Nat} {r : vw_C} {w2 : va_W} (q0 q1 : Nat) (ha : w[q0]? = some (a, aR G n0 f)) (hb2 : w[q1]? = some (b, aR G n1 g)) (hc : vwCl[ci]? = some r) (hca : Cond.castable r.1 "java/lang/Object" ∈ NN) (hel : ∀ i, i < k → ∀ y, f i = some y → ∃ fs, (y, .inr (ci, fs)) ∈ w) (h0 : k ≤ n0) (h1 : k ≤ n1) (hk : k < 100000) {idx : Nat} (hlink : Cond.methodLink own idx arraycopyName ∈ WW) (hstat : Cond.static arraycopyName ∈ WW) (hini : Cond.initialized "java/lang/System" ∈ WW) (hsz : ls.size = nL) (hR : 1 ≤ R.frames) (hL : 100 ≤ R.locals) (hsum : (rest.map fun v => v.category).sum ≤ 8) (hw2 : w.set q1 (b, aR G n1 (va_cpy f g 0 0 k)) = w2) (hdg : decode cc pc = .ok (.invokestatic idx, 3)) (kk : ∀ (H1 : Heap) (locs1 : List Loc), Wd G A s w2 H1 locs1 → W p l e R s m args below meth c H1 locs1 cells slots Q (F0 m (pc + 3) ls rest)) : W p l e R s m args below meth c H locs cells slots Q (F0 m pc ls (.int (nI k) :: .int (nI 0) :: .ref b :: .int (nI 0) :: .ref a :: rest)) := by
  have e0 : (nI 0).toNatClampNeg = 0 := nI_clamp (by omega)
  have ek : (nI k).toNatClampNeg = k := nI_clamp (by omega)
  have hz : nativeFrameWords "java/lang/System" "arraycopy" 5 ≤ 60 := by decide
  refine va_copyq X.exec X.bytes (by rw [X.ml, hsz]) X.own (X.ws _ hlink) (X.ws _ wq_native_copy) (X.ws _ hstat) (X.ws _ hini) X.K hW.1 hW.2.1 hW.2.2 q0 q1 3 3 (C := r.1) ha hb2 rfl rfl (sp := nI 0) (dp := nI 0) (n := nI k) (nI_pos (by omega)) (nI_pos (by omega)) (nI_pos (by omega)) (by omega) (by omega) (fun i hi y hy => ?_) (fun comp c0 h2 h3 => ?_) hR (by omega) hdg (fun H1 locs1 h2 h3 h4 => ?_)
  · rw [ek] at hi
    rw [e0, Nat.zero_add] at hy
    obtain ⟨fs, hm⟩ := hel i hi y hy
    obtain ⟨j, hj⟩ := List.mem_iff_getElem?.mp hm
    exact va_recv X.K hW.1 hc hj
  · obtain ⟨c1, t1, f1, f2, f3⟩ := Cond.castable_spec (va_Nw.use (A := args) rfl (X.nest hca))
    cases h2.symm.trans f2
    cases h3.symm.trans f1
    exact f3
  · rw [e0, ek] at h2 h3
    subst hw2
    exact kk H1 locs1 ⟨h2, h3, h4⟩
end XCPY
