def outL (G : Gt) (o : Nat) (f : Nat → Int64) : Nat × va_E := (o, .inl (G.2.1 4, 1, .inr (.inl f)))
def outD (G : Gt) (o : Nat) (f : Nat → UInt64) : Nat × va_E := (o, .inl (G.2.1 5, 1, .inr (.inr (.inr (.inl f)))))
def CiH (l : Launch) (G : Gt) (y : MethodName) (cc : ByteArray) (nL : Nat) (hh : List (Nat × Nat × Nat × Nat)) (rm : Room) (av : List Value) (w : va_W) (post : Int32 → va_W → Prop) : Prop := ∀ sz, Met l y (Cond.codeWith y cc nL (some .int) hh :: WW) rm (Pre0 G av w sz) (Qi G (va_A w sz) post) rm.cells rm.slots (va_A w sz)
theorem cx_ofH {p : Program} {l : Launch} {y : MethodName} {b : ByteArray} {n : Nat} {ret : Option FieldType} {hh : List (Nat × Nat × Nat × Nat)} {rm : Room} {e : Env} {s s₁ : State} {m : MethodId} {args : Array Value} {below : List Frame} {meth : Method} {c : Code} {G : Gt} {av : List Value} {w : va_W} {sz : Nat} (B : BodyLoose p l y (headSpec (Cond.codeWith y b n ret hh :: WW) rm) b n ret e s m args below meth c s₁) (hml : c.maxLocals = n) (hv : Pre0 G av w sz args s) :
    args = av.toArray ∧ Cx p s m args meth c b n y.cls ret G (va_A w sz) ∧ Wd G (va_A w sz) s w s.heap [] := by
  obtain ⟨ha, hsz, hP, hK, hD, hE⟩ := hv
  have hts := atoms_spec (ws := Cond.codeWith y b n ret hh :: WW) B.pre
  subst hsz
  exact ⟨ha, ⟨B.exec, B.bytes, hml, findClass_of_methodNamed B.named, fun w h => hts w (List.mem_cons_of_mem _ h), hK, hE, fun q h => Or.inr h, B.notSynchronized, B.returns, ⟨_, rfl⟩⟩, hP, hD.self, va_S.rf⟩
theorem CiH.intro {l : Launch} {G : Gt} {y : MethodName} {cc : ByteArray} {nL : Nat} {hh : List (Nat × Nat × Nat × Nat)} {rm : Room} {av : List Value} {w : va_W} {post : Int32 → va_W → Prop} (hy : plainName y.cls = true) (hn : (lg_sl av).length ≤ nL)
    (body : ∀ (p : Program) (e : Env) (s : State) (m : MethodId) (args : Array Value) (below : List Frame) (meth : Method) (c : Code) (A : Nat → Prop), Cx p s m args meth c cc nL y.cls (some .int) G A → c.exceptionTable.toList = tableOf hh → Wd G A s w s.heap [] → ∀ ls : Array Slot, lv_has ls nL (lv_args 0 av) → W p l e rm s m args below meth c s.heap [] 0 0 (MQ below (Qi G A post) args s rm.cells rm.slots A) (F0 m 0 ls [])) : CiH l G y cc nL hh rm av w post := by
  intro sz
  refine MetFree.of_bodyS (code := cc) (maxLocals := nL) (ret := some .int) hy ?_ ?_
  · intro args s m h hn
    obtain ⟨m9, meth, c, hn9, h1, h2, h3, h4, -, h5, h6, -⟩ := Cond.codeWith_spec (atoms_spec (ws := Cond.codeWith y cc nL (some .int) hh :: WW) h _ List.mem_cons_self)
    cases hn.symm.trans hn9
    exact ⟨meth, c, h1, h2, h3, h4, h5, h6⟩
  · intro p e s m args below meth c s₁ B hml hP _
    have hh0 : s₁.heap = s.heap := by rw [B.state]; rfl
    have ht := vx_table (x := y) B (atoms_spec (ws := Cond.codeWith y cc nL (some .int) hh :: WW) B.pre _ List.mem_cons_self)
    obtain ⟨ha, X, hW⟩ := cx_ofH B hml hP
    subst ha
    obtain ⟨t, a1, o, b1, b2, b3⟩ := body p e s m _ below meth c _ X ht hW _ (lv_entry av hn) s₁ hh0 (Stand.of_body B)
    refine ⟨t, o, ?_, b1, b2, b3⟩
    rw [lg_entry_eq]
    exact a1
section XH9
variable {p : Program} {l : Launch} {e : Env} {R : Room} {s : State} {m : MethodId} {args : Array Value} {below : List Frame} {meth : Method} {c : Code} {H : Heap} {locs : List Loc} {cells slots : Nat} {Q : State → Prop}
variable {cc : ByteArray} {nL pc : Nat} {ls : Array Slot} {rest : List Value} {own : String} {rt : Option FieldType} {G : Gt} {A : Nat → Prop} {w : va_W}
theorem go_hi (X : Cx p s m args meth c cc nL own rt G A) (hW : Wd G A s w H locs) {post : Int32 → va_W → Prop} {px : String → va_W → Prop} {a : Array Value} {st0 : List Value} {mc ms : Nat} (hr : vx_Run p l e R s m args below meth c H locs cells slots mc ms (F0 m pc ls st0) rest (Qi G (va_A w H.size) post a) (XX G (va_A w H.size) px) (va_A w H.size))
    (kk : ∀ (r : Int32) (w2 : va_W) (H1 : Heap) (locs1 : List Loc), post r w2 → Wd G A s w2 H1 locs1 → W p l e R s m args below meth c H1 locs1 (cells + mc) (slots + ms) Q (F0 m (pc + 3) ls (.int r :: rest)))
    (kx : ∀ (E : String) (q : Addr) (ce : Cell) (w2 : va_W) (H1 : Heap) (locs1 : List Loc), px E w2 → Wd G A s w2 H1 locs1 → H1[q]? = some ce → ce.vm = .none → s.vm.findClass E = some ce.cls → vx_W p l e R s m args below meth c H1 locs1 (cells + mc) (slots + ms) Q (F0 m pc ls rest) q) : W p l e R s m args below meth c H locs cells slots Q (F0 m pc ls st0) := by
  intro T hT Z
  rcases hr T hT Z with ⟨v, st₀, t, T', L, h0, X', hL, e1, e2, ⟨⟨r, u, hv, hp, hb⟩, hF⟩, st⟩ | ⟨q, st₀, t, T', L, E, ce, h0, X', hL, e1, e2, ⟨u, hp, ⟨hb1, hb2⟩, hF⟩, hce, hcv, hcl, st⟩
  · cases hv
    obtain ⟨k1, k2, k3⟩ := vx_keep h0 e1 hW.2.2 (fun q _ h => X.free hW q h) (X.free hW) hL hF
    obtain ⟨t2, a1, b1⟩ := kk r u T'.heap (locs ++ L) hp ⟨by rw [e1]; exact hb.1, hb.2.weaken (fun _ _ _ h => X.free hW _ h), k3⟩ T' rfl X'
    exact ⟨t2, st t2 a1, b1⟩
  · obtain ⟨k1, k2, k3⟩ := vx_keep h0 e1 hW.2.2 (fun q _ h => X.free hW q h) (X.free hW) hL hF
    have hW2 : Wd G A s u.2 T'.heap (locs ++ L) := ⟨by rw [e1]; exact hb2.1, hb2.2.weaken (fun _ _ _ h => X.free hW _ h), k3⟩
    obtain ⟨t2, a1, b1⟩ := kx E q ce u.2 T'.heap (locs ++ L) (hb1 ▸ hp) hW2 (by rw [e1]; exact hce) hcv hcl T' rfl X'
    exact ⟨t2, st.trans a1, b1⟩
theorem go_hf (X : Cx p s m args meth c cc nL own rt G A) (hW : Wd G A s w H locs) {post : UInt32 → va_W → Prop} {px : String → va_W → Prop} {a : Array Value} {st0 : List Value} {mc ms : Nat} (hr : vx_Run p l e R s m args below meth c H locs cells slots mc ms (F0 m pc ls st0) rest (va_Qf post (B0 G (va_A w H.size)) (va_A w H.size) a) (XX G (va_A w H.size) px) (va_A w H.size))
    (kk : ∀ (r : UInt32) (w2 : va_W) (H1 : Heap) (locs1 : List Loc), post r w2 → Wd G A s w2 H1 locs1 → W p l e R s m args below meth c H1 locs1 (cells + mc) (slots + ms) Q (F0 m (pc + 3) ls (.float r :: rest)))
    (kx : ∀ (E : String) (q : Addr) (ce : Cell) (w2 : va_W) (H1 : Heap) (locs1 : List Loc), px E w2 → Wd G A s w2 H1 locs1 → H1[q]? = some ce → ce.vm = .none → s.vm.findClass E = some ce.cls → vx_W p l e R s m args below meth c H1 locs1 (cells + mc) (slots + ms) Q (F0 m pc ls rest) q) : W p l e R s m args below meth c H locs cells slots Q (F0 m pc ls st0) := by
  intro T hT Z
  rcases hr T hT Z with ⟨v, st₀, t, T', L, h0, X', hL, e1, e2, ⟨⟨r, u, hv, hp, hb⟩, hF⟩, st⟩ | ⟨q, st₀, t, T', L, E, ce, h0, X', hL, e1, e2, ⟨u, hp, ⟨hb1, hb2⟩, hF⟩, hce, hcv, hcl, st⟩
  · cases hv
    obtain ⟨k1, k2, k3⟩ := vx_keep h0 e1 hW.2.2 (fun q _ h => X.free hW q h) (X.free hW) hL hF
    obtain ⟨t2, a1, b1⟩ := kk r u T'.heap (locs ++ L) hp ⟨by rw [e1]; exact hb.1, hb.2.weaken (fun _ _ _ h => X.free hW _ h), k3⟩ T' rfl X'
    exact ⟨t2, st t2 a1, b1⟩
  · obtain ⟨k1, k2, k3⟩ := vx_keep h0 e1 hW.2.2 (fun q _ h => X.free hW q h) (X.free hW) hL hF
    have hW2 : Wd G A s u.2 T'.heap (locs ++ L) := ⟨by rw [e1]; exact hb2.1, hb2.2.weaken (fun _ _ _ h => X.free hW _ h), k3⟩
    obtain ⟨t2, a1, b1⟩ := kx E q ce u.2 T'.heap (locs ++ L) (hb1 ▸ hp) hW2 (by rw [e1]; exact hce) hcv hcl T' rfl X'
    exact ⟨t2, st.trans a1, b1⟩
theorem go_hd (X : Cx p s m args meth c cc nL own rt G A) (hW : Wd G A s w H locs) {post : UInt64 → va_W → Prop} {px : String → va_W → Prop} {a : Array Value} {st0 : List Value} {mc ms : Nat} (hr : vx_Run p l e R s m args below meth c H locs cells slots mc ms (F0 m pc ls st0) rest (va_Qd post (B0 G (va_A w H.size)) (va_A w H.size) a) (XX G (va_A w H.size) px) (va_A w H.size))
    (kk : ∀ (r : UInt64) (w2 : va_W) (H1 : Heap) (locs1 : List Loc), post r w2 → Wd G A s w2 H1 locs1 → W p l e R s m args below meth c H1 locs1 (cells + mc) (slots + ms) Q (F0 m (pc + 3) ls (.double r :: rest)))
    (kx : ∀ (E : String) (q : Addr) (ce : Cell) (w2 : va_W) (H1 : Heap) (locs1 : List Loc), px E w2 → Wd G A s w2 H1 locs1 → H1[q]? = some ce → ce.vm = .none → s.vm.findClass E = some ce.cls → vx_W p l e R s m args below meth c H1 locs1 (cells + mc) (slots + ms) Q (F0 m pc ls rest) q) : W p l e R s m args below meth c H locs cells slots Q (F0 m pc ls st0) := by
  intro T hT Z
  rcases hr T hT Z with ⟨v, st₀, t, T', L, h0, X', hL, e1, e2, ⟨⟨r, u, hv, hp, hb⟩, hF⟩, st⟩ | ⟨q, st₀, t, T', L, E, ce, h0, X', hL, e1, e2, ⟨u, hp, ⟨hb1, hb2⟩, hF⟩, hce, hcv, hcl, st⟩
  · cases hv
    obtain ⟨k1, k2, k3⟩ := vx_keep h0 e1 hW.2.2 (fun q _ h => X.free hW q h) (X.free hW) hL hF
    obtain ⟨t2, a1, b1⟩ := kk r u T'.heap (locs ++ L) hp ⟨by rw [e1]; exact hb.1, hb.2.weaken (fun _ _ _ h => X.free hW _ h), k3⟩ T' rfl X'
    exact ⟨t2, st t2 a1, b1⟩
  · obtain ⟨k1, k2, k3⟩ := vx_keep h0 e1 hW.2.2 (fun q _ h => X.free hW q h) (X.free hW) hL hF
    have hW2 : Wd G A s u.2 T'.heap (locs ++ L) := ⟨by rw [e1]; exact hb2.1, hb2.2.weaken (fun _ _ _ h => X.free hW _ h), k3⟩
    obtain ⟨t2, a1, b1⟩ := kx E q ce u.2 T'.heap (locs ++ L) (hb1 ▸ hp) hW2 (by rw [e1]; exact hce) hcv hcl T' rfl X'
    exact ⟨t2, st.trans a1, b1⟩
/-- a row of the table takes it; the rows ahead name others of the list -/
theorem x_catch (X : Cx p s m args meth c cc nL own rt G A) {hh : List (Nat × Nat × Nat × Nat)} (hT : c.exceptionTable.toList = tableOf hh) {E : String} {ce : Cell} {q : Addr} (hE : E ∈ exs) (pre : List (Nat × Nat × Nat × Nat)) (x : Nat × Nat × Nat × Nat) (suf : List (Nat × Nat × Nat × Nat)) (hs : hh = pre ++ x :: suf)
    (hp : ∀ z ∈ pre, z.2.2.2 ≠ 0 ∧ ∃ nm : String, Cond.classLink own z.2.2.2 nm ∈ WW ∧ nm ∈ exs ∧ E ≠ nm) (hx : covers ⟨x.1, x.2.1, x.2.2.1, x.2.2.2⟩ pc = true) (h0 : x.2.2.2 ≠ 0) (hlink : Cond.classLink own x.2.2.2 E ∈ WW) (hca : Cond.castable E E ∈ NN) (hcell : H[q]? = some ce) (hv : ce.vm = .none) (hcl : s.vm.findClass E = some ce.cls)
    (kk : W p l e R s m args below meth c H locs cells slots Q (F0 m x.2.2.1 ls [.ref q])) : vx_W p l e R s m args below meth c H locs cells slots Q (F0 m pc ls rest) q := by
  refine vx_catch X.own (tableOf pre) ⟨x.1, x.2.1, x.2.2.1, x.2.2.2⟩ (tableOf suf) (by rw [hT, hs]; simp [tableOf]) (fun z hz => ?_) hx h0 (X.ws _ hlink) (va_Nw.use rfl (X.nest hca)) hcell hv hcl kk
  obtain ⟨y, hy, rfl⟩ := List.mem_map.mp hz
  obtain ⟨h1, nm, h2, h3, h4⟩ := hp y hy
  exact Or.inr ⟨h1, nm, X.ws _ h2, X.E.2.2.2.2.2.2.2.2 E hE nm h3 h4⟩
theorem x_last (X : Cx p s m args meth c cc nL own rt G A) (hW : Wd G A s w H locs) {o : Nat} {f : Nat → Int64} {v : Int64} (hm : outL G o f ∈ w) (hdg : decode cc pc = .ok (.lastore, 1))
    (kk : ∀ (w2 : va_W) (H1 : Heap) (locs1 : List Loc), Fc w [outL G o f] [outL G o (vp_updL f 0 v)] w2 → Wd G A s w2 H1 locs1 → W p l e R s m args below meth c H1 locs1 cells slots Q (F0 m (pc + 1) ls rest)) : W p l e R s m args below meth c H locs cells slots Q (F0 m pc ls (.long v :: .int (nI 0) :: .ref o :: rest)) := by
  obtain ⟨q0, hq⟩ := List.mem_iff_getElem?.mp hm
  refine va_last X.exec X.bytes X.K hW.1 hW.2.1 hW.2.2 q0 4 hq rfl (by unfold vp_in; decide) hdg (fun H1 locs1 a1 a2 a3 => kk _ H1 locs1 ?_ ⟨a1, a2, a3⟩)
  obtain ⟨a9, b9, h3, h4⟩ := set_split (y := outL G o (vp_updL f 0 v)) hq
  refine ⟨a9 ++ b9, by rw [h3]; exact List.perm_middle, ?_⟩
  have h5 : w.set q0 (o, .inl (G.2.1 4, 1, .inr (.inl (vp_updL f (nI 0).toNatClampNeg v)))) = a9 ++ outL G o (vp_updL f 0 v) :: b9 := h4
  rw [h5]
  show (outL G o (vp_updL f 0 v) :: (a9 ++ b9)).Perm _
  exact List.perm_middle.symm
theorem x_dast (X : Cx p s m args meth c cc nL own rt G A) (hW : Wd G A s w H locs) {o : Nat} {f : Nat → UInt64} {v : UInt64} (hm : outD G o f ∈ w) (hdg : decode cc pc = .ok (.dastore, 1))
    (kk : ∀ (w2 : va_W) (H1 : Heap) (locs1 : List Loc), Fc w [outD G o f] [outD G o (vf_upd f 0 v)] w2 → Wd G A s w2 H1 locs1 → W p l e R s m args below meth c H1 locs1 cells slots Q (F0 m (pc + 1) ls rest)) : W p l e R s m args below meth c H locs cells slots Q (F0 m pc ls (.double v :: .int (nI 0) :: .ref o :: rest)) := by
  obtain ⟨q0, hq⟩ := List.mem_iff_getElem?.mp hm
  refine va_dast X.exec X.bytes X.K hW.1 hW.2.1 hW.2.2 q0 5 hq rfl (by unfold vp_in; decide) hdg (fun H1 locs1 a1 a2 a3 => kk _ H1 locs1 ?_ ⟨a1, a2, a3⟩)
  obtain ⟨a9, b9, h3, h4⟩ := set_split (y := outD G o (vf_upd f 0 v)) hq
  refine ⟨a9 ++ b9, by rw [h3]; exact List.perm_middle, ?_⟩
  have h5 : w.set q0 (o, .inl (G.2.1 5, 1, .inr (.inr (.inr (.inl (vf_upd f (nI 0).toNatClampNeg v)))))) = a9 ++ outD G o (vf_upd f 0 v) :: b9 := h4
  rw [h5]
  show (outD G o (vf_upd f 0 v) :: (a9 ++ b9)).Perm _
  exact List.perm_middle.symm
end XH9
set_option maxRecDepth 100000 in
set_option maxHeartbeats 4000000 in
theorem h_offer (l : Launch) (G : Gt) (w : va_W) (zz o1 : Nat) (fs : List Value) (f : Nat → Int64) (x1 : Int32) (x2 : Int32) (x3 : Int32) {post : Int32 → va_W → Prop} {px : String → va_W → Prop} (M : Xi l G yX6_offer (ww yX6_offer cX6_offer 4 (some FieldType.int)) (RM 6 3 112) [.ref zz, .int x1, .int x2, .int x3] w post px) (hz : (zz, .inr (9, fs)) ∈ w) (ho : ∀ r w2, post r w2 → outL G o1 f ∈ w2) (hE : ∀ E w2, px E w2 → E = "java/lang/IllegalArgumentException" ∨ E = "java/lang/IllegalStateException") : CiH l G yL_offer cL_offer 6 [(0, 12, 15, 13), (0, 12, 19, 15)] (RM 7 3 112) [.ref zz, .int x1, .int x2, .int x3, .ref o1] w (fun r w2 => (r = nI 0 ∧ ∃ v w3, post v w3 ∧ Fc w3 [outL G o1 f] [outL G o1 (vp_updL f 0 v.toInt64)] w2) ∨ (r = nI 1 ∧ px "java/lang/IllegalArgumentException" w2) ∨ (r = nI 2 ∧ px "java/lang/IllegalStateException" w2)) := by
  refine CiH.intro (by decide) (Nat.le_of_ble_eq_true rfl) ?_
  intro p e s m args below meth c A X hT hW ls hl
  have hx := X.exec
  have hb := X.bytes
  have hl : lv_has ls 6 [(0, .ref zz), (1, .int x1), (2, .int x2), (3, .int x3), (4, .ref o1)] := hl
  obtain ⟨q0, hq⟩ := List.mem_iff_getElem?.mp hz
  refine lv_aload hx hb dL_offer_0 (lv_at hl 4 rfl) ?_
  refine lv_iconst (v := nI 0) hx hb dL_offer_2 (by decide) ?_
  refine lv_aload_n hx hb dL_offer_3 rfl (lv_at hl 0 rfl) ?_
  refine lv_iload_n hx hb dL_offer_4 rfl (lv_at hl 1 rfl) ?_
  refine lv_iload_n hx hb dL_offer_5 rfl (lv_at hl 2 rfl) ?_
  refine lv_iload_n hx hb dL_offer_6 rfl (lv_at hl 3 rfl) ?_
  refine go_hi X hW (rest := [.int (nI 0), .ref o1]) (run_XV X hW (As := [.int x1, .int x2, .int x3]) (rest := [.int (nI 0), .ref o1]) 9 q0 hq (M s.heap.size) (gi_V wq_411 wq_412 wq_413 wq_61 wq_414) rfl hyX6_offer rfl rfl rfl hl.1 (Nat.le_of_ble_eq_true rfl) ⟨Nat.le_of_ble_eq_true rfl, Nat.le_of_ble_eq_true rfl⟩ ⟨Nat.le_of_ble_eq_true rfl, Nat.le_of_ble_eq_true rfl⟩ dL_offer_7) (fun r w1 H1 locs1 hp hW => ?_) (fun E q ce w1 H1 locs1 hp hW hc1 hc2 hc3 => ?_)
  · refine lv_i2l (v := r.toInt64) hx hb dL_offer_10 rfl ?_
    refine x_last X hW (ho r w1 hp) dL_offer_11 (fun w2 H2 locs2 hF hW => ?_)
    refine lv_goto (tgt := 23) hx hb dL_offer_12 rfl ?_
    refine lv_iconst (v := nI 0) hx hb dL_offer_23 (by decide) ?_
    exact ret_i X hW (Or.inl ⟨rfl, r, w1, hp, hF⟩) rfl (Nat.le_of_ble_eq_true rfl) (Nat.le_of_ble_eq_true rfl) dL_offer_24
  · rcases hE E w1 hp with rfl | rfl
    · refine x_catch (E := "java/lang/IllegalArgumentException") X hT (by decide) [] (0, 12, 15, 13) [(0, 12, 19, 15)] rfl (fun z hz => by cases hz) (by decide) (by decide) wq_409 wq_423 hc1 hc2 hc3 ?_
      refine lv_astore (lv' := [(5, .ref q), (0, .ref zz), (1, .int x1), (2, .int x2), (3, .int x3), (4, .ref o1)]) hx hb dL_offer_15 hl (by decide) rfl (fun ls hl => ?_)
      refine lv_iconst (v := nI 1) hx hb dL_offer_17 (by decide) ?_
      exact ret_i X hW (Or.inr (Or.inl ⟨rfl, hp⟩)) rfl (Nat.le_of_ble_eq_true rfl) (Nat.le_of_ble_eq_true rfl) dL_offer_18
    · refine x_catch (E := "java/lang/IllegalStateException") X hT (by decide) [(0, 12, 15, 13)] (0, 12, 19, 15) [] rfl (fun z hz => by simp only [List.mem_cons, List.not_mem_nil, or_false] at hz; rcases hz with rfl <;> first | exact ⟨by decide, _, wq_409, by decide, by decide⟩) (by decide) (by decide) wq_410 wq_495 hc1 hc2 hc3 ?_
      refine lv_astore (lv' := [(5, .ref q), (0, .ref zz), (1, .int x1), (2, .int x2), (3, .int x3), (4, .ref o1)]) hx hb dL_offer_19 hl (by decide) rfl (fun ls hl => ?_)
      refine lv_iconst (v := nI 2) hx hb dL_offer_21 (by decide) ?_
      exact ret_i X hW (Or.inr (Or.inr (⟨rfl, hp⟩))) rfl (Nat.le_of_ble_eq_true rfl) (Nat.le_of_ble_eq_true rfl) dL_offer_22
set_option maxRecDepth 100000 in
set_option maxHeartbeats 4000000 in
theorem h_withdraw (l : Launch) (G : Gt) (w : va_W) (zz o1 : Nat) (fs : List Value) (f : Nat → Int64) (x1 : Int32) {post : Int32 → va_W → Prop} {px : String → va_W → Prop} (M : Xi l G yX6_withdraw (ww yX6_withdraw cX6_withdraw 3 (some FieldType.int)) (RM 6 3 18) [.ref zz, .int x1] w post px) (hz : (zz, .inr (9, fs)) ∈ w) (ho : ∀ r w2, post r w2 → outL G o1 f ∈ w2) (hE : ∀ E w2, px E w2 → E = "java/util/NoSuchElementException" ∨ E = "java/lang/IllegalStateException") : CiH l G yL_withdraw cL_withdraw 4 [(0, 9, 12, 21), (0, 9, 15, 15)] (RM 7 3 18) [.ref zz, .int x1, .ref o1] w (fun r w2 => (r = nI 0 ∧ ∃ v w3, post v w3 ∧ Fc w3 [outL G o1 f] [outL G o1 (vp_updL f 0 v.toInt64)] w2) ∨ (r = nI 1 ∧ px "java/util/NoSuchElementException" w2) ∨ (r = nI 2 ∧ px "java/lang/IllegalStateException" w2)) := by
  refine CiH.intro (by decide) (Nat.le_of_ble_eq_true rfl) ?_
  intro p e s m args below meth c A X hT hW ls hl
  have hx := X.exec
  have hb := X.bytes
  have hl : lv_has ls 4 [(0, .ref zz), (1, .int x1), (2, .ref o1)] := hl
  obtain ⟨q0, hq⟩ := List.mem_iff_getElem?.mp hz
  refine lv_aload_n hx hb dL_withdraw_0 rfl (lv_at hl 2 rfl) ?_
  refine lv_iconst (v := nI 0) hx hb dL_withdraw_1 (by decide) ?_
  refine lv_aload_n hx hb dL_withdraw_2 rfl (lv_at hl 0 rfl) ?_
  refine lv_iload_n hx hb dL_withdraw_3 rfl (lv_at hl 1 rfl) ?_
  refine go_hi X hW (rest := [.int (nI 0), .ref o1]) (run_XV X hW (As := [.int x1]) (rest := [.int (nI 0), .ref o1]) 9 q0 hq (M s.heap.size) (gi_V wq_600 wq_601 wq_602 wq_61 wq_603) rfl hyX6_withdraw rfl rfl rfl hl.1 (Nat.le_of_ble_eq_true rfl) ⟨Nat.le_of_ble_eq_true rfl, Nat.le_of_ble_eq_true rfl⟩ ⟨Nat.le_of_ble_eq_true rfl, Nat.le_of_ble_eq_true rfl⟩ dL_withdraw_4) (fun r w1 H1 locs1 hp hW => ?_) (fun E q ce w1 H1 locs1 hp hW hc1 hc2 hc3 => ?_)
  · refine lv_i2l (v := r.toInt64) hx hb dL_withdraw_7 rfl ?_
    refine x_last X hW (ho r w1 hp) dL_withdraw_8 (fun w2 H2 locs2 hF hW => ?_)
    refine lv_goto (tgt := 18) hx hb dL_withdraw_9 rfl ?_
    refine lv_iconst (v := nI 0) hx hb dL_withdraw_18 (by decide) ?_
    exact ret_i X hW (Or.inl ⟨rfl, r, w1, hp, hF⟩) rfl (Nat.le_of_ble_eq_true rfl) (Nat.le_of_ble_eq_true rfl) dL_withdraw_19
  · rcases hE E w1 hp with rfl | rfl
    · refine x_catch (E := "java/util/NoSuchElementException") X hT (by decide) [] (0, 9, 12, 21) [(0, 9, 15, 15)] rfl (fun z hz => by cases hz) (by decide) (by decide) wq_599 wq_610 hc1 hc2 hc3 ?_
      refine lv_astore_n (lv' := [(3, .ref q), (0, .ref zz), (1, .int x1), (2, .ref o1)]) hx hb dL_withdraw_12 rfl hl (by decide) rfl (fun ls hl => ?_)
      refine lv_iconst (v := nI 1) hx hb dL_withdraw_13 (by decide) ?_
      exact ret_i X hW (Or.inr (Or.inl ⟨rfl, hp⟩)) rfl (Nat.le_of_ble_eq_true rfl) (Nat.le_of_ble_eq_true rfl) dL_withdraw_14
    · refine x_catch (E := "java/lang/IllegalStateException") X hT (by decide) [(0, 9, 12, 21)] (0, 9, 15, 15) [] rfl (fun z hz => by simp only [List.mem_cons, List.not_mem_nil, or_false] at hz; rcases hz with rfl <;> first | exact ⟨by decide, _, wq_599, by decide, by decide⟩) (by decide) (by decide) wq_410 wq_495 hc1 hc2 hc3 ?_
      refine lv_astore_n (lv' := [(3, .ref q), (0, .ref zz), (1, .int x1), (2, .ref o1)]) hx hb dL_withdraw_15 rfl hl (by decide) rfl (fun ls hl => ?_)
      refine lv_iconst (v := nI 2) hx hb dL_withdraw_16 (by decide) ?_
      exact ret_i X hW (Or.inr (Or.inr (⟨rfl, hp⟩))) rfl (Nat.le_of_ble_eq_true rfl) (Nat.le_of_ble_eq_true rfl) dL_withdraw_17
set_option maxRecDepth 100000 in
set_option maxHeartbeats 4000000 in
theorem h_allow (l : Launch) (G : Gt) (w : va_W) (zz o1 : Nat) (fs : List Value) (f : Nat → Int64) (x1 : Int32) (x2 : Int32) (x3 : Int32) {post : Int32 → va_W → Prop} {px : String → va_W → Prop} (M : Xi l G yX6_allow (ww yX6_allow cX6_allow 4 (some FieldType.int)) (RM 6 3 112) [.ref zz, .int x1, .int x2, .int x3] w post px) (hz : (zz, .inr (9, fs)) ∈ w) (ho : ∀ r w2, post r w2 → outL G o1 f ∈ w2) (hE : ∀ E w2, px E w2 → E = "java/lang/IllegalArgumentException" ∨ E = "java/lang/IllegalStateException") : CiH l G yL_allow cL_allow 6 [(0, 12, 15, 13), (0, 12, 19, 15)] (RM 7 3 112) [.ref zz, .int x1, .int x2, .int x3, .ref o1] w (fun r w2 => (r = nI 0 ∧ ∃ v w3, post v w3 ∧ Fc w3 [outL G o1 f] [outL G o1 (vp_updL f 0 v.toInt64)] w2) ∨ (r = nI 1 ∧ px "java/lang/IllegalArgumentException" w2) ∨ (r = nI 2 ∧ px "java/lang/IllegalStateException" w2)) := by
  refine CiH.intro (by decide) (Nat.le_of_ble_eq_true rfl) ?_
  intro p e s m args below meth c A X hT hW ls hl
  have hx := X.exec
  have hb := X.bytes
  have hl : lv_has ls 6 [(0, .ref zz), (1, .int x1), (2, .int x2), (3, .int x3), (4, .ref o1)] := hl
  obtain ⟨q0, hq⟩ := List.mem_iff_getElem?.mp hz
  refine lv_aload hx hb dL_allow_0 (lv_at hl 4 rfl) ?_
  refine lv_iconst (v := nI 0) hx hb dL_allow_2 (by decide) ?_
  refine lv_aload_n hx hb dL_allow_3 rfl (lv_at hl 0 rfl) ?_
  refine lv_iload_n hx hb dL_allow_4 rfl (lv_at hl 1 rfl) ?_
  refine lv_iload_n hx hb dL_allow_5 rfl (lv_at hl 2 rfl) ?_
  refine lv_iload_n hx hb dL_allow_6 rfl (lv_at hl 3 rfl) ?_
  refine go_hi X hW (rest := [.int (nI 0), .ref o1]) (run_XV X hW (As := [.int x1, .int x2, .int x3]) (rest := [.int (nI 0), .ref o1]) 9 q0 hq (M s.heap.size) (gi_V wq_628 wq_629 wq_630 wq_61 wq_631) rfl hyX6_allow rfl rfl rfl hl.1 (Nat.le_of_ble_eq_true rfl) ⟨Nat.le_of_ble_eq_true rfl, Nat.le_of_ble_eq_true rfl⟩ ⟨Nat.le_of_ble_eq_true rfl, Nat.le_of_ble_eq_true rfl⟩ dL_allow_7) (fun r w1 H1 locs1 hp hW => ?_) (fun E q ce w1 H1 locs1 hp hW hc1 hc2 hc3 => ?_)
  · refine lv_i2l (v := r.toInt64) hx hb dL_allow_10 rfl ?_
    refine x_last X hW (ho r w1 hp) dL_allow_11 (fun w2 H2 locs2 hF hW => ?_)
    refine lv_goto (tgt := 23) hx hb dL_allow_12 rfl ?_
    refine lv_iconst (v := nI 0) hx hb dL_allow_23 (by decide) ?_
    exact ret_i X hW (Or.inl ⟨rfl, r, w1, hp, hF⟩) rfl (Nat.le_of_ble_eq_true rfl) (Nat.le_of_ble_eq_true rfl) dL_allow_24
  · rcases hE E w1 hp with rfl | rfl
    · refine x_catch (E := "java/lang/IllegalArgumentException") X hT (by decide) [] (0, 12, 15, 13) [(0, 12, 19, 15)] rfl (fun z hz => by cases hz) (by decide) (by decide) wq_409 wq_423 hc1 hc2 hc3 ?_
      refine lv_astore (lv' := [(5, .ref q), (0, .ref zz), (1, .int x1), (2, .int x2), (3, .int x3), (4, .ref o1)]) hx hb dL_allow_15 hl (by decide) rfl (fun ls hl => ?_)
      refine lv_iconst (v := nI 1) hx hb dL_allow_17 (by decide) ?_
      exact ret_i X hW (Or.inr (Or.inl ⟨rfl, hp⟩)) rfl (Nat.le_of_ble_eq_true rfl) (Nat.le_of_ble_eq_true rfl) dL_allow_18
    · refine x_catch (E := "java/lang/IllegalStateException") X hT (by decide) [(0, 12, 15, 13)] (0, 12, 19, 15) [] rfl (fun z hz => by simp only [List.mem_cons, List.not_mem_nil, or_false] at hz; rcases hz with rfl <;> first | exact ⟨by decide, _, wq_409, by decide, by decide⟩) (by decide) (by decide) wq_410 wq_495 hc1 hc2 hc3 ?_
      refine lv_astore (lv' := [(5, .ref q), (0, .ref zz), (1, .int x1), (2, .int x2), (3, .int x3), (4, .ref o1)]) hx hb dL_allow_19 hl (by decide) rfl (fun ls hl => ?_)
      refine lv_iconst (v := nI 2) hx hb dL_allow_21 (by decide) ?_
      exact ret_i X hW (Or.inr (Or.inr (⟨rfl, hp⟩))) rfl (Nat.le_of_ble_eq_true rfl) (Nat.le_of_ble_eq_true rfl) dL_allow_22
set_option maxRecDepth 100000 in
set_option maxHeartbeats 4000000 in
theorem h_forbid (l : Launch) (G : Gt) (w : va_W) (zz o1 : Nat) (fs : List Value) (f : Nat → Int64) {post : Int32 → va_W → Prop} {px : String → va_W → Prop} (M : Xi l G yX6_forbid (ww yX6_forbid cX6_forbid 1 (some FieldType.int)) (RM 6 1 6) [.ref zz] w post px) (hz : (zz, .inr (9, fs)) ∈ w) (ho : ∀ r w2, post r w2 → outL G o1 f ∈ w2) (hE : ∀ E w2, px E w2 → E = "java/lang/IllegalStateException") : CiH l G yL_forbid cL_forbid 3 [(0, 8, 11, 15)] (RM 7 1 6) [.ref zz, .ref o1] w (fun r w2 => (r = nI 0 ∧ ∃ v w3, post v w3 ∧ Fc w3 [outL G o1 f] [outL G o1 (vp_updL f 0 v.toInt64)] w2) ∨ (r = nI 1 ∧ px "java/lang/IllegalStateException" w2)) := by
  refine CiH.intro (by decide) (Nat.le_of_ble_eq_true rfl) ?_
  intro p e s m args below meth c A X hT hW ls hl
  have hx := X.exec
  have hb := X.bytes
  have hl : lv_has ls 3 [(0, .ref zz), (1, .ref o1)] := hl
  obtain ⟨q0, hq⟩ := List.mem_iff_getElem?.mp hz
  refine lv_aload_n hx hb dL_forbid_0 rfl (lv_at hl 1 rfl) ?_
  refine lv_iconst (v := nI 0) hx hb dL_forbid_1 (by decide) ?_
  refine lv_aload_n hx hb dL_forbid_2 rfl (lv_at hl 0 rfl) ?_
  refine go_hi X hW (rest := [.int (nI 0), .ref o1]) (run_XV X hW (As := []) (rest := [.int (nI 0), .ref o1]) 9 q0 hq (M s.heap.size) (gi_V wq_655 wq_656 wq_657 wq_61 wq_658) rfl hyX6_forbid rfl rfl rfl hl.1 (Nat.le_of_ble_eq_true rfl) ⟨Nat.le_of_ble_eq_true rfl, Nat.le_of_ble_eq_true rfl⟩ ⟨Nat.le_of_ble_eq_true rfl, Nat.le_of_ble_eq_true rfl⟩ dL_forbid_3) (fun r w1 H1 locs1 hp hW => ?_) (fun E q ce w1 H1 locs1 hp hW hc1 hc2 hc3 => ?_)
  · refine lv_i2l (v := r.toInt64) hx hb dL_forbid_6 rfl ?_
    refine x_last X hW (ho r w1 hp) dL_forbid_7 (fun w2 H2 locs2 hF hW => ?_)
    refine lv_goto (tgt := 14) hx hb dL_forbid_8 rfl ?_
    refine lv_iconst (v := nI 0) hx hb dL_forbid_14 (by decide) ?_
    exact ret_i X hW (Or.inl ⟨rfl, r, w1, hp, hF⟩) rfl (Nat.le_of_ble_eq_true rfl) (Nat.le_of_ble_eq_true rfl) dL_forbid_15
  · rcases hE E w1 hp with rfl
    · refine x_catch (E := "java/lang/IllegalStateException") X hT (by decide) [] (0, 8, 11, 15) [] rfl (fun z hz => by cases hz) (by decide) (by decide) wq_410 wq_495 hc1 hc2 hc3 ?_
      refine lv_astore_n (lv' := [(2, .ref q), (0, .ref zz), (1, .ref o1)]) hx hb dL_forbid_11 rfl hl (by decide) rfl (fun ls hl => ?_)
      refine lv_iconst (v := nI 1) hx hb dL_forbid_12 (by decide) ?_
      exact ret_i X hW (Or.inr (⟨rfl, hp⟩)) rfl (Nat.le_of_ble_eq_true rfl) (Nat.le_of_ble_eq_true rfl) dL_forbid_13
set_option maxRecDepth 100000 in
set_option maxHeartbeats 4000000 in
theorem h_bid (l : Launch) (G : Gt) (w : va_W) (zz o1 : Nat) (fs : List Value) (f : Nat → Int64) (x1 : Int32) (x2 : Int32) {post : Int32 → va_W → Prop} {px : String → va_W → Prop} (M : Xi l G yX6_bid (ww yX6_bid cX6_bid 3 (some FieldType.int)) (RM 6 4 130) [.ref zz, .int x1, .int x2] w post px) (hz : (zz, .inr (9, fs)) ∈ w) (ho : ∀ r w2, post r w2 → outL G o1 f ∈ w2) (hE : ∀ E w2, px E w2 → E = "java/lang/IllegalArgumentException" ∨ E = "java/lang/IllegalStateException") : CiH l G yL_bid cL_bid 5 [(0, 10, 13, 13), (0, 10, 17, 15)] (RM 7 4 130) [.ref zz, .int x1, .int x2, .ref o1] w (fun r w2 => (r = nI 0 ∧ ∃ v w3, post v w3 ∧ Fc w3 [outL G o1 f] [outL G o1 (vp_updL f 0 v.toInt64)] w2) ∨ (r = nI 1 ∧ px "java/lang/IllegalArgumentException" w2) ∨ (r = nI 2 ∧ px "java/lang/IllegalStateException" w2)) := by
  refine CiH.intro (by decide) (Nat.le_of_ble_eq_true rfl) ?_
  intro p e s m args below meth c A X hT hW ls hl
  have hx := X.exec
  have hb := X.bytes
  have hl : lv_has ls 5 [(0, .ref zz), (1, .int x1), (2, .int x2), (3, .ref o1)] := hl
  obtain ⟨q0, hq⟩ := List.mem_iff_getElem?.mp hz
  refine lv_aload_n hx hb dL_bid_0 rfl (lv_at hl 3 rfl) ?_
  refine lv_iconst (v := nI 0) hx hb dL_bid_1 (by decide) ?_
  refine lv_aload_n hx hb dL_bid_2 rfl (lv_at hl 0 rfl) ?_
  refine lv_iload_n hx hb dL_bid_3 rfl (lv_at hl 1 rfl) ?_
  refine lv_iload_n hx hb dL_bid_4 rfl (lv_at hl 2 rfl) ?_
  refine go_hi X hW (rest := [.int (nI 0), .ref o1]) (run_XV X hW (As := [.int x1, .int x2]) (rest := [.int (nI 0), .ref o1]) 9 q0 hq (M s.heap.size) (gi_V wq_676 wq_677 wq_678 wq_61 wq_679) rfl hyX6_bid rfl rfl rfl hl.1 (Nat.le_of_ble_eq_true rfl) ⟨Nat.le_of_ble_eq_true rfl, Nat.le_of_ble_eq_true rfl⟩ ⟨Nat.le_of_ble_eq_true rfl, Nat.le_of_ble_eq_true rfl⟩ dL_bid_5) (fun r w1 H1 locs1 hp hW => ?_) (fun E q ce w1 H1 locs1 hp hW hc1 hc2 hc3 => ?_)
  · refine lv_i2l (v := r.toInt64) hx hb dL_bid_8 rfl ?_
    refine x_last X hW (ho r w1 hp) dL_bid_9 (fun w2 H2 locs2 hF hW => ?_)
    refine lv_goto (tgt := 21) hx hb dL_bid_10 rfl ?_
    refine lv_iconst (v := nI 0) hx hb dL_bid_21 (by decide) ?_
    exact ret_i X hW (Or.inl ⟨rfl, r, w1, hp, hF⟩) rfl (Nat.le_of_ble_eq_true rfl) (Nat.le_of_ble_eq_true rfl) dL_bid_22
  · rcases hE E w1 hp with rfl | rfl
    · refine x_catch (E := "java/lang/IllegalArgumentException") X hT (by decide) [] (0, 10, 13, 13) [(0, 10, 17, 15)] rfl (fun z hz => by cases hz) (by decide) (by decide) wq_409 wq_423 hc1 hc2 hc3 ?_
      refine lv_astore (lv' := [(4, .ref q), (0, .ref zz), (1, .int x1), (2, .int x2), (3, .ref o1)]) hx hb dL_bid_13 hl (by decide) rfl (fun ls hl => ?_)
      refine lv_iconst (v := nI 1) hx hb dL_bid_15 (by decide) ?_
      exact ret_i X hW (Or.inr (Or.inl ⟨rfl, hp⟩)) rfl (Nat.le_of_ble_eq_true rfl) (Nat.le_of_ble_eq_true rfl) dL_bid_16
    · refine x_catch (E := "java/lang/IllegalStateException") X hT (by decide) [(0, 10, 13, 13)] (0, 10, 17, 15) [] rfl (fun z hz => by simp only [List.mem_cons, List.not_mem_nil, or_false] at hz; rcases hz with rfl <;> first | exact ⟨by decide, _, wq_409, by decide, by decide⟩) (by decide) (by decide) wq_410 wq_495 hc1 hc2 hc3 ?_
      refine lv_astore (lv' := [(4, .ref q), (0, .ref zz), (1, .int x1), (2, .int x2), (3, .ref o1)]) hx hb dL_bid_17 hl (by decide) rfl (fun ls hl => ?_)
      refine lv_iconst (v := nI 2) hx hb dL_bid_19 (by decide) ?_
      exact ret_i X hW (Or.inr (Or.inr (⟨rfl, hp⟩))) rfl (Nat.le_of_ble_eq_true rfl) (Nat.le_of_ble_eq_true rfl) dL_bid_20
set_option maxRecDepth 100000 in
set_option maxHeartbeats 4000000 in
theorem h_ask (l : Launch) (G : Gt) (w : va_W) (zz o1 : Nat) (fs : List Value) (f : Nat → Int64) (x1 : Int32) (x2 : Int32) (x3 : Int32) {post : Int32 → va_W → Prop} {px : String → va_W → Prop} (M : Xi l G yX6_ask (ww yX6_ask cX6_ask 5 (some FieldType.int)) (RM 6 4 130) [.ref zz, .int x1, .int x2, .int x3] w post px) (hz : (zz, .inr (9, fs)) ∈ w) (ho : ∀ r w2, post r w2 → outL G o1 f ∈ w2) (hE : ∀ E w2, px E w2 → E = "java/util/NoSuchElementException" ∨ E = "java/lang/IllegalArgumentException" ∨ E = "java/lang/IllegalStateException") : CiH l G yL_ask cL_ask 6 [(0, 12, 15, 21), (0, 12, 19, 13), (0, 12, 23, 15)] (RM 7 4 130) [.ref zz, .int x1, .int x2, .int x3, .ref o1] w (fun r w2 => (r = nI 0 ∧ ∃ v w3, post v w3 ∧ Fc w3 [outL G o1 f] [outL G o1 (vp_updL f 0 v.toInt64)] w2) ∨ (r = nI 1 ∧ px "java/util/NoSuchElementException" w2) ∨ (r = nI 2 ∧ px "java/lang/IllegalArgumentException" w2) ∨ (r = nI 3 ∧ px "java/lang/IllegalStateException" w2)) := by
  refine CiH.intro (by decide) (Nat.le_of_ble_eq_true rfl) ?_
  intro p e s m args below meth c A X hT hW ls hl
  have hx := X.exec
  have hb := X.bytes
  have hl : lv_has ls 6 [(0, .ref zz), (1, .int x1), (2, .int x2), (3, .int x3), (4, .ref o1)] := hl
  obtain ⟨q0, hq⟩ := List.mem_iff_getElem?.mp hz
  refine lv_aload hx hb dL_ask_0 (lv_at hl 4 rfl) ?_
  refine lv_iconst (v := nI 0) hx hb dL_ask_2 (by decide) ?_
  refine lv_aload_n hx hb dL_ask_3 rfl (lv_at hl 0 rfl) ?_
  refine lv_iload_n hx hb dL_ask_4 rfl (lv_at hl 1 rfl) ?_
  refine lv_iload_n hx hb dL_ask_5 rfl (lv_at hl 2 rfl) ?_
  refine lv_iload_n hx hb dL_ask_6 rfl (lv_at hl 3 rfl) ?_
  refine go_hi X hW (rest := [.int (nI 0), .ref o1]) (run_XV X hW (As := [.int x1, .int x2, .int x3]) (rest := [.int (nI 0), .ref o1]) 9 q0 hq (M s.heap.size) (gi_V wq_723 wq_724 wq_725 wq_61 wq_726) rfl hyX6_ask rfl rfl rfl hl.1 (Nat.le_of_ble_eq_true rfl) ⟨Nat.le_of_ble_eq_true rfl, Nat.le_of_ble_eq_true rfl⟩ ⟨Nat.le_of_ble_eq_true rfl, Nat.le_of_ble_eq_true rfl⟩ dL_ask_7) (fun r w1 H1 locs1 hp hW => ?_) (fun E q ce w1 H1 locs1 hp hW hc1 hc2 hc3 => ?_)
  · refine lv_i2l (v := r.toInt64) hx hb dL_ask_10 rfl ?_
    refine x_last X hW (ho r w1 hp) dL_ask_11 (fun w2 H2 locs2 hF hW => ?_)
    refine lv_goto (tgt := 27) hx hb dL_ask_12 rfl ?_
    refine lv_iconst (v := nI 0) hx hb dL_ask_27 (by decide) ?_
    exact ret_i X hW (Or.inl ⟨rfl, r, w1, hp, hF⟩) rfl (Nat.le_of_ble_eq_true rfl) (Nat.le_of_ble_eq_true rfl) dL_ask_28
  · rcases hE E w1 hp with rfl | rfl | rfl
    · refine x_catch (E := "java/util/NoSuchElementException") X hT (by decide) [] (0, 12, 15, 21) [(0, 12, 19, 13), (0, 12, 23, 15)] rfl (fun z hz => by cases hz) (by decide) (by decide) wq_599 wq_610 hc1 hc2 hc3 ?_
      refine lv_astore (lv' := [(5, .ref q), (0, .ref zz), (1, .int x1), (2, .int x2), (3, .int x3), (4, .ref o1)]) hx hb dL_ask_15 hl (by decide) rfl (fun ls hl => ?_)
      refine lv_iconst (v := nI 1) hx hb dL_ask_17 (by decide) ?_
      exact ret_i X hW (Or.inr (Or.inl ⟨rfl, hp⟩)) rfl (Nat.le_of_ble_eq_true rfl) (Nat.le_of_ble_eq_true rfl) dL_ask_18
    · refine x_catch (E := "java/lang/IllegalArgumentException") X hT (by decide) [(0, 12, 15, 21)] (0, 12, 19, 13) [(0, 12, 23, 15)] rfl (fun z hz => by simp only [List.mem_cons, List.not_mem_nil, or_false] at hz; rcases hz with rfl <;> first | exact ⟨by decide, _, wq_599, by decide, by decide⟩) (by decide) (by decide) wq_409 wq_423 hc1 hc2 hc3 ?_
      refine lv_astore (lv' := [(5, .ref q), (0, .ref zz), (1, .int x1), (2, .int x2), (3, .int x3), (4, .ref o1)]) hx hb dL_ask_19 hl (by decide) rfl (fun ls hl => ?_)
      refine lv_iconst (v := nI 2) hx hb dL_ask_21 (by decide) ?_
      exact ret_i X hW (Or.inr (Or.inr (Or.inl ⟨rfl, hp⟩))) rfl (Nat.le_of_ble_eq_true rfl) (Nat.le_of_ble_eq_true rfl) dL_ask_22
    · refine x_catch (E := "java/lang/IllegalStateException") X hT (by decide) [(0, 12, 15, 21), (0, 12, 19, 13)] (0, 12, 23, 15) [] rfl (fun z hz => by simp only [List.mem_cons, List.not_mem_nil, or_false] at hz; rcases hz with rfl | rfl <;> first | exact ⟨by decide, _, wq_599, by decide, by decide⟩ | exact ⟨by decide, _, wq_409, by decide, by decide⟩) (by decide) (by decide) wq_410 wq_495 hc1 hc2 hc3 ?_
      refine lv_astore (lv' := [(5, .ref q), (0, .ref zz), (1, .int x1), (2, .int x2), (3, .int x3), (4, .ref o1)]) hx hb dL_ask_23 hl (by decide) rfl (fun ls hl => ?_)
      refine lv_iconst (v := nI 3) hx hb dL_ask_25 (by decide) ?_
      exact ret_i X hW (Or.inr (Or.inr (Or.inr (⟨rfl, hp⟩)))) rfl (Nat.le_of_ble_eq_true rfl) (Nat.le_of_ble_eq_true rfl) dL_ask_26
set_option maxRecDepth 100000 in
set_option maxHeartbeats 4000000 in
theorem h_raise (l : Launch) (G : Gt) (w : va_W) (zz o1 : Nat) (fs : List Value) (f : Nat → Int64) (x1 : Int32) (x2 : Int32) {post : Int32 → va_W → Prop} {px : String → va_W → Prop} (M : Xi l G yX6_raise (ww yX6_raise cX6_raise 5 (some FieldType.int)) (RM 6 4 24) [.ref zz, .int x1, .int x2] w post px) (hz : (zz, .inr (9, fs)) ∈ w) (ho : ∀ r w2, post r w2 → outL G o1 f ∈ w2) (hE : ∀ E w2, px E w2 → E = "java/util/NoSuchElementException" ∨ E = "java/lang/IllegalStateException" ∨ E = "java/lang/IllegalArgumentException") : CiH l G yL_raise cL_raise 5 [(0, 10, 13, 21), (0, 10, 17, 15), (0, 10, 21, 13)] (RM 7 4 24) [.ref zz, .int x1, .int x2, .ref o1] w (fun r w2 => (r = nI 0 ∧ ∃ v w3, post v w3 ∧ Fc w3 [outL G o1 f] [outL G o1 (vp_updL f 0 v.toInt64)] w2) ∨ (r = nI 1 ∧ px "java/util/NoSuchElementException" w2) ∨ (r = nI 2 ∧ px "java/lang/IllegalStateException" w2) ∨ (r = nI 3 ∧ px "java/lang/IllegalArgumentException" w2)) := by
  refine CiH.intro (by decide) (Nat.le_of_ble_eq_true rfl) ?_
  intro p e s m args below meth c A X hT hW ls hl
  have hx := X.exec
  have hb := X.bytes
  have hl : lv_has ls 5 [(0, .ref zz), (1, .int x1), (2, .int x2), (3, .ref o1)] := hl
  obtain ⟨q0, hq⟩ := List.mem_iff_getElem?.mp hz
  refine lv_aload_n hx hb dL_raise_0 rfl (lv_at hl 3 rfl) ?_
  refine lv_iconst (v := nI 0) hx hb dL_raise_1 (by decide) ?_
  refine lv_aload_n hx hb dL_raise_2 rfl (lv_at hl 0 rfl) ?_
  refine lv_iload_n hx hb dL_raise_3 rfl (lv_at hl 1 rfl) ?_
  refine lv_iload_n hx hb dL_raise_4 rfl (lv_at hl 2 rfl) ?_
  refine go_hi X hW (rest := [.int (nI 0), .ref o1]) (run_XV X hW (As := [.int x1, .int x2]) (rest := [.int (nI 0), .ref o1]) 9 q0 hq (M s.heap.size) (gi_V wq_759 wq_760 wq_761 wq_61 wq_762) rfl hyX6_raise rfl rfl rfl hl.1 (Nat.le_of_ble_eq_true rfl) ⟨Nat.le_of_ble_eq_true rfl, Nat.le_of_ble_eq_true rfl⟩ ⟨Nat.le_of_ble_eq_true rfl, Nat.le_of_ble_eq_true rfl⟩ dL_raise_5) (fun r w1 H1 locs1 hp hW => ?_) (fun E q ce w1 H1 locs1 hp hW hc1 hc2 hc3 => ?_)
  · refine lv_i2l (v := r.toInt64) hx hb dL_raise_8 rfl ?_
    refine x_last X hW (ho r w1 hp) dL_raise_9 (fun w2 H2 locs2 hF hW => ?_)
    refine lv_goto (tgt := 25) hx hb dL_raise_10 rfl ?_
    refine lv_iconst (v := nI 0) hx hb dL_raise_25 (by decide) ?_
    exact ret_i X hW (Or.inl ⟨rfl, r, w1, hp, hF⟩) rfl (Nat.le_of_ble_eq_true rfl) (Nat.le_of_ble_eq_true rfl) dL_raise_26
  · rcases hE E w1 hp with rfl | rfl | rfl
    · refine x_catch (E := "java/util/NoSuchElementException") X hT (by decide) [] (0, 10, 13, 21) [(0, 10, 17, 15), (0, 10, 21, 13)] rfl (fun z hz => by cases hz) (by decide) (by decide) wq_599 wq_610 hc1 hc2 hc3 ?_
      refine lv_astore (lv' := [(4, .ref q), (0, .ref zz), (1, .int x1), (2, .int x2), (3, .ref o1)]) hx hb dL_raise_13 hl (by decide) rfl (fun ls hl => ?_)
      refine lv_iconst (v := nI 1) hx hb dL_raise_15 (by decide) ?_
      exact ret_i X hW (Or.inr (Or.inl ⟨rfl, hp⟩)) rfl (Nat.le_of_ble_eq_true rfl) (Nat.le_of_ble_eq_true rfl) dL_raise_16
    · refine x_catch (E := "java/lang/IllegalStateException") X hT (by decide) [(0, 10, 13, 21)] (0, 10, 17, 15) [(0, 10, 21, 13)] rfl (fun z hz => by simp only [List.mem_cons, List.not_mem_nil, or_false] at hz; rcases hz with rfl <;> first | exact ⟨by decide, _, wq_599, by decide, by decide⟩) (by decide) (by decide) wq_410 wq_495 hc1 hc2 hc3 ?_
      refine lv_astore (lv' := [(4, .ref q), (0, .ref zz), (1, .int x1), (2, .int x2), (3, .ref o1)]) hx hb dL_raise_17 hl (by decide) rfl (fun ls hl => ?_)
      refine lv_iconst (v := nI 2) hx hb dL_raise_19 (by decide) ?_
      exact ret_i X hW (Or.inr (Or.inr (Or.inl ⟨rfl, hp⟩))) rfl (Nat.le_of_ble_eq_true rfl) (Nat.le_of_ble_eq_true rfl) dL_raise_20
    · refine x_catch (E := "java/lang/IllegalArgumentException") X hT (by decide) [(0, 10, 13, 21), (0, 10, 17, 15)] (0, 10, 21, 13) [] rfl (fun z hz => by simp only [List.mem_cons, List.not_mem_nil, or_false] at hz; rcases hz with rfl | rfl <;> first | exact ⟨by decide, _, wq_599, by decide, by decide⟩ | exact ⟨by decide, _, wq_410, by decide, by decide⟩) (by decide) (by decide) wq_409 wq_423 hc1 hc2 hc3 ?_
      refine lv_astore (lv' := [(4, .ref q), (0, .ref zz), (1, .int x1), (2, .int x2), (3, .ref o1)]) hx hb dL_raise_21 hl (by decide) rfl (fun ls hl => ?_)
      refine lv_iconst (v := nI 3) hx hb dL_raise_23 (by decide) ?_
      exact ret_i X hW (Or.inr (Or.inr (Or.inr (⟨rfl, hp⟩)))) rfl (Nat.le_of_ble_eq_true rfl) (Nat.le_of_ble_eq_true rfl) dL_raise_24
set_option maxRecDepth 100000 in
set_option maxHeartbeats 4000000 in
theorem h_cancel (l : Launch) (G : Gt) (w : va_W) (zz o1 : Nat) (fs : List Value) (f : Nat → Int64) (x1 : Int32) {post : Int32 → va_W → Prop} {px : String → va_W → Prop} (M : Xi l G yX6_cancel (ww yX6_cancel cX6_cancel 3 (some FieldType.int)) (RM 6 3 18) [.ref zz, .int x1] w post px) (hz : (zz, .inr (9, fs)) ∈ w) (ho : ∀ r w2, post r w2 → outL G o1 f ∈ w2) (hE : ∀ E w2, px E w2 → E = "java/util/NoSuchElementException" ∨ E = "java/lang/IllegalStateException") : CiH l G yL_cancel cL_cancel 4 [(0, 9, 12, 21), (0, 9, 15, 15)] (RM 7 3 18) [.ref zz, .int x1, .ref o1] w (fun r w2 => (r = nI 0 ∧ ∃ v w3, post v w3 ∧ Fc w3 [outL G o1 f] [outL G o1 (vp_updL f 0 v.toInt64)] w2) ∨ (r = nI 1 ∧ px "java/util/NoSuchElementException" w2) ∨ (r = nI 2 ∧ px "java/lang/IllegalStateException" w2)) := by
  refine CiH.intro (by decide) (Nat.le_of_ble_eq_true rfl) ?_
  intro p e s m args below meth c A X hT hW ls hl
  have hx := X.exec
  have hb := X.bytes
  have hl : lv_has ls 4 [(0, .ref zz), (1, .int x1), (2, .ref o1)] := hl
  obtain ⟨q0, hq⟩ := List.mem_iff_getElem?.mp hz
  refine lv_aload_n hx hb dL_cancel_0 rfl (lv_at hl 2 rfl) ?_
  refine lv_iconst (v := nI 0) hx hb dL_cancel_1 (by decide) ?_
  refine lv_aload_n hx hb dL_cancel_2 rfl (lv_at hl 0 rfl) ?_
  refine lv_iload_n hx hb dL_cancel_3 rfl (lv_at hl 1 rfl) ?_
  refine go_hi X hW (rest := [.int (nI 0), .ref o1]) (run_XV X hW (As := [.int x1]) (rest := [.int (nI 0), .ref o1]) 9 q0 hq (M s.heap.size) (gi_V wq_772 wq_773 wq_774 wq_61 wq_775) rfl hyX6_cancel rfl rfl rfl hl.1 (Nat.le_of_ble_eq_true rfl) ⟨Nat.le_of_ble_eq_true rfl, Nat.le_of_ble_eq_true rfl⟩ ⟨Nat.le_of_ble_eq_true rfl, Nat.le_of_ble_eq_true rfl⟩ dL_cancel_4) (fun r w1 H1 locs1 hp hW => ?_) (fun E q ce w1 H1 locs1 hp hW hc1 hc2 hc3 => ?_)
  · refine lv_i2l (v := r.toInt64) hx hb dL_cancel_7 rfl ?_
    refine x_last X hW (ho r w1 hp) dL_cancel_8 (fun w2 H2 locs2 hF hW => ?_)
    refine lv_goto (tgt := 18) hx hb dL_cancel_9 rfl ?_
    refine lv_iconst (v := nI 0) hx hb dL_cancel_18 (by decide) ?_
    exact ret_i X hW (Or.inl ⟨rfl, r, w1, hp, hF⟩) rfl (Nat.le_of_ble_eq_true rfl) (Nat.le_of_ble_eq_true rfl) dL_cancel_19
  · rcases hE E w1 hp with rfl | rfl
    · refine x_catch (E := "java/util/NoSuchElementException") X hT (by decide) [] (0, 9, 12, 21) [(0, 9, 15, 15)] rfl (fun z hz => by cases hz) (by decide) (by decide) wq_599 wq_610 hc1 hc2 hc3 ?_
      refine lv_astore_n (lv' := [(3, .ref q), (0, .ref zz), (1, .int x1), (2, .ref o1)]) hx hb dL_cancel_12 rfl hl (by decide) rfl (fun ls hl => ?_)
      refine lv_iconst (v := nI 1) hx hb dL_cancel_13 (by decide) ?_
      exact ret_i X hW (Or.inr (Or.inl ⟨rfl, hp⟩)) rfl (Nat.le_of_ble_eq_true rfl) (Nat.le_of_ble_eq_true rfl) dL_cancel_14
    · refine x_catch (E := "java/lang/IllegalStateException") X hT (by decide) [(0, 9, 12, 21)] (0, 9, 15, 15) [] rfl (fun z hz => by simp only [List.mem_cons, List.not_mem_nil, or_false] at hz; rcases hz with rfl <;> first | exact ⟨by decide, _, wq_599, by decide, by decide⟩) (by decide) (by decide) wq_410 wq_495 hc1 hc2 hc3 ?_
      refine lv_astore_n (lv' := [(3, .ref q), (0, .ref zz), (1, .int x1), (2, .ref o1)]) hx hb dL_cancel_15 rfl hl (by decide) rfl (fun ls hl => ?_)
      refine lv_iconst (v := nI 2) hx hb dL_cancel_16 (by decide) ?_
      exact ret_i X hW (Or.inr (Or.inr (⟨rfl, hp⟩))) rfl (Nat.le_of_ble_eq_true rfl) (Nat.le_of_ble_eq_true rfl) dL_cancel_17
set_option maxRecDepth 100000 in
set_option maxHeartbeats 4000000 in
theorem h_close (l : Launch) (G : Gt) (w : va_W) (zz o1 : Nat) (fs : List Value) (f : Nat → Int64) {post : Int32 → va_W → Prop} {px : String → va_W → Prop} (M : Xi l G yX6_close (ww yX6_close cX6_close 4 (some FieldType.int)) (RM 17 1 6) [.ref zz] w post px) (hz : (zz, .inr (9, fs)) ∈ w) (ho : ∀ r w2, post r w2 → outL G o1 f ∈ w2) (hE : ∀ E w2, px E w2 → E = "java/lang/IllegalStateException") : CiH l G yL_close cL_close 3 [(0, 8, 11, 15)] (RM 18 1 6) [.ref zz, .ref o1] w (fun r w2 => (r = nI 0 ∧ ∃ v w3, post v w3 ∧ Fc w3 [outL G o1 f] [outL G o1 (vp_updL f 0 v.toInt64)] w2) ∨ (r = nI 1 ∧ px "java/lang/IllegalStateException" w2)) := by
  refine CiH.intro (by decide) (Nat.le_of_ble_eq_true rfl) ?_
  intro p e s m args below meth c A X hT hW ls hl
  have hx := X.exec
  have hb := X.bytes
  have hl : lv_has ls 3 [(0, .ref zz), (1, .ref o1)] := hl
  obtain ⟨q0, hq⟩ := List.mem_iff_getElem?.mp hz
  refine lv_aload_n hx hb dL_close_0 rfl (lv_at hl 1 rfl) ?_
  refine lv_iconst (v := nI 0) hx hb dL_close_1 (by decide) ?_
  refine lv_aload_n hx hb dL_close_2 rfl (lv_at hl 0 rfl) ?_
  refine go_hi X hW (rest := [.int (nI 0), .ref o1]) (run_XV X hW (As := []) (rest := [.int (nI 0), .ref o1]) 9 q0 hq (M s.heap.size) (gi_V wq_779 wq_780 wq_781 wq_61 wq_782) rfl hyX6_close rfl rfl rfl hl.1 (Nat.le_of_ble_eq_true rfl) ⟨Nat.le_of_ble_eq_true rfl, Nat.le_of_ble_eq_true rfl⟩ ⟨Nat.le_of_ble_eq_true rfl, Nat.le_of_ble_eq_true rfl⟩ dL_close_3) (fun r w1 H1 locs1 hp hW => ?_) (fun E q ce w1 H1 locs1 hp hW hc1 hc2 hc3 => ?_)
  · refine lv_i2l (v := r.toInt64) hx hb dL_close_6 rfl ?_
    refine x_last X hW (ho r w1 hp) dL_close_7 (fun w2 H2 locs2 hF hW => ?_)
    refine lv_goto (tgt := 14) hx hb dL_close_8 rfl ?_
    refine lv_iconst (v := nI 0) hx hb dL_close_14 (by decide) ?_
    exact ret_i X hW (Or.inl ⟨rfl, r, w1, hp, hF⟩) rfl (Nat.le_of_ble_eq_true rfl) (Nat.le_of_ble_eq_true rfl) dL_close_15
  · rcases hE E w1 hp with rfl
    · refine x_catch (E := "java/lang/IllegalStateException") X hT (by decide) [] (0, 8, 11, 15) [] rfl (fun z hz => by cases hz) (by decide) (by decide) wq_410 wq_495 hc1 hc2 hc3 ?_
      refine lv_astore_n (lv' := [(2, .ref q), (0, .ref zz), (1, .ref o1)]) hx hb dL_close_11 rfl hl (by decide) rfl (fun ls hl => ?_)
      refine lv_iconst (v := nI 1) hx hb dL_close_12 (by decide) ?_
      exact ret_i X hW (Or.inr (⟨rfl, hp⟩)) rfl (Nat.le_of_ble_eq_true rfl) (Nat.le_of_ble_eq_true rfl) dL_close_13
set_option maxRecDepth 100000 in
set_option maxHeartbeats 4000000 in
theorem h_fibreOf (l : Launch) (G : Gt) (w : va_W) (zz o1 : Nat) (fs : List Value) (f : Nat → Int64) (x1 : Int32) {post : Int32 → va_W → Prop} {px : String → va_W → Prop} (M : Xi l G yX6_fibreOf (ww yX6_fibreOf cX6_fibreOf 2 (some FieldType.int)) (RM 6 3 18) [.ref zz, .int x1] w post px) (hz : (zz, .inr (9, fs)) ∈ w) (ho : ∀ r w2, post r w2 → outL G o1 f ∈ w2) (hE : ∀ E w2, px E w2 → E = "java/util/NoSuchElementException") : CiH l G yL_fibreOf cL_fibreOf 4 [(0, 9, 12, 21)] (RM 7 3 18) [.ref zz, .int x1, .ref o1] w (fun r w2 => (r = nI 0 ∧ ∃ v w3, post v w3 ∧ Fc w3 [outL G o1 f] [outL G o1 (vp_updL f 0 v.toInt64)] w2) ∨ (r = nI 1 ∧ px "java/util/NoSuchElementException" w2)) := by
  refine CiH.intro (by decide) (Nat.le_of_ble_eq_true rfl) ?_
  intro p e s m args below meth c A X hT hW ls hl
  have hx := X.exec
  have hb := X.bytes
  have hl : lv_has ls 4 [(0, .ref zz), (1, .int x1), (2, .ref o1)] := hl
  obtain ⟨q0, hq⟩ := List.mem_iff_getElem?.mp hz
  refine lv_aload_n hx hb dL_fibreOf_0 rfl (lv_at hl 2 rfl) ?_
  refine lv_iconst (v := nI 0) hx hb dL_fibreOf_1 (by decide) ?_
  refine lv_aload_n hx hb dL_fibreOf_2 rfl (lv_at hl 0 rfl) ?_
  refine lv_iload_n hx hb dL_fibreOf_3 rfl (lv_at hl 1 rfl) ?_
  refine go_hi X hW (rest := [.int (nI 0), .ref o1]) (run_XV X hW (As := [.int x1]) (rest := [.int (nI 0), .ref o1]) 9 q0 hq (M s.heap.size) (gi_V wq_822 wq_823 wq_824 wq_61 wq_825) rfl hyX6_fibreOf rfl rfl rfl hl.1 (Nat.le_of_ble_eq_true rfl) ⟨Nat.le_of_ble_eq_true rfl, Nat.le_of_ble_eq_true rfl⟩ ⟨Nat.le_of_ble_eq_true rfl, Nat.le_of_ble_eq_true rfl⟩ dL_fibreOf_4) (fun r w1 H1 locs1 hp hW => ?_) (fun E q ce w1 H1 locs1 hp hW hc1 hc2 hc3 => ?_)
  · refine lv_i2l (v := r.toInt64) hx hb dL_fibreOf_7 rfl ?_
    refine x_last X hW (ho r w1 hp) dL_fibreOf_8 (fun w2 H2 locs2 hF hW => ?_)
    refine lv_goto (tgt := 15) hx hb dL_fibreOf_9 rfl ?_
    refine lv_iconst (v := nI 0) hx hb dL_fibreOf_15 (by decide) ?_
    exact ret_i X hW (Or.inl ⟨rfl, r, w1, hp, hF⟩) rfl (Nat.le_of_ble_eq_true rfl) (Nat.le_of_ble_eq_true rfl) dL_fibreOf_16
  · rcases hE E w1 hp with rfl
    · refine x_catch (E := "java/util/NoSuchElementException") X hT (by decide) [] (0, 9, 12, 21) [] rfl (fun z hz => by cases hz) (by decide) (by decide) wq_599 wq_610 hc1 hc2 hc3 ?_
      refine lv_astore_n (lv' := [(3, .ref q), (0, .ref zz), (1, .int x1), (2, .ref o1)]) hx hb dL_fibreOf_12 rfl hl (by decide) rfl (fun ls hl => ?_)
      refine lv_iconst (v := nI 1) hx hb dL_fibreOf_13 (by decide) ?_
      exact ret_i X hW (Or.inr (⟨rfl, hp⟩)) rfl (Nat.le_of_ble_eq_true rfl) (Nat.le_of_ble_eq_true rfl) dL_fibreOf_14
set_option maxRecDepth 100000 in
set_option maxHeartbeats 4000000 in
theorem h_gradeOf (l : Launch) (G : Gt) (w : va_W) (zz o1 : Nat) (fs : List Value) (f : Nat → Int64) (x1 : Int32) {post : Int32 → va_W → Prop} {px : String → va_W → Prop} (M : Xi l G yX6_gradeOf (ww yX6_gradeOf cX6_gradeOf 2 (some FieldType.char)) (RM 6 3 18) [.ref zz, .int x1] w post px) (hz : (zz, .inr (9, fs)) ∈ w) (ho : ∀ r w2, post r w2 → outL G o1 f ∈ w2) (hE : ∀ E w2, px E w2 → E = "java/util/NoSuchElementException") : CiH l G yL_gradeOf cL_gradeOf 4 [(0, 9, 12, 21)] (RM 7 3 18) [.ref zz, .int x1, .ref o1] w (fun r w2 => (r = nI 0 ∧ ∃ v w3, post v w3 ∧ Fc w3 [outL G o1 f] [outL G o1 (vp_updL f 0 v.toInt64)] w2) ∨ (r = nI 1 ∧ px "java/util/NoSuchElementException" w2)) := by
  refine CiH.intro (by decide) (Nat.le_of_ble_eq_true rfl) ?_
  intro p e s m args below meth c A X hT hW ls hl
  have hx := X.exec
  have hb := X.bytes
  have hl : lv_has ls 4 [(0, .ref zz), (1, .int x1), (2, .ref o1)] := hl
  obtain ⟨q0, hq⟩ := List.mem_iff_getElem?.mp hz
  refine lv_aload_n hx hb dL_gradeOf_0 rfl (lv_at hl 2 rfl) ?_
  refine lv_iconst (v := nI 0) hx hb dL_gradeOf_1 (by decide) ?_
  refine lv_aload_n hx hb dL_gradeOf_2 rfl (lv_at hl 0 rfl) ?_
  refine lv_iload_n hx hb dL_gradeOf_3 rfl (lv_at hl 1 rfl) ?_
  refine go_hi X hW (rest := [.int (nI 0), .ref o1]) (run_XV X hW (As := [.int x1]) (rest := [.int (nI 0), .ref o1]) 9 q0 hq (M s.heap.size) (gi_V wq_829 wq_830 wq_831 wq_61 wq_832) rfl hyX6_gradeOf rfl rfl rfl hl.1 (Nat.le_of_ble_eq_true rfl) ⟨Nat.le_of_ble_eq_true rfl, Nat.le_of_ble_eq_true rfl⟩ ⟨Nat.le_of_ble_eq_true rfl, Nat.le_of_ble_eq_true rfl⟩ dL_gradeOf_4) (fun r w1 H1 locs1 hp hW => ?_) (fun E q ce w1 H1 locs1 hp hW hc1 hc2 hc3 => ?_)
  · refine lv_i2l (v := r.toInt64) hx hb dL_gradeOf_7 rfl ?_
    refine x_last X hW (ho r w1 hp) dL_gradeOf_8 (fun w2 H2 locs2 hF hW => ?_)
    refine lv_goto (tgt := 15) hx hb dL_gradeOf_9 rfl ?_
    refine lv_iconst (v := nI 0) hx hb dL_gradeOf_15 (by decide) ?_
    exact ret_i X hW (Or.inl ⟨rfl, r, w1, hp, hF⟩) rfl (Nat.le_of_ble_eq_true rfl) (Nat.le_of_ble_eq_true rfl) dL_gradeOf_16
  · rcases hE E w1 hp with rfl
    · refine x_catch (E := "java/util/NoSuchElementException") X hT (by decide) [] (0, 9, 12, 21) [] rfl (fun z hz => by cases hz) (by decide) (by decide) wq_599 wq_610 hc1 hc2 hc3 ?_
      refine lv_astore_n (lv' := [(3, .ref q), (0, .ref zz), (1, .int x1), (2, .ref o1)]) hx hb dL_gradeOf_12 rfl hl (by decide) rfl (fun ls hl => ?_)
      refine lv_iconst (v := nI 1) hx hb dL_gradeOf_13 (by decide) ?_
      exact ret_i X hW (Or.inr (⟨rfl, hp⟩)) rfl (Nat.le_of_ble_eq_true rfl) (Nat.le_of_ble_eq_true rfl) dL_gradeOf_14
set_option maxRecDepth 100000 in
set_option maxHeartbeats 4000000 in
theorem h_reserveOf (l : Launch) (G : Gt) (w : va_W) (zz o1 : Nat) (fs : List Value) (f : Nat → Int64) (x1 : Int32) {post : Int32 → va_W → Prop} {px : String → va_W → Prop} (M : Xi l G yX6_reserveOf (ww yX6_reserveOf cX6_reserveOf 2 (some FieldType.int)) (RM 6 3 18) [.ref zz, .int x1] w post px) (hz : (zz, .inr (9, fs)) ∈ w) (ho : ∀ r w2, post r w2 → outL G o1 f ∈ w2) (hE : ∀ E w2, px E w2 → E = "java/util/NoSuchElementException") : CiH l G yL_reserveOf cL_reserveOf 4 [(0, 9, 12, 21)] (RM 7 3 18) [.ref zz, .int x1, .ref o1] w (fun r w2 => (r = nI 0 ∧ ∃ v w3, post v w3 ∧ Fc w3 [outL G o1 f] [outL G o1 (vp_updL f 0 v.toInt64)] w2) ∨ (r = nI 1 ∧ px "java/util/NoSuchElementException" w2)) := by
  refine CiH.intro (by decide) (Nat.le_of_ble_eq_true rfl) ?_
  intro p e s m args below meth c A X hT hW ls hl
  have hx := X.exec
  have hb := X.bytes
  have hl : lv_has ls 4 [(0, .ref zz), (1, .int x1), (2, .ref o1)] := hl
  obtain ⟨q0, hq⟩ := List.mem_iff_getElem?.mp hz
  refine lv_aload_n hx hb dL_reserveOf_0 rfl (lv_at hl 2 rfl) ?_
  refine lv_iconst (v := nI 0) hx hb dL_reserveOf_1 (by decide) ?_
  refine lv_aload_n hx hb dL_reserveOf_2 rfl (lv_at hl 0 rfl) ?_
  refine lv_iload_n hx hb dL_reserveOf_3 rfl (lv_at hl 1 rfl) ?_
  refine go_hi X hW (rest := [.int (nI 0), .ref o1]) (run_XV X hW (As := [.int x1]) (rest := [.int (nI 0), .ref o1]) 9 q0 hq (M s.heap.size) (gi_V wq_836 wq_837 wq_838 wq_61 wq_839) rfl hyX6_reserveOf rfl rfl rfl hl.1 (Nat.le_of_ble_eq_true rfl) ⟨Nat.le_of_ble_eq_true rfl, Nat.le_of_ble_eq_true rfl⟩ ⟨Nat.le_of_ble_eq_true rfl, Nat.le_of_ble_eq_true rfl⟩ dL_reserveOf_4) (fun r w1 H1 locs1 hp hW => ?_) (fun E q ce w1 H1 locs1 hp hW hc1 hc2 hc3 => ?_)
  · refine lv_i2l (v := r.toInt64) hx hb dL_reserveOf_7 rfl ?_
    refine x_last X hW (ho r w1 hp) dL_reserveOf_8 (fun w2 H2 locs2 hF hW => ?_)
    refine lv_goto (tgt := 15) hx hb dL_reserveOf_9 rfl ?_
    refine lv_iconst (v := nI 0) hx hb dL_reserveOf_15 (by decide) ?_
    exact ret_i X hW (Or.inl ⟨rfl, r, w1, hp, hF⟩) rfl (Nat.le_of_ble_eq_true rfl) (Nat.le_of_ble_eq_true rfl) dL_reserveOf_16
  · rcases hE E w1 hp with rfl
    · refine x_catch (E := "java/util/NoSuchElementException") X hT (by decide) [] (0, 9, 12, 21) [] rfl (fun z hz => by cases hz) (by decide) (by decide) wq_599 wq_610 hc1 hc2 hc3 ?_
      refine lv_astore_n (lv' := [(3, .ref q), (0, .ref zz), (1, .int x1), (2, .ref o1)]) hx hb dL_reserveOf_12 rfl hl (by decide) rfl (fun ls hl => ?_)
      refine lv_iconst (v := nI 1) hx hb dL_reserveOf_13 (by decide) ?_
      exact ret_i X hW (Or.inr (⟨rfl, hp⟩)) rfl (Nat.le_of_ble_eq_true rfl) (Nat.le_of_ble_eq_true rfl) dL_reserveOf_14
set_option maxRecDepth 100000 in
set_option maxHeartbeats 4000000 in
theorem h_lotState (l : Launch) (G : Gt) (w : va_W) (zz o1 : Nat) (fs : List Value) (f : Nat → Int64) (x1 : Int32) {post : Int32 → va_W → Prop} {px : String → va_W → Prop} (M : Xi l G yX6_lotState (ww yX6_lotState cX6_lotState 2 (some FieldType.char)) (RM 6 3 18) [.ref zz, .int x1] w post px) (hz : (zz, .inr (9, fs)) ∈ w) (ho : ∀ r w2, post r w2 → outL G o1 f ∈ w2) (hE : ∀ E w2, px E w2 → E = "java/util/NoSuchElementException") : CiH l G yL_lotState cL_lotState 4 [(0, 9, 12, 21)] (RM 7 3 18) [.ref zz, .int x1, .ref o1] w (fun r w2 => (r = nI 0 ∧ ∃ v w3, post v w3 ∧ Fc w3 [outL G o1 f] [outL G o1 (vp_updL f 0 v.toInt64)] w2) ∨ (r = nI 1 ∧ px "java/util/NoSuchElementException" w2)) := by
  refine CiH.intro (by decide) (Nat.le_of_ble_eq_true rfl) ?_
  intro p e s m args below meth c A X hT hW ls hl
  have hx := X.exec
  have hb := X.bytes
  have hl : lv_has ls 4 [(0, .ref zz), (1, .int x1), (2, .ref o1)] := hl
  obtain ⟨q0, hq⟩ := List.mem_iff_getElem?.mp hz
  refine lv_aload_n hx hb dL_lotState_0 rfl (lv_at hl 2 rfl) ?_
  refine lv_iconst (v := nI 0) hx hb dL_lotState_1 (by decide) ?_
  refine lv_aload_n hx hb dL_lotState_2 rfl (lv_at hl 0 rfl) ?_
  refine lv_iload_n hx hb dL_lotState_3 rfl (lv_at hl 1 rfl) ?_
  refine go_hi X hW (rest := [.int (nI 0), .ref o1]) (run_XV X hW (As := [.int x1]) (rest := [.int (nI 0), .ref o1]) 9 q0 hq (M s.heap.size) (gi_V wq_843 wq_844 wq_845 wq_61 wq_846) rfl hyX6_lotState rfl rfl rfl hl.1 (Nat.le_of_ble_eq_true rfl) ⟨Nat.le_of_ble_eq_true rfl, Nat.le_of_ble_eq_true rfl⟩ ⟨Nat.le_of_ble_eq_true rfl, Nat.le_of_ble_eq_true rfl⟩ dL_lotState_4) (fun r w1 H1 locs1 hp hW => ?_) (fun E q ce w1 H1 locs1 hp hW hc1 hc2 hc3 => ?_)
  · refine lv_i2l (v := r.toInt64) hx hb dL_lotState_7 rfl ?_
    refine x_last X hW (ho r w1 hp) dL_lotState_8 (fun w2 H2 locs2 hF hW => ?_)
    refine lv_goto (tgt := 15) hx hb dL_lotState_9 rfl ?_
    refine lv_iconst (v := nI 0) hx hb dL_lotState_15 (by decide) ?_
    exact ret_i X hW (Or.inl ⟨rfl, r, w1, hp, hF⟩) rfl (Nat.le_of_ble_eq_true rfl) (Nat.le_of_ble_eq_true rfl) dL_lotState_16
  · rcases hE E w1 hp with rfl
    · refine x_catch (E := "java/util/NoSuchElementException") X hT (by decide) [] (0, 9, 12, 21) [] rfl (fun z hz => by cases hz) (by decide) (by decide) wq_599 wq_610 hc1 hc2 hc3 ?_
      refine lv_astore_n (lv' := [(3, .ref q), (0, .ref zz), (1, .int x1), (2, .ref o1)]) hx hb dL_lotState_12 rfl hl (by decide) rfl (fun ls hl => ?_)
      refine lv_iconst (v := nI 1) hx hb dL_lotState_13 (by decide) ?_
      exact ret_i X hW (Or.inr (⟨rfl, hp⟩)) rfl (Nat.le_of_ble_eq_true rfl) (Nat.le_of_ble_eq_true rfl) dL_lotState_14
set_option maxRecDepth 100000 in
set_option maxHeartbeats 4000000 in
theorem h_soldTo (l : Launch) (G : Gt) (w : va_W) (zz o1 : Nat) (fs : List Value) (f : Nat → Int64) (x1 : Int32) {post : Int32 → va_W → Prop} {px : String → va_W → Prop} (M : Xi l G yX6_soldTo (ww yX6_soldTo cX6_soldTo 3 (some FieldType.int)) (RM 6 3 18) [.ref zz, .int x1] w post px) (hz : (zz, .inr (9, fs)) ∈ w) (ho : ∀ r w2, post r w2 → outL G o1 f ∈ w2) (hE : ∀ E w2, px E w2 → E = "java/util/NoSuchElementException" ∨ E = "java/lang/IllegalStateException") : CiH l G yL_soldTo cL_soldTo 4 [(0, 9, 12, 21), (0, 9, 15, 15)] (RM 7 3 18) [.ref zz, .int x1, .ref o1] w (fun r w2 => (r = nI 0 ∧ ∃ v w3, post v w3 ∧ Fc w3 [outL G o1 f] [outL G o1 (vp_updL f 0 v.toInt64)] w2) ∨ (r = nI 1 ∧ px "java/util/NoSuchElementException" w2) ∨ (r = nI 2 ∧ px "java/lang/IllegalStateException" w2)) := by
  refine CiH.intro (by decide) (Nat.le_of_ble_eq_true rfl) ?_
  intro p e s m args below meth c A X hT hW ls hl
  have hx := X.exec
  have hb := X.bytes
  have hl : lv_has ls 4 [(0, .ref zz), (1, .int x1), (2, .ref o1)] := hl
  obtain ⟨q0, hq⟩ := List.mem_iff_getElem?.mp hz
  refine lv_aload_n hx hb dL_soldTo_0 rfl (lv_at hl 2 rfl) ?_
  refine lv_iconst (v := nI 0) hx hb dL_soldTo_1 (by decide) ?_
  refine lv_aload_n hx hb dL_soldTo_2 rfl (lv_at hl 0 rfl) ?_
  refine lv_iload_n hx hb dL_soldTo_3 rfl (lv_at hl 1 rfl) ?_
  refine go_hi X hW (rest := [.int (nI 0), .ref o1]) (run_XV X hW (As := [.int x1]) (rest := [.int (nI 0), .ref o1]) 9 q0 hq (M s.heap.size) (gi_V wq_850 wq_851 wq_852 wq_61 wq_853) rfl hyX6_soldTo rfl rfl rfl hl.1 (Nat.le_of_ble_eq_true rfl) ⟨Nat.le_of_ble_eq_true rfl, Nat.le_of_ble_eq_true rfl⟩ ⟨Nat.le_of_ble_eq_true rfl, Nat.le_of_ble_eq_true rfl⟩ dL_soldTo_4) (fun r w1 H1 locs1 hp hW => ?_) (fun E q ce w1 H1 locs1 hp hW hc1 hc2 hc3 => ?_)
  · refine lv_i2l (v := r.toInt64) hx hb dL_soldTo_7 rfl ?_
    refine x_last X hW (ho r w1 hp) dL_soldTo_8 (fun w2 H2 locs2 hF hW => ?_)
    refine lv_goto (tgt := 18) hx hb dL_soldTo_9 rfl ?_
    refine lv_iconst (v := nI 0) hx hb dL_soldTo_18 (by decide) ?_
    exact ret_i X hW (Or.inl ⟨rfl, r, w1, hp, hF⟩) rfl (Nat.le_of_ble_eq_true rfl) (Nat.le_of_ble_eq_true rfl) dL_soldTo_19
  · rcases hE E w1 hp with rfl | rfl
    · refine x_catch (E := "java/util/NoSuchElementException") X hT (by decide) [] (0, 9, 12, 21) [(0, 9, 15, 15)] rfl (fun z hz => by cases hz) (by decide) (by decide) wq_599 wq_610 hc1 hc2 hc3 ?_
      refine lv_astore_n (lv' := [(3, .ref q), (0, .ref zz), (1, .int x1), (2, .ref o1)]) hx hb dL_soldTo_12 rfl hl (by decide) rfl (fun ls hl => ?_)
      refine lv_iconst (v := nI 1) hx hb dL_soldTo_13 (by decide) ?_
      exact ret_i X hW (Or.inr (Or.inl ⟨rfl, hp⟩)) rfl (Nat.le_of_ble_eq_true rfl) (Nat.le_of_ble_eq_true rfl) dL_soldTo_14
    · refine x_catch (E := "java/lang/IllegalStateException") X hT (by decide) [(0, 9, 12, 21)] (0, 9, 15, 15) [] rfl (fun z hz => by simp only [List.mem_cons, List.not_mem_nil, or_false] at hz; rcases hz with rfl <;> first | exact ⟨by decide, _, wq_599, by decide, by decide⟩) (by decide) (by decide) wq_410 wq_495 hc1 hc2 hc3 ?_
      refine lv_astore_n (lv' := [(3, .ref q), (0, .ref zz), (1, .int x1), (2, .ref o1)]) hx hb dL_soldTo_15 rfl hl (by decide) rfl (fun ls hl => ?_)
      refine lv_iconst (v := nI 2) hx hb dL_soldTo_16 (by decide) ?_
      exact ret_i X hW (Or.inr (Or.inr (⟨rfl, hp⟩))) rfl (Nat.le_of_ble_eq_true rfl) (Nat.le_of_ble_eq_true rfl) dL_soldTo_17
set_option maxRecDepth 100000 in
set_option maxHeartbeats 4000000 in
theorem h_countOf (l : Launch) (G : Gt) (w : va_W) (zz o1 : Nat) (fs : List Value) (f : Nat → Int64) (x1 : Int32) (x2 : Int32) {post : Int32 → va_W → Prop} {px : String → va_W → Prop} (M : Xi l G yX6_countOf (ww yX6_countOf cX6_countOf 6 (some FieldType.int)) (RM 6 3 18) [.ref zz, .int x1, .int x2] w post px) (hz : (zz, .inr (9, fs)) ∈ w) (ho : ∀ r w2, post r w2 → outL G o1 f ∈ w2) (hE : ∀ E w2, px E w2 → E = "java/lang/IllegalArgumentException") : CiH l G yL_countOf cL_countOf 5 [(0, 10, 13, 13)] (RM 7 3 18) [.ref zz, .int x1, .int x2, .ref o1] w (fun r w2 => (r = nI 0 ∧ ∃ v w3, post v w3 ∧ Fc w3 [outL G o1 f] [outL G o1 (vp_updL f 0 v.toInt64)] w2) ∨ (r = nI 1 ∧ px "java/lang/IllegalArgumentException" w2)) := by
  refine CiH.intro (by decide) (Nat.le_of_ble_eq_true rfl) ?_
  intro p e s m args below meth c A X hT hW ls hl
  have hx := X.exec
  have hb := X.bytes
  have hl : lv_has ls 5 [(0, .ref zz), (1, .int x1), (2, .int x2), (3, .ref o1)] := hl
  obtain ⟨q0, hq⟩ := List.mem_iff_getElem?.mp hz
  refine lv_aload_n hx hb dL_countOf_0 rfl (lv_at hl 3 rfl) ?_
  refine lv_iconst (v := nI 0) hx hb dL_countOf_1 (by decide) ?_
  refine lv_aload_n hx hb dL_countOf_2 rfl (lv_at hl 0 rfl) ?_
  refine lv_iload_n hx hb dL_countOf_3 rfl (lv_at hl 1 rfl) ?_
  refine lv_iload_n hx hb dL_countOf_4 rfl (lv_at hl 2 rfl) ?_
  refine go_hi X hW (rest := [.int (nI 0), .ref o1]) (run_XV X hW (As := [.int x1, .int x2]) (rest := [.int (nI 0), .ref o1]) 9 q0 hq (M s.heap.size) (gi_V wq_858 wq_859 wq_860 wq_61 wq_861) rfl hyX6_countOf rfl rfl rfl hl.1 (Nat.le_of_ble_eq_true rfl) ⟨Nat.le_of_ble_eq_true rfl, Nat.le_of_ble_eq_true rfl⟩ ⟨Nat.le_of_ble_eq_true rfl, Nat.le_of_ble_eq_true rfl⟩ dL_countOf_5) (fun r w1 H1 locs1 hp hW => ?_) (fun E q ce w1 H1 locs1 hp hW hc1 hc2 hc3 => ?_)
  · refine lv_i2l (v := r.toInt64) hx hb dL_countOf_8 rfl ?_
    refine x_last X hW (ho r w1 hp) dL_countOf_9 (fun w2 H2 locs2 hF hW => ?_)
    refine lv_goto (tgt := 17) hx hb dL_countOf_10 rfl ?_
    refine lv_iconst (v := nI 0) hx hb dL_countOf_17 (by decide) ?_
    exact ret_i X hW (Or.inl ⟨rfl, r, w1, hp, hF⟩) rfl (Nat.le_of_ble_eq_true rfl) (Nat.le_of_ble_eq_true rfl) dL_countOf_18
  · rcases hE E w1 hp with rfl
    · refine x_catch (E := "java/lang/IllegalArgumentException") X hT (by decide) [] (0, 10, 13, 13) [] rfl (fun z hz => by cases hz) (by decide) (by decide) wq_409 wq_423 hc1 hc2 hc3 ?_
      refine lv_astore (lv' := [(4, .ref q), (0, .ref zz), (1, .int x1), (2, .int x2), (3, .ref o1)]) hx hb dL_countOf_13 hl (by decide) rfl (fun ls hl => ?_)
      refine lv_iconst (v := nI 1) hx hb dL_countOf_15 (by decide) ?_
      exact ret_i X hW (Or.inr (⟨rfl, hp⟩)) rfl (Nat.le_of_ble_eq_true rfl) (Nat.le_of_ble_eq_true rfl) dL_countOf_16
set_option maxRecDepth 100000 in
set_option maxHeartbeats 4000000 in
theorem h_items (l : Launch) (G : Gt) (w : va_W) (zz o1 : Nat) (fs : List Value) (f : Nat → Int64) (x1 : Int32) {post : Int32 → va_W → Prop} {px : String → va_W → Prop} (M : Xi l G yX6_items (ww yX6_items cX6_items 2 (some FieldType.int)) (RM 6 3 18) [.ref zz, .int x1] w post px) (hz : (zz, .inr (9, fs)) ∈ w) (ho : ∀ r w2, post r w2 → outL G o1 f ∈ w2) (hE : ∀ E w2, px E w2 → E = "java/util/NoSuchElementException") : CiH l G yL_items cL_items 4 [(0, 9, 12, 21)] (RM 7 3 18) [.ref zz, .int x1, .ref o1] w (fun r w2 => (r = nI 0 ∧ ∃ v w3, post v w3 ∧ Fc w3 [outL G o1 f] [outL G o1 (vp_updL f 0 v.toInt64)] w2) ∨ (r = nI 1 ∧ px "java/util/NoSuchElementException" w2)) := by
  refine CiH.intro (by decide) (Nat.le_of_ble_eq_true rfl) ?_
  intro p e s m args below meth c A X hT hW ls hl
  have hx := X.exec
  have hb := X.bytes
  have hl : lv_has ls 4 [(0, .ref zz), (1, .int x1), (2, .ref o1)] := hl
  obtain ⟨q0, hq⟩ := List.mem_iff_getElem?.mp hz
  refine lv_aload_n hx hb dL_items_0 rfl (lv_at hl 2 rfl) ?_
  refine lv_iconst (v := nI 0) hx hb dL_items_1 (by decide) ?_
  refine lv_aload_n hx hb dL_items_2 rfl (lv_at hl 0 rfl) ?_
  refine lv_iload_n hx hb dL_items_3 rfl (lv_at hl 1 rfl) ?_
  refine go_hi X hW (rest := [.int (nI 0), .ref o1]) (run_XV X hW (As := [.int x1]) (rest := [.int (nI 0), .ref o1]) 9 q0 hq (M s.heap.size) (gi_V wq_865 wq_866 wq_867 wq_61 wq_868) rfl hyX6_items rfl rfl rfl hl.1 (Nat.le_of_ble_eq_true rfl) ⟨Nat.le_of_ble_eq_true rfl, Nat.le_of_ble_eq_true rfl⟩ ⟨Nat.le_of_ble_eq_true rfl, Nat.le_of_ble_eq_true rfl⟩ dL_items_4) (fun r w1 H1 locs1 hp hW => ?_) (fun E q ce w1 H1 locs1 hp hW hc1 hc2 hc3 => ?_)
  · refine lv_i2l (v := r.toInt64) hx hb dL_items_7 rfl ?_
    refine x_last X hW (ho r w1 hp) dL_items_8 (fun w2 H2 locs2 hF hW => ?_)
    refine lv_goto (tgt := 15) hx hb dL_items_9 rfl ?_
    refine lv_iconst (v := nI 0) hx hb dL_items_15 (by decide) ?_
    exact ret_i X hW (Or.inl ⟨rfl, r, w1, hp, hF⟩) rfl (Nat.le_of_ble_eq_true rfl) (Nat.le_of_ble_eq_true rfl) dL_items_16
  · rcases hE E w1 hp with rfl
    · refine x_catch (E := "java/util/NoSuchElementException") X hT (by decide) [] (0, 9, 12, 21) [] rfl (fun z hz => by cases hz) (by decide) (by decide) wq_599 wq_610 hc1 hc2 hc3 ?_
      refine lv_astore_n (lv' := [(3, .ref q), (0, .ref zz), (1, .int x1), (2, .ref o1)]) hx hb dL_items_12 rfl hl (by decide) rfl (fun ls hl => ?_)
      refine lv_iconst (v := nI 1) hx hb dL_items_13 (by decide) ?_
      exact ret_i X hW (Or.inr (⟨rfl, hp⟩)) rfl (Nat.le_of_ble_eq_true rfl) (Nat.le_of_ble_eq_true rfl) dL_items_14
set_option maxRecDepth 100000 in
set_option maxHeartbeats 4000000 in
theorem h_fits (l : Launch) (G : Gt) (w : va_W) (zz o1 : Nat) (fs : List Value) (f : Nat → Int64) (x1 : Int32) (x2 : Int32) (x3 : Int32) {post : Int32 → va_W → Prop} {px : String → va_W → Prop} (M : Xi l G yX6_fits (ww yX6_fits cX6_fits 5 (some FieldType.boolean)) (RM 6 3 18) [.ref zz, .int x1, .int x2, .int x3] w post px) (hz : (zz, .inr (9, fs)) ∈ w) (ho : ∀ r w2, post r w2 → outL G o1 f ∈ w2) (hE : ∀ E w2, px E w2 → E = "java/util/NoSuchElementException" ∨ E = "java/lang/IndexOutOfBoundsException") : CiH l G yL_fits cL_fits 6 [(0, 19, 22, 21), (0, 19, 26, 75)] (RM 7 3 18) [.ref zz, .int x1, .int x2, .int x3, .ref o1] w (fun r w2 => (r = nI 0 ∧ ∃ v w3, post v w3 ∧ Fc w3 [outL G o1 f] [outL G o1 (vp_updL f 0 (if v = 0 then 0 else 1))] w2) ∨ (r = nI 1 ∧ px "java/util/NoSuchElementException" w2) ∨ (r = nI 2 ∧ px "java/lang/IndexOutOfBoundsException" w2)) := by
  refine CiH.intro (by decide) (Nat.le_of_ble_eq_true rfl) ?_
  intro p e s m args below meth c A X hT hW ls hl
  have hx := X.exec
  have hb := X.bytes
  have hl : lv_has ls 6 [(0, .ref zz), (1, .int x1), (2, .int x2), (3, .int x3), (4, .ref o1)] := hl
  obtain ⟨q0, hq⟩ := List.mem_iff_getElem?.mp hz
  refine lv_aload hx hb dL_fits_0 (lv_at hl 4 rfl) ?_
  refine lv_iconst (v := nI 0) hx hb dL_fits_2 (by decide) ?_
  refine lv_aload_n hx hb dL_fits_3 rfl (lv_at hl 0 rfl) ?_
  refine lv_iload_n hx hb dL_fits_4 rfl (lv_at hl 1 rfl) ?_
  refine lv_iload_n hx hb dL_fits_5 rfl (lv_at hl 2 rfl) ?_
  refine lv_iload_n hx hb dL_fits_6 rfl (lv_at hl 3 rfl) ?_
  refine go_hi X hW (rest := [.int (nI 0), .ref o1]) (run_XV X hW (As := [.int x1, .int x2, .int x3]) (rest := [.int (nI 0), .ref o1]) 9 q0 hq (M s.heap.size) (gi_V wq_896 wq_897 wq_898 wq_61 wq_899) rfl hyX6_fits rfl rfl rfl hl.1 (Nat.le_of_ble_eq_true rfl) ⟨Nat.le_of_ble_eq_true rfl, Nat.le_of_ble_eq_true rfl⟩ ⟨Nat.le_of_ble_eq_true rfl, Nat.le_of_ble_eq_true rfl⟩ dL_fits_7) (fun r w1 H1 locs1 hp hW => ?_) (fun E q ce w1 H1 locs1 hp hW hc1 hc2 hc3 => ?_)
  · refine lv_if_eq (tgt := 17) hx hb dL_fits_10 rfl (fun h0 => ?_) (fun h0 => ?_)
    · refine lv_lconst (v := (if r = 0 then 0 else 1)) hx hb dL_fits_17 (by rw [if_pos h0]; rfl) ?_
      refine x_last X hW (ho r w1 hp) dL_fits_18 (fun w2 H2 locs2 hF hW => ?_)
      refine lv_goto (tgt := 30) hx hb dL_fits_19 rfl ?_
      refine lv_iconst (v := nI 0) hx hb dL_fits_30 (by decide) ?_
      exact ret_i X hW (Or.inl ⟨rfl, r, w1, hp, hF⟩) rfl (Nat.le_of_ble_eq_true rfl) (Nat.le_of_ble_eq_true rfl) dL_fits_31
    · refine lv_lconst (v := (if r = 0 then 0 else 1)) hx hb dL_fits_13 (by rw [if_neg h0]; rfl) ?_
      refine lv_goto (tgt := 18) hx hb dL_fits_14 rfl ?_
      refine x_last X hW (ho r w1 hp) dL_fits_18 (fun w2 H2 locs2 hF hW => ?_)
      refine lv_goto (tgt := 30) hx hb dL_fits_19 rfl ?_
      refine lv_iconst (v := nI 0) hx hb dL_fits_30 (by decide) ?_
      exact ret_i X hW (Or.inl ⟨rfl, r, w1, hp, hF⟩) rfl (Nat.le_of_ble_eq_true rfl) (Nat.le_of_ble_eq_true rfl) dL_fits_31
  · rcases hE E w1 hp with rfl | rfl
    · refine x_catch (E := "java/util/NoSuchElementException") X hT (by decide) [] (0, 19, 22, 21) [(0, 19, 26, 75)] rfl (fun z hz => by cases hz) (by decide) (by decide) wq_599 wq_610 hc1 hc2 hc3 ?_
      refine lv_astore (lv' := [(5, .ref q), (0, .ref zz), (1, .int x1), (2, .int x2), (3, .int x3), (4, .ref o1)]) hx hb dL_fits_22 hl (by decide) rfl (fun ls hl => ?_)
      refine lv_iconst (v := nI 1) hx hb dL_fits_24 (by decide) ?_
      exact ret_i X hW (Or.inr (Or.inl ⟨rfl, hp⟩)) rfl (Nat.le_of_ble_eq_true rfl) (Nat.le_of_ble_eq_true rfl) dL_fits_25
    · refine x_catch (E := "java/lang/IndexOutOfBoundsException") X hT (by decide) [(0, 19, 22, 21)] (0, 19, 26, 75) [] rfl (fun z hz => by simp only [List.mem_cons, List.not_mem_nil, or_false] at hz; rcases hz with rfl <;> first | exact ⟨by decide, _, wq_599, by decide, by decide⟩) (by decide) (by decide) wq_872 wq_905 hc1 hc2 hc3 ?_
      refine lv_astore (lv' := [(5, .ref q), (0, .ref zz), (1, .int x1), (2, .int x2), (3, .int x3), (4, .ref o1)]) hx hb dL_fits_26 hl (by decide) rfl (fun ls hl => ?_)
      refine lv_iconst (v := nI 2) hx hb dL_fits_28 (by decide) ?_
      exact ret_i X hW (Or.inr (Or.inr (⟨rfl, hp⟩))) rfl (Nat.le_of_ble_eq_true rfl) (Nat.le_of_ble_eq_true rfl) dL_fits_29
set_option maxRecDepth 100000 in
set_option maxHeartbeats 4000000 in
theorem h_fitting (l : Launch) (G : Gt) (w : va_W) (zz o1 : Nat) (fs : List Value) (f : Nat → Int64) (x1 : Int32) (x2 : Int32) {post : Int32 → va_W → Prop} {px : String → va_W → Prop} (M : Xi l G yX6_fitting (ww yX6_fitting cX6_fitting 7 (some FieldType.int)) (RM 6 3 18) [.ref zz, .int x1, .int x2] w post px) (hz : (zz, .inr (9, fs)) ∈ w) (ho : ∀ r w2, post r w2 → outL G o1 f ∈ w2) (hE : ∀ E w2, px E w2 → E = "java/util/NoSuchElementException" ∨ E = "java/lang/IndexOutOfBoundsException") : CiH l G yL_fitting cL_fitting 5 [(0, 10, 13, 21), (0, 10, 17, 75)] (RM 7 3 18) [.ref zz, .int x1, .int x2, .ref o1] w (fun r w2 => (r = nI 0 ∧ ∃ v w3, post v w3 ∧ Fc w3 [outL G o1 f] [outL G o1 (vp_updL f 0 v.toInt64)] w2) ∨ (r = nI 1 ∧ px "java/util/NoSuchElementException" w2) ∨ (r = nI 2 ∧ px "java/lang/IndexOutOfBoundsException" w2)) := by
  refine CiH.intro (by decide) (Nat.le_of_ble_eq_true rfl) ?_
  intro p e s m args below meth c A X hT hW ls hl
  have hx := X.exec
  have hb := X.bytes
  have hl : lv_has ls 5 [(0, .ref zz), (1, .int x1), (2, .int x2), (3, .ref o1)] := hl
  obtain ⟨q0, hq⟩ := List.mem_iff_getElem?.mp hz
  refine lv_aload_n hx hb dL_fitting_0 rfl (lv_at hl 3 rfl) ?_
  refine lv_iconst (v := nI 0) hx hb dL_fitting_1 (by decide) ?_
  refine lv_aload_n hx hb dL_fitting_2 rfl (lv_at hl 0 rfl) ?_
  refine lv_iload_n hx hb dL_fitting_3 rfl (lv_at hl 1 rfl) ?_
  refine lv_iload_n hx hb dL_fitting_4 rfl (lv_at hl 2 rfl) ?_
  refine go_hi X hW (rest := [.int (nI 0), .ref o1]) (run_XV X hW (As := [.int x1, .int x2]) (rest := [.int (nI 0), .ref o1]) 9 q0 hq (M s.heap.size) (gi_V wq_919 wq_920 wq_921 wq_61 wq_922) rfl hyX6_fitting rfl rfl rfl hl.1 (Nat.le_of_ble_eq_true rfl) ⟨Nat.le_of_ble_eq_true rfl, Nat.le_of_ble_eq_true rfl⟩ ⟨Nat.le_of_ble_eq_true rfl, Nat.le_of_ble_eq_true rfl⟩ dL_fitting_5) (fun r w1 H1 locs1 hp hW => ?_) (fun E q ce w1 H1 locs1 hp hW hc1 hc2 hc3 => ?_)
  · refine lv_i2l (v := r.toInt64) hx hb dL_fitting_8 rfl ?_
    refine x_last X hW (ho r w1 hp) dL_fitting_9 (fun w2 H2 locs2 hF hW => ?_)
    refine lv_goto (tgt := 21) hx hb dL_fitting_10 rfl ?_
    refine lv_iconst (v := nI 0) hx hb dL_fitting_21 (by decide) ?_
    exact ret_i X hW (Or.inl ⟨rfl, r, w1, hp, hF⟩) rfl (Nat.le_of_ble_eq_true rfl) (Nat.le_of_ble_eq_true rfl) dL_fitting_22
  · rcases hE E w1 hp with rfl | rfl
    · refine x_catch (E := "java/util/NoSuchElementException") X hT (by decide) [] (0, 10, 13, 21) [(0, 10, 17, 75)] rfl (fun z hz => by cases hz) (by decide) (by decide) wq_599 wq_610 hc1 hc2 hc3 ?_
      refine lv_astore (lv' := [(4, .ref q), (0, .ref zz), (1, .int x1), (2, .int x2), (3, .ref o1)]) hx hb dL_fitting_13 hl (by decide) rfl (fun ls hl => ?_)
      refine lv_iconst (v := nI 1) hx hb dL_fitting_15 (by decide) ?_
      exact ret_i X hW (Or.inr (Or.inl ⟨rfl, hp⟩)) rfl (Nat.le_of_ble_eq_true rfl) (Nat.le_of_ble_eq_true rfl) dL_fitting_16
    · refine x_catch (E := "java/lang/IndexOutOfBoundsException") X hT (by decide) [(0, 10, 13, 21)] (0, 10, 17, 75) [] rfl (fun z hz => by simp only [List.mem_cons, List.not_mem_nil, or_false] at hz; rcases hz with rfl <;> first | exact ⟨by decide, _, wq_599, by decide, by decide⟩) (by decide) (by decide) wq_872 wq_905 hc1 hc2 hc3 ?_
      refine lv_astore (lv' := [(4, .ref q), (0, .ref zz), (1, .int x1), (2, .int x2), (3, .ref o1)]) hx hb dL_fitting_17 hl (by decide) rfl (fun ls hl => ?_)
      refine lv_iconst (v := nI 2) hx hb dL_fitting_19 (by decide) ?_
      exact ret_i X hW (Or.inr (Or.inr (⟨rfl, hp⟩))) rfl (Nat.le_of_ble_eq_true rfl) (Nat.le_of_ble_eq_true rfl) dL_fitting_20
set_option maxRecDepth 100000 in
set_option maxHeartbeats 4000000 in
theorem h_priceOf (l : Launch) (G : Gt) (w : va_W) (zz o1 : Nat) (fs : List Value) (f : Nat → Int64) (x1 : Int32) {post : Int32 → va_W → Prop} {px : String → va_W → Prop} (M : Xi l G yX6_priceOf (ww yX6_priceOf cX6_priceOf 2 (some FieldType.int)) (RM 6 3 18) [.ref zz, .int x1] w post px) (hz : (zz, .inr (9, fs)) ∈ w) (ho : ∀ r w2, post r w2 → outL G o1 f ∈ w2) (hE : ∀ E w2, px E w2 → E = "java/util/NoSuchElementException") : CiH l G yL_priceOf cL_priceOf 4 [(0, 9, 12, 21)] (RM 7 3 18) [.ref zz, .int x1, .ref o1] w (fun r w2 => (r = nI 0 ∧ ∃ v w3, post v w3 ∧ Fc w3 [outL G o1 f] [outL G o1 (vp_updL f 0 v.toInt64)] w2) ∨ (r = nI 1 ∧ px "java/util/NoSuchElementException" w2)) := by
  refine CiH.intro (by decide) (Nat.le_of_ble_eq_true rfl) ?_
  intro p e s m args below meth c A X hT hW ls hl
  have hx := X.exec
  have hb := X.bytes
  have hl : lv_has ls 4 [(0, .ref zz), (1, .int x1), (2, .ref o1)] := hl
  obtain ⟨q0, hq⟩ := List.mem_iff_getElem?.mp hz
  refine lv_aload_n hx hb dL_priceOf_0 rfl (lv_at hl 2 rfl) ?_
  refine lv_iconst (v := nI 0) hx hb dL_priceOf_1 (by decide) ?_
  refine lv_aload_n hx hb dL_priceOf_2 rfl (lv_at hl 0 rfl) ?_
  refine lv_iload_n hx hb dL_priceOf_3 rfl (lv_at hl 1 rfl) ?_
  refine go_hi X hW (rest := [.int (nI 0), .ref o1]) (run_XV X hW (As := [.int x1]) (rest := [.int (nI 0), .ref o1]) 9 q0 hq (M s.heap.size) (gi_V wq_926 wq_927 wq_928 wq_61 wq_929) rfl hyX6_priceOf rfl rfl rfl hl.1 (Nat.le_of_ble_eq_true rfl) ⟨Nat.le_of_ble_eq_true rfl, Nat.le_of_ble_eq_true rfl⟩ ⟨Nat.le_of_ble_eq_true rfl, Nat.le_of_ble_eq_true rfl⟩ dL_priceOf_4) (fun r w1 H1 locs1 hp hW => ?_) (fun E q ce w1 H1 locs1 hp hW hc1 hc2 hc3 => ?_)
  · refine lv_i2l (v := r.toInt64) hx hb dL_priceOf_7 rfl ?_
    refine x_last X hW (ho r w1 hp) dL_priceOf_8 (fun w2 H2 locs2 hF hW => ?_)
    refine lv_goto (tgt := 15) hx hb dL_priceOf_9 rfl ?_
    refine lv_iconst (v := nI 0) hx hb dL_priceOf_15 (by decide) ?_
    exact ret_i X hW (Or.inl ⟨rfl, r, w1, hp, hF⟩) rfl (Nat.le_of_ble_eq_true rfl) (Nat.le_of_ble_eq_true rfl) dL_priceOf_16
  · rcases hE E w1 hp with rfl
    · refine x_catch (E := "java/util/NoSuchElementException") X hT (by decide) [] (0, 9, 12, 21) [] rfl (fun z hz => by cases hz) (by decide) (by decide) wq_599 wq_610 hc1 hc2 hc3 ?_
      refine lv_astore_n (lv' := [(3, .ref q), (0, .ref zz), (1, .int x1), (2, .ref o1)]) hx hb dL_priceOf_12 rfl hl (by decide) rfl (fun ls hl => ?_)
      refine lv_iconst (v := nI 1) hx hb dL_priceOf_13 (by decide) ?_
      exact ret_i X hW (Or.inr (⟨rfl, hp⟩)) rfl (Nat.le_of_ble_eq_true rfl) (Nat.le_of_ble_eq_true rfl) dL_priceOf_14
set_option maxRecDepth 100000 in
set_option maxHeartbeats 4000000 in
theorem h_stateOf (l : Launch) (G : Gt) (w : va_W) (zz o1 : Nat) (fs : List Value) (f : Nat → Int64) (x1 : Int32) {post : Int32 → va_W → Prop} {px : String → va_W → Prop} (M : Xi l G yX6_stateOf (ww yX6_stateOf cX6_stateOf 2 (some FieldType.char)) (RM 6 3 18) [.ref zz, .int x1] w post px) (hz : (zz, .inr (9, fs)) ∈ w) (ho : ∀ r w2, post r w2 → outL G o1 f ∈ w2) (hE : ∀ E w2, px E w2 → E = "java/util/NoSuchElementException") : CiH l G yL_stateOf cL_stateOf 4 [(0, 9, 12, 21)] (RM 7 3 18) [.ref zz, .int x1, .ref o1] w (fun r w2 => (r = nI 0 ∧ ∃ v w3, post v w3 ∧ Fc w3 [outL G o1 f] [outL G o1 (vp_updL f 0 v.toInt64)] w2) ∨ (r = nI 1 ∧ px "java/util/NoSuchElementException" w2)) := by
  refine CiH.intro (by decide) (Nat.le_of_ble_eq_true rfl) ?_
  intro p e s m args below meth c A X hT hW ls hl
  have hx := X.exec
  have hb := X.bytes
  have hl : lv_has ls 4 [(0, .ref zz), (1, .int x1), (2, .ref o1)] := hl
  obtain ⟨q0, hq⟩ := List.mem_iff_getElem?.mp hz
  refine lv_aload_n hx hb dL_stateOf_0 rfl (lv_at hl 2 rfl) ?_
  refine lv_iconst (v := nI 0) hx hb dL_stateOf_1 (by decide) ?_
  refine lv_aload_n hx hb dL_stateOf_2 rfl (lv_at hl 0 rfl) ?_
  refine lv_iload_n hx hb dL_stateOf_3 rfl (lv_at hl 1 rfl) ?_
  refine go_hi X hW (rest := [.int (nI 0), .ref o1]) (run_XV X hW (As := [.int x1]) (rest := [.int (nI 0), .ref o1]) 9 q0 hq (M s.heap.size) (gi_V wq_933 wq_934 wq_935 wq_61 wq_936) rfl hyX6_stateOf rfl rfl rfl hl.1 (Nat.le_of_ble_eq_true rfl) ⟨Nat.le_of_ble_eq_true rfl, Nat.le_of_ble_eq_true rfl⟩ ⟨Nat.le_of_ble_eq_true rfl, Nat.le_of_ble_eq_true rfl⟩ dL_stateOf_4) (fun r w1 H1 locs1 hp hW => ?_) (fun E q ce w1 H1 locs1 hp hW hc1 hc2 hc3 => ?_)
  · refine lv_i2l (v := r.toInt64) hx hb dL_stateOf_7 rfl ?_
    refine x_last X hW (ho r w1 hp) dL_stateOf_8 (fun w2 H2 locs2 hF hW => ?_)
    refine lv_goto (tgt := 15) hx hb dL_stateOf_9 rfl ?_
    refine lv_iconst (v := nI 0) hx hb dL_stateOf_15 (by decide) ?_
    exact ret_i X hW (Or.inl ⟨rfl, r, w1, hp, hF⟩) rfl (Nat.le_of_ble_eq_true rfl) (Nat.le_of_ble_eq_true rfl) dL_stateOf_16
  · rcases hE E w1 hp with rfl
    · refine x_catch (E := "java/util/NoSuchElementException") X hT (by decide) [] (0, 9, 12, 21) [] rfl (fun z hz => by cases hz) (by decide) (by decide) wq_599 wq_610 hc1 hc2 hc3 ?_
      refine lv_astore_n (lv' := [(3, .ref q), (0, .ref zz), (1, .int x1), (2, .ref o1)]) hx hb dL_stateOf_12 rfl hl (by decide) rfl (fun ls hl => ?_)
      refine lv_iconst (v := nI 1) hx hb dL_stateOf_13 (by decide) ?_
      exact ret_i X hW (Or.inr (⟨rfl, hp⟩)) rfl (Nat.le_of_ble_eq_true rfl) (Nat.le_of_ble_eq_true rfl) dL_stateOf_14
set_option maxRecDepth 100000 in
set_option maxHeartbeats 4000000 in
theorem h_reason (l : Launch) (G : Gt) (w : va_W) (zz o1 : Nat) (fs : List Value) (f : Nat → Int64) (x1 : Int32) {post : Int32 → va_W → Prop} {px : String → va_W → Prop} (M : Xi l G yX6_reason (ww yX6_reason cX6_reason 3 (some FieldType.char)) (RM 6 3 18) [.ref zz, .int x1] w post px) (hz : (zz, .inr (9, fs)) ∈ w) (ho : ∀ r w2, post r w2 → outL G o1 f ∈ w2) (hE : ∀ E w2, px E w2 → E = "java/util/NoSuchElementException" ∨ E = "java/lang/IllegalStateException") : CiH l G yL_reason cL_reason 4 [(0, 9, 12, 21), (0, 9, 15, 15)] (RM 7 3 18) [.ref zz, .int x1, .ref o1] w (fun r w2 => (r = nI 0 ∧ ∃ v w3, post v w3 ∧ Fc w3 [outL G o1 f] [outL G o1 (vp_updL f 0 v.toInt64)] w2) ∨ (r = nI 1 ∧ px "java/util/NoSuchElementException" w2) ∨ (r = nI 2 ∧ px "java/lang/IllegalStateException" w2)) := by
  refine CiH.intro (by decide) (Nat.le_of_ble_eq_true rfl) ?_
  intro p e s m args below meth c A X hT hW ls hl
  have hx := X.exec
  have hb := X.bytes
  have hl : lv_has ls 4 [(0, .ref zz), (1, .int x1), (2, .ref o1)] := hl
  obtain ⟨q0, hq⟩ := List.mem_iff_getElem?.mp hz
  refine lv_aload_n hx hb dL_reason_0 rfl (lv_at hl 2 rfl) ?_
  refine lv_iconst (v := nI 0) hx hb dL_reason_1 (by decide) ?_
  refine lv_aload_n hx hb dL_reason_2 rfl (lv_at hl 0 rfl) ?_
  refine lv_iload_n hx hb dL_reason_3 rfl (lv_at hl 1 rfl) ?_
  refine go_hi X hW (rest := [.int (nI 0), .ref o1]) (run_XV X hW (As := [.int x1]) (rest := [.int (nI 0), .ref o1]) 9 q0 hq (M s.heap.size) (gi_V wq_940 wq_941 wq_942 wq_61 wq_943) rfl hyX6_reason rfl rfl rfl hl.1 (Nat.le_of_ble_eq_true rfl) ⟨Nat.le_of_ble_eq_true rfl, Nat.le_of_ble_eq_true rfl⟩ ⟨Nat.le_of_ble_eq_true rfl, Nat.le_of_ble_eq_true rfl⟩ dL_reason_4) (fun r w1 H1 locs1 hp hW => ?_) (fun E q ce w1 H1 locs1 hp hW hc1 hc2 hc3 => ?_)
  · refine lv_i2l (v := r.toInt64) hx hb dL_reason_7 rfl ?_
    refine x_last X hW (ho r w1 hp) dL_reason_8 (fun w2 H2 locs2 hF hW => ?_)
    refine lv_goto (tgt := 18) hx hb dL_reason_9 rfl ?_
    refine lv_iconst (v := nI 0) hx hb dL_reason_18 (by decide) ?_
    exact ret_i X hW (Or.inl ⟨rfl, r, w1, hp, hF⟩) rfl (Nat.le_of_ble_eq_true rfl) (Nat.le_of_ble_eq_true rfl) dL_reason_19
  · rcases hE E w1 hp with rfl | rfl
    · refine x_catch (E := "java/util/NoSuchElementException") X hT (by decide) [] (0, 9, 12, 21) [(0, 9, 15, 15)] rfl (fun z hz => by cases hz) (by decide) (by decide) wq_599 wq_610 hc1 hc2 hc3 ?_
      refine lv_astore_n (lv' := [(3, .ref q), (0, .ref zz), (1, .int x1), (2, .ref o1)]) hx hb dL_reason_12 rfl hl (by decide) rfl (fun ls hl => ?_)
      refine lv_iconst (v := nI 1) hx hb dL_reason_13 (by decide) ?_
      exact ret_i X hW (Or.inr (Or.inl ⟨rfl, hp⟩)) rfl (Nat.le_of_ble_eq_true rfl) (Nat.le_of_ble_eq_true rfl) dL_reason_14
    · refine x_catch (E := "java/lang/IllegalStateException") X hT (by decide) [(0, 9, 12, 21)] (0, 9, 15, 15) [] rfl (fun z hz => by simp only [List.mem_cons, List.not_mem_nil, or_false] at hz; rcases hz with rfl <;> first | exact ⟨by decide, _, wq_599, by decide, by decide⟩) (by decide) (by decide) wq_410 wq_495 hc1 hc2 hc3 ?_
      refine lv_astore_n (lv' := [(3, .ref q), (0, .ref zz), (1, .int x1), (2, .ref o1)]) hx hb dL_reason_15 rfl hl (by decide) rfl (fun ls hl => ?_)
      refine lv_iconst (v := nI 2) hx hb dL_reason_16 (by decide) ?_
      exact ret_i X hW (Or.inr (Or.inr (⟨rfl, hp⟩))) rfl (Nat.le_of_ble_eq_true rfl) (Nat.le_of_ble_eq_true rfl) dL_reason_17
set_option maxRecDepth 100000 in
set_option maxHeartbeats 4000000 in
theorem h_rival (l : Launch) (G : Gt) (w : va_W) (zz o1 : Nat) (fs : List Value) (f : Nat → Int64) (x1 : Int32) {post : Int32 → va_W → Prop} {px : String → va_W → Prop} (M : Xi l G yX6_rival (ww yX6_rival cX6_rival 3 (some FieldType.int)) (RM 6 3 18) [.ref zz, .int x1] w post px) (hz : (zz, .inr (9, fs)) ∈ w) (ho : ∀ r w2, post r w2 → outL G o1 f ∈ w2) (hE : ∀ E w2, px E w2 → E = "java/util/NoSuchElementException" ∨ E = "java/lang/IllegalStateException") : CiH l G yL_rival cL_rival 4 [(0, 9, 12, 21), (0, 9, 15, 15)] (RM 7 3 18) [.ref zz, .int x1, .ref o1] w (fun r w2 => (r = nI 0 ∧ ∃ v w3, post v w3 ∧ Fc w3 [outL G o1 f] [outL G o1 (vp_updL f 0 v.toInt64)] w2) ∨ (r = nI 1 ∧ px "java/util/NoSuchElementException" w2) ∨ (r = nI 2 ∧ px "java/lang/IllegalStateException" w2)) := by
  refine CiH.intro (by decide) (Nat.le_of_ble_eq_true rfl) ?_
  intro p e s m args below meth c A X hT hW ls hl
  have hx := X.exec
  have hb := X.bytes
  have hl : lv_has ls 4 [(0, .ref zz), (1, .int x1), (2, .ref o1)] := hl
  obtain ⟨q0, hq⟩ := List.mem_iff_getElem?.mp hz
  refine lv_aload_n hx hb dL_rival_0 rfl (lv_at hl 2 rfl) ?_
  refine lv_iconst (v := nI 0) hx hb dL_rival_1 (by decide) ?_
  refine lv_aload_n hx hb dL_rival_2 rfl (lv_at hl 0 rfl) ?_
  refine lv_iload_n hx hb dL_rival_3 rfl (lv_at hl 1 rfl) ?_
  refine go_hi X hW (rest := [.int (nI 0), .ref o1]) (run_XV X hW (As := [.int x1]) (rest := [.int (nI 0), .ref o1]) 9 q0 hq (M s.heap.size) (gi_V wq_948 wq_949 wq_950 wq_61 wq_951) rfl hyX6_rival rfl rfl rfl hl.1 (Nat.le_of_ble_eq_true rfl) ⟨Nat.le_of_ble_eq_true rfl, Nat.le_of_ble_eq_true rfl⟩ ⟨Nat.le_of_ble_eq_true rfl, Nat.le_of_ble_eq_true rfl⟩ dL_rival_4) (fun r w1 H1 locs1 hp hW => ?_) (fun E q ce w1 H1 locs1 hp hW hc1 hc2 hc3 => ?_)
  · refine lv_i2l (v := r.toInt64) hx hb dL_rival_7 rfl ?_
    refine x_last X hW (ho r w1 hp) dL_rival_8 (fun w2 H2 locs2 hF hW => ?_)
    refine lv_goto (tgt := 18) hx hb dL_rival_9 rfl ?_
    refine lv_iconst (v := nI 0) hx hb dL_rival_18 (by decide) ?_
    exact ret_i X hW (Or.inl ⟨rfl, r, w1, hp, hF⟩) rfl (Nat.le_of_ble_eq_true rfl) (Nat.le_of_ble_eq_true rfl) dL_rival_19
  · rcases hE E w1 hp with rfl | rfl
    · refine x_catch (E := "java/util/NoSuchElementException") X hT (by decide) [] (0, 9, 12, 21) [(0, 9, 15, 15)] rfl (fun z hz => by cases hz) (by decide) (by decide) wq_599 wq_610 hc1 hc2 hc3 ?_
      refine lv_astore_n (lv' := [(3, .ref q), (0, .ref zz), (1, .int x1), (2, .ref o1)]) hx hb dL_rival_12 rfl hl (by decide) rfl (fun ls hl => ?_)
      refine lv_iconst (v := nI 1) hx hb dL_rival_13 (by decide) ?_
      exact ret_i X hW (Or.inr (Or.inl ⟨rfl, hp⟩)) rfl (Nat.le_of_ble_eq_true rfl) (Nat.le_of_ble_eq_true rfl) dL_rival_14
    · refine x_catch (E := "java/lang/IllegalStateException") X hT (by decide) [(0, 9, 12, 21)] (0, 9, 15, 15) [] rfl (fun z hz => by simp only [List.mem_cons, List.not_mem_nil, or_false] at hz; rcases hz with rfl <;> first | exact ⟨by decide, _, wq_599, by decide, by decide⟩) (by decide) (by decide) wq_410 wq_495 hc1 hc2 hc3 ?_
      refine lv_astore_n (lv' := [(3, .ref q), (0, .ref zz), (1, .int x1), (2, .ref o1)]) hx hb dL_rival_15 rfl hl (by decide) rfl (fun ls hl => ?_)
      refine lv_iconst (v := nI 2) hx hb dL_rival_16 (by decide) ?_
      exact ret_i X hW (Or.inr (Or.inr (⟨rfl, hp⟩))) rfl (Nat.le_of_ble_eq_true rfl) (Nat.le_of_ble_eq_true rfl) dL_rival_17
set_option maxRecDepth 100000 in
set_option maxHeartbeats 4000000 in
theorem h_lotOf (l : Launch) (G : Gt) (w : va_W) (zz o1 : Nat) (fs : List Value) (f : Nat → Int64) (x1 : Int32) (x2 : Int32) {post : Int32 → va_W → Prop} {px : String → va_W → Prop} (M : Xi l G yX6_lotOf (ww yX6_lotOf cX6_lotOf 5 (some FieldType.int)) (RM 6 3 18) [.ref zz, .int x1, .int x2] w post px) (hz : (zz, .inr (9, fs)) ∈ w) (ho : ∀ r w2, post r w2 → outL G o1 f ∈ w2) (hE : ∀ E w2, px E w2 → E = "java/util/NoSuchElementException" ∨ E = "java/lang/IndexOutOfBoundsException" ∨ E = "java/lang/IllegalStateException") : CiH l G yL_lotOf cL_lotOf 5 [(0, 10, 13, 21), (0, 10, 17, 75), (0, 10, 21, 15)] (RM 7 3 18) [.ref zz, .int x1, .int x2, .ref o1] w (fun r w2 => (r = nI 0 ∧ ∃ v w3, post v w3 ∧ Fc w3 [outL G o1 f] [outL G o1 (vp_updL f 0 v.toInt64)] w2) ∨ (r = nI 1 ∧ px "java/util/NoSuchElementException" w2) ∨ (r = nI 2 ∧ px "java/lang/IndexOutOfBoundsException" w2) ∨ (r = nI 3 ∧ px "java/lang/IllegalStateException" w2)) := by
  refine CiH.intro (by decide) (Nat.le_of_ble_eq_true rfl) ?_
  intro p e s m args below meth c A X hT hW ls hl
  have hx := X.exec
  have hb := X.bytes
  have hl : lv_has ls 5 [(0, .ref zz), (1, .int x1), (2, .int x2), (3, .ref o1)] := hl
  obtain ⟨q0, hq⟩ := List.mem_iff_getElem?.mp hz
  refine lv_aload_n hx hb dL_lotOf_0 rfl (lv_at hl 3 rfl) ?_
  refine lv_iconst (v := nI 0) hx hb dL_lotOf_1 (by decide) ?_
  refine lv_aload_n hx hb dL_lotOf_2 rfl (lv_at hl 0 rfl) ?_
  refine lv_iload_n hx hb dL_lotOf_3 rfl (lv_at hl 1 rfl) ?_
  refine lv_iload_n hx hb dL_lotOf_4 rfl (lv_at hl 2 rfl) ?_
  refine go_hi X hW (rest := [.int (nI 0), .ref o1]) (run_XV X hW (As := [.int x1, .int x2]) (rest := [.int (nI 0), .ref o1]) 9 q0 hq (M s.heap.size) (gi_V wq_956 wq_957 wq_958 wq_61 wq_959) rfl hyX6_lotOf rfl rfl rfl hl.1 (Nat.le_of_ble_eq_true rfl) ⟨Nat.le_of_ble_eq_true rfl, Nat.le_of_ble_eq_true rfl⟩ ⟨Nat.le_of_ble_eq_true rfl, Nat.le_of_ble_eq_true rfl⟩ dL_lotOf_5) (fun r w1 H1 locs1 hp hW => ?_) (fun E q ce w1 H1 locs1 hp hW hc1 hc2 hc3 => ?_)
  · refine lv_i2l (v := r.toInt64) hx hb dL_lotOf_8 rfl ?_
    refine x_last X hW (ho r w1 hp) dL_lotOf_9 (fun w2 H2 locs2 hF hW => ?_)
    refine lv_goto (tgt := 25) hx hb dL_lotOf_10 rfl ?_
    refine lv_iconst (v := nI 0) hx hb dL_lotOf_25 (by decide) ?_
    exact ret_i X hW (Or.inl ⟨rfl, r, w1, hp, hF⟩) rfl (Nat.le_of_ble_eq_true rfl) (Nat.le_of_ble_eq_true rfl) dL_lotOf_26
  · rcases hE E w1 hp with rfl | rfl | rfl
    · refine x_catch (E := "java/util/NoSuchElementException") X hT (by decide) [] (0, 10, 13, 21) [(0, 10, 17, 75), (0, 10, 21, 15)] rfl (fun z hz => by cases hz) (by decide) (by decide) wq_599 wq_610 hc1 hc2 hc3 ?_
      refine lv_astore (lv' := [(4, .ref q), (0, .ref zz), (1, .int x1), (2, .int x2), (3, .ref o1)]) hx hb dL_lotOf_13 hl (by decide) rfl (fun ls hl => ?_)
      refine lv_iconst (v := nI 1) hx hb dL_lotOf_15 (by decide) ?_
      exact ret_i X hW (Or.inr (Or.inl ⟨rfl, hp⟩)) rfl (Nat.le_of_ble_eq_true rfl) (Nat.le_of_ble_eq_true rfl) dL_lotOf_16
    · refine x_catch (E := "java/lang/IndexOutOfBoundsException") X hT (by decide) [(0, 10, 13, 21)] (0, 10, 17, 75) [(0, 10, 21, 15)] rfl (fun z hz => by simp only [List.mem_cons, List.not_mem_nil, or_false] at hz; rcases hz with rfl <;> first | exact ⟨by decide, _, wq_599, by decide, by decide⟩) (by decide) (by decide) wq_872 wq_905 hc1 hc2 hc3 ?_
      refine lv_astore (lv' := [(4, .ref q), (0, .ref zz), (1, .int x1), (2, .int x2), (3, .ref o1)]) hx hb dL_lotOf_17 hl (by decide) rfl (fun ls hl => ?_)
      refine lv_iconst (v := nI 2) hx hb dL_lotOf_19 (by decide) ?_
      exact ret_i X hW (Or.inr (Or.inr (Or.inl ⟨rfl, hp⟩))) rfl (Nat.le_of_ble_eq_true rfl) (Nat.le_of_ble_eq_true rfl) dL_lotOf_20
    · refine x_catch (E := "java/lang/IllegalStateException") X hT (by decide) [(0, 10, 13, 21), (0, 10, 17, 75)] (0, 10, 21, 15) [] rfl (fun z hz => by simp only [List.mem_cons, List.not_mem_nil, or_false] at hz; rcases hz with rfl | rfl <;> first | exact ⟨by decide, _, wq_599, by decide, by decide⟩ | exact ⟨by decide, _, wq_872, by decide, by decide⟩) (by decide) (by decide) wq_410 wq_495 hc1 hc2 hc3 ?_
      refine lv_astore (lv' := [(4, .ref q), (0, .ref zz), (1, .int x1), (2, .int x2), (3, .ref o1)]) hx hb dL_lotOf_21 hl (by decide) rfl (fun ls hl => ?_)
      refine lv_iconst (v := nI 3) hx hb dL_lotOf_23 (by decide) ?_
      exact ret_i X hW (Or.inr (Or.inr (Or.inr (⟨rfl, hp⟩)))) rfl (Nat.le_of_ble_eq_true rfl) (Nat.le_of_ble_eq_true rfl) dL_lotOf_24
set_option maxRecDepth 100000 in
set_option maxHeartbeats 4000000 in
theorem h_paid (l : Launch) (G : Gt) (w : va_W) (zz o1 : Nat) (fs : List Value) (f : Nat → Int64) (x1 : Int32) {post : Int32 → va_W → Prop} {px : String → va_W → Prop} (M : Xi l G yX6_paid (ww yX6_paid cX6_paid 3 (some FieldType.int)) (RM 6 3 18) [.ref zz, .int x1] w post px) (hz : (zz, .inr (9, fs)) ∈ w) (ho : ∀ r w2, post r w2 → outL G o1 f ∈ w2) (hE : ∀ E w2, px E w2 → E = "java/util/NoSuchElementException" ∨ E = "java/lang/IllegalStateException") : CiH l G yL_paid cL_paid 4 [(0, 9, 12, 21), (0, 9, 15, 15)] (RM 7 3 18) [.ref zz, .int x1, .ref o1] w (fun r w2 => (r = nI 0 ∧ ∃ v w3, post v w3 ∧ Fc w3 [outL G o1 f] [outL G o1 (vp_updL f 0 v.toInt64)] w2) ∨ (r = nI 1 ∧ px "java/util/NoSuchElementException" w2) ∨ (r = nI 2 ∧ px "java/lang/IllegalStateException" w2)) := by
  refine CiH.intro (by decide) (Nat.le_of_ble_eq_true rfl) ?_
  intro p e s m args below meth c A X hT hW ls hl
  have hx := X.exec
  have hb := X.bytes
  have hl : lv_has ls 4 [(0, .ref zz), (1, .int x1), (2, .ref o1)] := hl
  obtain ⟨q0, hq⟩ := List.mem_iff_getElem?.mp hz
  refine lv_aload_n hx hb dL_paid_0 rfl (lv_at hl 2 rfl) ?_
  refine lv_iconst (v := nI 0) hx hb dL_paid_1 (by decide) ?_
  refine lv_aload_n hx hb dL_paid_2 rfl (lv_at hl 0 rfl) ?_
  refine lv_iload_n hx hb dL_paid_3 rfl (lv_at hl 1 rfl) ?_
  refine go_hi X hW (rest := [.int (nI 0), .ref o1]) (run_XV X hW (As := [.int x1]) (rest := [.int (nI 0), .ref o1]) 9 q0 hq (M s.heap.size) (gi_V wq_964 wq_965 wq_966 wq_61 wq_967) rfl hyX6_paid rfl rfl rfl hl.1 (Nat.le_of_ble_eq_true rfl) ⟨Nat.le_of_ble_eq_true rfl, Nat.le_of_ble_eq_true rfl⟩ ⟨Nat.le_of_ble_eq_true rfl, Nat.le_of_ble_eq_true rfl⟩ dL_paid_4) (fun r w1 H1 locs1 hp hW => ?_) (fun E q ce w1 H1 locs1 hp hW hc1 hc2 hc3 => ?_)
  · refine lv_i2l (v := r.toInt64) hx hb dL_paid_7 rfl ?_
    refine x_last X hW (ho r w1 hp) dL_paid_8 (fun w2 H2 locs2 hF hW => ?_)
    refine lv_goto (tgt := 18) hx hb dL_paid_9 rfl ?_
    refine lv_iconst (v := nI 0) hx hb dL_paid_18 (by decide) ?_
    exact ret_i X hW (Or.inl ⟨rfl, r, w1, hp, hF⟩) rfl (Nat.le_of_ble_eq_true rfl) (Nat.le_of_ble_eq_true rfl) dL_paid_19
  · rcases hE E w1 hp with rfl | rfl
    · refine x_catch (E := "java/util/NoSuchElementException") X hT (by decide) [] (0, 9, 12, 21) [(0, 9, 15, 15)] rfl (fun z hz => by cases hz) (by decide) (by decide) wq_599 wq_610 hc1 hc2 hc3 ?_
      refine lv_astore_n (lv' := [(3, .ref q), (0, .ref zz), (1, .int x1), (2, .ref o1)]) hx hb dL_paid_12 rfl hl (by decide) rfl (fun ls hl => ?_)
      refine lv_iconst (v := nI 1) hx hb dL_paid_13 (by decide) ?_
      exact ret_i X hW (Or.inr (Or.inl ⟨rfl, hp⟩)) rfl (Nat.le_of_ble_eq_true rfl) (Nat.le_of_ble_eq_true rfl) dL_paid_14
    · refine x_catch (E := "java/lang/IllegalStateException") X hT (by decide) [(0, 9, 12, 21)] (0, 9, 15, 15) [] rfl (fun z hz => by simp only [List.mem_cons, List.not_mem_nil, or_false] at hz; rcases hz with rfl <;> first | exact ⟨by decide, _, wq_599, by decide, by decide⟩) (by decide) (by decide) wq_410 wq_495 hc1 hc2 hc3 ?_
      refine lv_astore_n (lv' := [(3, .ref q), (0, .ref zz), (1, .int x1), (2, .ref o1)]) hx hb dL_paid_15 rfl hl (by decide) rfl (fun ls hl => ?_)
      refine lv_iconst (v := nI 2) hx hb dL_paid_16 (by decide) ?_
      exact ret_i X hW (Or.inr (Or.inr (⟨rfl, hp⟩))) rfl (Nat.le_of_ble_eq_true rfl) (Nat.le_of_ble_eq_true rfl) dL_paid_17
set_option maxRecDepth 100000 in
set_option maxHeartbeats 4000000 in
theorem h_costOf (l : Launch) (G : Gt) (w : va_W) (zz o1 : Nat) (fs : List Value) (f : Nat → Int64) (x1 : Int32) {post : Int32 → va_W → Prop} {px : String → va_W → Prop} (M : Xi l G yX6_costOf (ww yX6_costOf cX6_costOf 3 (some FieldType.int)) (RM 9 6 36) [.ref zz, .int x1] w post px) (hz : (zz, .inr (9, fs)) ∈ w) (ho : ∀ r w2, post r w2 → outL G o1 f ∈ w2) (hE : ∀ E w2, px E w2 → E = "java/util/NoSuchElementException" ∨ E = "java/lang/IllegalStateException" ∨ E = "java/lang/UnsupportedOperationException") : CiH l G yL_costOf cL_costOf 4 [(0, 9, 12, 21), (0, 9, 15, 15), (0, 9, 18, 101)] (RM 10 6 36) [.ref zz, .int x1, .ref o1] w (fun r w2 => (r = nI 0 ∧ ∃ v w3, post v w3 ∧ Fc w3 [outL G o1 f] [outL G o1 (vp_updL f 0 v.toInt64)] w2) ∨ (r = nI 1 ∧ px "java/util/NoSuchElementException" w2) ∨ (r = nI 2 ∧ px "java/lang/IllegalStateException" w2) ∨ (r = nI 3 ∧ px "java/lang/UnsupportedOperationException" w2)) := by
  refine CiH.intro (by decide) (Nat.le_of_ble_eq_true rfl) ?_
  intro p e s m args below meth c A X hT hW ls hl
  have hx := X.exec
  have hb := X.bytes
  have hl : lv_has ls 4 [(0, .ref zz), (1, .int x1), (2, .ref o1)] := hl
  obtain ⟨q0, hq⟩ := List.mem_iff_getElem?.mp hz
  refine lv_aload_n hx hb dL_costOf_0 rfl (lv_at hl 2 rfl) ?_
  refine lv_iconst (v := nI 0) hx hb dL_costOf_1 (by decide) ?_
  refine lv_aload_n hx hb dL_costOf_2 rfl (lv_at hl 0 rfl) ?_
  refine lv_iload_n hx hb dL_costOf_3 rfl (lv_at hl 1 rfl) ?_
  refine go_hi X hW (rest := [.int (nI 0), .ref o1]) (run_XV X hW (As := [.int x1]) (rest := [.int (nI 0), .ref o1]) 9 q0 hq (M s.heap.size) (gi_V wq_972 wq_973 wq_974 wq_61 wq_975) rfl hyX6_costOf rfl rfl rfl hl.1 (Nat.le_of_ble_eq_true rfl) ⟨Nat.le_of_ble_eq_true rfl, Nat.le_of_ble_eq_true rfl⟩ ⟨Nat.le_of_ble_eq_true rfl, Nat.le_of_ble_eq_true rfl⟩ dL_costOf_4) (fun r w1 H1 locs1 hp hW => ?_) (fun E q ce w1 H1 locs1 hp hW hc1 hc2 hc3 => ?_)
  · refine lv_i2l (v := r.toInt64) hx hb dL_costOf_7 rfl ?_
    refine x_last X hW (ho r w1 hp) dL_costOf_8 (fun w2 H2 locs2 hF hW => ?_)
    refine lv_goto (tgt := 21) hx hb dL_costOf_9 rfl ?_
    refine lv_iconst (v := nI 0) hx hb dL_costOf_21 (by decide) ?_
    exact ret_i X hW (Or.inl ⟨rfl, r, w1, hp, hF⟩) rfl (Nat.le_of_ble_eq_true rfl) (Nat.le_of_ble_eq_true rfl) dL_costOf_22
  · rcases hE E w1 hp with rfl | rfl | rfl
    · refine x_catch (E := "java/util/NoSuchElementException") X hT (by decide) [] (0, 9, 12, 21) [(0, 9, 15, 15), (0, 9, 18, 101)] rfl (fun z hz => by cases hz) (by decide) (by decide) wq_599 wq_610 hc1 hc2 hc3 ?_
      refine lv_astore_n (lv' := [(3, .ref q), (0, .ref zz), (1, .int x1), (2, .ref o1)]) hx hb dL_costOf_12 rfl hl (by decide) rfl (fun ls hl => ?_)
      refine lv_iconst (v := nI 1) hx hb dL_costOf_13 (by decide) ?_
      exact ret_i X hW (Or.inr (Or.inl ⟨rfl, hp⟩)) rfl (Nat.le_of_ble_eq_true rfl) (Nat.le_of_ble_eq_true rfl) dL_costOf_14
    · refine x_catch (E := "java/lang/IllegalStateException") X hT (by decide) [(0, 9, 12, 21)] (0, 9, 15, 15) [(0, 9, 18, 101)] rfl (fun z hz => by simp only [List.mem_cons, List.not_mem_nil, or_false] at hz; rcases hz with rfl <;> first | exact ⟨by decide, _, wq_599, by decide, by decide⟩) (by decide) (by decide) wq_410 wq_495 hc1 hc2 hc3 ?_
      refine lv_astore_n (lv' := [(3, .ref q), (0, .ref zz), (1, .int x1), (2, .ref o1)]) hx hb dL_costOf_15 rfl hl (by decide) rfl (fun ls hl => ?_)
      refine lv_iconst (v := nI 2) hx hb dL_costOf_16 (by decide) ?_
      exact ret_i X hW (Or.inr (Or.inr (Or.inl ⟨rfl, hp⟩))) rfl (Nat.le_of_ble_eq_true rfl) (Nat.le_of_ble_eq_true rfl) dL_costOf_17
    · refine x_catch (E := "java/lang/UnsupportedOperationException") X hT (by decide) [(0, 9, 12, 21), (0, 9, 15, 15)] (0, 9, 18, 101) [] rfl (fun z hz => by simp only [List.mem_cons, List.not_mem_nil, or_false] at hz; rcases hz with rfl | rfl <;> first | exact ⟨by decide, _, wq_599, by decide, by decide⟩ | exact ⟨by decide, _, wq_410, by decide, by decide⟩) (by decide) (by decide) wq_971 wq_986 hc1 hc2 hc3 ?_
      refine lv_astore_n (lv' := [(3, .ref q), (0, .ref zz), (1, .int x1), (2, .ref o1)]) hx hb dL_costOf_18 rfl hl (by decide) rfl (fun ls hl => ?_)
      refine lv_iconst (v := nI 3) hx hb dL_costOf_19 (by decide) ?_
      exact ret_i X hW (Or.inr (Or.inr (Or.inr (⟨rfl, hp⟩)))) rfl (Nat.le_of_ble_eq_true rfl) (Nat.le_of_ble_eq_true rfl) dL_costOf_20
set_option maxRecDepth 100000 in
set_option maxHeartbeats 4000000 in
theorem h_surplusWithout (l : Launch) (G : Gt) (w : va_W) (zz o1 : Nat) (fs : List Value) (f : Nat → Int64) (x1 : Int32) {post : Int32 → va_W → Prop} {px : String → va_W → Prop} (M : Xi l G yX6_surplusWithout (ww yX6_surplusWithout cX6_surplusWithout 2 (some FieldType.int)) (RM 15 6 36) [.ref zz, .int x1] w post px) (hz : (zz, .inr (9, fs)) ∈ w) (ho : ∀ r w2, post r w2 → outL G o1 f ∈ w2) (hE : ∀ E w2, px E w2 → E = "java/lang/IllegalArgumentException") : CiH l G yL_surplusWithout cL_surplusWithout 4 [(0, 9, 12, 13)] (RM 16 6 36) [.ref zz, .int x1, .ref o1] w (fun r w2 => (r = nI 0 ∧ ∃ v w3, post v w3 ∧ Fc w3 [outL G o1 f] [outL G o1 (vp_updL f 0 v.toInt64)] w2) ∨ (r = nI 1 ∧ px "java/lang/IllegalArgumentException" w2)) := by
  refine CiH.intro (by decide) (Nat.le_of_ble_eq_true rfl) ?_
  intro p e s m args below meth c A X hT hW ls hl
  have hx := X.exec
  have hb := X.bytes
  have hl : lv_has ls 4 [(0, .ref zz), (1, .int x1), (2, .ref o1)] := hl
  obtain ⟨q0, hq⟩ := List.mem_iff_getElem?.mp hz
  refine lv_aload_n hx hb dL_surplusWithout_0 rfl (lv_at hl 2 rfl) ?_
  refine lv_iconst (v := nI 0) hx hb dL_surplusWithout_1 (by decide) ?_
  refine lv_aload_n hx hb dL_surplusWithout_2 rfl (lv_at hl 0 rfl) ?_
  refine lv_iload_n hx hb dL_surplusWithout_3 rfl (lv_at hl 1 rfl) ?_
  refine go_hi X hW (rest := [.int (nI 0), .ref o1]) (run_XV X hW (As := [.int x1]) (rest := [.int (nI 0), .ref o1]) 9 q0 hq (M s.heap.size) (gi_V wq_1003 wq_1004 wq_1005 wq_61 wq_1006) rfl hyX6_surplusWithout rfl rfl rfl hl.1 (Nat.le_of_ble_eq_true rfl) ⟨Nat.le_of_ble_eq_true rfl, Nat.le_of_ble_eq_true rfl⟩ ⟨Nat.le_of_ble_eq_true rfl, Nat.le_of_ble_eq_true rfl⟩ dL_surplusWithout_4) (fun r w1 H1 locs1 hp hW => ?_) (fun E q ce w1 H1 locs1 hp hW hc1 hc2 hc3 => ?_)
  · refine lv_i2l (v := r.toInt64) hx hb dL_surplusWithout_7 rfl ?_
    refine x_last X hW (ho r w1 hp) dL_surplusWithout_8 (fun w2 H2 locs2 hF hW => ?_)
    refine lv_goto (tgt := 15) hx hb dL_surplusWithout_9 rfl ?_
    refine lv_iconst (v := nI 0) hx hb dL_surplusWithout_15 (by decide) ?_
    exact ret_i X hW (Or.inl ⟨rfl, r, w1, hp, hF⟩) rfl (Nat.le_of_ble_eq_true rfl) (Nat.le_of_ble_eq_true rfl) dL_surplusWithout_16
  · rcases hE E w1 hp with rfl
    · refine x_catch (E := "java/lang/IllegalArgumentException") X hT (by decide) [] (0, 9, 12, 13) [] rfl (fun z hz => by cases hz) (by decide) (by decide) wq_409 wq_423 hc1 hc2 hc3 ?_
      refine lv_astore_n (lv' := [(3, .ref q), (0, .ref zz), (1, .int x1), (2, .ref o1)]) hx hb dL_surplusWithout_12 rfl hl (by decide) rfl (fun ls hl => ?_)
      refine lv_iconst (v := nI 1) hx hb dL_surplusWithout_13 (by decide) ?_
      exact ret_i X hW (Or.inr (⟨rfl, hp⟩)) rfl (Nat.le_of_ble_eq_true rfl) (Nat.le_of_ble_eq_true rfl) dL_surplusWithout_14
set_option maxRecDepth 100000 in
set_option maxHeartbeats 4000000 in
theorem h_wouldWin (l : Launch) (G : Gt) (w : va_W) (zz o1 : Nat) (fs : List Value) (f : Nat → Int64) (x1 : Int32) {post : Int32 → va_W → Prop} {px : String → va_W → Prop} (M : Xi l G yX6_wouldWin (ww yX6_wouldWin cX6_wouldWin 2 (some FieldType.boolean)) (RM 16 6 36) [.ref zz, .int x1] w post px) (hz : (zz, .inr (9, fs)) ∈ w) (ho : ∀ r w2, post r w2 → outL G o1 f ∈ w2) (hE : ∀ E w2, px E w2 → E = "java/util/NoSuchElementException" ∨ E = "java/lang/IllegalStateException") : CiH l G yL_wouldWin cL_wouldWin 4 [(0, 16, 19, 21), (0, 16, 22, 15)] (RM 17 6 36) [.ref zz, .int x1, .ref o1] w (fun r w2 => (r = nI 0 ∧ ∃ v w3, post v w3 ∧ Fc w3 [outL G o1 f] [outL G o1 (vp_updL f 0 (if v = 0 then 0 else 1))] w2) ∨ (r = nI 1 ∧ px "java/util/NoSuchElementException" w2) ∨ (r = nI 2 ∧ px "java/lang/IllegalStateException" w2)) := by
  refine CiH.intro (by decide) (Nat.le_of_ble_eq_true rfl) ?_
  intro p e s m args below meth c A X hT hW ls hl
  have hx := X.exec
  have hb := X.bytes
  have hl : lv_has ls 4 [(0, .ref zz), (1, .int x1), (2, .ref o1)] := hl
  obtain ⟨q0, hq⟩ := List.mem_iff_getElem?.mp hz
  refine lv_aload_n hx hb dL_wouldWin_0 rfl (lv_at hl 2 rfl) ?_
  refine lv_iconst (v := nI 0) hx hb dL_wouldWin_1 (by decide) ?_
  refine lv_aload_n hx hb dL_wouldWin_2 rfl (lv_at hl 0 rfl) ?_
  refine lv_iload_n hx hb dL_wouldWin_3 rfl (lv_at hl 1 rfl) ?_
  refine go_hi X hW (rest := [.int (nI 0), .ref o1]) (run_XV X hW (As := [.int x1]) (rest := [.int (nI 0), .ref o1]) 9 q0 hq (M s.heap.size) (gi_V wq_1011 wq_1012 wq_1013 wq_61 wq_1014) rfl hyX6_wouldWin rfl rfl rfl hl.1 (Nat.le_of_ble_eq_true rfl) ⟨Nat.le_of_ble_eq_true rfl, Nat.le_of_ble_eq_true rfl⟩ ⟨Nat.le_of_ble_eq_true rfl, Nat.le_of_ble_eq_true rfl⟩ dL_wouldWin_4) (fun r w1 H1 locs1 hp hW => ?_) (fun E q ce w1 H1 locs1 hp hW hc1 hc2 hc3 => ?_)
  · refine lv_if_eq (tgt := 14) hx hb dL_wouldWin_7 rfl (fun h0 => ?_) (fun h0 => ?_)
    · refine lv_lconst (v := (if r = 0 then 0 else 1)) hx hb dL_wouldWin_14 (by rw [if_pos h0]; rfl) ?_
      refine x_last X hW (ho r w1 hp) dL_wouldWin_15 (fun w2 H2 locs2 hF hW => ?_)
      refine lv_goto (tgt := 25) hx hb dL_wouldWin_16 rfl ?_
      refine lv_iconst (v := nI 0) hx hb dL_wouldWin_25 (by decide) ?_
      exact ret_i X hW (Or.inl ⟨rfl, r, w1, hp, hF⟩) rfl (Nat.le_of_ble_eq_true rfl) (Nat.le_of_ble_eq_true rfl) dL_wouldWin_26
    · refine lv_lconst (v := (if r = 0 then 0 else 1)) hx hb dL_wouldWin_10 (by rw [if_neg h0]; rfl) ?_
      refine lv_goto (tgt := 15) hx hb dL_wouldWin_11 rfl ?_
      refine x_last X hW (ho r w1 hp) dL_wouldWin_15 (fun w2 H2 locs2 hF hW => ?_)
      refine lv_goto (tgt := 25) hx hb dL_wouldWin_16 rfl ?_
      refine lv_iconst (v := nI 0) hx hb dL_wouldWin_25 (by decide) ?_
      exact ret_i X hW (Or.inl ⟨rfl, r, w1, hp, hF⟩) rfl (Nat.le_of_ble_eq_true rfl) (Nat.le_of_ble_eq_true rfl) dL_wouldWin_26
  · rcases hE E w1 hp with rfl | rfl
    · refine x_catch (E := "java/util/NoSuchElementException") X hT (by decide) [] (0, 16, 19, 21) [(0, 16, 22, 15)] rfl (fun z hz => by cases hz) (by decide) (by decide) wq_599 wq_610 hc1 hc2 hc3 ?_
      refine lv_astore_n (lv' := [(3, .ref q), (0, .ref zz), (1, .int x1), (2, .ref o1)]) hx hb dL_wouldWin_19 rfl hl (by decide) rfl (fun ls hl => ?_)
      refine lv_iconst (v := nI 1) hx hb dL_wouldWin_20 (by decide) ?_
      exact ret_i X hW (Or.inr (Or.inl ⟨rfl, hp⟩)) rfl (Nat.le_of_ble_eq_true rfl) (Nat.le_of_ble_eq_true rfl) dL_wouldWin_21
    · refine x_catch (E := "java/lang/IllegalStateException") X hT (by decide) [(0, 16, 19, 21)] (0, 16, 22, 15) [] rfl (fun z hz => by simp only [List.mem_cons, List.not_mem_nil, or_false] at hz; rcases hz with rfl <;> first | exact ⟨by decide, _, wq_599, by decide, by decide⟩) (by decide) (by decide) wq_410 wq_495 hc1 hc2 hc3 ?_
      refine lv_astore_n (lv' := [(3, .ref q), (0, .ref zz), (1, .int x1), (2, .ref o1)]) hx hb dL_wouldWin_22 rfl hl (by decide) rfl (fun ls hl => ?_)
      refine lv_iconst (v := nI 2) hx hb dL_wouldWin_23 (by decide) ?_
      exact ret_i X hW (Or.inr (Or.inr (⟨rfl, hp⟩))) rfl (Nat.le_of_ble_eq_true rfl) (Nat.le_of_ble_eq_true rfl) dL_wouldWin_24
set_option maxRecDepth 100000 in
set_option maxHeartbeats 4000000 in
theorem h_wouldWinBySets (l : Launch) (G : Gt) (w : va_W) (zz o1 : Nat) (fs : List Value) (f : Nat → Int64) (x1 : Int32) {post : Int32 → va_W → Prop} {px : String → va_W → Prop} (M : Xi l G yX6_wouldWinBySets (ww yX6_wouldWinBySets cX6_wouldWinBySets 2 (some FieldType.boolean)) (RM 15 6 36) [.ref zz, .int x1] w post px) (hz : (zz, .inr (9, fs)) ∈ w) (ho : ∀ r w2, post r w2 → outL G o1 f ∈ w2) (hE : ∀ E w2, px E w2 → E = "java/util/NoSuchElementException" ∨ E = "java/lang/IllegalStateException") : CiH l G yL_wouldWinBySets cL_wouldWinBySets 4 [(0, 16, 19, 21), (0, 16, 22, 15)] (RM 16 6 36) [.ref zz, .int x1, .ref o1] w (fun r w2 => (r = nI 0 ∧ ∃ v w3, post v w3 ∧ Fc w3 [outL G o1 f] [outL G o1 (vp_updL f 0 (if v = 0 then 0 else 1))] w2) ∨ (r = nI 1 ∧ px "java/util/NoSuchElementException" w2) ∨ (r = nI 2 ∧ px "java/lang/IllegalStateException" w2)) := by
  refine CiH.intro (by decide) (Nat.le_of_ble_eq_true rfl) ?_
  intro p e s m args below meth c A X hT hW ls hl
  have hx := X.exec
  have hb := X.bytes
  have hl : lv_has ls 4 [(0, .ref zz), (1, .int x1), (2, .ref o1)] := hl
  obtain ⟨q0, hq⟩ := List.mem_iff_getElem?.mp hz
  refine lv_aload_n hx hb dL_wouldWinBySets_0 rfl (lv_at hl 2 rfl) ?_
  refine lv_iconst (v := nI 0) hx hb dL_wouldWinBySets_1 (by decide) ?_
  refine lv_aload_n hx hb dL_wouldWinBySets_2 rfl (lv_at hl 0 rfl) ?_
  refine lv_iload_n hx hb dL_wouldWinBySets_3 rfl (lv_at hl 1 rfl) ?_
  refine go_hi X hW (rest := [.int (nI 0), .ref o1]) (run_XV X hW (As := [.int x1]) (rest := [.int (nI 0), .ref o1]) 9 q0 hq (M s.heap.size) (gi_V wq_1022 wq_1023 wq_1024 wq_61 wq_1025) rfl hyX6_wouldWinBySets rfl rfl rfl hl.1 (Nat.le_of_ble_eq_true rfl) ⟨Nat.le_of_ble_eq_true rfl, Nat.le_of_ble_eq_true rfl⟩ ⟨Nat.le_of_ble_eq_true rfl, Nat.le_of_ble_eq_true rfl⟩ dL_wouldWinBySets_4) (fun r w1 H1 locs1 hp hW => ?_) (fun E q ce w1 H1 locs1 hp hW hc1 hc2 hc3 => ?_)
  · refine lv_if_eq (tgt := 14) hx hb dL_wouldWinBySets_7 rfl (fun h0 => ?_) (fun h0 => ?_)
    · refine lv_lconst (v := (if r = 0 then 0 else 1)) hx hb dL_wouldWinBySets_14 (by rw [if_pos h0]; rfl) ?_
      refine x_last X hW (ho r w1 hp) dL_wouldWinBySets_15 (fun w2 H2 locs2 hF hW => ?_)
      refine lv_goto (tgt := 25) hx hb dL_wouldWinBySets_16 rfl ?_
      refine lv_iconst (v := nI 0) hx hb dL_wouldWinBySets_25 (by decide) ?_
      exact ret_i X hW (Or.inl ⟨rfl, r, w1, hp, hF⟩) rfl (Nat.le_of_ble_eq_true rfl) (Nat.le_of_ble_eq_true rfl) dL_wouldWinBySets_26
    · refine lv_lconst (v := (if r = 0 then 0 else 1)) hx hb dL_wouldWinBySets_10 (by rw [if_neg h0]; rfl) ?_
      refine lv_goto (tgt := 15) hx hb dL_wouldWinBySets_11 rfl ?_
      refine x_last X hW (ho r w1 hp) dL_wouldWinBySets_15 (fun w2 H2 locs2 hF hW => ?_)
      refine lv_goto (tgt := 25) hx hb dL_wouldWinBySets_16 rfl ?_
      refine lv_iconst (v := nI 0) hx hb dL_wouldWinBySets_25 (by decide) ?_
      exact ret_i X hW (Or.inl ⟨rfl, r, w1, hp, hF⟩) rfl (Nat.le_of_ble_eq_true rfl) (Nat.le_of_ble_eq_true rfl) dL_wouldWinBySets_26
  · rcases hE E w1 hp with rfl | rfl
    · refine x_catch (E := "java/util/NoSuchElementException") X hT (by decide) [] (0, 16, 19, 21) [(0, 16, 22, 15)] rfl (fun z hz => by cases hz) (by decide) (by decide) wq_599 wq_610 hc1 hc2 hc3 ?_
      refine lv_astore_n (lv' := [(3, .ref q), (0, .ref zz), (1, .int x1), (2, .ref o1)]) hx hb dL_wouldWinBySets_19 rfl hl (by decide) rfl (fun ls hl => ?_)
      refine lv_iconst (v := nI 1) hx hb dL_wouldWinBySets_20 (by decide) ?_
      exact ret_i X hW (Or.inr (Or.inl ⟨rfl, hp⟩)) rfl (Nat.le_of_ble_eq_true rfl) (Nat.le_of_ble_eq_true rfl) dL_wouldWinBySets_21
    · refine x_catch (E := "java/lang/IllegalStateException") X hT (by decide) [(0, 16, 19, 21)] (0, 16, 22, 15) [] rfl (fun z hz => by simp only [List.mem_cons, List.not_mem_nil, or_false] at hz; rcases hz with rfl <;> first | exact ⟨by decide, _, wq_599, by decide, by decide⟩) (by decide) (by decide) wq_410 wq_495 hc1 hc2 hc3 ?_
      refine lv_astore_n (lv' := [(3, .ref q), (0, .ref zz), (1, .int x1), (2, .ref o1)]) hx hb dL_wouldWinBySets_22 rfl hl (by decide) rfl (fun ls hl => ?_)
      refine lv_iconst (v := nI 2) hx hb dL_wouldWinBySets_23 (by decide) ?_
      exact ret_i X hW (Or.inr (Or.inr (⟨rfl, hp⟩))) rfl (Nat.le_of_ble_eq_true rfl) (Nat.le_of_ble_eq_true rfl) dL_wouldWinBySets_24
set_option maxRecDepth 100000 in
set_option maxHeartbeats 4000000 in
theorem h_lotFor (l : Launch) (G : Gt) (w : va_W) (zz o1 : Nat) (fs : List Value) (f : Nat → Int64) (x1 : Int32) (x2 : Int32) {post : Int32 → va_W → Prop} {px : String → va_W → Prop} (M : Xi l G yX6_lotFor (ww yX6_lotFor cX6_lotFor 4 (some FieldType.int)) (RM 17 8 60) [.ref zz, .int x1, .int x2] w post px) (hz : (zz, .inr (9, fs)) ∈ w) (ho : ∀ r w2, post r w2 → outL G o1 f ∈ w2) (hE : ∀ E w2, px E w2 → E = "java/util/NoSuchElementException" ∨ E = "java/lang/IndexOutOfBoundsException" ∨ E = "java/lang/IllegalStateException" ∨ E = "java/lang/UnsupportedOperationException") : CiH l G yL_lotFor cL_lotFor 5 [(0, 10, 13, 21), (0, 10, 17, 75), (0, 10, 21, 15), (0, 10, 25, 101)] (RM 18 8 60) [.ref zz, .int x1, .int x2, .ref o1] w (fun r w2 => (r = nI 0 ∧ ∃ v w3, post v w3 ∧ Fc w3 [outL G o1 f] [outL G o1 (vp_updL f 0 v.toInt64)] w2) ∨ (r = nI 1 ∧ px "java/util/NoSuchElementException" w2) ∨ (r = nI 2 ∧ px "java/lang/IndexOutOfBoundsException" w2) ∨ (r = nI 3 ∧ px "java/lang/IllegalStateException" w2) ∨ (r = nI 4 ∧ px "java/lang/UnsupportedOperationException" w2)) := by
  refine CiH.intro (by decide) (Nat.le_of_ble_eq_true rfl) ?_
  intro p e s m args below meth c A X hT hW ls hl
  have hx := X.exec
  have hb := X.bytes
  have hl : lv_has ls 5 [(0, .ref zz), (1, .int x1), (2, .int x2), (3, .ref o1)] := hl
  obtain ⟨q0, hq⟩ := List.mem_iff_getElem?.mp hz
  refine lv_aload_n hx hb dL_lotFor_0 rfl (lv_at hl 3 rfl) ?_
  refine lv_iconst (v := nI 0) hx hb dL_lotFor_1 (by decide) ?_
  refine lv_aload_n hx hb dL_lotFor_2 rfl (lv_at hl 0 rfl) ?_
  refine lv_iload_n hx hb dL_lotFor_3 rfl (lv_at hl 1 rfl) ?_
  refine lv_iload_n hx hb dL_lotFor_4 rfl (lv_at hl 2 rfl) ?_
  refine go_hi X hW (rest := [.int (nI 0), .ref o1]) (run_XV X hW (As := [.int x1, .int x2]) (rest := [.int (nI 0), .ref o1]) 9 q0 hq (M s.heap.size) (gi_V wq_1029 wq_1030 wq_1031 wq_61 wq_1032) rfl hyX6_lotFor rfl rfl rfl hl.1 (Nat.le_of_ble_eq_true rfl) ⟨Nat.le_of_ble_eq_true rfl, Nat.le_of_ble_eq_true rfl⟩ ⟨Nat.le_of_ble_eq_true rfl, Nat.le_of_ble_eq_true rfl⟩ dL_lotFor_5) (fun r w1 H1 locs1 hp hW => ?_) (fun E q ce w1 H1 locs1 hp hW hc1 hc2 hc3 => ?_)
  · refine lv_i2l (v := r.toInt64) hx hb dL_lotFor_8 rfl ?_
    refine x_last X hW (ho r w1 hp) dL_lotFor_9 (fun w2 H2 locs2 hF hW => ?_)
    refine lv_goto (tgt := 29) hx hb dL_lotFor_10 rfl ?_
    refine lv_iconst (v := nI 0) hx hb dL_lotFor_29 (by decide) ?_
    exact ret_i X hW (Or.inl ⟨rfl, r, w1, hp, hF⟩) rfl (Nat.le_of_ble_eq_true rfl) (Nat.le_of_ble_eq_true rfl) dL_lotFor_30
  · rcases hE E w1 hp with rfl | rfl | rfl | rfl
    · refine x_catch (E := "java/util/NoSuchElementException") X hT (by decide) [] (0, 10, 13, 21) [(0, 10, 17, 75), (0, 10, 21, 15), (0, 10, 25, 101)] rfl (fun z hz => by cases hz) (by decide) (by decide) wq_599 wq_610 hc1 hc2 hc3 ?_
      refine lv_astore (lv' := [(4, .ref q), (0, .ref zz), (1, .int x1), (2, .int x2), (3, .ref o1)]) hx hb dL_lotFor_13 hl (by decide) rfl (fun ls hl => ?_)
      refine lv_iconst (v := nI 1) hx hb dL_lotFor_15 (by decide) ?_
      exact ret_i X hW (Or.inr (Or.inl ⟨rfl, hp⟩)) rfl (Nat.le_of_ble_eq_true rfl) (Nat.le_of_ble_eq_true rfl) dL_lotFor_16
    · refine x_catch (E := "java/lang/IndexOutOfBoundsException") X hT (by decide) [(0, 10, 13, 21)] (0, 10, 17, 75) [(0, 10, 21, 15), (0, 10, 25, 101)] rfl (fun z hz => by simp only [List.mem_cons, List.not_mem_nil, or_false] at hz; rcases hz with rfl <;> first | exact ⟨by decide, _, wq_599, by decide, by decide⟩) (by decide) (by decide) wq_872 wq_905 hc1 hc2 hc3 ?_
      refine lv_astore (lv' := [(4, .ref q), (0, .ref zz), (1, .int x1), (2, .int x2), (3, .ref o1)]) hx hb dL_lotFor_17 hl (by decide) rfl (fun ls hl => ?_)
      refine lv_iconst (v := nI 2) hx hb dL_lotFor_19 (by decide) ?_
      exact ret_i X hW (Or.inr (Or.inr (Or.inl ⟨rfl, hp⟩))) rfl (Nat.le_of_ble_eq_true rfl) (Nat.le_of_ble_eq_true rfl) dL_lotFor_20
    · refine x_catch (E := "java/lang/IllegalStateException") X hT (by decide) [(0, 10, 13, 21), (0, 10, 17, 75)] (0, 10, 21, 15) [(0, 10, 25, 101)] rfl (fun z hz => by simp only [List.mem_cons, List.not_mem_nil, or_false] at hz; rcases hz with rfl | rfl <;> first | exact ⟨by decide, _, wq_599, by decide, by decide⟩ | exact ⟨by decide, _, wq_872, by decide, by decide⟩) (by decide) (by decide) wq_410 wq_495 hc1 hc2 hc3 ?_
      refine lv_astore (lv' := [(4, .ref q), (0, .ref zz), (1, .int x1), (2, .int x2), (3, .ref o1)]) hx hb dL_lotFor_21 hl (by decide) rfl (fun ls hl => ?_)
      refine lv_iconst (v := nI 3) hx hb dL_lotFor_23 (by decide) ?_
      exact ret_i X hW (Or.inr (Or.inr (Or.inr (Or.inl ⟨rfl, hp⟩)))) rfl (Nat.le_of_ble_eq_true rfl) (Nat.le_of_ble_eq_true rfl) dL_lotFor_24
    · refine x_catch (E := "java/lang/UnsupportedOperationException") X hT (by decide) [(0, 10, 13, 21), (0, 10, 17, 75), (0, 10, 21, 15)] (0, 10, 25, 101) [] rfl (fun z hz => by simp only [List.mem_cons, List.not_mem_nil, or_false] at hz; rcases hz with rfl | rfl | rfl <;> first | exact ⟨by decide, _, wq_599, by decide, by decide⟩ | exact ⟨by decide, _, wq_872, by decide, by decide⟩ | exact ⟨by decide, _, wq_410, by decide, by decide⟩) (by decide) (by decide) wq_971 wq_986 hc1 hc2 hc3 ?_
      refine lv_astore (lv' := [(4, .ref q), (0, .ref zz), (1, .int x1), (2, .int x2), (3, .ref o1)]) hx hb dL_lotFor_25 hl (by decide) rfl (fun ls hl => ?_)
      refine lv_iconst (v := nI 4) hx hb dL_lotFor_27 (by decide) ?_
      exact ret_i X hW (Or.inr (Or.inr (Or.inr (Or.inr (⟨rfl, hp⟩))))) rfl (Nat.le_of_ble_eq_true rfl) (Nat.le_of_ble_eq_true rfl) dL_lotFor_28
set_option maxRecDepth 100000 in
set_option maxHeartbeats 4000000 in
theorem h_payment (l : Launch) (G : Gt) (w : va_W) (zz o1 : Nat) (fs : List Value) (f : Nat → Int64) (x1 : Int32) {post : Int32 → va_W → Prop} {px : String → va_W → Prop} (M : Xi l G yX6_payment (ww yX6_payment cX6_payment 4 (some FieldType.int)) (RM 17 6 36) [.ref zz, .int x1] w post px) (hz : (zz, .inr (9, fs)) ∈ w) (ho : ∀ r w2, post r w2 → outL G o1 f ∈ w2) (hE : ∀ E w2, px E w2 → E = "java/util/NoSuchElementException" ∨ E = "java/lang/IllegalStateException" ∨ E = "java/lang/UnsupportedOperationException") : CiH l G yL_payment cL_payment 4 [(0, 9, 12, 21), (0, 9, 15, 15), (0, 9, 18, 101)] (RM 18 6 36) [.ref zz, .int x1, .ref o1] w (fun r w2 => (r = nI 0 ∧ ∃ v w3, post v w3 ∧ Fc w3 [outL G o1 f] [outL G o1 (vp_updL f 0 v.toInt64)] w2) ∨ (r = nI 1 ∧ px "java/util/NoSuchElementException" w2) ∨ (r = nI 2 ∧ px "java/lang/IllegalStateException" w2) ∨ (r = nI 3 ∧ px "java/lang/UnsupportedOperationException" w2)) := by
  refine CiH.intro (by decide) (Nat.le_of_ble_eq_true rfl) ?_
  intro p e s m args below meth c A X hT hW ls hl
  have hx := X.exec
  have hb := X.bytes
  have hl : lv_has ls 4 [(0, .ref zz), (1, .int x1), (2, .ref o1)] := hl
  obtain ⟨q0, hq⟩ := List.mem_iff_getElem?.mp hz
  refine lv_aload_n hx hb dL_payment_0 rfl (lv_at hl 2 rfl) ?_
  refine lv_iconst (v := nI 0) hx hb dL_payment_1 (by decide) ?_
  refine lv_aload_n hx hb dL_payment_2 rfl (lv_at hl 0 rfl) ?_
  refine lv_iload_n hx hb dL_payment_3 rfl (lv_at hl 1 rfl) ?_
  refine go_hi X hW (rest := [.int (nI 0), .ref o1]) (run_XV X hW (As := [.int x1]) (rest := [.int (nI 0), .ref o1]) 9 q0 hq (M s.heap.size) (gi_V wq_1038 wq_1039 wq_1040 wq_61 wq_1041) rfl hyX6_payment rfl rfl rfl hl.1 (Nat.le_of_ble_eq_true rfl) ⟨Nat.le_of_ble_eq_true rfl, Nat.le_of_ble_eq_true rfl⟩ ⟨Nat.le_of_ble_eq_true rfl, Nat.le_of_ble_eq_true rfl⟩ dL_payment_4) (fun r w1 H1 locs1 hp hW => ?_) (fun E q ce w1 H1 locs1 hp hW hc1 hc2 hc3 => ?_)
  · refine lv_i2l (v := r.toInt64) hx hb dL_payment_7 rfl ?_
    refine x_last X hW (ho r w1 hp) dL_payment_8 (fun w2 H2 locs2 hF hW => ?_)
    refine lv_goto (tgt := 21) hx hb dL_payment_9 rfl ?_
    refine lv_iconst (v := nI 0) hx hb dL_payment_21 (by decide) ?_
    exact ret_i X hW (Or.inl ⟨rfl, r, w1, hp, hF⟩) rfl (Nat.le_of_ble_eq_true rfl) (Nat.le_of_ble_eq_true rfl) dL_payment_22
  · rcases hE E w1 hp with rfl | rfl | rfl
    · refine x_catch (E := "java/util/NoSuchElementException") X hT (by decide) [] (0, 9, 12, 21) [(0, 9, 15, 15), (0, 9, 18, 101)] rfl (fun z hz => by cases hz) (by decide) (by decide) wq_599 wq_610 hc1 hc2 hc3 ?_
      refine lv_astore_n (lv' := [(3, .ref q), (0, .ref zz), (1, .int x1), (2, .ref o1)]) hx hb dL_payment_12 rfl hl (by decide) rfl (fun ls hl => ?_)
      refine lv_iconst (v := nI 1) hx hb dL_payment_13 (by decide) ?_
      exact ret_i X hW (Or.inr (Or.inl ⟨rfl, hp⟩)) rfl (Nat.le_of_ble_eq_true rfl) (Nat.le_of_ble_eq_true rfl) dL_payment_14
    · refine x_catch (E := "java/lang/IllegalStateException") X hT (by decide) [(0, 9, 12, 21)] (0, 9, 15, 15) [(0, 9, 18, 101)] rfl (fun z hz => by simp only [List.mem_cons, List.not_mem_nil, or_false] at hz; rcases hz with rfl <;> first | exact ⟨by decide, _, wq_599, by decide, by decide⟩) (by decide) (by decide) wq_410 wq_495 hc1 hc2 hc3 ?_
      refine lv_astore_n (lv' := [(3, .ref q), (0, .ref zz), (1, .int x1), (2, .ref o1)]) hx hb dL_payment_15 rfl hl (by decide) rfl (fun ls hl => ?_)
      refine lv_iconst (v := nI 2) hx hb dL_payment_16 (by decide) ?_
      exact ret_i X hW (Or.inr (Or.inr (Or.inl ⟨rfl, hp⟩))) rfl (Nat.le_of_ble_eq_true rfl) (Nat.le_of_ble_eq_true rfl) dL_payment_17
    · refine x_catch (E := "java/lang/UnsupportedOperationException") X hT (by decide) [(0, 9, 12, 21), (0, 9, 15, 15)] (0, 9, 18, 101) [] rfl (fun z hz => by simp only [List.mem_cons, List.not_mem_nil, or_false] at hz; rcases hz with rfl | rfl <;> first | exact ⟨by decide, _, wq_599, by decide, by decide⟩ | exact ⟨by decide, _, wq_410, by decide, by decide⟩) (by decide) (by decide) wq_971 wq_986 hc1 hc2 hc3 ?_
      refine lv_astore_n (lv' := [(3, .ref q), (0, .ref zz), (1, .int x1), (2, .ref o1)]) hx hb dL_payment_18 rfl hl (by decide) rfl (fun ls hl => ?_)
      refine lv_iconst (v := nI 3) hx hb dL_payment_19 (by decide) ?_
      exact ret_i X hW (Or.inr (Or.inr (Or.inr (⟨rfl, hp⟩)))) rfl (Nat.le_of_ble_eq_true rfl) (Nat.le_of_ble_eq_true rfl) dL_payment_20
set_option maxRecDepth 100000 in
set_option maxHeartbeats 4000000 in
theorem h_soldShare (l : Launch) (G : Gt) (w : va_W) (zz o1 : Nat) (fs : List Value) (f : Nat → UInt64) {post : UInt32 → va_W → Prop} {px : String → va_W → Prop} (M : Xf l G yX6_soldShare (ww yX6_soldShare cX6_soldShare 1 (some FieldType.float)) (RM 6 3 18) [.ref zz] w post px) (hz : (zz, .inr (9, fs)) ∈ w) (ho : ∀ r w2, post r w2 → outD G o1 f ∈ w2) (hE : ∀ E w2, px E w2 → E = "java/lang/ArithmeticException") (hn9 : ∀ r w2, post r w2 → vf_n64 (FP.f2d r)) : CiH l G yL_soldShare cL_soldShare 3 [(0, 8, 11, 123)] (RM 7 3 18) [.ref zz, .ref o1] w (fun r w2 => (r = nI 0 ∧ ∃ v w3, post v w3 ∧ Fc w3 [outD G o1 f] [outD G o1 (vf_upd f 0 (FP.f2d v))] w2) ∨ (r = nI 1 ∧ px "java/lang/ArithmeticException" w2)) := by
  refine CiH.intro (by decide) (Nat.le_of_ble_eq_true rfl) ?_
  intro p e s m args below meth c A X hT hW ls hl
  have hx := X.exec
  have hb := X.bytes
  have hl : lv_has ls 3 [(0, .ref zz), (1, .ref o1)] := hl
  obtain ⟨q0, hq⟩ := List.mem_iff_getElem?.mp hz
  refine lv_aload_n hx hb dL_soldShare_0 rfl (lv_at hl 1 rfl) ?_
  refine lv_iconst (v := nI 0) hx hb dL_soldShare_1 (by decide) ?_
  refine lv_aload_n hx hb dL_soldShare_2 rfl (lv_at hl 0 rfl) ?_
  refine go_hf X hW (rest := [.int (nI 0), .ref o1]) (run_XV X hW (As := []) (rest := [.int (nI 0), .ref o1]) 9 q0 hq (M s.heap.size) (gi_V wq_1059 wq_1060 wq_1061 wq_61 wq_1062) rfl hyX6_soldShare rfl rfl rfl hl.1 (Nat.le_of_ble_eq_true rfl) ⟨Nat.le_of_ble_eq_true rfl, Nat.le_of_ble_eq_true rfl⟩ ⟨Nat.le_of_ble_eq_true rfl, Nat.le_of_ble_eq_true rfl⟩ dL_soldShare_3) (fun r w1 H1 locs1 hp hW => ?_) (fun E q ce w1 H1 locs1 hp hW hc1 hc2 hc3 => ?_)
  · refine lv_f2d hx hb dL_soldShare_6 (hn9 r w1 hp) ?_
    refine x_dast X hW (ho r w1 hp) dL_soldShare_7 (fun w2 H2 locs2 hF hW => ?_)
    refine lv_goto (tgt := 14) hx hb dL_soldShare_8 rfl ?_
    refine lv_iconst (v := nI 0) hx hb dL_soldShare_14 (by decide) ?_
    exact ret_i X hW (Or.inl ⟨rfl, r, w1, hp, hF⟩) rfl (Nat.le_of_ble_eq_true rfl) (Nat.le_of_ble_eq_true rfl) dL_soldShare_15
  · rcases hE E w1 hp with rfl
    · refine x_catch (E := "java/lang/ArithmeticException") X hT (by decide) [] (0, 8, 11, 123) [] rfl (fun z hz => by cases hz) (by decide) (by decide) wq_1045 wq_1057 hc1 hc2 hc3 ?_
      refine lv_astore_n (lv' := [(2, .ref q), (0, .ref zz), (1, .ref o1)]) hx hb dL_soldShare_11 rfl hl (by decide) rfl (fun ls hl => ?_)
      refine lv_iconst (v := nI 1) hx hb dL_soldShare_12 (by decide) ?_
      exact ret_i X hW (Or.inr (⟨rfl, hp⟩)) rfl (Nat.le_of_ble_eq_true rfl) (Nat.le_of_ble_eq_true rfl) dL_soldShare_13
set_option maxRecDepth 100000 in
set_option maxHeartbeats 4000000 in
theorem h_meanPaid (l : Launch) (G : Gt) (w : va_W) (zz o1 : Nat) (fs : List Value) (f : Nat → UInt64) {post : UInt64 → va_W → Prop} {px : String → va_W → Prop} (M : Xd l G yX6_meanPaid (ww yX6_meanPaid cX6_meanPaid 1 (some FieldType.double)) (RM 6 3 18) [.ref zz] w post px) (hz : (zz, .inr (9, fs)) ∈ w) (ho : ∀ r w2, post r w2 → outD G o1 f ∈ w2) (hE : ∀ E w2, px E w2 → E = "java/lang/ArithmeticException") : CiH l G yL_meanPaid cL_meanPaid 3 [(0, 7, 10, 123)] (RM 7 3 18) [.ref zz, .ref o1] w (fun r w2 => (r = nI 0 ∧ ∃ v w3, post v w3 ∧ Fc w3 [outD G o1 f] [outD G o1 (vf_upd f 0 v)] w2) ∨ (r = nI 1 ∧ px "java/lang/ArithmeticException" w2)) := by
  refine CiH.intro (by decide) (Nat.le_of_ble_eq_true rfl) ?_
  intro p e s m args below meth c A X hT hW ls hl
  have hx := X.exec
  have hb := X.bytes
  have hl : lv_has ls 3 [(0, .ref zz), (1, .ref o1)] := hl
  obtain ⟨q0, hq⟩ := List.mem_iff_getElem?.mp hz
  refine lv_aload_n hx hb dL_meanPaid_0 rfl (lv_at hl 1 rfl) ?_
  refine lv_iconst (v := nI 0) hx hb dL_meanPaid_1 (by decide) ?_
  refine lv_aload_n hx hb dL_meanPaid_2 rfl (lv_at hl 0 rfl) ?_
  refine go_hd X hW (rest := [.int (nI 0), .ref o1]) (run_XV X hW (As := []) (rest := [.int (nI 0), .ref o1]) 9 q0 hq (M s.heap.size) (gi_V wq_1069 wq_1070 wq_1071 wq_61 wq_1072) rfl hyX6_meanPaid rfl rfl rfl hl.1 (Nat.le_of_ble_eq_true rfl) ⟨Nat.le_of_ble_eq_true rfl, Nat.le_of_ble_eq_true rfl⟩ ⟨Nat.le_of_ble_eq_true rfl, Nat.le_of_ble_eq_true rfl⟩ dL_meanPaid_3) (fun r w1 H1 locs1 hp hW => ?_) (fun E q ce w1 H1 locs1 hp hW hc1 hc2 hc3 => ?_)
  · refine x_dast X hW (ho r w1 hp) dL_meanPaid_6 (fun w2 H2 locs2 hF hW => ?_)
    refine lv_goto (tgt := 13) hx hb dL_meanPaid_7 rfl ?_
    refine lv_iconst (v := nI 0) hx hb dL_meanPaid_13 (by decide) ?_
    exact ret_i X hW (Or.inl ⟨rfl, r, w1, hp, hF⟩) rfl (Nat.le_of_ble_eq_true rfl) (Nat.le_of_ble_eq_true rfl) dL_meanPaid_14
  · rcases hE E w1 hp with rfl
    · refine x_catch (E := "java/lang/ArithmeticException") X hT (by decide) [] (0, 7, 10, 123) [] rfl (fun z hz => by cases hz) (by decide) (by decide) wq_1045 wq_1057 hc1 hc2 hc3 ?_
      refine lv_astore_n (lv' := [(2, .ref q), (0, .ref zz), (1, .ref o1)]) hx hb dL_meanPaid_10 rfl hl (by decide) rfl (fun ls hl => ?_)
      refine lv_iconst (v := nI 1) hx hb dL_meanPaid_11 (by decide) ?_
      exact ret_i X hW (Or.inr (⟨rfl, hp⟩)) rfl (Nat.le_of_ble_eq_true rfl) (Nat.le_of_ble_eq_true rfl) dL_meanPaid_12
