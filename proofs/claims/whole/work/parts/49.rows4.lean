section XR9
variable {p : Program} {l : Launch} {e : Env} {R : Room} {s : State} {m : MethodId} {args : Array Value} {below : List Frame} {meth : Method} {c : Code} {H : Heap} {locs : List Loc} {cells slots : Nat} {Q : State → Prop}
variable {cc : ByteArray} {nL pc : Nat} {ls : Array Slot} {rest : List Value} {own : String} {rt : Option FieldType} {G : Gt} {A : Nat → Prop} {w : va_W}
theorem run_XV (X : Cx p s m args meth c cc nL own rt G A) (hW : Wd G A s w H locs) {y : MethodName} {b : ByteArray} {n k : Nat} {ret : Option FieldType} {rm : Room} {As : List Value} {bb idx : Nat} {C : String} {T : u_T} {N : Nat} {Qc : Array Value → State → Outcome → State → Prop} {XC : String → State → State → Prop} {st0 : List Value} (ci q0 : Nat) {fs : List Value} (hq : w[q0]? = some (bb, .inr (ci, fs))) (M : vx_Met l y (ww y b n ret) rm (Pre0 G (.ref bb :: As) w H.size) Qc XC rm.cells rm.slots (va_A w H.size)) (g : GoodIn WW (wsV own idx C y (ww y b n ret))) (hC : y.cls = C) (hy : ynm y k) (hk : As.length = k) (hci : vwCl[ci]? = some (C, T, N)) (hst : st0 = As.reverse ++ .ref bb :: rest) (hsz : ls.size = nL) (hsum : (rest.map fun v => v.category).sum ≤ 8) (hR : rm.frames + 1 ≤ R.frames ∧ 8 + (n + 11) + rm.locals ≤ R.locals) (hf : cells + rm.cells ≤ R.cells ∧ slots + rm.slots ≤ R.slots) (hdg : decode cc pc = .ok (.invokevirtual idx, 3)) :
    vx_Run p l e R s m args below meth c H locs cells slots rm.cells rm.slots (F0 m pc ls st0) rest (Qc (Value.ref bb :: As).toArray) XC (va_A w H.size) :=
  vx_runV (As := As) (rest := rest) ⟨X.exec, X.bytes, X.ml, X.own, X.ws⟩ M (cwV k X.ws g rfl rfl rfl ⟨hC, hy⟩ hR) ⟨pre0_blind, va_recv X.K hW.1 (ci := ci) (q0 := q0) hci hq, pre_of X hW⟩ rfl hk hsz hst (lv_room hsum) hdg hf
theorem run_XS (X : Cx p s m args meth c cc nL own rt G A) (hW : Wd G A s w H locs) {y : MethodName} {b : ByteArray} {n k : Nat} {ret : Option FieldType} {rm : Room} {As : List Value} {idx : Nat} {Qc : Array Value → State → Outcome → State → Prop} {XC : String → State → State → Prop} {st0 : List Value} (M : vx_Met l y (ww y b n ret) rm (Pre0 G As w H.size) Qc XC rm.cells rm.slots (va_A w H.size)) (g : GoodIn WW (va_wsS own idx y (ww y b n ret))) (hy : ynm y k) (hk : As.length = k) (hst : st0 = As.reverse ++ rest) (hsz : ls.size = nL) (hsum : (rest.map fun v => v.category).sum ≤ 8) (hR : rm.frames + 1 ≤ R.frames ∧ 8 + (n + 11) + rm.locals ≤ R.locals) (hf : cells + rm.cells ≤ R.cells ∧ slots + rm.slots ≤ R.slots) (hdg : decode cc pc = .ok (.invokestatic idx, 3)) :
    vx_Run p l e R s m args below meth c H locs cells slots rm.cells rm.slots (F0 m pc ls st0) rest (Qc As.toArray) XC (va_A w H.size) :=
  vx_runS (As := As) (rest := rest) ⟨X.exec, X.bytes, X.ml, X.own, X.ws⟩ M (va_cwS k X.ws g rfl rfl rfl hy hR) ⟨pre0_blind, pre_of X hW⟩ rfl hk hsz hst (lv_room hsum) hdg hf
theorem wq_same : Cond.sameField "java/util/ArrayList" "java/util/AbstractList" "modCount" "I" ∈ WW := ww_in 116 (by decide +kernel) (by decide +kernel)
theorem x_getS (X : Cx p s m args meth c cc nL own rt G A) (hW : Wd G A s w H locs) {ref C : String} {T : u_T} {N ci index a : Nat} (q0 : Nat) {fs : List Value} (he : w[q0]? = some (a, .inr (ci, fs))) (k : Nat) {v : Value} (hv : fs[k]? = some v) (hc : vwCl[ci]? = some (C, T, N)) (hin : ∀ x ∈ u_ws C T N, x ∈ WW) (hk : k < N) (hlink : Cond.fieldLink own index ref (T k).2.1 (T k).2.2.1 ∈ WW) (hsame : Cond.sameField ref (T k).1 (T k).2.1 (T k).2.2.1 ∈ WW) (hdg : decode cc pc = .ok (.getfield index, 3)) (kk : W p l e R s m args below meth c H locs cells slots Q (F0 m (pc + 3) ls (v :: rest))) : W p l e R s m args below meth c H locs cells slots Q (F0 m pc ls (.ref a :: rest)) :=
  va_get X.exec X.bytes X.ws hin X.own X.K hW.1 q0 he hc k hk (X.ws _ hlink) (fun x9 h9 => u_same (X.ws _ hsame) x9 h9) hv hdg kk
theorem x_putS (X : Cx p s m args meth c cc nL own rt G A) (hW : Wd G A s w H locs) {ref C : String} {T : u_T} {N ci index a : Nat} {ty0 : Nat → FieldType} (q0 : Nat) {fs : List Value} (he : w[q0]? = some (a, .inr (ci, fs))) (k : Nat) {v : Value} {w2 : va_W} (hw2 : w.set q0 (a, .inr (ci, fs.set k v)) = w2) (hc : vwCl[ci]? = some (C, T, N)) (hin : ∀ x ∈ u_ws C T N, x ∈ WW) (hty : ∀ k, k < N → parseFieldDescriptor (T k).2.2.1 = some (ty0 k)) (hnm : ∀ a, a < N → ∀ b, b < N → a ≠ b → (T a).2.1 ≠ (T b).2.1) (hk : k < N) (hlink : Cond.fieldLink own index ref (T k).2.1 (T k).2.2.1 ∈ WW) (hsame : Cond.sameField ref (T k).1 (T k).2.1 (T k).2.2.1 ∈ WW) (hfin : (T k).2.2.2 = false) (hn : narrow (ty0 k) v = v) (hfit : fits (ty0 k) v = true) (hl : k < fs.length) (hdg : decode cc pc = .ok (.putfield index, 3))
    (kk : ∀ (H1 : Heap) (locs1 : List Loc), Wd G A s w2 H1 locs1 → W p l e R s m args below meth c H1 locs1 cells slots Q (F0 m (pc + 3) ls rest)) : W p l e R s m args below meth c H locs cells slots Q (F0 m pc ls (v :: .ref a :: rest)) :=
  va_put X.exec X.bytes X.ws hin ty0 hty hnm X.own X.K hW.1 hW.2.1 hW.2.2 q0 he hc k hk (X.ws _ hlink) (fun x9 h9 => u_same (X.ws _ hsame) x9 h9) hfin (hty k hk) hn hfit hl hdg (fun H1 locs1 a1 a2 a3 => kk H1 locs1 ⟨hw2 ▸ a1, hw2 ▸ a2, a3⟩)
theorem go_xi (X : Cx p s m args meth c cc nL own rt G A) (hout : ∀ x ∈ c.exceptionTable.toList, False) (hW : Wd G A s w H locs) {post : Int32 → va_W → Prop} {px px2 : String → va_W → Prop} {Qc : Array Value → State → Outcome → State → Prop} {a : Array Value} {st0 : List Value} {mc ms mc2 ms2 : Nat} (hr : vx_Run p l e R s m args below meth c H locs cells slots mc ms (F0 m pc ls st0) rest (Qi G (va_A w H.size) post a) (XX G (va_A w H.size) px) (va_A w H.size)) (hx : ∀ (E : String) (w2 : va_W), px E w2 → px2 E w2) (hc : cells + mc ≤ mc2) (hs : slots + ms ≤ ms2)
    (kk : ∀ (r : Int32) (w2 : va_W) (H1 : Heap) (locs1 : List Loc), post r w2 → Wd G A s w2 H1 locs1 → W p l e R s m args below meth c H1 locs1 (cells + mc) (slots + ms) (vx_MQ below Qc (XX G A px2) args s mc2 ms2 A) (F0 m (pc + 3) ls (.int r :: rest))) : W p l e R s m args below meth c H locs cells slots (vx_MQ below Qc (XX G A px2) args s mc2 ms2 A) (F0 m pc ls st0) := by
  intro T hT Z
  rcases hr T hT Z with ⟨v, st₀, t, T', L, h0, X', hL, e1, e2, ⟨⟨r, u, hv, hp, hb⟩, hF⟩, st⟩ | ⟨q, st₀, t, T', L, E, ce, h0, X', hL, e1, e2, ⟨u, hp, ⟨hb1, hb2⟩, hF⟩, hce, hcv, hcl, st⟩
  · cases hv
    obtain ⟨k1, k2, k3⟩ := vx_keep h0 e1 hW.2.2 (fun q _ h => X.free hW q h) (X.free hW) hL hF
    obtain ⟨t2, a1, b1⟩ := kk r u T'.heap (locs ++ L) hp ⟨by rw [e1]; exact hb.1, hb.2.weaken (fun _ _ _ h => X.free hW _ h), k3⟩ T' rfl X'
    exact ⟨t2, st t2 a1, b1⟩
  · obtain ⟨k1, k2, k3⟩ := vx_keep h0 e1 hW.2.2 (fun q _ h => X.free hW q h) (X.free hW) hL hF
    have hW2 : Wd G A s u.2 T'.heap (locs ++ L) := ⟨by rw [e1]; exact hb2.1, hb2.2.weaken (fun _ _ _ h => X.free hW _ h), k3⟩
    have key : vx_W p l e R s m args below meth c T'.heap (locs ++ L) (cells + mc) (slots + ms) (vx_MQ below Qc (XX G A px2) args s mc2 ms2 A) (F0 m pc ls rest) q :=
      vx_out (fun x hx => absurd hx (fun h => hout x h)) X.locks (by rw [e1]; exact hce) hcv hcl (fun t3 h3 _ => xx_of hW2 (hx E u.2 (hb1 ▸ hp)) (by rw [h3]; exact Nat.le_refl _) (fun q _ => by rw [h3])) (fun z hz => k3.2.2 z hz) hc hs
    obtain ⟨t2, a1, b1⟩ := key T' rfl X'
    exact ⟨t2, st.trans a1, b1⟩
theorem go_xr (X : Cx p s m args meth c cc nL own rt G A) (hout : ∀ x ∈ c.exceptionTable.toList, False) (hW : Wd G A s w H locs) {post : Nat → va_W → Prop} {px px2 : String → va_W → Prop} {Qc : Array Value → State → Outcome → State → Prop} {a : Array Value} {st0 : List Value} {mc ms mc2 ms2 : Nat} (hr : vx_Run p l e R s m args below meth c H locs cells slots mc ms (F0 m pc ls st0) rest (Qr G (va_A w H.size) post a) (XX G (va_A w H.size) px) (va_A w H.size)) (hx : ∀ (E : String) (w2 : va_W), px E w2 → px2 E w2) (hc : cells + mc ≤ mc2) (hs : slots + ms ≤ ms2)
    (kk : ∀ (r : Nat) (w2 : va_W) (H1 : Heap) (locs1 : List Loc), post r w2 → Wd G A s w2 H1 locs1 → W p l e R s m args below meth c H1 locs1 (cells + mc) (slots + ms) (vx_MQ below Qc (XX G A px2) args s mc2 ms2 A) (F0 m (pc + 3) ls (.ref r :: rest))) : W p l e R s m args below meth c H locs cells slots (vx_MQ below Qc (XX G A px2) args s mc2 ms2 A) (F0 m pc ls st0) := by
  intro T hT Z
  rcases hr T hT Z with ⟨v, st₀, t, T', L, h0, X', hL, e1, e2, ⟨⟨u, b, hv, hp, hbe, hb⟩, hF⟩, st⟩ | ⟨q, st₀, t, T', L, E, ce, h0, X', hL, e1, e2, ⟨u, hp, ⟨hb1, hb2⟩, hF⟩, hce, hcv, hcl, st⟩
  · cases hv
    obtain ⟨k1, k2, k3⟩ := vx_keep h0 e1 hW.2.2 (fun q _ h => X.free hW q h) (X.free hW) hL hF
    obtain ⟨t2, a1, b1⟩ := kk b u.2 T'.heap (locs ++ L) (hbe ▸ hp) ⟨by rw [e1]; exact hb.1, hb.2.weaken (fun _ _ _ h => X.free hW _ h), k3⟩ T' rfl X'
    exact ⟨t2, st t2 a1, b1⟩
  · obtain ⟨k1, k2, k3⟩ := vx_keep h0 e1 hW.2.2 (fun q _ h => X.free hW q h) (X.free hW) hL hF
    have hW2 : Wd G A s u.2 T'.heap (locs ++ L) := ⟨by rw [e1]; exact hb2.1, hb2.2.weaken (fun _ _ _ h => X.free hW _ h), k3⟩
    have key : vx_W p l e R s m args below meth c T'.heap (locs ++ L) (cells + mc) (slots + ms) (vx_MQ below Qc (XX G A px2) args s mc2 ms2 A) (F0 m pc ls rest) q :=
      vx_out (fun x hx => absurd hx (fun h => hout x h)) X.locks (by rw [e1]; exact hce) hcv hcl (fun t3 h3 _ => xx_of hW2 (hx E u.2 (hb1 ▸ hp)) (by rw [h3]; exact Nat.le_refl _) (fun q _ => by rw [h3])) (fun z hz => k3.2.2 z hz) hc hs
    obtain ⟨t2, a1, b1⟩ := key T' rfl X'
    exact ⟨t2, st.trans a1, b1⟩
/-- a cast among the classes of the tables -/
theorem x_cast (X : Cx p s m args meth c cc nL own rt G A) (hW : Wd G A s w H locs) {a idx ci N k : Nat} {nm : String} {T : u_T} {fs : List Value} (hm : (a, .inr (ci, fs)) ∈ w) (hc : vwCl[ci]? = some (nm, T, N)) (hinst : Cond.instantiable nm k ∈ WW) (hlink : Cond.classLink own idx nm ∈ WW) (hdg : decode cc pc = .ok (.checkcast idx, 3)) (kk : W p l e R s m args below meth c H locs cells slots Q (F0 m (pc + 3) ls (.ref a :: rest))) : W p l e R s m args below meth c H locs cells slots Q (F0 m pc ls (.ref a :: rest)) := by
  obtain ⟨q0, hq⟩ := List.mem_iff_getElem?.mp hm
  obtain ⟨c1, k1, h1, h2, h3, -⟩ := Cond.instantiable_spec (X.ws _ hinst)
  exact va_castS X.exec X.bytes X.own (X.ws _ hlink) ⟨h1, k1, h2, h3⟩ (va_recv X.K hW.1 hc hq) hdg kk
theorem x_newO (X : Cx p s m args meth c cc nL own rt G A) (hW : Wd G A s w H locs) {idx ci N : Nat} {nm : String} {T : u_T} {ty0 : Nat → FieldType} {fs : List Value} (hc : vwCl[ci]? = some (nm, T, N)) (hin : ∀ x ∈ u_ws nm T N, x ∈ WW) (hty : ∀ k, k < N → parseFieldDescriptor (T k).2.2.1 = some (ty0 k)) (hlink : Cond.classLink own idx nm ∈ WW) (hinst : Cond.instantiable nm N ∈ WW) (hini : Cond.initialized nm ∈ WW) (hfs : ∀ j, j < N → defaultValue (ty0 j) = vp_V fs j) (hcells : cells + 1 ≤ R.cells) (hslots : slots + N ≤ R.slots) (hdg : decode cc pc = .ok (.new idx, 3))
    (kk : ∀ (q : Nat) (H1 : Heap), Wd G A s ((q, .inr (ci, fs)) :: w) H1 locs → W p l e R s m args below meth c H1 locs (cells + 1) (slots + N) Q (F0 m (pc + 3) ls (.ref q :: rest))) : W p l e R s m args below meth c H locs cells slots Q (F0 m pc ls rest) :=
  va_new X.exec X.bytes X.ws hin ty0 hty X.own (X.ws _ hlink) (X.ws _ hinst) (X.ws _ hini) X.K hW.1 hW.2.1 hW.2.2 X.A hc hfs hcells hslots hdg (fun q H1 h1 h2 h3 => kk q H1 (Wd.perm (w := w ++ [(q, .inr (ci, fs))]) ⟨h1, h2, h3⟩ List.perm_append_comm))
end XR9
set_option maxRecDepth 100000 in
set_option maxHeartbeats 4000000 in
theorem c_Jx4a65c_add_9ea2d (l : Launch) (G : Gt) (o ed cap mc n x ci : Nat) (vs : List Value) (el : Nat → Nat) (r : vw_C) (Y : va_W) (hok : LsOK G ed cap n) (hn : n < 40) (hc : vwCl[ci]? = some r) (hca : Cond.castable r.1 "java/lang/Object" ∈ NN) (hxY : (x, .inr (ci, vs)) ∈ Y) (hel : ∀ i, i < n → ∃ fs, (el i, .inr (ci, fs)) ∈ Y) : Ci l G yJx4a65c_add_9ea2d (ww yJx4a65c_add_9ea2d cJx4a65c_add_9ea2d 2 (some FieldType.boolean)) (RM 5 1 100) [.ref o, .ref x] (lsW G o ed cap mc n el ++ Y) (fun r w2 => r = nI 1 ∧ ∃ ed2 cap2, LsOK G ed2 cap2 (n + 1) ∧ w2 = (lsW G o ed2 cap2 (mc + 1) (n + 1) (va_up el n x) ++ Y)) := by
  refine Ci.intro (by decide) (Nat.le_of_ble_eq_true rfl) ?_
  intro p e s m args below meth c A X hW ls hl
  have hx := X.exec
  have hb := X.bytes
  have hl : lv_has ls 2 [(0, .ref o), (1, .ref x)] := hl
  refine lv_aload_n hx hb dJx4a65c_add_9ea2d_0 rfl (lv_at hl 0 rfl) ?_
  refine lv_dup hx hb dJx4a65c_add_9ea2d_1 rfl ?_
  refine x_getS X hW 0 rfl 0 rfl rfl iwJx4a65c (by decide) wq_115 wq_same dJx4a65c_add_9ea2d_2 ?_
  refine lv_iconst (v := nI 1) hx hb dJx4a65c_add_9ea2d_5 (by decide) ?_
  refine n_iadd hx hb dJx4a65c_add_9ea2d_6 ?_
  refine x_putS X hW 0 rfl 0 (w2 := (lsW G o ed cap (mc + 1) n el ++ Y)) rfl rfl iwJx4a65c tyJx4a65c_ok nmJx4a65c (by decide) wq_115 wq_same rfl rfl rfl (Nat.le_of_ble_eq_true rfl) dJx4a65c_add_9ea2d_7 (fun H locs hW => ?_)
  refine lv_aload_n hx hb dJx4a65c_add_9ea2d_10 rfl (lv_at hl 0 rfl) ?_
  refine lv_aload_n hx hb dJx4a65c_add_9ea2d_11 rfl (lv_at hl 1 rfl) ?_
  refine lv_aload_n hx hb dJx4a65c_add_9ea2d_12 rfl (lv_at hl 0 rfl) ?_
  refine x_get X hW 0 rfl 1 rfl rfl iwJx4a65c (by decide) wq_112 rfl dJx4a65c_add_9ea2d_13 ?_
  refine lv_aload_n hx hb dJx4a65c_add_9ea2d_16 rfl (lv_at hl 0 rfl) ?_
  refine x_get X hW 0 rfl 2 rfl rfl iwJx4a65c (by decide) wq_113 rfl dJx4a65c_add_9ea2d_17 ?_
  refine go_v X hW (run_V X hW (As := [.ref x, .ref ed, .int (nI n)]) (rest := []) 2 0 rfl (c_add3 l G o ed cap (mc + 1) n x ci vs el r Y hok hn hc hca hxY hel _) (gi_V wq_539 wq_541 wq_25 wq_64 wq_542) rfl hyJx4a65c_add_72be8 rfl rfl rfl hl.1 (Nat.le_of_ble_eq_true rfl) ⟨Nat.le_of_ble_eq_true rfl, Nat.le_of_ble_eq_true rfl⟩ ⟨by decide, by decide⟩ dJx4a65c_add_9ea2d_20) (fun w2 H locs hp hW => ?_)
  obtain ⟨ed2, cap2, hok2, hw2⟩ := hp
  rw [hw2] at hW
  refine lv_iconst (v := nI 1) hx hb dJx4a65c_add_9ea2d_23 (by decide) ?_
  exact ret_z X hW (v := (nI 1)) (⟨rfl, _, _, hok2, rfl⟩) rfl (by first | rfl | exact (pk_charN (by omega)).1) (by decide) (by decide) dJx4a65c_add_9ea2d_24

set_option maxRecDepth 100000 in
set_option maxHeartbeats 4000000 in
theorem c_Jx4a65c_fastRemove_b59b0 (l : Launch) (G : Gt) (o ed cap mc n : Nat) (el : Nat → Nat) (Y : va_W) (h0 : 0 < n) (hn : n ≤ cap) (hcap : cap ≤ 60) : Cv l G yJx4a65c_fastRemove_b59b0 (ww yJx4a65c_fastRemove_b59b0 cJx4a65c_fastRemove_b59b0 4 (none : Option ClassFile.FieldType)) (RM 0 0 0) [.ref o, .ref ed, .int (nI (n - 1))] ([(o, .inr (2, [.int (nI mc), .ref ed, .int (nI n)])), (ed, aR G cap (rowF n el))] ++ Y) (fun w2 => w2 = ([(o, .inr (2, [.int (nI (mc + 1)), .ref ed, .int (nI (n - 1))])), (ed, aR G cap (rowF (n - 1) el))] ++ Y)) := by
  refine Cv.intro (by decide) (Nat.le_of_ble_eq_true rfl) ?_
  intro p e s m args below meth c A X hW ls hl
  have hx := X.exec
  have hb := X.bytes
  have hl : lv_has ls 4 [(0, .ref o), (1, .ref ed), (2, .int (nI (n - 1)))] := hl
  refine lv_aload_n hx hb dJx4a65c_fastRemove_b59b0_0 rfl (lv_at hl 0 rfl) ?_
  refine lv_dup hx hb dJx4a65c_fastRemove_b59b0_1 rfl ?_
  refine x_getS X hW 0 rfl 0 rfl rfl iwJx4a65c (by decide) wq_115 wq_same dJx4a65c_fastRemove_b59b0_2 ?_
  refine lv_iconst (v := nI 1) hx hb dJx4a65c_fastRemove_b59b0_5 (by decide) ?_
  refine n_iadd hx hb dJx4a65c_fastRemove_b59b0_6 ?_
  refine x_putS X hW 0 rfl 0 (w2 := ([(o, .inr (2, [.int (nI (mc + 1)), .ref ed, .int (nI n)])), (ed, aR G cap (rowF n el))] ++ Y)) rfl rfl iwJx4a65c tyJx4a65c_ok nmJx4a65c (by decide) wq_115 wq_same rfl rfl rfl (Nat.le_of_ble_eq_true rfl) dJx4a65c_fastRemove_b59b0_7 (fun H locs hW => ?_)
  refine lv_aload_n hx hb dJx4a65c_fastRemove_b59b0_10 rfl (lv_at hl 0 rfl) ?_
  refine x_get X hW 0 rfl 2 rfl rfl iwJx4a65c (by decide) wq_113 rfl dJx4a65c_fastRemove_b59b0_11 ?_
  refine lv_iconst (v := nI 1) hx hb dJx4a65c_fastRemove_b59b0_14 (by decide) ?_
  refine n_isub hx hb (by omega) dJx4a65c_fastRemove_b59b0_15 ?_
  refine lv_dup hx hb dJx4a65c_fastRemove_b59b0_16 rfl ?_
  refine lv_istore_n (lv' := [(3, .int (nI (n - 1))), (0, .ref o), (1, .ref ed), (2, .int (nI (n - 1)))]) hx hb dJx4a65c_fastRemove_b59b0_17 rfl hl (by decide) rfl (fun ls hl => ?_)
  refine lv_iload_n hx hb dJx4a65c_fastRemove_b59b0_18 rfl (lv_at hl 3 rfl) ?_
  refine n_icmp_le hx hb rfl rfl (by omega) (by omega) (tgt := 34) dJx4a65c_fastRemove_b59b0_19 (by decide) (fun c_19 => ?_) (fun c_19 => absurd c_19 (by omega))
  refine lv_aload_n hx hb dJx4a65c_fastRemove_b59b0_34 rfl (lv_at hl 2 rfl) ?_
  refine lv_aload_n hx hb dJx4a65c_fastRemove_b59b0_35 rfl (lv_at hl 1 rfl) ?_
  refine lv_iload_n hx hb dJx4a65c_fastRemove_b59b0_36 rfl (lv_at hl 0 rfl) ?_
  refine lv_dup_x1 hx hb dJx4a65c_fastRemove_b59b0_37 rfl rfl ?_
  refine x_put X hW 0 rfl 2 (w2 := ([(o, .inr (2, [.int (nI (mc + 1)), .ref ed, .int (nI (n - 1))])), (ed, aR G cap (rowF n el))] ++ Y)) rfl rfl iwJx4a65c tyJx4a65c_ok nmJx4a65c (by decide) wq_113 rfl rfl rfl rfl (Nat.le_of_ble_eq_true rfl) dJx4a65c_fastRemove_b59b0_38 (fun H locs hW => ?_)
  refine lv_null hx hb dJx4a65c_fastRemove_b59b0_41 ?_
  refine r_aastN X hW (n := cap) (f := rowF n el) (i := n - 1) 1 (w2 := ([(o, .inr (2, [.int (nI (mc + 1)), .ref ed, .int (nI (n - 1))])), (ed, aR G cap (va_up (rowF n el) (n - 1) none))] ++ Y)) rfl rfl (by omega) (by omega) dJx4a65c_fastRemove_b59b0_42 (fun H locs hW => ?_)
  rw [rowF_pop h0] at hW
  exact ret_v X hW (rfl) rfl (by decide) (by decide) dJx4a65c_fastRemove_b59b0_43

set_option maxRecDepth 100000 in
set_option maxHeartbeats 4000000 in
theorem c_Jx4a65c_remove_915e3 (l : Launch) (G : Gt) (o ed cap mc n : Nat) (el : Nat → Nat) (Y : va_W) (h0 : 0 < n) (hn : n ≤ cap) (hcap : cap ≤ 60) : Cr l G yJx4a65c_remove_915e3 (ww yJx4a65c_remove_915e3 cJx4a65c_remove_915e3 4 (some (FieldType.object "java/lang/Object"))) (RM 2 0 0) [.ref o, .int (nI (n - 1))] ([(o, .inr (2, [.int (nI mc), .ref ed, .int (nI n)])), (ed, aR G cap (rowF n el))] ++ Y) (fun b w2 => b = el (n - 1) ∧ w2 = ([(o, .inr (2, [.int (nI (mc + 1)), .ref ed, .int (nI (n - 1))])), (ed, aR G cap (rowF (n - 1) el))] ++ Y)) := by
  refine Cr.intro (by decide) (Nat.le_of_ble_eq_true rfl) ?_
  intro p e s m args below meth c A X hW ls hl
  have hx := X.exec
  have hb := X.bytes
  have hl : lv_has ls 4 [(0, .ref o), (1, .int (nI (n - 1)))] := hl
  refine lv_iload_n hx hb dJx4a65c_remove_915e3_0 rfl (lv_at hl 1 rfl) ?_
  refine lv_aload_n hx hb dJx4a65c_remove_915e3_1 rfl (lv_at hl 0 rfl) ?_
  refine x_get X hW 0 rfl 2 rfl rfl iwJx4a65c (by decide) wq_113 rfl dJx4a65c_remove_915e3_2 ?_
  refine go_i X hW (run_S X hW (As := [.int (nI (n - 1)), .int (nI n)]) (rest := []) (c_J15_checkIndex_7cf53 l G (n - 1) n ([(o, .inr (2, [.int (nI mc), .ref ed, .int (nI n)])), (ed, aR G cap (rowF n el))] ++ Y) (by omega) (by omega) _) (gi_S wq_277 wq_278 wq_79 wq_279) hyJ15_checkIndex_7cf53 rfl rfl hl.1 (Nat.le_of_ble_eq_true rfl) ⟨Nat.le_of_ble_eq_true rfl, Nat.le_of_ble_eq_true rfl⟩ ⟨by decide, by decide⟩ dJx4a65c_remove_915e3_5) (fun r w2 H locs hp hW => ?_)
  obtain ⟨rfl, rfl⟩ := hp
  refine lv_pop hx hb dJx4a65c_remove_915e3_8 rfl ?_
  refine lv_aload_n hx hb dJx4a65c_remove_915e3_9 rfl (lv_at hl 0 rfl) ?_
  refine x_get X hW 0 rfl 1 rfl rfl iwJx4a65c (by decide) wq_112 rfl dJx4a65c_remove_915e3_10 ?_
  refine lv_astore_n (lv' := [(2, .ref ed), (0, .ref o), (1, .int (nI (n - 1)))]) hx hb dJx4a65c_remove_915e3_13 rfl hl (by decide) rfl (fun ls hl => ?_)
  refine lv_aload_n hx hb dJx4a65c_remove_915e3_14 rfl (lv_at hl 0 rfl) ?_
  refine lv_iload_n hx hb dJx4a65c_remove_915e3_15 rfl (lv_at hl 2 rfl) ?_
  refine r_aald X hW (n := cap) (f := (rowF n el)) 1 rfl (by omega) (by omega) (r := .ref (el (n - 1))) (by show va_rf (if n - 1 < n then some (el (n - 1)) else none) = _; rw [if_pos (by omega)]; rfl) dJx4a65c_remove_915e3_16 ?_
  refine lv_astore_n (lv' := [(3, .ref (el (n - 1))), (2, .ref ed), (0, .ref o), (1, .int (nI (n - 1)))]) hx hb dJx4a65c_remove_915e3_17 rfl hl (by decide) rfl (fun ls hl => ?_)
  refine lv_aload_n hx hb dJx4a65c_remove_915e3_18 rfl (lv_at hl 2 rfl) ?_
  refine lv_aload_n hx hb dJx4a65c_remove_915e3_19 rfl (lv_at hl 1 rfl) ?_
  refine lv_iload_n hx hb dJx4a65c_remove_915e3_20 rfl (lv_at hl 3 rfl) ?_
  refine go_v X hW (run_V X hW (As := [.ref ed, .int (nI (n - 1))]) (rest := []) 2 0 rfl (c_Jx4a65c_fastRemove_b59b0 l G o ed cap mc n el Y h0 hn hcap _) (gi_V wq_668 wq_670 wq_29 wq_64 wq_671) rfl hyJx4a65c_fastRemove_b59b0 rfl rfl rfl hl.1 (Nat.le_of_ble_eq_true rfl) ⟨Nat.le_of_ble_eq_true rfl, Nat.le_of_ble_eq_true rfl⟩ ⟨by decide, by decide⟩ dJx4a65c_remove_915e3_21) (fun w2 H locs hp hW => ?_)
  subst hp
  refine lv_aload_n hx hb dJx4a65c_remove_915e3_24 rfl (lv_at hl 0 rfl) ?_
  exact ret_r X hW (⟨rfl, rfl⟩) rfl (Or.inl ⟨_, rfl⟩) (by decide) (by decide) dJx4a65c_remove_915e3_25

section XLP
variable {l : Launch} {G : Gt} {o ed cap mc n : Nat} {el : Nat → Nat} {w r : va_W}
theorem ls_mem (h : w.Perm (lsW G o ed cap mc n el ++ r)) : (o, .inr (2, [.int (nI mc), .ref ed, .int (nI n)])) ∈ w := h.mem_iff.mpr (List.mem_append_left _ List.mem_cons_self)
theorem c_szP (h : w.Perm (lsW G o ed cap mc n el ++ r)) : Ci l G yJx4a65c_size_8abf5 (ww yJx4a65c_size_8abf5 cJx4a65c_size_8abf5 1 (some FieldType.int)) (RM 0 0 0) [.ref o] w (fun r w2 => r = nI n ∧ w2 = w) :=
  Ci.conv (c_Jx4a65c_size_8abf5 l G o ed n mc ((if cap = 0 then [] else [(ed, aR G cap (rowF n el))]) ++ r)) h (fun r w2 q => ⟨w, by rw [q.2]; exact h.symm, q.1, rfl⟩)
theorem c_emP (h : w.Perm (lsW G o ed cap mc n el ++ r)) (hn : n < 1000) : Ci l G yJx4a65c_isEmpty_aae02 (ww yJx4a65c_isEmpty_aae02 cJx4a65c_isEmpty_aae02 1 (some FieldType.boolean)) (RM 0 0 0) [.ref o] w (fun r w2 => r = nI (if n = 0 then 1 else 0) ∧ w2 = w) :=
  Ci.conv (c_Jx4a65c_isEmpty_aae02 l G o ed n mc ((if cap = 0 then [] else [(ed, aR G cap (rowF n el))]) ++ r) hn) h (fun r w2 q => ⟨w, by rw [q.2]; exact h.symm, q.1, rfl⟩)
theorem c_gtP (h : w.Perm (lsW G o ed cap mc n el ++ r)) (hok : LsOK G ed cap n) {i : Nat} (hi : i < n) : Cr l G yJx4a65c_get_915e3 (ww yJx4a65c_get_915e3 cJx4a65c_get_915e3 2 (some (FieldType.object "java/lang/Object"))) (RM 2 0 0) [.ref o, .int (nI i)] w (fun b w2 => b = el i ∧ w2 = w) := by
  obtain ⟨h1, h2, -⟩ := hok
  rw [lsW_s (show 0 < cap by omega)] at h
  exact Cr.conv (c_Jx4a65c_get_915e3 l G o ed n cap mc (rowF n el) r i (el i) hi h1 (by omega) (if_pos hi)) h (fun b w2 q => ⟨w, by rw [q.2]; exact h.symm, q.1, rfl⟩)
theorem c_adP {x ci : Nat} {vs : List Value} {q : vw_C} (h : w.Perm (lsW G o ed cap mc n el ++ r)) (hok : LsOK G ed cap n) (hn : n < 40) (hc : vwCl[ci]? = some q) (hca : Cond.castable q.1 "java/lang/Object" ∈ NN) (hxY : (x, .inr (ci, vs)) ∈ r) (hel : ∀ i, i < n → ∃ fs, (el i, .inr (ci, fs)) ∈ r) : Ci l G yJx4a65c_add_9ea2d (ww yJx4a65c_add_9ea2d cJx4a65c_add_9ea2d 2 (some FieldType.boolean)) (RM 5 1 100) [.ref o, .ref x] w (fun b w2 => b = nI 1 ∧ ∃ ed2 cap2, LsOK G ed2 cap2 (n + 1) ∧ w2.Perm (lsW G o ed2 cap2 (mc + 1) (n + 1) (va_up el n x) ++ r)) :=
  Ci.conv (c_Jx4a65c_add_9ea2d l G o ed cap mc n x ci vs el q r hok hn hc hca hxY hel) h (fun b w2 k => by obtain ⟨k1, ed2, cap2, k2, k3⟩ := k; exact ⟨w2, List.Perm.refl _, k1, ed2, cap2, k2, by rw [k3]⟩)
theorem c_rmP (h : w.Perm (lsW G o ed cap mc n el ++ r)) (hok : LsOK G ed cap n) (h0 : 0 < n) : Cr l G yJx4a65c_remove_915e3 (ww yJx4a65c_remove_915e3 cJx4a65c_remove_915e3 4 (some (FieldType.object "java/lang/Object"))) (RM 2 0 0) [.ref o, .int (nI (n - 1))] w (fun b w2 => b = el (n - 1) ∧ w2.Perm (lsW G o ed cap (mc + 1) (n - 1) el ++ r)) := by
  obtain ⟨h1, h2, -⟩ := hok
  rw [lsW_s (show 0 < cap by omega)] at h
  refine Cr.conv (c_Jx4a65c_remove_915e3 l G o ed cap mc n el r h0 h1 h2) h (fun b w2 q => ⟨w2, List.Perm.refl _, q.1, ?_⟩)
  rw [q.2, lsW_s (show 0 < cap by omega)]
end XLP
