theorem wq_native_getC : (Cond.native ⟨"java/lang/Object", "getClass", "()Ljava/lang/Class;"⟩) ∈ WW := ww_in 583 (by decide +kernel) (by decide +kernel)
theorem wq_native_copy : (Cond.native ⟨"java/lang/System", "arraycopy", "(Ljava/lang/Object;ILjava/lang/Object;II)V"⟩) ∈ WW := ww_in 593 (by decide +kernel) (by decide +kernel)
section XGS
variable {p : Program} {l : Launch} {e : Env} {R : Room} {s : State} {m : MethodId} {args : Array Value} {below : List Frame} {meth : Method} {c : Code} {H : Heap} {locs : List Loc} {cells slots : Nat} {Q : State → Prop}
variable {cc : ByteArray} {nL pc : Nat} {ls : Array Slot} {rest : List Value} {own : String} {rt : Option FieldType} {G : Gt} {A : Nat → Prop} {w : va_W}
/-- ArrayList's empty row -/
theorem x_empty (X : Cx p s m args meth c cc nL own rt G A) (hW : Wd G A s w H locs) {idx : Nat} (hlink : Cond.fieldLink own idx "java/util/ArrayList" "DEFAULTCAPACITY_EMPTY_ELEMENTDATA" "[Ljava/lang/Object;" ∈ WW) (hdg : decode cc pc = .ok (.getstatic idx, 3)) (kk : W p l e R s m args below meth c H locs cells slots Q (F0 m (pc + 3) ls (.ref (G.2.2 0) :: rest))) : W p l e R s m args below meth c H locs cells slots Q (F0 m pc ls rest) :=
  va_gets X.exec X.bytes X.E.2.2.1 hW.2.2 X.own (X.ws _ hlink) (fun _ h => h) hdg kk
end XGS
set_option maxRecDepth 100000 in
set_option maxHeartbeats 4000000 in
theorem c_Jxa1e45_init_da8c8 (l : Launch) (G : Gt) (o : Nat) (w : va_W)  : Cv l G yJxa1e45_init_da8c8 (ww yJxa1e45_init_da8c8 cJxa1e45_init_da8c8 1 (none : Option ClassFile.FieldType)) (RM 0 0 0) [.ref o] w (fun w2 => w2 = w) := by
  refine Cv.intro (by decide) (Nat.le_of_ble_eq_true rfl) ?_
  intro p e s m args below meth c A X hW ls hl
  have hx := X.exec
  have hb := X.bytes
  have hl : lv_has ls 1 [(0, .ref o)] := hl
  refine lv_aload_n hx hb dJxa1e45_init_da8c8_0 rfl (lv_at hl 0 rfl) ?_
  refine x_obj X wq_109 hl.1 dJxa1e45_init_da8c8_1 (Nat.le_of_ble_eq_true rfl) (Nat.le_of_ble_eq_true rfl) (Nat.le_of_ble_eq_true rfl) ?_
  exact ret_v X hW rfl rfl (by decide) (by decide) dJxa1e45_init_da8c8_4

set_option maxRecDepth 100000 in
set_option maxHeartbeats 4000000 in
theorem c_Jxc12de_init_da8c8 (l : Launch) (G : Gt) (o : Nat) (Y : va_W)  : Cv l G yJxc12de_init_da8c8 (ww yJxc12de_init_da8c8 cJxc12de_init_da8c8 1 (none : Option ClassFile.FieldType)) (RM 1 0 0) [.ref o] ([(o, .inr (2, [.int (nI 0), .null, .int (nI 0)]))] ++ Y) (fun w2 => w2 = ([(o, .inr (2, [.int (nI 0), .null, .int (nI 0)]))] ++ Y)) := by
  refine Cv.intro (by decide) (Nat.le_of_ble_eq_true rfl) ?_
  intro p e s m args below meth c A X hW ls hl
  have hx := X.exec
  have hb := X.bytes
  have hl : lv_has ls 1 [(0, .ref o)] := hl
  refine lv_aload_n hx hb dJxc12de_init_da8c8_0 rfl (lv_at hl 0 rfl) ?_
  refine go_v X hW (run_I X hW (As := []) (rest := []) (c_Jxa1e45_init_da8c8 l G o ([(o, .inr (2, [.int (nI 0), .null, .int (nI 0)]))] ++ Y) _) wq_106 wq_107 wq_62 wq_108 rfl hyJxa1e45_init_da8c8 rfl rfl hl.1 (Nat.le_of_ble_eq_true rfl) ⟨Nat.le_of_ble_eq_true rfl, Nat.le_of_ble_eq_true rfl⟩ ⟨by decide, by decide⟩ dJxc12de_init_da8c8_1) (fun w2 H locs hp hW => ?_)
  subst hp
  refine lv_aload_n hx hb dJxc12de_init_da8c8_4 rfl (lv_at hl 0 rfl) ?_
  refine lv_iconst (v := nI 0) hx hb dJxc12de_init_da8c8_5 (by decide) ?_
  refine x_put X hW 0 rfl 0 (w2 := ([(o, .inr (2, [.int (nI 0), .null, .int (nI 0)]))] ++ Y)) rfl rfl iwJx4a65c tyJx4a65c_ok nmJx4a65c (by decide) wq_114 rfl rfl rfl rfl (Nat.le_of_ble_eq_true rfl) dJxc12de_init_da8c8_6 (fun H locs hW => ?_)
  exact ret_v X hW (rfl) rfl (by decide) (by decide) dJxc12de_init_da8c8_9

set_option maxRecDepth 100000 in
set_option maxHeartbeats 4000000 in
theorem c_Jx4a65c_init_da8c8 (l : Launch) (G : Gt) (o : Nat) (Y : va_W)  : Cv l G yJx4a65c_init_da8c8 (ww yJx4a65c_init_da8c8 cJx4a65c_init_da8c8 1 (none : Option ClassFile.FieldType)) (RM 2 0 0) [.ref o] ([(o, .inr (2, [.int (nI 0), .null, .int (nI 0)]))] ++ Y) (fun w2 => w2 = ([(o, .inr (2, [.int (nI 0), .ref (G.2.2 0), .int (nI 0)]))] ++ Y)) := by
  refine Cv.intro (by decide) (Nat.le_of_ble_eq_true rfl) ?_
  intro p e s m args below meth c A X hW ls hl
  have hx := X.exec
  have hb := X.bytes
  have hl : lv_has ls 1 [(0, .ref o)] := hl
  refine lv_aload_n hx hb dJx4a65c_init_da8c8_0 rfl (lv_at hl 0 rfl) ?_
  refine go_v X hW (run_I X hW (As := []) (rest := []) (c_Jxc12de_init_da8c8 l G o Y _) wq_103 wq_104 wq_63 wq_105 rfl hyJxc12de_init_da8c8 rfl rfl hl.1 (Nat.le_of_ble_eq_true rfl) ⟨Nat.le_of_ble_eq_true rfl, Nat.le_of_ble_eq_true rfl⟩ ⟨by decide, by decide⟩ dJx4a65c_init_da8c8_1) (fun w2 H locs hp hW => ?_)
  subst hp
  refine lv_aload_n hx hb dJx4a65c_init_da8c8_4 rfl (lv_at hl 0 rfl) ?_
  refine x_empty X hW wq_110 dJx4a65c_init_da8c8_5 ?_
  refine x_put X hW 0 rfl 1 (w2 := ([(o, .inr (2, [.int (nI 0), .ref (G.2.2 0), .int (nI 0)]))] ++ Y)) rfl rfl iwJx4a65c tyJx4a65c_ok nmJx4a65c (by decide) wq_112 rfl rfl rfl rfl (Nat.le_of_ble_eq_true rfl) dJx4a65c_init_da8c8_8 (fun H locs hW => ?_)
  exact ret_v X hW (rfl) rfl (by decide) (by decide) dJx4a65c_init_da8c8_11

