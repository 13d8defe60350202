theorem nI_max {a b : Nat} (ha : a < 2 ^ 31) (hb : b < 2 ^ 31) : (if nI a < nI b then nI b else nI a) = nI (max a b) := by
  split
  · rename_i h
    rw [nI_ltI ha hb] at h
    rw [Nat.max_eq_right (by omega)]
  · rename_i h
    rw [nI_ltI ha hb] at h
    rw [Nat.max_eq_left (by omega)]
section XMAX
variable {p : Program} {l : Launch} {e : Env} {R : Room} {s : State} {m : MethodId} {args : Array Value} {below : List Frame} {meth : Method} {c : Code} {H : Heap} {locs : List Loc} {cells slots : Nat} {Q : State → Prop}
variable {cc : ByteArray} {nL pc : Nat} {ls : Array Slot} {rest : List Value} {own : String} {rt : Option FieldType} {G : Gt} {A : Nat → Prop}
theorem x_max (X : Cx p s m args meth c cc nL own rt G A) (hsz : ls.size = nL) {a b idx : Nat} (ha : a < 2 ^ 31) (hb : b < 2 ^ 31) (g1 : Cond.methodLink own idx yJ9_max_7cf53 ∈ WW) (hf : 1 ≤ R.frames) (hlo : (rest.map fun v => v.category).sum + 13 ≤ R.locals) (hc : cells ≤ R.cells) (hs : slots ≤ R.slots) (hdg : decode cc pc = .ok (.invokestatic idx, 3)) (k : W p l e R s m args below meth c H locs cells slots Q (F0 m (pc + 3) ls (.int (nI (max a b)) :: rest))) : W p l e R s m args below meth c H locs cells slots Q (F0 m pc ls (.int (nI b) :: .int (nI a) :: rest)) :=
  va_mmax X.exec X.bytes (X.ml.trans hsz.symm) X.own (X.ws _ g1) (X.ws _ wq_555) (X.ws _ wq_75) (X.ws _ wq_556) hf hlo hc hs hdg (by rw [nI_max ha hb]; exact k)
end XMAX
set_option maxRecDepth 100000 in
set_option maxHeartbeats 4000000 in
theorem c_J8_newLength_cabcc (l : Launch) (G : Gt) (x y z : Nat) (w : va_W) (h1 : x < 1000) (h2 : y < 1000) (h3 : z < 1000) (h0 : 0 < x) : Ci l G yJ8_newLength_cabcc (ww yJ8_newLength_cabcc cJ8_newLength_cabcc 4 (some FieldType.int)) (RM 1 0 0) [.int (nI x), .int (nI y), .int (nI z)] w (fun r w2 => r = nI (x + max y z) ∧ w2 = w) := by
  refine Ci.intro (by decide) (Nat.le_of_ble_eq_true rfl) ?_
  intro p e s m args below meth c A X hW ls hl
  have hx := X.exec
  have hb := X.bytes
  have hl : lv_has ls 4 [(0, .int (nI x)), (1, .int (nI y)), (2, .int (nI z))] := hl
  refine lv_iload_n hx hb dJ8_newLength_cabcc_0 rfl (lv_at hl 0 rfl) ?_
  refine lv_iload_n hx hb dJ8_newLength_cabcc_1 rfl (lv_at hl 1 rfl) ?_
  refine lv_iload_n hx hb dJ8_newLength_cabcc_2 rfl (lv_at hl 2 rfl) ?_
  refine x_max X hl.1 (by omega) (by omega) wq_554 (Nat.le_of_ble_eq_true rfl) (Nat.le_of_ble_eq_true rfl) (by decide) (by decide) dJ8_newLength_cabcc_3 ?_
  have hmx := Nat.max_le.mpr ⟨show y ≤ 1000 by omega, show z ≤ 1000 by omega⟩
  refine n_iadd hx hb dJ8_newLength_cabcc_6 ?_
  refine lv_istore_n (lv' := [(3, .int (nI (x + (max y z)))), (0, .int (nI x)), (1, .int (nI y)), (2, .int (nI z))]) hx hb dJ8_newLength_cabcc_7 rfl hl (by decide) rfl (fun ls hl => ?_)
  refine lv_iconst (v := nI 0) hx hb dJ8_newLength_cabcc_8 (by decide) ?_
  refine lv_iload_n hx hb dJ8_newLength_cabcc_9 rfl (lv_at hl 0 rfl) ?_
  refine n_icmp_ge hx hb rfl rfl (by omega) (by omega) (tgt := 21) dJ8_newLength_cabcc_10 (by decide) (fun c_10 => absurd c_10 (by omega)) (fun c_10 => ?_)
  refine lv_iload_n hx hb dJ8_newLength_cabcc_13 rfl (lv_at hl 0 rfl) ?_
  refine lv_ldc (v := (nI 2147483639)) hx hb X.own (X.ws _ wq_557) dJ8_newLength_cabcc_14 ?_
  refine n_icmp_gt hx hb rfl rfl (by omega) (by omega) (tgt := 21) dJ8_newLength_cabcc_16 (by decide) (fun c_16 => absurd c_16 (by omega)) (fun c_16 => ?_)
  refine lv_iload_n hx hb dJ8_newLength_cabcc_19 rfl (lv_at hl 0 rfl) ?_
  exact ret_i X hW (v := (nI (x + (max y z)))) (⟨rfl, rfl⟩) rfl (by decide) (by decide) dJ8_newLength_cabcc_20

