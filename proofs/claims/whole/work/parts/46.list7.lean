/-- a list's row: what it holds below its size -/
def rowF (n : Nat) (el : Nat → Nat) : Nat → Option Nat := fun i => if i < n then some (el i) else none
theorem rowF_up (n : Nat) (el : Nat → Nat) (x : Nat) : va_up (rowF n el) n (some x) = rowF (n + 1) (va_up el n x) := by
  funext j
  simp only [va_up, rowF]
  by_cases h : j = n
  · rw [if_pos h, if_pos (show j < n + 1 by omega), if_pos h]
  · rw [if_neg h, if_neg h]
    by_cases h2 : j < n
    · rw [if_pos h2, if_pos (show j < n + 1 by omega)]
    · rw [if_neg h2, if_neg (show ¬ j < n + 1 by omega)]
theorem rowF_cpy (n : Nat) (el : Nat → Nat) : va_cpy (rowF n el) (fun _ => none) 0 0 n = rowF n el := by
  funext j
  simp only [va_cpy, rowF]
  by_cases h : j < n
  · rw [if_pos ⟨Nat.zero_le _, by omega⟩, show 0 + (j - 0) = j by omega]
  · rw [if_neg (show ¬ (0 ≤ j ∧ j < 0 + n) by omega), if_neg h]
theorem rowF_zero (el : Nat → Nat) : (fun _ => none) = rowF 0 el := by
  funext j
  simp only [rowF]
  rw [if_neg (Nat.not_lt_zero _)]
theorem rowF_pop {n : Nat} (h : 0 < n) (el : Nat → Nat) : va_up (rowF n el) (n - 1) none = rowF (n - 1) el := by
  funext j
  simp only [va_up, rowF]
  by_cases h1 : j = n - 1
  · rw [if_pos h1, if_neg (show ¬ j < n - 1 by omega)]
  · rw [if_neg h1]
    by_cases h2 : j < n
    · rw [if_pos h2, if_pos (show j < n - 1 by omega)]
    · rw [if_neg h2, if_neg (show ¬ j < n - 1 by omega)]
/-- a list: its object, and its row where it has one of its own -/
def lsW (G : Gt) (o ed cap mc n : Nat) (el : Nat → Nat) : va_W := (o, .inr (2, [.int (nI mc), .ref ed, .int (nI n)])) :: (if cap = 0 then [] else [(ed, aR G cap (rowF n el))])
theorem lsW_0 (G : Gt) (o ed mc n : Nat) (el : Nat → Nat) : lsW G o ed 0 mc n el = [(o, .inr (2, [.int (nI mc), .ref ed, .int (nI n)]))] := rfl
theorem lsW_s {cap : Nat} (h : 0 < cap) (G : Gt) (o ed mc n : Nat) (el : Nat → Nat) : lsW G o ed cap mc n el = [(o, .inr (2, [.int (nI mc), .ref ed, .int (nI n)])), (ed, aR G cap (rowF n el))] := by
  unfold lsW; rw [if_neg (by omega)]
def LsOK (G : Gt) (ed cap n : Nat) : Prop := n ≤ cap ∧ cap ≤ 60 ∧ (cap = 0 → ed = G.2.2 0)
section XLS
variable {p : Program} {l : Launch} {e : Env} {R : Room} {s : State} {m : MethodId} {args : Array Value} {below : List Frame} {meth : Method} {c : Code} {H : Heap} {locs : List Loc} {cells slots : Nat} {Q : State → Prop}
variable {cc : ByteArray} {nL pc : Nat} {ls : Array Slot} {rest : List Value} {own : String} {rt : Option FieldType} {G : Gt} {A : Nat → Prop} {w : va_W}
theorem x_tlen (X : Cx p s m args meth c cc nL own rt G A) (hW : Wd G A s w H locs) (hdg : decode cc pc = .ok (.arraylength, 1)) (kk : W p l e R s m args below meth c H locs cells slots Q (F0 m (pc + 1) ls (.int (nI 0) :: rest))) : W p l e R s m args below meth c H locs cells slots Q (F0 m pc ls (.ref (G.2.2 0) :: rest)) :=
  va_tlen X.exec X.bytes X.E.2.2.2.1 hW.2.2 rfl hdg kk
theorem r_aastM (X : Cx p s m args meth c cc nL own rt G A) (hW : Wd G A s w H locs) {a n i v : Nat} {f : Nat → Option Nat} {w2 : va_W} (q0 ci : Nat) {r : vw_C} {vs : List Value} (ha : w[q0]? = some (a, aR G n f)) (hv : (v, .inr (ci, vs)) ∈ w) (hc : vwCl[ci]? = some r) (hca : Cond.castable r.1 "java/lang/Object" ∈ NN) (hw2 : w.set q0 (a, aR G n (va_up f i (some v))) = w2) (hi : i < n) (hn : n < 2 ^ 31) (hdg : decode cc pc = .ok (.aastore, 1)) (kk : ∀ (H1 : Heap) (locs1 : List Loc), Wd G A s w2 H1 locs1 → W p l e R s m args below meth c H1 locs1 cells slots Q (F0 m (pc + 1) ls rest)) : W p l e R s m args below meth c H locs cells slots Q (F0 m pc ls (.ref v :: .int (nI i) :: .ref a :: rest)) := by
  obtain ⟨qk, hq⟩ := List.mem_iff_getElem?.mp hv
  exact r_aast X hW q0 qk ci ha hq hc hca hw2 hi hn hdg kk
end XLS
set_option maxRecDepth 100000 in
set_option maxHeartbeats 4000000 in
theorem c_Jx4a65c_grow_92f840 (l : Launch) (G : Gt) (o mc : Nat) (el : Nat → Nat) (Y : va_W)  : Cr l G yJx4a65c_grow_92f84 (ww yJx4a65c_grow_92f84 cJx4a65c_grow_92f84 4 (some (FieldType.array (FieldType.object "java/lang/Object")))) (RM 2 1 100) [.ref o, .int (nI 1)] ([(o, .inr (2, [.int (nI mc), .ref (G.2.2 0), .int (nI 0)]))] ++ Y) (fun b w2 => ∃ q, b = q ∧ w2 = ([(o, .inr (2, [.int (nI mc), .ref q, .int (nI 0)])), (q, aR G 10 (rowF 0 el))] ++ Y)) := by
  refine Cr.intro (by decide) (Nat.le_of_ble_eq_true rfl) ?_
  intro p e s m args below meth c A X hW ls hl
  have hx := X.exec
  have hb := X.bytes
  have hl : lv_has ls 4 [(0, .ref o), (1, .int (nI 1))] := hl
  refine lv_aload_n hx hb dJx4a65c_grow_92f84_0 rfl (lv_at hl 0 rfl) ?_
  refine x_get X hW 0 rfl 1 rfl rfl iwJx4a65c (by decide) wq_112 rfl dJx4a65c_grow_92f84_1 ?_
  refine x_tlen X hW dJx4a65c_grow_92f84_4 ?_
  refine lv_istore_n (lv' := [(2, .int (nI 0)), (0, .ref o), (1, .int (nI 1))]) hx hb dJx4a65c_grow_92f84_5 rfl hl (by decide) rfl (fun ls hl => ?_)
  refine lv_iload_n hx hb dJx4a65c_grow_92f84_6 rfl (lv_at hl 0 rfl) ?_
  refine n_if_gt hx hb rfl (by omega) (tgt := 20) dJx4a65c_grow_92f84_7 (by decide) (fun c_7 => absurd c_7 (by omega)) (fun c_7 => ?_)
  refine lv_aload_n hx hb dJx4a65c_grow_92f84_10 rfl (lv_at hl 1 rfl) ?_
  refine x_get X hW 0 rfl 1 rfl rfl iwJx4a65c (by decide) wq_112 rfl dJx4a65c_grow_92f84_11 ?_
  refine x_empty X hW wq_110 dJx4a65c_grow_92f84_14 ?_
  refine lv_acmp_eq (rx := some (G.2.2 0)) (ry := some (G.2.2 0)) hx hb (tgt := 45) dJx4a65c_grow_92f84_17 (by decide) (fun _ => ?_) (fun h => absurd rfl h)
  refine lv_aload_n hx hb dJx4a65c_grow_92f84_45 rfl (lv_at hl 1 rfl) ?_
  refine lv_bipush (v := nI 10) hx hb dJx4a65c_grow_92f84_46 (by decide) ?_
  refine lv_iload_n hx hb dJx4a65c_grow_92f84_48 rfl (lv_at hl 2 rfl) ?_
  refine x_max X hl.1 (by omega) (by omega) wq_594 (Nat.le_of_ble_eq_true rfl) (Nat.le_of_ble_eq_true rfl) (by decide) (by decide) dJx4a65c_grow_92f84_49 ?_
  rw [show max 10 1 = 10 from rfl]
  refine x_newQ X (B := [(o, .inr (2, [.int (nI mc), .ref (G.2.2 0), .int (nI 0)]))]) (Y := Y) hW (n := 10) (by omega) wq_595 (Nat.le_of_ble_eq_true rfl) (by show 0 + 10 ≤ 100; omega) dJx4a65c_grow_92f84_52 (fun q H hW => ?_)
  rw [rowF_zero el] at hW
  refine lv_dup_x1 hx hb dJx4a65c_grow_92f84_55 rfl rfl ?_
  refine x_put X hW 0 rfl 1 (w2 := ([(o, .inr (2, [.int (nI mc), .ref q, .int (nI 0)])), (q, aR G 10 (rowF 0 el))] ++ Y)) rfl rfl iwJx4a65c tyJx4a65c_ok nmJx4a65c (by decide) wq_112 rfl rfl rfl rfl (Nat.le_of_ble_eq_true rfl) dJx4a65c_grow_92f84_56 (fun H locs hW => ?_)
  exact ret_r X hW ⟨q, rfl, rfl⟩ rfl (Or.inr ⟨_, rfl⟩) (by decide) (by show 0 + 10 ≤ 100; decide) dJx4a65c_grow_92f84_59

set_option maxRecDepth 100000 in
set_option maxHeartbeats 4000000 in
theorem c_Jx4a65c_grow_d58770 (l : Launch) (G : Gt) (o mc : Nat) (el : Nat → Nat) (Y : va_W)  : Cr l G yJx4a65c_grow_d5877 (ww yJx4a65c_grow_d5877 cJx4a65c_grow_d5877 1 (some (FieldType.array (FieldType.object "java/lang/Object")))) (RM 3 1 100) [.ref o] ([(o, .inr (2, [.int (nI mc), .ref (G.2.2 0), .int (nI 0)]))] ++ Y) (fun b w2 => ∃ q, b = q ∧ w2 = ([(o, .inr (2, [.int (nI mc), .ref q, .int (nI 0)])), (q, aR G 10 (rowF 0 el))] ++ Y)) := by
  refine Cr.intro (by decide) (Nat.le_of_ble_eq_true rfl) ?_
  intro p e s m args below meth c A X hW ls hl
  have hx := X.exec
  have hb := X.bytes
  have hl : lv_has ls 1 [(0, .ref o)] := hl
  refine lv_aload_n hx hb dJx4a65c_grow_d5877_0 rfl (lv_at hl 0 rfl) ?_
  refine lv_aload_n hx hb dJx4a65c_grow_d5877_1 rfl (lv_at hl 0 rfl) ?_
  refine x_get X hW 0 rfl 2 rfl rfl iwJx4a65c (by decide) wq_113 rfl dJx4a65c_grow_d5877_2 ?_
  refine lv_iconst (v := nI 1) hx hb dJx4a65c_grow_d5877_5 (by decide) ?_
  refine n_iadd hx hb dJx4a65c_grow_d5877_6 ?_
  refine go_r X hW (run_V X hW (As := [.int (nI 1)]) (rest := []) 2 0 rfl (c_Jx4a65c_grow_92f840 l G o mc el Y _) (gi_V wq_547 wq_549 wq_27 wq_64 wq_550) rfl hyJx4a65c_grow_92f84 rfl rfl rfl hl.1 (Nat.le_of_ble_eq_true rfl) ⟨(Nat.le_of_ble_eq_true rfl), (Nat.le_of_ble_eq_true rfl)⟩ ⟨by decide, by decide⟩ dJx4a65c_grow_d5877_7) (fun b w2 H locs hp hW => ?_)
  obtain ⟨q, hbq, hw2⟩ := hp
  rw [hbq]
  rw [hw2] at hW
  exact ret_r X hW ⟨q, rfl, rfl⟩ rfl (Or.inr ⟨_, rfl⟩) (by decide) (by decide) dJx4a65c_grow_d5877_10

set_option maxRecDepth 100000 in
set_option maxHeartbeats 4000000 in
theorem c_add_a (l : Launch) (G : Gt) (o x mc ci : Nat) (vs : List Value) (el : Nat → Nat) (r : vw_C) (Y : va_W) (hc : vwCl[ci]? = some r) (hca : Cond.castable r.1 "java/lang/Object" ∈ NN) (hxY : (x, .inr (ci, vs)) ∈ Y) : Cv l G yJx4a65c_add_72be8 (ww yJx4a65c_add_72be8 cJx4a65c_add_72be8 4 (none : Option ClassFile.FieldType)) (RM 4 1 100) [.ref o, .ref x, .ref (G.2.2 0), .int (nI 0)] ([(o, .inr (2, [.int (nI mc), .ref (G.2.2 0), .int (nI 0)]))] ++ Y) (fun w2 => ∃ q, w2 = ([(o, .inr (2, [.int (nI mc), .ref q, .int (nI (0 + 1))])), (q, aR G 10 (rowF (0 + 1) (va_up el 0 x)))] ++ Y)) := by
  refine Cv.intro (by decide) (Nat.le_of_ble_eq_true rfl) ?_
  intro p e s m args below meth c A X hW ls hl
  have hx := X.exec
  have hb := X.bytes
  have hl : lv_has ls 4 [(0, .ref o), (1, .ref x), (2, .ref (G.2.2 0)), (3, .int (nI 0))] := hl
  refine lv_iload_n hx hb dJx4a65c_add_72be8_0 rfl (lv_at hl 3 rfl) ?_
  refine lv_aload_n hx hb dJx4a65c_add_72be8_1 rfl (lv_at hl 2 rfl) ?_
  refine x_tlen X hW dJx4a65c_add_72be8_2 ?_
  refine n_icmp_ne hx hb rfl rfl (by omega) (by omega) (tgt := 11) dJx4a65c_add_72be8_3 (by decide) (fun h => absurd h (by omega)) (fun _ => ?_)
  refine lv_aload_n hx hb dJx4a65c_add_72be8_6 rfl (lv_at hl 0 rfl) ?_
  refine go_r X hW (run_V X hW (As := []) (rest := []) 2 0 rfl (c_Jx4a65c_grow_d58770 l G o mc el Y _) (gi_V wq_543 wq_545 wq_26 wq_64 wq_546) rfl hyJx4a65c_grow_d5877 rfl rfl rfl hl.1 (Nat.le_of_ble_eq_true rfl) ⟨(Nat.le_of_ble_eq_true rfl), (Nat.le_of_ble_eq_true rfl)⟩ ⟨by decide, by decide⟩ dJx4a65c_add_72be8_7) (fun b w2 H locs hp hW => ?_)
  obtain ⟨q, hbq, hw2⟩ := hp
  rw [hbq]
  rw [hw2] at hW
  refine lv_astore_n (lv' := [(2, .ref q), (0, .ref o), (1, .ref x), (3, .int (nI 0))]) hx hb dJx4a65c_add_72be8_10 rfl hl (by decide) rfl (fun ls hl => ?_)
  refine lv_aload_n hx hb dJx4a65c_add_72be8_11 rfl (lv_at hl 0 rfl) ?_
  refine lv_iload_n hx hb dJx4a65c_add_72be8_12 rfl (lv_at hl 3 rfl) ?_
  refine lv_aload_n hx hb dJx4a65c_add_72be8_13 rfl (lv_at hl 2 rfl) ?_
  refine r_aastM X hW (n := 10) (f := rowF 0 el) (i := 0) 1 ci (w2 := ([(o, .inr (2, [.int (nI mc), .ref q, .int (nI 0)])), (q, aR G 10 (va_up (rowF 0 el) 0 (some x)))] ++ Y)) rfl (List.mem_append_right _ hxY) hc hca rfl (by omega) (by omega) dJx4a65c_add_72be8_14 (fun H locs hW => ?_)
  rw [rowF_up] at hW
  refine lv_aload_n hx hb dJx4a65c_add_72be8_15 rfl (lv_at hl 1 rfl) ?_
  refine lv_iload_n hx hb dJx4a65c_add_72be8_16 rfl (lv_at hl 3 rfl) ?_
  refine lv_iconst (v := nI 1) hx hb dJx4a65c_add_72be8_17 (by decide) ?_
  refine n_iadd hx hb dJx4a65c_add_72be8_18 ?_
  refine x_put X hW 0 rfl 2 (w2 := ([(o, .inr (2, [.int (nI mc), .ref q, .int (nI (0 + 1))])), (q, aR G 10 (rowF (0 + 1) (va_up el 0 x)))] ++ Y)) rfl rfl iwJx4a65c tyJx4a65c_ok nmJx4a65c (by decide) wq_113 rfl rfl rfl rfl (Nat.le_of_ble_eq_true rfl) dJx4a65c_add_72be8_19 (fun H locs hW => ?_)
  exact ret_v X hW ⟨q, rfl⟩ rfl (by decide) (by decide) dJx4a65c_add_72be8_22

set_option maxRecDepth 100000 in
set_option maxHeartbeats 4000000 in
theorem c_add_b (l : Launch) (G : Gt) (o x mc ci n ed : Nat) (vs : List Value) (el : Nat → Nat) (r : vw_C) (Y : va_W) (hc : vwCl[ci]? = some r) (hca : Cond.castable r.1 "java/lang/Object" ∈ NN) (hxY : (x, .inr (ci, vs)) ∈ Y) (hel : ∀ i, i < n → ∃ fs, (el i, .inr (ci, fs)) ∈ Y) (h0 : 0 < n) (hn : n < 60) : Cv l G yJx4a65c_add_72be8 (ww yJx4a65c_add_72be8 cJx4a65c_add_72be8 4 (none : Option ClassFile.FieldType)) (RM 4 1 100) [.ref o, .ref x, .ref ed, .int (nI n)] ([(o, .inr (2, [.int (nI mc), .ref ed, .int (nI n)])), (ed, aR G n (rowF n el))] ++ Y) (fun w2 => ∃ q, w2 = ([(o, .inr (2, [.int (nI mc), .ref q, .int (nI (n + 1))])), (q, aR G (n + max 1 (n / 2)) (rowF (n + 1) (va_up el n x)))] ++ Y)) := by
  refine Cv.intro (by decide) (Nat.le_of_ble_eq_true rfl) ?_
  intro p e s m args below meth c A X hW ls hl
  have hx := X.exec
  have hb := X.bytes
  have hl : lv_has ls 4 [(0, .ref o), (1, .ref x), (2, .ref ed), (3, .int (nI n))] := hl
  refine lv_iload_n hx hb dJx4a65c_add_72be8_0 rfl (lv_at hl 3 rfl) ?_
  refine lv_aload_n hx hb dJx4a65c_add_72be8_1 rfl (lv_at hl 2 rfl) ?_
  refine r_alen X hW (n := n) (f := rowF n el) 1 rfl dJx4a65c_add_72be8_2 ?_
  refine n_icmp_ne hx hb rfl rfl (by omega) (by omega) (tgt := 11) dJx4a65c_add_72be8_3 (by decide) (fun h => absurd h (by omega)) (fun _ => ?_)
  refine lv_aload_n hx hb dJx4a65c_add_72be8_6 rfl (lv_at hl 0 rfl) ?_
  refine go_r X hW (run_V X hW (As := []) (rest := []) 2 0 rfl (c_Jx4a65c_grow_d5877 l G o ed n mc ci (rowF n el) r Y hc hca (fun i hi y hy => by rw [show rowF n el i = some (el i) from if_pos hi] at hy; cases hy; exact hel i hi) h0 (by omega) _) (gi_V wq_543 wq_545 wq_26 wq_64 wq_546) rfl hyJx4a65c_grow_d5877 rfl rfl rfl hl.1 (Nat.le_of_ble_eq_true rfl) ⟨(Nat.le_of_ble_eq_true rfl), (Nat.le_of_ble_eq_true rfl)⟩ ⟨by decide, by decide⟩ dJx4a65c_add_72be8_7) (fun b w2 H locs hp hW => ?_)
  obtain ⟨q, hbq, hw2⟩ := hp
  rw [hbq]
  rw [hw2] at hW
  rw [rowF_cpy] at hW
  have hmx : max 1 (n / 2) ≤ 30 := Nat.max_le.mpr ⟨by omega, by omega⟩
  have hmy : 1 ≤ max 1 (n / 2) := Nat.le_max_left _ _
  refine lv_astore_n (lv' := [(2, .ref q), (0, .ref o), (1, .ref x), (3, .int (nI n))]) hx hb dJx4a65c_add_72be8_10 rfl hl (by decide) rfl (fun ls hl => ?_)
  refine lv_aload_n hx hb dJx4a65c_add_72be8_11 rfl (lv_at hl 0 rfl) ?_
  refine lv_iload_n hx hb dJx4a65c_add_72be8_12 rfl (lv_at hl 3 rfl) ?_
  refine lv_aload_n hx hb dJx4a65c_add_72be8_13 rfl (lv_at hl 2 rfl) ?_
  refine r_aastM X hW (n := (n + max 1 (n / 2))) (f := rowF n el) (i := n) 1 ci (w2 := ([(o, .inr (2, [.int (nI mc), .ref q, .int (nI n)])), (q, aR G (n + max 1 (n / 2)) (va_up (rowF n el) n (some x)))] ++ Y)) rfl (List.mem_append_right _ hxY) hc hca rfl (by omega) (by omega) dJx4a65c_add_72be8_14 (fun H locs hW => ?_)
  rw [rowF_up] at hW
  refine lv_aload_n hx hb dJx4a65c_add_72be8_15 rfl (lv_at hl 1 rfl) ?_
  refine lv_iload_n hx hb dJx4a65c_add_72be8_16 rfl (lv_at hl 3 rfl) ?_
  refine lv_iconst (v := nI 1) hx hb dJx4a65c_add_72be8_17 (by decide) ?_
  refine n_iadd hx hb dJx4a65c_add_72be8_18 ?_
  refine x_put X hW 0 rfl 2 (w2 := ([(o, .inr (2, [.int (nI mc), .ref q, .int (nI (n + 1))])), (q, aR G (n + max 1 (n / 2)) (rowF (n + 1) (va_up el n x)))] ++ Y)) rfl rfl iwJx4a65c tyJx4a65c_ok nmJx4a65c (by decide) wq_113 rfl rfl rfl rfl (Nat.le_of_ble_eq_true rfl) dJx4a65c_add_72be8_19 (fun H locs hW => ?_)
  exact ret_v X hW ⟨q, rfl⟩ rfl (by decide) (by decide) dJx4a65c_add_72be8_22

set_option maxRecDepth 100000 in
set_option maxHeartbeats 4000000 in
theorem c_add_c (l : Launch) (G : Gt) (o x mc ci n cap ed : Nat) (vs : List Value) (el : Nat → Nat) (r : vw_C) (Y : va_W) (hc : vwCl[ci]? = some r) (hca : Cond.castable r.1 "java/lang/Object" ∈ NN) (hxY : (x, .inr (ci, vs)) ∈ Y) (hn : n < cap) (hcap : cap ≤ 60) : Cv l G yJx4a65c_add_72be8 (ww yJx4a65c_add_72be8 cJx4a65c_add_72be8 4 (none : Option ClassFile.FieldType)) (RM 4 1 100) [.ref o, .ref x, .ref ed, .int (nI n)] ([(o, .inr (2, [.int (nI mc), .ref ed, .int (nI n)])), (ed, aR G cap (rowF n el))] ++ Y) (fun w2 => w2 = ([(o, .inr (2, [.int (nI mc), .ref ed, .int (nI (n + 1))])), (ed, aR G cap (rowF (n + 1) (va_up el n x)))] ++ Y)) := by
  refine Cv.intro (by decide) (Nat.le_of_ble_eq_true rfl) ?_
  intro p e s m args below meth c A X hW ls hl
  have hx := X.exec
  have hb := X.bytes
  have hl : lv_has ls 4 [(0, .ref o), (1, .ref x), (2, .ref ed), (3, .int (nI n))] := hl
  refine lv_iload_n hx hb dJx4a65c_add_72be8_0 rfl (lv_at hl 3 rfl) ?_
  refine lv_aload_n hx hb dJx4a65c_add_72be8_1 rfl (lv_at hl 2 rfl) ?_
  refine r_alen X hW (n := cap) (f := rowF n el) 1 rfl dJx4a65c_add_72be8_2 ?_
  refine n_icmp_ne hx hb rfl rfl (by omega) (by omega) (tgt := 11) dJx4a65c_add_72be8_3 (by decide) (fun _ => ?_) (fun h => absurd h (by omega))
  refine lv_aload_n hx hb dJx4a65c_add_72be8_11 rfl (lv_at hl 2 rfl) ?_
  refine lv_iload_n hx hb dJx4a65c_add_72be8_12 rfl (lv_at hl 3 rfl) ?_
  refine lv_aload_n hx hb dJx4a65c_add_72be8_13 rfl (lv_at hl 1 rfl) ?_
  refine r_aastM X hW (n := cap) (f := rowF n el) (i := n) 1 ci (w2 := ([(o, .inr (2, [.int (nI mc), .ref ed, .int (nI n)])), (ed, aR G cap (va_up (rowF n el) n (some x)))] ++ Y)) rfl (List.mem_append_right _ hxY) hc hca rfl (by omega) (by omega) dJx4a65c_add_72be8_14 (fun H locs hW => ?_)
  rw [rowF_up] at hW
  refine lv_aload_n hx hb dJx4a65c_add_72be8_15 rfl (lv_at hl 0 rfl) ?_
  refine lv_iload_n hx hb dJx4a65c_add_72be8_16 rfl (lv_at hl 3 rfl) ?_
  refine lv_iconst (v := nI 1) hx hb dJx4a65c_add_72be8_17 (by decide) ?_
  refine n_iadd hx hb dJx4a65c_add_72be8_18 ?_
  refine x_put X hW 0 rfl 2 (w2 := ([(o, .inr (2, [.int (nI mc), .ref ed, .int (nI (n + 1))])), (ed, aR G cap (rowF (n + 1) (va_up el n x)))] ++ Y)) rfl rfl iwJx4a65c tyJx4a65c_ok nmJx4a65c (by decide) wq_113 rfl rfl rfl rfl (Nat.le_of_ble_eq_true rfl) dJx4a65c_add_72be8_19 (fun H locs hW => ?_)
  exact ret_v X hW rfl rfl (by decide) (by decide) dJx4a65c_add_72be8_22

theorem c_add3 (l : Launch) (G : Gt) (o ed cap mc n x ci : Nat) (vs : List Value) (el : Nat → Nat) (r : vw_C) (Y : va_W) (hok : LsOK G ed cap n) (hn : n < 40) (hc : vwCl[ci]? = some r) (hca : Cond.castable r.1 "java/lang/Object" ∈ NN) (hxY : (x, .inr (ci, vs)) ∈ Y) (hel : ∀ i, i < n → ∃ fs, (el i, .inr (ci, fs)) ∈ Y) : Cv l G yJx4a65c_add_72be8 (ww yJx4a65c_add_72be8 cJx4a65c_add_72be8 4 (none : Option ClassFile.FieldType)) (RM 4 1 100) [.ref o, .ref x, .ref ed, .int (nI n)] (lsW G o ed cap mc n el ++ Y) (fun w2 => ∃ ed2 cap2, LsOK G ed2 cap2 (n + 1) ∧ w2 = (lsW G o ed2 cap2 mc (n + 1) (va_up el n x) ++ Y)) := by
  obtain ⟨h1, h2, h3⟩ := hok
  by_cases h0 : cap = 0
  · subst h0
    have e1 := h3 rfl
    subst e1
    obtain rfl : n = 0 := by omega
    refine Cv.post (c_add_a l G o x mc ci vs el r Y hc hca hxY) (fun w2 hw => ?_)
    obtain ⟨q, rfl⟩ := hw
    exact ⟨q, 10, ⟨by omega, by omega, fun h => absurd h (by decide)⟩, by rw [lsW_s (by decide)]⟩
  · rw [lsW_s (show 0 < cap by omega)]
    by_cases h5 : n = cap
    · subst h5
      refine Cv.post (c_add_b l G o x mc ci n ed vs el r Y hc hca hxY hel (by omega) (by omega)) (fun w2 hw => ?_)
      obtain ⟨q, rfl⟩ := hw
      have hmx : max 1 (n / 2) ≤ 20 := Nat.max_le.mpr ⟨by omega, by omega⟩
      have hmy : 1 ≤ max 1 (n / 2) := Nat.le_max_left _ _
      exact ⟨q, n + max 1 (n / 2), ⟨by omega, by omega, fun h => absurd h (by omega)⟩, by rw [lsW_s (by omega)]⟩
    · refine Cv.post (c_add_c l G o x mc ci n cap ed vs el r Y hc hca hxY (by omega) h2) (fun w2 hw => ?_)
      subst hw
      exact ⟨ed, cap, ⟨by omega, h2, fun h => absurd h h0⟩, by rw [lsW_s (by omega)]⟩

