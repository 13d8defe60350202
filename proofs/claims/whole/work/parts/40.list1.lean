set_option maxRecDepth 100000 in
set_option maxHeartbeats 4000000 in
theorem c_Jx4a65c_size_8abf5 (l : Launch) (G : Gt) (o ed n mc : Nat) (Y : va_W)  : Ci l G yJx4a65c_size_8abf5 (ww yJx4a65c_size_8abf5 cJx4a65c_size_8abf5 1 (some FieldType.int)) (RM 0 0 0) [.ref o] ([(o, .inr (2, [.int (nI mc), .ref ed, .int (nI n)]))] ++ Y) (fun r w2 => r = nI n ∧ w2 = ([(o, .inr (2, [.int (nI mc), .ref ed, .int (nI n)]))] ++ Y)) := by
  refine Ci.intro (by decide) (Nat.le_of_ble_eq_true rfl) ?_
  intro p e s m args below meth c A X hW ls hl
  have hx := X.exec
  have hb := X.bytes
  have hl : lv_has ls 1 [(0, .ref o)] := hl
  refine lv_aload_n hx hb dJx4a65c_size_8abf5_0 rfl (lv_at hl 0 rfl) ?_
  refine x_get X hW 0 rfl 2 rfl rfl iwJx4a65c (by decide) wq_113 rfl dJx4a65c_size_8abf5_1 ?_
  exact ret_i X hW (v := (nI n)) (⟨rfl, rfl⟩) rfl (by decide) (by decide) dJx4a65c_size_8abf5_4

set_option maxRecDepth 100000 in
set_option maxHeartbeats 4000000 in
theorem c_Jx4a65c_isEmpty_aae02 (l : Launch) (G : Gt) (o ed n mc : Nat) (Y : va_W) (hn : n < 1000) : Ci l G yJx4a65c_isEmpty_aae02 (ww yJx4a65c_isEmpty_aae02 cJx4a65c_isEmpty_aae02 1 (some FieldType.boolean)) (RM 0 0 0) [.ref o] ([(o, .inr (2, [.int (nI mc), .ref ed, .int (nI n)]))] ++ Y) (fun r w2 => r = nI (if n = 0 then 1 else 0) ∧ w2 = ([(o, .inr (2, [.int (nI mc), .ref ed, .int (nI n)]))] ++ Y)) := by
  refine Ci.intro (by decide) (Nat.le_of_ble_eq_true rfl) ?_
  intro p e s m args below meth c A X hW ls hl
  have hx := X.exec
  have hb := X.bytes
  have hl : lv_has ls 1 [(0, .ref o)] := hl
  refine lv_aload_n hx hb dJx4a65c_isEmpty_aae02_0 rfl (lv_at hl 0 rfl) ?_
  refine x_get X hW 0 rfl 2 rfl rfl iwJx4a65c (by decide) wq_113 rfl dJx4a65c_isEmpty_aae02_1 ?_
  refine n_if_ne hx hb rfl (by omega) (tgt := 11) dJx4a65c_isEmpty_aae02_4 (by decide) (fun c_4 => ?_) (fun c_4 => ?_)
  · refine lv_iconst (v := nI 0) hx hb dJx4a65c_isEmpty_aae02_11 (by decide) ?_
    exact ret_z X hW (v := (nI 0)) (⟨by rw [if_neg (by omega)], rfl⟩) rfl (by first | rfl | exact (pk_charN (by omega)).1) (by decide) (by decide) dJx4a65c_isEmpty_aae02_12
  · refine lv_iconst (v := nI 1) hx hb dJx4a65c_isEmpty_aae02_7 (by decide) ?_
    refine lv_goto (tgt := 12) hx hb dJx4a65c_isEmpty_aae02_8 (by decide) ?_
    exact ret_z X hW (v := (nI 1)) (⟨by rw [if_pos (by omega)], rfl⟩) rfl (by first | rfl | exact (pk_charN (by omega)).1) (by decide) (by decide) dJx4a65c_isEmpty_aae02_12

set_option maxRecDepth 100000 in
set_option maxHeartbeats 4000000 in
theorem c_J3_checkIndex_8e157 (l : Launch) (G : Gt) (i n : Nat) (w : va_W) (hi : i < n) (hn : n < 1000) : Ci l G yJ3_checkIndex_8e157 (ww yJ3_checkIndex_8e157 cJ3_checkIndex_8e157 3 (some FieldType.int)) (RM 0 0 0) [.int (nI i), .int (nI n), .null] w (fun r w2 => r = nI i ∧ w2 = w) := by
  refine Ci.intro (by decide) (Nat.le_of_ble_eq_true rfl) ?_
  intro p e s m args below meth c A X hW ls hl
  have hx := X.exec
  have hb := X.bytes
  have hl : lv_has ls 3 [(0, .int (nI i)), (1, .int (nI n)), (2, .null)] := hl
  refine lv_iload_n hx hb dJ3_checkIndex_8e157_0 rfl (lv_at hl 0 rfl) ?_
  refine n_if_lt hx hb rfl (by omega) (tgt := 9) dJ3_checkIndex_8e157_1 (by decide) (fun c_1 => absurd c_1 (by omega)) (fun c_1 => ?_)
  refine lv_iload_n hx hb dJ3_checkIndex_8e157_4 rfl (lv_at hl 0 rfl) ?_
  refine lv_iload_n hx hb dJ3_checkIndex_8e157_5 rfl (lv_at hl 1 rfl) ?_
  refine n_icmp_lt hx hb rfl rfl (by omega) (by omega) (tgt := 16) dJ3_checkIndex_8e157_6 (by decide) (fun c_6 => ?_) (fun c_6 => absurd c_6 (by omega))
  refine lv_iload_n hx hb dJ3_checkIndex_8e157_16 rfl (lv_at hl 0 rfl) ?_
  exact ret_i X hW (v := (nI i)) (⟨rfl, rfl⟩) rfl (by decide) (by decide) dJ3_checkIndex_8e157_17

set_option maxRecDepth 100000 in
set_option maxHeartbeats 4000000 in
theorem c_J15_checkIndex_7cf53 (l : Launch) (G : Gt) (i n : Nat) (w : va_W) (hi : i < n) (hn : n < 1000) : Ci l G yJ15_checkIndex_7cf53 (ww yJ15_checkIndex_7cf53 cJ15_checkIndex_7cf53 2 (some FieldType.int)) (RM 1 0 0) [.int (nI i), .int (nI n)] w (fun r w2 => r = nI i ∧ w2 = w) := by
  refine Ci.intro (by decide) (Nat.le_of_ble_eq_true rfl) ?_
  intro p e s m args below meth c A X hW ls hl
  have hx := X.exec
  have hb := X.bytes
  have hl : lv_has ls 2 [(0, .int (nI i)), (1, .int (nI n))] := hl
  refine lv_iload_n hx hb dJ15_checkIndex_7cf53_0 rfl (lv_at hl 0 rfl) ?_
  refine lv_iload_n hx hb dJ15_checkIndex_7cf53_1 rfl (lv_at hl 1 rfl) ?_
  refine lv_null hx hb dJ15_checkIndex_7cf53_2 ?_
  refine go_i X hW (run_S X hW (As := [.int (nI i), .int (nI n), .null]) (rest := []) (c_J3_checkIndex_8e157 l G i n w hi hn _) (gi_S wq_280 wq_281 wq_80 wq_282) hyJ3_checkIndex_8e157 rfl rfl hl.1 (Nat.le_of_ble_eq_true rfl) ⟨Nat.le_of_ble_eq_true rfl, Nat.le_of_ble_eq_true rfl⟩ ⟨by decide, by decide⟩ dJ15_checkIndex_7cf53_3) (fun r w2 H locs hp hW => ?_)
  obtain ⟨hr0, hw2⟩ := hp
  subst hr0
  rw [hw2] at hW
  exact ret_i X hW (v := (nI i)) (⟨rfl, rfl⟩) rfl (by decide) (by decide) dJ15_checkIndex_7cf53_6

set_option maxRecDepth 100000 in
set_option maxHeartbeats 4000000 in
theorem c_Jx4a65c_elementData_915e3 (l : Launch) (G : Gt) (o ed n cap mc : Nat) (el : Nat → Option Nat) (Y : va_W) (i b : Nat) (hi : i < cap) (hc : cap < 1000) (hb2 : el i = some b) : Cr l G yJx4a65c_elementData_915e3 (ww yJx4a65c_elementData_915e3 cJx4a65c_elementData_915e3 2 (some (FieldType.object "java/lang/Object"))) (RM 0 0 0) [.ref o, .int (nI i)] ([(o, .inr (2, [.int (nI mc), .ref ed, .int (nI n)])), (ed, aR G cap el)] ++ Y) (fun r w2 => r = b ∧ w2 = ([(o, .inr (2, [.int (nI mc), .ref ed, .int (nI n)])), (ed, aR G cap el)] ++ Y)) := by
  refine Cr.intro (by decide) (Nat.le_of_ble_eq_true rfl) ?_
  intro p e s m args below meth c A X hW ls hl
  have hx := X.exec
  have hb := X.bytes
  have hl : lv_has ls 2 [(0, .ref o), (1, .int (nI i))] := hl
  refine lv_aload_n hx hb dJx4a65c_elementData_915e3_0 rfl (lv_at hl 0 rfl) ?_
  refine x_get X hW 0 rfl 1 rfl rfl iwJx4a65c (by decide) wq_112 rfl dJx4a65c_elementData_915e3_1 ?_
  refine lv_iload_n hx hb dJx4a65c_elementData_915e3_4 rfl (lv_at hl 1 rfl) ?_
  refine r_aald X hW (n := cap) (f := el) 1 rfl (by omega) (by omega) (r := .ref b) (by rw [hb2]; rfl) dJx4a65c_elementData_915e3_5 ?_
  exact ret_r X hW (⟨rfl, rfl⟩) rfl (Or.inl ⟨_, rfl⟩) (by decide) (by decide) dJx4a65c_elementData_915e3_6

set_option maxRecDepth 100000 in
set_option maxHeartbeats 4000000 in
theorem c_Jx4a65c_get_915e3 (l : Launch) (G : Gt) (o ed n cap mc : Nat) (el : Nat → Option Nat) (Y : va_W) (i b : Nat) (hi : i < n) (hnc : n ≤ cap) (hc : cap < 1000) (hb2 : el i = some b) : Cr l G yJx4a65c_get_915e3 (ww yJx4a65c_get_915e3 cJx4a65c_get_915e3 2 (some (FieldType.object "java/lang/Object"))) (RM 2 0 0) [.ref o, .int (nI i)] ([(o, .inr (2, [.int (nI mc), .ref ed, .int (nI n)])), (ed, aR G cap el)] ++ Y) (fun r w2 => r = b ∧ w2 = ([(o, .inr (2, [.int (nI mc), .ref ed, .int (nI n)])), (ed, aR G cap el)] ++ Y)) := by
  refine Cr.intro (by decide) (Nat.le_of_ble_eq_true rfl) ?_
  intro p e s m args below meth c A X hW ls hl
  have hx := X.exec
  have hb := X.bytes
  have hl : lv_has ls 2 [(0, .ref o), (1, .int (nI i))] := hl
  refine lv_iload_n hx hb dJx4a65c_get_915e3_0 rfl (lv_at hl 1 rfl) ?_
  refine lv_aload_n hx hb dJx4a65c_get_915e3_1 rfl (lv_at hl 0 rfl) ?_
  refine x_get X hW 0 rfl 2 rfl rfl iwJx4a65c (by decide) wq_113 rfl dJx4a65c_get_915e3_2 ?_
  refine go_i X hW (run_S X hW (As := [.int (nI i), .int (nI n)]) (rest := []) (c_J15_checkIndex_7cf53 l G i n ([(o, .inr (2, [.int (nI mc), .ref ed, .int (nI n)])), (ed, aR G cap el)] ++ Y) hi (by omega) _) (gi_S wq_277 wq_278 wq_79 wq_279) hyJ15_checkIndex_7cf53 rfl rfl hl.1 (Nat.le_of_ble_eq_true rfl) ⟨Nat.le_of_ble_eq_true rfl, Nat.le_of_ble_eq_true rfl⟩ ⟨by decide, by decide⟩ dJx4a65c_get_915e3_5) (fun r w2 H locs hp hW => ?_)
  obtain ⟨rfl, rfl⟩ := hp
  refine lv_pop hx hb dJx4a65c_get_915e3_8 rfl ?_
  refine lv_aload_n hx hb dJx4a65c_get_915e3_9 rfl (lv_at hl 0 rfl) ?_
  refine lv_iload_n hx hb dJx4a65c_get_915e3_10 rfl (lv_at hl 1 rfl) ?_
  refine go_r X hW (run_V X hW (As := [.int (nI i)]) (rest := []) 2 0 rfl (c_Jx4a65c_elementData_915e3 l G o ed n cap mc el Y i b (by omega) hc hb2 _) (gi_V wq_283 wq_284 wq_285 wq_64 wq_286) rfl hyJx4a65c_elementData_915e3 rfl rfl rfl hl.1 (Nat.le_of_ble_eq_true rfl) ⟨Nat.le_of_ble_eq_true rfl, Nat.le_of_ble_eq_true rfl⟩ ⟨by decide, by decide⟩ dJx4a65c_get_915e3_11) (fun r w2 H locs hp hW => ?_)
  obtain ⟨rfl, rfl⟩ := hp
  exact ret_r X hW (⟨rfl, rfl⟩) rfl (Or.inl ⟨_, rfl⟩) (by decide) (by decide) dJx4a65c_get_915e3_14

