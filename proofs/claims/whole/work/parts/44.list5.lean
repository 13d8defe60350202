set_option maxRecDepth 100000 in
set_option maxHeartbeats 4000000 in
theorem c_J7_copyOf_6403c (l : Launch) (G : Gt) (a n0 k1 ci : Nat) (f : Nat → Option Nat) (r : vw_C) (Y : va_W) (hc : vwCl[ci]? = some r) (hca : Cond.castable r.1 "java/lang/Object" ∈ NN) (hel : ∀ i, i < n0 → ∀ y, f i = some y → ∃ fs, (y, .inr (ci, fs)) ∈ Y) (hn : n0 < k1) (hk : k1 ≤ 100) : Cr l G yJ7_copyOf_6403c (ww yJ7_copyOf_6403c cJ7_copyOf_6403c 4 (some (FieldType.array (FieldType.object "java/lang/Object")))) (RM 0 1 100) [.ref a, .int (nI k1), .ref (G.2.2 1)] ([(a, aR G n0 f)] ++ Y) (fun b w2 => ∃ q, b = q ∧ w2 = ([(a, aR G n0 f), (q, aR G k1 (va_cpy f (fun _ => none) 0 0 n0))] ++ Y)) := by
  refine Cr.intro (by decide) (Nat.le_of_ble_eq_true rfl) ?_
  intro p e s m args below meth c A X hW ls hl
  have hx := X.exec
  have hb := X.bytes
  have hl : lv_has ls 4 [(0, .ref a), (1, .int (nI k1)), (2, .ref (G.2.2 1))] := hl
  refine lv_aload_n hx hb dJ7_copyOf_6403c_0 rfl (lv_at hl 2 rfl) ?_
  refine x_ldcM X wq_587 dJ7_copyOf_6403c_1 ?_
  refine lv_acmp_ne (rx := some (G.2.2 1)) (ry := some (G.2.2 1)) hx hb (tgt := 13) dJ7_copyOf_6403c_3 (by decide) (fun h => absurd rfl h) (fun _ => ?_)
  refine lv_iload_n hx hb dJ7_copyOf_6403c_6 rfl (lv_at hl 1 rfl) ?_
  refine x_newQ X (B := [(a, aR G n0 f)]) (Y := Y) hW (n := k1) (by omega) wq_589 (Nat.le_of_ble_eq_true rfl) (by show 0 + k1 ≤ 100; omega) dJ7_copyOf_6403c_7 (fun q H hW => ?_)
  refine lv_goto (tgt := 24) hx hb dJ7_copyOf_6403c_10 (by decide) ?_
  refine lv_astore_n (lv' := [(3, .ref q), (0, .ref a), (1, .int (nI k1)), (2, .ref (G.2.2 1))]) hx hb dJ7_copyOf_6403c_24 rfl hl (by decide) rfl (fun ls hl => ?_)
  refine lv_aload_n hx hb dJ7_copyOf_6403c_25 rfl (lv_at hl 1 rfl) ?_
  refine lv_iconst (v := nI 0) hx hb dJ7_copyOf_6403c_26 (by decide) ?_
  refine lv_aload_n hx hb dJ7_copyOf_6403c_27 rfl (lv_at hl 0 rfl) ?_
  refine lv_iconst (v := nI 0) hx hb dJ7_copyOf_6403c_28 (by decide) ?_
  refine lv_aload_n hx hb dJ7_copyOf_6403c_29 rfl (lv_at hl 1 rfl) ?_
  refine r_alen X hW (n := n0) (f := f) 0 rfl dJ7_copyOf_6403c_30 ?_
  refine lv_iload_n hx hb dJ7_copyOf_6403c_31 rfl (lv_at hl 2 rfl) ?_
  refine x_min X hl.1 (by omega) (by omega) wq_590 (Nat.le_of_ble_eq_true rfl) (Nat.le_of_ble_eq_true rfl) (by show 0 + 1 ≤ 1; decide) (by show 0 + k1 ≤ 100; omega) dJ7_copyOf_6403c_32 ?_
  rw [Nat.min_eq_left (show n0 ≤ k1 by omega)]
  refine x_copyQ X hW (a := a) (b := q) (n0 := n0) (n1 := k1) (k := n0) (f := f) (g := fun _ => none) 0 1 rfl rfl hc hca (fun i hi y hy => by obtain ⟨fs, hm⟩ := hel i hi y hy; exact ⟨fs, List.mem_append_right _ hm⟩) (Nat.le_refl _) (by omega) (by omega) wq_591 wq_592 wq_77 hl.1 (Nat.le_of_ble_eq_true rfl) (Nat.le_of_ble_eq_true rfl) (Nat.le_of_ble_eq_true rfl) (w2 := ([(a, aR G n0 f), (q, aR G k1 (va_cpy f (fun _ => none) 0 0 n0))] ++ Y)) rfl dJ7_copyOf_6403c_35 (fun H locs hW => ?_)
  refine lv_aload_n hx hb dJ7_copyOf_6403c_38 rfl (lv_at hl 0 rfl) ?_
  exact ret_r X hW ⟨q, rfl, rfl⟩ rfl (Or.inr ⟨_, rfl⟩) (by show 0 + 1 ≤ 1; decide) (by show 0 + k1 ≤ 100; omega) dJ7_copyOf_6403c_39

set_option maxRecDepth 100000 in
set_option maxHeartbeats 4000000 in
theorem c_J7_copyOf_1904c (l : Launch) (G : Gt) (a n0 k1 ci : Nat) (f : Nat → Option Nat) (r : vw_C) (Y : va_W) (hc : vwCl[ci]? = some r) (hca : Cond.castable r.1 "java/lang/Object" ∈ NN) (hel : ∀ i, i < n0 → ∀ y, f i = some y → ∃ fs, (y, .inr (ci, fs)) ∈ Y) (hn : n0 < k1) (hk : k1 ≤ 100) : Cr l G yJ7_copyOf_1904c (ww yJ7_copyOf_1904c cJ7_copyOf_1904c 2 (some (FieldType.array (FieldType.object "java/lang/Object")))) (RM 1 1 100) [.ref a, .int (nI k1)] ([(a, aR G n0 f)] ++ Y) (fun b w2 => ∃ q, b = q ∧ w2 = ([(a, aR G n0 f), (q, aR G k1 (va_cpy f (fun _ => none) 0 0 n0))] ++ Y)) := by
  refine Cr.intro (by decide) (Nat.le_of_ble_eq_true rfl) ?_
  intro p e s m args below meth c A X hW ls hl
  have hx := X.exec
  have hb := X.bytes
  have hl : lv_has ls 2 [(0, .ref a), (1, .int (nI k1))] := hl
  refine lv_aload_n hx hb dJ7_copyOf_1904c_0 rfl (lv_at hl 0 rfl) ?_
  refine lv_iload_n hx hb dJ7_copyOf_1904c_1 rfl (lv_at hl 1 rfl) ?_
  refine lv_aload_n hx hb dJ7_copyOf_1904c_2 rfl (lv_at hl 0 rfl) ?_
  refine x_getC X hW (a := a) (n := n0) (f := f) 0 rfl wq_564 hl.1 (Nat.le_of_ble_eq_true rfl) (Nat.le_of_ble_eq_true rfl) (Nat.le_of_ble_eq_true rfl) dJ7_copyOf_1904c_3 ?_
  refine go_r X hW (run_S X hW (As := [.ref a, .int (nI k1), .ref (G.2.2 1)]) (rest := []) (c_J7_copyOf_6403c l G a n0 k1 ci f r Y hc hca hel hn hk _) (gi_S wq_584 wq_585 wq_76 wq_586) hyJ7_copyOf_6403c rfl rfl hl.1 (Nat.le_of_ble_eq_true rfl) ⟨(Nat.le_of_ble_eq_true rfl), (Nat.le_of_ble_eq_true rfl)⟩ ⟨by decide, by decide⟩ dJ7_copyOf_1904c_6) (fun b w2 H locs hp hW => ?_)
  obtain ⟨q, rfl, rfl⟩ := hp
  exact ret_r X hW ⟨_, rfl, rfl⟩ rfl (Or.inr ⟨_, rfl⟩) (by decide) (by decide) dJ7_copyOf_1904c_9

