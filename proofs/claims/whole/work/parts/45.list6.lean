set_option maxRecDepth 100000 in
set_option maxHeartbeats 4000000 in
theorem c_Jx4a65c_grow_92f84 (l : Launch) (G : Gt) (o ed n n0 mc ci : Nat) (f : Nat → Option Nat) (r : vw_C) (Y : va_W) (hc : vwCl[ci]? = some r) (hca : Cond.castable r.1 "java/lang/Object" ∈ NN) (hel : ∀ i, i < n0 → ∀ y, f i = some y → ∃ fs, (y, .inr (ci, fs)) ∈ Y) (h0 : 0 < n0) (hn0 : n0 ≤ 60) : Cr l G yJx4a65c_grow_92f84 (ww yJx4a65c_grow_92f84 cJx4a65c_grow_92f84 4 (some (FieldType.array (FieldType.object "java/lang/Object")))) (RM 2 1 100) [.ref o, .int (nI (n0 + 1))] ([(o, .inr (2, [.int (nI mc), .ref ed, .int (nI n)])), (ed, aR G n0 f)] ++ Y) (fun b w2 => ∃ q, b = q ∧ w2 = ([(o, .inr (2, [.int (nI mc), .ref q, .int (nI n)])), (q, aR G (n0 + max 1 (n0 / 2)) (va_cpy f (fun _ => none) 0 0 n0))] ++ Y)) := by
  refine Cr.intro (by decide) (Nat.le_of_ble_eq_true rfl) ?_
  intro p e s m args below meth c A X hW ls hl
  have hx := X.exec
  have hb := X.bytes
  have hl : lv_has ls 4 [(0, .ref o), (1, .int (nI (n0 + 1)))] := hl
  refine lv_aload_n hx hb dJx4a65c_grow_92f84_0 rfl (lv_at hl 0 rfl) ?_
  refine x_get X hW 0 rfl 1 rfl rfl iwJx4a65c (by decide) wq_112 rfl dJx4a65c_grow_92f84_1 ?_
  refine r_alen X hW (n := n0) (f := f) 1 rfl dJx4a65c_grow_92f84_4 ?_
  refine lv_istore_n (lv' := [(2, .int (nI n0)), (0, .ref o), (1, .int (nI (n0 + 1)))]) hx hb dJx4a65c_grow_92f84_5 rfl hl (by decide) rfl (fun ls hl => ?_)
  refine lv_iload_n hx hb dJx4a65c_grow_92f84_6 rfl (lv_at hl 0 rfl) ?_
  refine n_if_gt hx hb rfl (by omega) (tgt := 20) dJx4a65c_grow_92f84_7 (by decide) (fun c_7 => ?_) (fun c_7 => absurd c_7 (by omega))
  refine lv_iload_n hx hb dJx4a65c_grow_92f84_20 rfl (lv_at hl 0 rfl) ?_
  refine lv_iload_n hx hb dJx4a65c_grow_92f84_21 rfl (lv_at hl 2 rfl) ?_
  refine lv_iload_n hx hb dJx4a65c_grow_92f84_22 rfl (lv_at hl 0 rfl) ?_
  refine n_isub hx hb (by omega) dJx4a65c_grow_92f84_23 ?_
  refine lv_iload_n hx hb dJx4a65c_grow_92f84_24 rfl (lv_at hl 0 rfl) ?_
  refine lv_iconst (v := nI 1) hx hb dJx4a65c_grow_92f84_25 (by decide) ?_
  refine n_ishr hx hb (by omega) (by omega) dJx4a65c_grow_92f84_26 ?_
  refine go_i X hW (run_S X hW (As := [.int (nI n0), .int (nI ((n0 + 1) - n0)), .int (nI (n0 / 2 ^ 1))]) (rest := []) (c_J8_newLength_cabcc l G n0 ((n0 + 1) - n0) (n0 / 2 ^ 1) ([(o, .inr (2, [.int (nI mc), .ref ed, .int (nI n)])), (ed, aR G n0 f)] ++ Y) (by omega) (by omega) (by omega) (by omega) _) (gi_S wq_551 wq_552 wq_74 wq_553) hyJ8_newLength_cabcc rfl rfl hl.1 (Nat.le_of_ble_eq_true rfl) ⟨Nat.le_of_ble_eq_true rfl, Nat.le_of_ble_eq_true rfl⟩ ⟨by decide, by decide⟩ dJx4a65c_grow_92f84_27) (fun r w2 H locs hp hW => ?_)
  obtain ⟨hr0, hw2⟩ := hp
  subst hr0
  rw [hw2] at hW
  rw [show n0 + max ((n0 + 1) - n0) (n0 / 2 ^ 1) = n0 + max 1 (n0 / 2) by rw [show (n0 + 1) - n0 = 1 by omega]]
  have hmx : max 1 (n0 / 2) ≤ 30 := Nat.max_le.mpr ⟨by omega, by omega⟩
  have hmy : 1 ≤ max 1 (n0 / 2) := Nat.le_max_left _ _
  refine lv_istore_n (lv' := [(3, .int (nI (n0 + max 1 (n0 / 2)))), (2, .int (nI n0)), (0, .ref o), (1, .int (nI (n0 + 1)))]) hx hb dJx4a65c_grow_92f84_30 rfl hl (by decide) rfl (fun ls hl => ?_)
  refine lv_aload_n hx hb dJx4a65c_grow_92f84_31 rfl (lv_at hl 2 rfl) ?_
  refine lv_aload_n hx hb dJx4a65c_grow_92f84_32 rfl (lv_at hl 2 rfl) ?_
  refine x_get X hW 0 rfl 1 rfl rfl iwJx4a65c (by decide) wq_112 rfl dJx4a65c_grow_92f84_33 ?_
  refine lv_iload_n hx hb dJx4a65c_grow_92f84_36 rfl (lv_at hl 0 rfl) ?_
  have hW : Wd G A s ([(ed, aR G n0 f)] ++ ((o, .inr (2, [.int (nI mc), .ref ed, .int (nI n)])) :: Y)) H locs := hW.perm (List.Perm.swap _ _ _)
  refine go_r X hW (run_S X hW (As := [.ref ed, .int (nI (n0 + max 1 (n0 / 2)))]) (rest := [.ref o]) (c_J7_copyOf_1904c l G ed n0 (n0 + max 1 (n0 / 2)) ci f r _ hc hca (fun i hi y hy => by obtain ⟨fs, hm⟩ := hel i hi y hy; exact ⟨fs, List.mem_cons_of_mem _ hm⟩) (by omega) (by omega) _) (gi_S wq_561 wq_562 wq_76 wq_563) hyJ7_copyOf_1904c rfl rfl hl.1 (Nat.le_of_ble_eq_true rfl) ⟨Nat.le_of_ble_eq_true rfl, Nat.le_of_ble_eq_true rfl⟩ ⟨by decide, by decide⟩ dJx4a65c_grow_92f84_37) (fun b w2 H locs hp hW => ?_)
  obtain ⟨q, hbq, hw2⟩ := hp
  rw [hbq]
  rw [hw2] at hW
  refine lv_dup_x1 hx hb dJx4a65c_grow_92f84_40 rfl rfl ?_
  refine x_put X hW 2 rfl 1 (w2 := ([(ed, aR G n0 f), (q, aR G (n0 + max 1 (n0 / 2)) (va_cpy f (fun _ => none) 0 0 n0))] ++ ((o, .inr (2, [.int (nI mc), .ref q, .int (nI n)])) :: Y))) rfl rfl iwJx4a65c tyJx4a65c_ok nmJx4a65c (by decide) wq_112 rfl rfl rfl rfl (Nat.le_of_ble_eq_true rfl) dJx4a65c_grow_92f84_41 (fun H locs hW => ?_)
  have hW : Wd G A s ([(o, .inr (2, [.int (nI mc), .ref q, .int (nI n)])), (q, aR G (n0 + max 1 (n0 / 2)) (va_cpy f (fun _ => none) 0 0 n0))] ++ Y) H locs := (hW.drop (List.Sublist.cons _ (List.Sublist.refl _))).perm (List.Perm.swap _ _ _)
  exact ret_r X hW (⟨q, rfl, rfl⟩) rfl (Or.inr ⟨_, rfl⟩) (by decide) (by decide) dJx4a65c_grow_92f84_44

set_option maxRecDepth 100000 in
set_option maxHeartbeats 4000000 in
theorem c_Jx4a65c_grow_d5877 (l : Launch) (G : Gt) (o ed n0 mc ci : Nat) (f : Nat → Option Nat) (r : vw_C) (Y : va_W) (hc : vwCl[ci]? = some r) (hca : Cond.castable r.1 "java/lang/Object" ∈ NN) (hel : ∀ i, i < n0 → ∀ y, f i = some y → ∃ fs, (y, .inr (ci, fs)) ∈ Y) (h0 : 0 < n0) (hn0 : n0 ≤ 60) : Cr l G yJx4a65c_grow_d5877 (ww yJx4a65c_grow_d5877 cJx4a65c_grow_d5877 1 (some (FieldType.array (FieldType.object "java/lang/Object")))) (RM 3 1 100) [.ref o] ([(o, .inr (2, [.int (nI mc), .ref ed, .int (nI n0)])), (ed, aR G n0 f)] ++ Y) (fun b w2 => ∃ q, b = q ∧ w2 = ([(o, .inr (2, [.int (nI mc), .ref q, .int (nI n0)])), (q, aR G (n0 + max 1 (n0 / 2)) (va_cpy f (fun _ => none) 0 0 n0))] ++ Y)) := by
  refine Cr.intro (by decide) (Nat.le_of_ble_eq_true rfl) ?_
  intro p e s m args below meth c A X hW ls hl
  have hx := X.exec
  have hb := X.bytes
  have hl : lv_has ls 1 [(0, .ref o)] := hl
  refine lv_aload_n hx hb dJx4a65c_grow_d5877_0 rfl (lv_at hl 0 rfl) ?_
  refine lv_aload_n hx hb dJx4a65c_grow_d5877_1 rfl (lv_at hl 0 rfl) ?_
  refine x_get X hW 0 rfl 2 rfl rfl iwJx4a65c (by decide) wq_113 rfl dJx4a65c_grow_d5877_2 ?_
  refine lv_iconst (v := nI 1) hx hb dJx4a65c_grow_d5877_5 (by decide) ?_
  refine n_iadd hx hb dJx4a65c_grow_d5877_6 ?_
  refine go_r X hW (run_V X hW (As := [.int (nI (n0 + 1))]) (rest := []) 2 0 rfl (c_Jx4a65c_grow_92f84 l G o ed n0 n0 mc ci f r Y hc hca hel h0 hn0 _) (gi_V wq_547 wq_549 wq_27 wq_64 wq_550) rfl hyJx4a65c_grow_92f84 rfl rfl rfl hl.1 (Nat.le_of_ble_eq_true rfl) ⟨Nat.le_of_ble_eq_true rfl, Nat.le_of_ble_eq_true rfl⟩ ⟨by decide, by decide⟩ dJx4a65c_grow_d5877_7) (fun b w2 H locs hp hW => ?_)
  obtain ⟨q, hbq, hw2⟩ := hp
  rw [hbq]
  rw [hw2] at hW
  exact ret_r X hW (⟨q, rfl, rfl⟩) rfl (Or.inr ⟨_, rfl⟩) (by decide) (by decide) dJx4a65c_grow_d5877_10

