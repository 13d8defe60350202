theorem st_perm {α : Type} (A0 A1 A2 A3 : α) (F S O : List α) : List.Perm ((S ++ (F ++ ([A3] ++ ([A2] ++ ([A1] ++ ([A0] ++ [])))))) ++ O) ([A0] ++ ([A1] ++ ([A2] ++ ([A3] ++ (F ++ (S ++ O)))))) := by
  classical
  rw [List.perm_iff_count]
  intro x
  simp only [List.count_append, List.count_nil, Nat.add_zero]
  omega
set_option maxRecDepth 100000 in
set_option maxHeartbeats 4000000 in
theorem li_start {G : Gt} {o q1 q2 q3 o7 o1 o2 : Nat} {f h a : Nat → Nat} {w : va_W} (ha : a 0 = o7) (hp : w.Perm (mW G a 0 0 0 0 0 0 0 (fun _ => 0) (fun _ => 0) (fun _ => 0) (fun _ => 0) (fun _ => 0) (fun _ => 0) (fun _ => 0) (fun _ => 0) (fun _ => 0) (fun _ => 0) (fun _ => 0) (fun _ => 0) (fun _ => 0) (fun _ => 0) (fun _ => 0) (fun _ => 0) (fun _ => 0) (fun _ => 0) (fun _ => 0) (fun _ => 0) (fun _ => 0) (fun _ => 0) (fun _ => 0) (fun _ => 0) (fun _ => 0) (fun _ => 0) ++ ((sW G h 0 0 (fun _ => 0) (fun _ => 0) (fun _ => 0) ++ (fW G f 0 0 0 (fun _ => 0) (fun _ => 0) (fun _ => 0) (fun _ => 0) (fun _ => 0) (fun _ => 0) (fun _ => 0) (fun _ => 0) (fun _ => 0) (fun _ => 0) (fun _ => 0) ++ ([(q3, .inr (2, [.int (nI 0), .ref (G.2.2 0), .int (nI 0)]))] ++ ([(q2, .inr (2, [.int (nI 0), .ref (G.2.2 0), .int (nI 0)]))] ++ ([(q1, .inr (2, [.int (nI 0), .ref (G.2.2 0), .int (nI 0)]))] ++ ([(o, .inr (9, [.ref q1, .ref q2, .ref q3, .ref (f 0), .ref (h 0), .int (nI 0), .int (nI 0), .int (nI 0), .int (nI 0), .long (lZ 0)]))] ++ [])))))) ++ [outL G o1 (fun _ => 0), outD G o2 (fun _ => 0)]))) :
    LI G (fun k => if k = 0 then o else if k = 1 then q1 else if k = 2 then q2 else q3) f h a o1 o2 w := by
  refine ⟨0, fun _ => 0, fun _ => 0, 0, 0, 0, 0, 0, 0, fun _ => 0, fun _ => 0, fun _ => 0, fun _ => 0, fun _ => 0, fun _ => 0, fun _ => 0, fun _ => 0, fun _ => 0, fun _ => 0, fun _ => 0, fun _ => 0, fun _ => 0, fun _ => 0, fun _ => 0, fun _ => 0, fun _ => 0, fun _ => 0, fun _ => 0, fun _ => 0, fun _ => 0, fun _ => 0, fun _ => 0, fun _ => 0, fun _ => 0, fun _ => 0, 0, 0, fun _ => 0, fun _ => 0, fun _ => 0, fun _ => 0, fun _ => 0, _, ?_, ?_, ?_, ?_, hp⟩
  · exact ⟨by first | omega | (dsimp only; omega) | simp, by first | omega | (dsimp only; omega) | simp, by first | omega | (dsimp only; omega) | simp, by first | omega | (dsimp only; omega) | simp, by first | omega | (dsimp only; omega) | simp, fun _ => by first | omega | (dsimp only; omega) | simp, fun _ => by first | omega | (dsimp only; omega) | simp, fun _ => by first | omega | (dsimp only; omega) | simp, fun _ => by first | omega | (dsimp only; omega) | simp, fun _ => by first | omega | (dsimp only; omega) | simp, fun _ => by first | omega | (dsimp only; omega) | simp, fun _ => by first | omega | (dsimp only; omega) | simp, fun _ => by first | omega | (dsimp only; omega) | simp, fun _ => by first | omega | (dsimp only; omega) | simp, fun _ => by first | omega | (dsimp only; omega) | simp, fun _ => by first | omega | (dsimp only; omega) | simp, fun _ => by first | omega | (dsimp only; omega) | simp, fun _ => by first | omega | (dsimp only; omega) | simp, fun _ => by first | omega | (dsimp only; omega) | simp, fun _ => by first | omega | (dsimp only; omega) | simp, fun _ => by first | omega | (dsimp only; omega) | simp, fun _ => by first | omega | (dsimp only; omega) | simp, fun _ => ⟨by first | omega | (dsimp only; omega) | simp, by first | omega | (dsimp only; omega) | simp⟩, rfl, rfl⟩
  · exact ⟨fun _ => by first | omega | (dsimp only; omega) | simp, fun _ => by first | omega | (dsimp only; omega) | simp, fun _ => by first | omega | (dsimp only; omega) | simp, fun _ => by first | omega | (dsimp only; omega) | simp, fun _ => by first | omega | (dsimp only; omega) | simp, fun _ => by first | omega | (dsimp only; omega) | simp, fun _ => by first | omega | (dsimp only; omega) | simp⟩
  · exact ⟨fun _ => by first | omega | (dsimp only; omega) | simp, fun i hi => absurd hi (Nat.not_lt_zero i), fun i hi => absurd hi (Nat.not_lt_zero i), fun i hi => absurd hi (Nat.not_lt_zero i), fun i hi => absurd hi (Nat.not_lt_zero i), rfl, rfl⟩
  · refine ⟨0, 0, 0, fun _ => 0, fun _ => 0, fun _ => 0, fun _ => 0, fun _ => 0, fun _ => 0, fun _ => 0, fun _ => 0, fun _ => 0, fun _ => 0, fun _ => 0, 0, 0, fun _ => 0, fun _ => 0, fun _ => 0, ?_, G.2.2 0, 0, 0, G.2.2 0, 0, 0, G.2.2 0, 0, 0, fun _ => 0, fun _ => 0, fun _ => 0, fun _ => 0, fun _ => 0, fun _ => 0, fun _ => 0, fun _ => 0, ?_, ?_, ?_, fun b hb => absurd hb (Nat.not_lt_zero b), ?_⟩
    · exact ⟨by first | omega | (dsimp only; omega) | simp, by first | omega | (dsimp only; omega) | simp, by first | omega | (dsimp only; omega) | simp, fun _ => by first | omega | (dsimp only; omega) | simp, fun _ => by first | omega | (dsimp only; omega) | simp, fun m hm => rfl, fun _ => by first | omega | (dsimp only; omega) | simp, fun _ => by first | omega | (dsimp only; omega) | simp, fun _ => by first | omega | (dsimp only; omega) | simp, fun _ => by first | omega | (dsimp only; omega) | simp, fun _ => by first | omega | (dsimp only; omega) | simp, fun _ => by first | omega | (dsimp only; omega) | simp, fun _ => by first | omega | (dsimp only; omega) | simp, fun _ => ⟨by first | omega | (dsimp only; omega) | simp, by first | omega | (dsimp only; omega) | simp⟩, fun _ => by first | omega | (dsimp only; omega) | simp, fun _ => by first | omega | (dsimp only; omega) | simp⟩
    · exact ⟨Nat.le_refl _, by first | omega | (dsimp only; omega) | simp, fun _ => rfl⟩
    · exact ⟨Nat.le_refl _, by first | omega | (dsimp only; omega) | simp, fun _ => rfl⟩
    · exact ⟨Nat.le_refl _, by first | omega | (dsimp only; omega) | simp, fun _ => rfl⟩
    · show List.Perm _ ([(o, .inr (9, [.ref q1, .ref q2, .ref q3, .ref (f 0), .ref (h 0), .int (nI 0), .int (nI 0), .int (nI 0), .int (nI 0), .long (lZ 0)]))] ++ ([(q1, .inr (2, [.int (nI 0), .ref (G.2.2 0), .int (nI 0)]))] ++ ([(q2, .inr (2, [.int (nI 0), .ref (G.2.2 0), .int (nI 0)]))] ++ ([(q3, .inr (2, [.int (nI 0), .ref (G.2.2 0), .int (nI 0)]))] ++ (fW G f 0 0 0 (fun _ => 0) (fun _ => 0) (fun _ => 0) (fun _ => 0) (fun _ => 0) (fun _ => 0) (fun _ => 0) (fun _ => 0) (fun _ => 0) (fun _ => 0) (fun _ => 0) ++ (sW G h 0 0 (fun _ => 0) (fun _ => 0) (fun _ => 0) ++ [outL G o1 (fun _ => 0), outD G o2 (fun _ => 0)]))))))
      generalize (o, (Sum.inr (9, [.ref q1, .ref q2, .ref q3, .ref (f 0), .ref (h 0), .int (nI 0), .int (nI 0), .int (nI 0), .int (nI 0), .long (lZ 0)]) : va_E)) = A0
      generalize (q1, (Sum.inr (2, [.int (nI 0), .ref (G.2.2 0), .int (nI 0)]) : va_E)) = A1
      generalize (q2, (Sum.inr (2, [.int (nI 0), .ref (G.2.2 0), .int (nI 0)]) : va_E)) = A2
      generalize (q3, (Sum.inr (2, [.int (nI 0), .ref (G.2.2 0), .int (nI 0)]) : va_E)) = A3
      generalize fW G f 0 0 0 (fun _ => 0) (fun _ => 0) (fun _ => 0) (fun _ => 0) (fun _ => 0) (fun _ => 0) (fun _ => 0) (fun _ => 0) (fun _ => 0) (fun _ => 0) (fun _ => 0) = F
      generalize sW G h 0 0 (fun _ => 0) (fun _ => 0) (fun _ => 0) = S
      generalize [outL G o1 (fun _ => 0), outD G o2 (fun _ => 0)] = O
      exact st_perm A0 A1 A2 A3 F S O
set_option maxRecDepth 100000 in
set_option maxHeartbeats 4000000 in
theorem whole_start {p : Program} {e : Env} {s : State} {m : MethodId} {below : List Frame} {meth : Method} {c : Code} (l : Launch) (hflags : l.flags = flags0) {b L : Nat} {xs : Nat → Int32} (hL : L ≤ 2048) (C0 : lw_At p s m meth c b L xs) : W p l e room_1 s m #[Value.ref b] below meth c s.heap [] 0 0 (lw_Z below #[Value.ref b] s) (entryFrame m ([Value.ref b] : List Value).toArray 9) := by
  obtain ⟨G, X⟩ := st_cx C0
  obtain ⟨hx, hb, hr, hml, hown, hts, hX, hbl, hlocks, hgv⟩ := C0
  have hl9 : l.stackTraces = false := by
    unfold Launch.stackTraces
    rw [hflags]
    decide +kernel
  have hbA : ¬ (fun q : Nat => s.heap.size ≤ q) b := fun q => absurd hbl (Nat.not_lt.mpr q)
  have hl := lv_entry ([.ref b]) (n := 9) (Nat.le_of_ble_eq_true rfl)
  rw [lg_entry_eq]
  generalize (lg_sl ([.ref b]) ++ List.replicate (9 - (lg_sl ([.ref b])).length) Slot.unset).toArray = ls at hl ⊢
  have hl : lv_has ls 9 [(0, .ref b)] := hl
  have hW : Wd G (fun q => s.heap.size ≤ q) s [] s.heap [] := ⟨fun k q h => by simp at h, ⟨fun i j p q h => by simp at h, fun k q h => by simp at h⟩, va_S.rf⟩
  refine x_newO X hW (ci := 9) (fs := [.null, .null, .null, .null, .null, .int (nI 0), .int (nI 0), .int (nI 0), .int (nI 0), .long (lZ 0)]) (ty0 := tyX6) rfl iwX6 tyX6_ok wq_90 wq_91 wq_61 (fun j hj => by rcases (show j = 0 ∨ j = 1 ∨ j = 2 ∨ j = 3 ∨ j = 4 ∨ j = 5 ∨ j = 6 ∨ j = 7 ∨ j = 8 ∨ j = 9 by omega) with rfl | rfl | rfl | rfl | rfl | rfl | rfl | rfl | rfl | rfl <;> rfl) (Nat.le_of_ble_eq_true rfl) (Nat.le_of_ble_eq_true rfl) dL_law_0 (fun o H hW => ?_)
  refine lv_dup hx hb dL_law_3 rfl ?_
  refine go_v X hW (run_I X hW (As := []) (rest := [.ref o]) (c_X6_init l G o [] _) wq_92 wq_93 wq_61 wq_94 rfl hyX6_init rfl rfl hl.1 (Nat.le_of_ble_eq_true rfl) ⟨Nat.le_of_ble_eq_true rfl, Nat.le_of_ble_eq_true rfl⟩ ⟨Nat.le_of_ble_eq_true rfl, Nat.le_of_ble_eq_true rfl⟩ dL_law_4) (fun w2 H locs hp hW => ?_)
  obtain ⟨q1, q2, q3, f, h, e2⟩ := hp
  subst e2
  refine lv_astore_n (lv' := [(1, .ref o), (0, .ref b)]) hx hb dL_law_7 rfl hl (by decide) rfl (fun ls hl => ?_)
  refine x_newO X hW (ci := 10) (fs := [.int (nI 0), .int (nI 0), .int (nI 0), .int (nI 0), .int (nI 0), .int (nI 0), .long (lZ 0), .null, .null, .null, .null, .null, .null, .null, .null, .null, .null, .null, .null, .null, .null, .null, .null, .null, .null, .null, .null, .null, .null, .null, .null, .null, .null]) (ty0 := tyX7) rfl iwX7 tyX7_ok wq_1074 wq_1075 wq_67 (fun j hj => by rcases (show j = 0 ∨ j = 1 ∨ j = 2 ∨ j = 3 ∨ j = 4 ∨ j = 5 ∨ j = 6 ∨ j = 7 ∨ j = 8 ∨ j = 9 ∨ j = 10 ∨ j = 11 ∨ j = 12 ∨ j = 13 ∨ j = 14 ∨ j = 15 ∨ j = 16 ∨ j = 17 ∨ j = 18 ∨ j = 19 ∨ j = 20 ∨ j = 21 ∨ j = 22 ∨ j = 23 ∨ j = 24 ∨ j = 25 ∨ j = 26 ∨ j = 27 ∨ j = 28 ∨ j = 29 ∨ j = 30 ∨ j = 31 ∨ j = 32 by omega) with rfl | rfl | rfl | rfl | rfl | rfl | rfl | rfl | rfl | rfl | rfl | rfl | rfl | rfl | rfl | rfl | rfl | rfl | rfl | rfl | rfl | rfl | rfl | rfl | rfl | rfl | rfl | rfl | rfl | rfl | rfl | rfl | rfl <;> rfl) (Nat.le_of_ble_eq_true rfl) (Nat.le_of_ble_eq_true rfl) dL_law_8 (fun o7 H hW => ?_)
  refine lv_dup hx hb dL_law_11 rfl ?_
  refine go_v X hW (run_I X hW (As := []) (rest := [.ref o7]) (c_X7_init l G o7 (sW G h 0 0 (fun _ => 0) (fun _ => 0) (fun _ => 0) ++ (fW G f 0 0 0 (fun _ => 0) (fun _ => 0) (fun _ => 0) (fun _ => 0) (fun _ => 0) (fun _ => 0) (fun _ => 0) (fun _ => 0) (fun _ => 0) (fun _ => 0) (fun _ => 0) ++ ([(q3, .inr (2, [.int (nI 0), .ref (G.2.2 0), .int (nI 0)]))] ++ ([(q2, .inr (2, [.int (nI 0), .ref (G.2.2 0), .int (nI 0)]))] ++ ([(q1, .inr (2, [.int (nI 0), .ref (G.2.2 0), .int (nI 0)]))] ++ ([(o, .inr (9, [.ref q1, .ref q2, .ref q3, .ref (f 0), .ref (h 0), .int (nI 0), .int (nI 0), .int (nI 0), .int (nI 0), .long (lZ 0)]))] ++ [])))))) _) wq_1076 wq_1077 wq_67 wq_1078 rfl hyX7_init rfl rfl hl.1 (Nat.le_of_ble_eq_true rfl) ⟨Nat.le_of_ble_eq_true rfl, Nat.le_of_ble_eq_true rfl⟩ ⟨Nat.le_of_ble_eq_true rfl, Nat.le_of_ble_eq_true rfl⟩ dL_law_12) (fun w3 H locs hp hW => ?_)
  obtain ⟨a, ha, e3⟩ := hp
  subst e3
  have hW : Wd G (fun q => s.heap.size ≤ q) s (mW G a 0 0 0 0 0 0 0 (fun _ => 0) (fun _ => 0) (fun _ => 0) (fun _ => 0) (fun _ => 0) (fun _ => 0) (fun _ => 0) (fun _ => 0) (fun _ => 0) (fun _ => 0) (fun _ => 0) (fun _ => 0) (fun _ => 0) (fun _ => 0) (fun _ => 0) (fun _ => 0) (fun _ => 0) (fun _ => 0) (fun _ => 0) (fun _ => 0) (fun _ => 0) (fun _ => 0) (fun _ => 0) (fun _ => 0) (fun _ => 0) (fun _ => 0) ++ (sW G h 0 0 (fun _ => 0) (fun _ => 0) (fun _ => 0) ++ (fW G f 0 0 0 (fun _ => 0) (fun _ => 0) (fun _ => 0) (fun _ => 0) (fun _ => 0) (fun _ => 0) (fun _ => 0) (fun _ => 0) (fun _ => 0) (fun _ => 0) (fun _ => 0) ++ ([(q3, .inr (2, [.int (nI 0), .ref (G.2.2 0), .int (nI 0)]))] ++ ([(q2, .inr (2, [.int (nI 0), .ref (G.2.2 0), .int (nI 0)]))] ++ ([(q1, .inr (2, [.int (nI 0), .ref (G.2.2 0), .int (nI 0)]))] ++ ([(o, .inr (9, [.ref q1, .ref q2, .ref q3, .ref (f 0), .ref (h 0), .int (nI 0), .int (nI 0), .int (nI 0), .int (nI 0), .long (lZ 0)]))] ++ []))))))) H locs := hW
  refine lv_astore_n (lv' := [(2, .ref o7), (1, .ref o), (0, .ref b)]) hx hb dL_law_15 rfl hl (by decide) rfl (fun ls hl => ?_)
  refine lv_iconst (v := nI 1) hx hb dL_law_16 (by decide) ?_
  refine x_newL X hW (Nat.le_of_ble_eq_true rfl) (Nat.le_of_ble_eq_true rfl) dL_law_17 (fun o1 H hW => ?_)
  refine lv_astore_n (lv' := [(3, .ref o1), (2, .ref o7), (1, .ref o), (0, .ref b)]) hx hb dL_law_19 rfl hl (by decide) rfl (fun ls hl => ?_)
  refine lv_iconst (v := nI 1) hx hb dL_law_20 (by decide) ?_
  refine x_newD X hW (Nat.le_of_ble_eq_true rfl) (Nat.le_of_ble_eq_true rfl) dL_law_21 (fun o2 H hW => ?_)
  refine lv_astore (lv' := [(4, .ref o2), (3, .ref o1), (2, .ref o7), (1, .ref o), (0, .ref b)]) hx hb dL_law_23 hl (by decide) rfl (fun ls hl => ?_)
  refine lv_iconst (v := nI 0) hx hb dL_law_25 (by decide) ?_
  refine lv_istore (lv' := [(5, .int (nI 0)), (4, .ref o2), (3, .ref o1), (2, .ref o7), (1, .ref o), (0, .ref b)]) hx hb dL_law_26 hl (by decide) rfl (fun ls hl => ?_)
  have hp9 : ∀ M Z : va_W, ((M ++ Z) ++ [outL G o1 (fun _ => 0)] ++ [outD G o2 (fun _ => 0)]).Perm (M ++ (Z ++ [outL G o1 (fun _ => 0), outD G o2 (fun _ => 0)])) := fun M Z => by
    rw [List.append_assoc, List.append_assoc]
    exact List.Perm.refl _
  have hLI := li_start ha (hp9 _ _) (G := G) (o := o) (q1 := q1) (q2 := q2) (q3 := q3) (f := f) (h := h) (a := a) (o1 := o1) (o2 := o2)
  have hl : lv_has ls 9 (LV6 b o (a 0) o1 o2 0) := has_sub hl (fun x hx => by
    rw [ha] at hx
    simp only [List.mem_cons, List.not_mem_nil, or_false] at hx ⊢
    rcases hx with h | h | h | h | h | h <;> simp [h])
  refine law_loop (z := fun k => if k = 0 then o else if k = 1 then q1 else if k = 2 then q2 else q3) (f := f) (h := h) (a := a) (o1 := o1) (o2 := o2) hl9 X hX hbl hbA hL (fun w H locs ls hW => ?_) 512 0 _ H locs ls _ _ (by omega) (by omega) (Nat.le_of_ble_eq_true rfl) (Nat.le_of_ble_eq_true rfl) hLI hW hl
  refine lv_iconst (v := 1) hx hb dL_law_2296 (by decide) ?_
  refine va_forget (fun q hq => hW.2.2.2.2 q hq) ?_
  exact lw_ret (d0 := s.drawn) (Drawn.sameBut.refl s.drawn lw_cs) hx hb hr hlocks dL_law_2297
