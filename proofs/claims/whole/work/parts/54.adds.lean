theorem lsW_congr {G : Gt} {o ed cap mc n : Nat} {el el2 : Nat → Nat} (h : ∀ i, i < n → el i = el2 i) : lsW G o ed cap mc n el = lsW G o ed cap mc n el2 := by
  unfold lsW
  rw [show rowF n el = rowF n el2 from funext fun j => by
    simp only [rowF]
    by_cases q : j < n
    · rw [if_pos q, if_pos q, h j q]
    · rw [if_neg q, if_neg q]]
theorem pmC {α : Type} (M L A B P Z : List α) (c : α) : (L ++ (c :: (M ++ (A ++ (B ++ (P ++ Z)))))).Perm (M ++ (L ++ (A ++ (B ++ ((P ++ [c]) ++ Z))))) := by
  classical
  exact List.perm_iff_count.mpr (fun x => by simp only [List.count_append, List.count_cons, List.count_nil]; omega)
theorem pmD {α : Type} (M A B L P R Z : List α) (c : α) : (L ++ (c :: (M ++ (A ++ (B ++ (P ++ (R ++ Z))))))).Perm (M ++ (A ++ (B ++ (L ++ (P ++ ((R ++ [c]) ++ Z)))))) := by
  classical
  exact List.perm_iff_count.mpr (fun x => by simp only [List.count_append, List.count_cons, List.count_nil]; omega)
theorem pmE {α : Type} (M A L B P R F Z : List α) (c d : α) : (L ++ (d :: c :: (M ++ (A ++ (B ++ (P ++ (R ++ (F ++ Z)))))))).Perm (M ++ (A ++ (L ++ (B ++ (P ++ (R ++ ((F ++ ([c] ++ ([d] ++ []))) ++ Z))))))) := by
  classical
  exact List.perm_iff_count.mpr (fun x => by simp only [List.count_append, List.count_cons, List.count_nil]; omega)
theorem pmF {α : Type} (M A B L P R Z : List α) (c : α) : (L ++ (M ++ (A ++ (B ++ (P ++ ((R ++ [c]) ++ Z)))))).Perm (c :: (M ++ (A ++ (B ++ (L ++ (P ++ (R ++ Z))))))) := by
  classical
  exact List.perm_iff_count.mpr (fun x => by simp only [List.count_append, List.count_cons, List.count_nil]; omega)
theorem pmG {α : Type} (M A B L Z : List α) : (M ++ (A ++ (B ++ (L ++ Z)))).Perm (L ++ (M ++ (A ++ (B ++ Z)))) := by
  classical
  exact List.perm_iff_count.mpr (fun x => by simp only [List.count_append]; omega)
theorem pmH {α : Type} (M A L Z : List α) : (M ++ (A ++ (L ++ Z))).Perm (L ++ (M ++ (A ++ Z))) := by
  classical
  exact List.perm_iff_count.mpr (fun x => by simp only [List.count_append]; omega)
theorem pmI {α : Type} (M L Z : List α) : (M ++ (L ++ Z)).Perm (L ++ (M ++ Z)) := by
  classical
  exact List.perm_iff_count.mpr (fun x => by simp only [List.count_append]; omega)
theorem pmJ {α : Type} {F V P O : List α} {c : α} (h : F.Perm (([c] ++ (V ++ P)) ++ O)) (M A B C D E Y : List α) : (M ++ (A ++ (B ++ (C ++ (D ++ (E ++ (F ++ Y))))))).Perm (V ++ (([c] ++ P) ++ (O ++ (M ++ (A ++ (B ++ (C ++ (D ++ (E ++ Y))))))))) := by
  classical
  refine List.perm_iff_count.mpr (fun x => ?_)
  have h2 := List.perm_iff_count.mp h x
  simp only [List.count_append] at h2 ⊢
  omega
theorem pmK {α : Type} {F V P O : List α} {c d : α} (h : F.Perm (([c] ++ (V ++ (P ++ [d]))) ++ O)) (M A B C D E Y : List α) : (V ++ (d :: (([c] ++ P) ++ (O ++ (M ++ (A ++ (B ++ (C ++ (D ++ (E ++ Y)))))))))).Perm (M ++ (A ++ (B ++ (C ++ (D ++ (E ++ (F ++ Y))))))) := by
  classical
  refine List.perm_iff_count.mpr (fun x => ?_)
  have h2 := List.perm_iff_count.mp h x
  simp only [List.count_append, List.count_cons, List.count_nil] at h2 ⊢
  omega
theorem pmX {α : Type} {w L r : List α} (h : w.Perm (L ++ r)) (c : α) : (c :: w).Perm (L ++ (c :: r)) := (h.cons c).trans List.perm_middle.symm
section XAD
variable {G : Gt} {z f h : Nat → Nat} {ol ob sc wc : Nat} {tk : Int} {e0 k0 m0 e1 k1 m1 e2 k2 m2 lo bi ru : Nat} {la fib gra res lst : Nat → Nat} {byr : Nat → Int} {ra rf ro rs : Nat → Nat} {ba bid wo pri bst rea : Nat → Nat} {rvl pad : Nat → Int} {we wk wm itm ia akf akg : Nat → Nat} {gt : Nat → Int} {Y w : va_W}
theorem cw_addL (hc : w.Perm (CW G z f h ol ob sc wc tk e0 k0 m0 e1 k1 m1 e2 k2 m2 lo bi ru la fib gra res lst byr ra rf ro rs ba bid wo pri bst rea rvl pad we wk wm itm ia akf akg gt Y)) : ∃ r, w.Perm (lsW G (z 1) e0 k0 m0 lo la ++ r) ∧ (∀ i, i < lo → ∃ fs, (la i, .inr (6, fs)) ∈ r) ∧ ∀ q e9 k9 f9 g9 v9 : Nat, (lsW G (z 1) e9 k9 (m0 + 1) (lo + 1) (va_up la lo q) ++ ((q, .inr (6, [.int (nI f9), .int (nI g9), .int (nI v9), .int (nI 111), .int (zI (-1))])) :: r)).Perm (CW G z f h ol ob sc wc tk e9 k9 (m0 + 1) e1 k1 m1 e2 k2 m2 (lo + 1) bi ru (va_up la lo q) (va_up fib lo f9) (va_up gra lo g9) (va_up res lo v9) (va_up lst lo 111) (va_up byr lo (-1)) ra rf ro rs ba bid wo pri bst rea rvl pad we wk wm itm ia akf akg gt Y) := by
  refine ⟨[mkC z f h ol ob sc wc tk] ++ (lsW G (z 2) e1 k1 m1 bi ba ++ (lsW G (z 3) e2 k2 m2 ru ra ++ (pool lo (lotC la fib gra res lst byr) ++ (pool ru (rulC ra rf ro rs) ++ (fpl bi (bidG G ba bid wo pri bst rea rvl pad we wk wm itm ia akf akg gt) ++ Y))))), hc.trans ?_, fun i hi => ?_, fun q e9 k9 f9 g9 v9 => ?_⟩
  · exact pmI _ _ _
  · exact ⟨_, List.mem_append_right _ (List.mem_append_right _ (List.mem_append_right _ (List.mem_append_left _ (pool_mem (f := lotC la fib gra res lst byr) hi))))⟩
  · refine (pmC _ _ _ _ _ _ _).trans ?_
    unfold CW
    rw [pool_succ, pool_congr (f := lotC (va_up la lo q) (va_up fib lo f9) (va_up gra lo g9) (va_up res lo v9) (va_up lst lo 111) (va_up byr lo (-1))) (g := lotC la fib gra res lst byr) (fun j hj => by simp only [lotC, va_up_ne _ _ (Nat.ne_of_lt hj)])]
    simp only [lotC, va_up_self]
    exact List.Perm.refl _
theorem cw_addR (hc : w.Perm (CW G z f h ol ob sc wc tk e0 k0 m0 e1 k1 m1 e2 k2 m2 lo bi ru la fib gra res lst byr ra rf ro rs ba bid wo pri bst rea rvl pad we wk wm itm ia akf akg gt Y)) : ∃ r, w.Perm (lsW G (z 3) e2 k2 m2 ru ra ++ r) ∧ (∀ i, i < ru → ∃ fs, (ra i, .inr (7, fs)) ∈ r) ∧ ∀ q e9 k9 f9 g9 v9 : Nat, (lsW G (z 3) e9 k9 (m2 + 1) (ru + 1) (va_up ra ru q) ++ ((q, .inr (7, [.int (nI f9), .int (nI g9), .int (nI v9)])) :: r)).Perm (CW G z f h ol ob sc wc tk e0 k0 m0 e1 k1 m1 e9 k9 (m2 + 1) lo bi (ru + 1) la fib gra res lst byr (va_up ra ru q) (va_up rf ru f9) (va_up ro ru g9) (va_up rs ru v9) ba bid wo pri bst rea rvl pad we wk wm itm ia akf akg gt Y) := by
  refine ⟨[mkC z f h ol ob sc wc tk] ++ (lsW G (z 1) e0 k0 m0 lo la ++ (lsW G (z 2) e1 k1 m1 bi ba ++ (pool lo (lotC la fib gra res lst byr) ++ (pool ru (rulC ra rf ro rs) ++ (fpl bi (bidG G ba bid wo pri bst rea rvl pad we wk wm itm ia akf akg gt) ++ Y))))), hc.trans ?_, fun i hi => ?_, fun q e9 k9 f9 g9 v9 => ?_⟩
  · exact pmG _ _ _ _ _
  · exact ⟨_, List.mem_append_right _ (List.mem_append_right _ (List.mem_append_right _ (List.mem_append_right _ (List.mem_append_left _ (pool_mem (f := rulC ra rf ro rs) hi)))))⟩
  · refine (pmD _ _ _ _ _ _ _ _).trans ?_
    unfold CW
    rw [pool_succ, pool_congr (f := rulC (va_up ra ru q) (va_up rf ru f9) (va_up ro ru g9) (va_up rs ru v9)) (g := rulC ra rf ro rs) (fun j hj => by simp only [rulC, va_up_ne _ _ (Nat.ne_of_lt hj)])]
    simp only [rulC, va_up_self]
    exact List.Perm.refl _
theorem cw_popR (hc : w.Perm (CW G z f h ol ob sc wc tk e0 k0 m0 e1 k1 m1 e2 k2 m2 lo bi ru la fib gra res lst byr ra rf ro rs ba bid wo pri bst rea rvl pad we wk wm itm ia akf akg gt Y)) (h0 : 0 < ru) : ∃ r, w.Perm (lsW G (z 3) e2 k2 m2 ru ra ++ r) ∧ ∃ x, (lsW G (z 3) e2 k2 (m2 + 1) (ru - 1) ra ++ r).Perm (x :: CW G z f h ol ob sc wc tk e0 k0 m0 e1 k1 m1 e2 k2 (m2 + 1) lo bi (ru - 1) la fib gra res lst byr ra rf ro rs ba bid wo pri bst rea rvl pad we wk wm itm ia akf akg gt Y) := by
  obtain ⟨n, rfl⟩ : ∃ n, ru = n + 1 := ⟨ru - 1, by omega⟩
  refine ⟨[mkC z f h ol ob sc wc tk] ++ (lsW G (z 1) e0 k0 m0 lo la ++ (lsW G (z 2) e1 k1 m1 bi ba ++ (pool lo (lotC la fib gra res lst byr) ++ (pool (n + 1) (rulC ra rf ro rs) ++ (fpl bi (bidG G ba bid wo pri bst rea rvl pad we wk wm itm ia akf akg gt) ++ Y))))), hc.trans ?_, rulC ra rf ro rs n, ?_⟩
  · exact pmG _ _ _ _ _
  · rw [pool_succ, Nat.add_sub_cancel]
    exact pmF _ _ _ _ _ _ _ _
theorem bidG_new {q q9 d9 p9 : Nat} : bidG G (va_up ba bi q) (va_up bid bi d9) (va_up wo bi q9) (va_up pri bi p9) (va_up bst bi 111) (va_up rea bi 109) (va_up rvl bi (-1)) (va_up pad bi 0) (va_up we bi (G.2.2 0)) (va_up wk bi 0) (va_up wm bi 0) (va_up itm bi 0) ia akf akg gt bi = [(q, .inr (3, [.int (nI d9), .ref q9, .int (nI p9), .int (nI 111), .int (nI 109), .int (zI (-1)), .int (zI 0)]))] ++ ([(q9, .inr (2, [.int (nI 0), .ref (G.2.2 0), .int (nI 0)]))] ++ []) := by
  simp only [bidG, wlW, bidC, va_up_self]
  rfl
theorem bidG_old {q q9 d9 p9 j : Nat} (hj : j < bi) : bidG G (va_up ba bi q) (va_up bid bi d9) (va_up wo bi q9) (va_up pri bi p9) (va_up bst bi 111) (va_up rea bi 109) (va_up rvl bi (-1)) (va_up pad bi 0) (va_up we bi (G.2.2 0)) (va_up wk bi 0) (va_up wm bi 0) (va_up itm bi 0) ia akf akg gt j = bidG G ba bid wo pri bst rea rvl pad we wk wm itm ia akf akg gt j := by
  have := Nat.ne_of_lt hj
  simp only [bidG, wlW, bidC, va_up_ne _ _ this]
theorem cw_addB (hc : w.Perm (CW G z f h ol ob sc wc tk e0 k0 m0 e1 k1 m1 e2 k2 m2 lo bi ru la fib gra res lst byr ra rf ro rs ba bid wo pri bst rea rvl pad we wk wm itm ia akf akg gt Y)) : ∃ r, w.Perm (lsW G (z 2) e1 k1 m1 bi ba ++ r) ∧ (∀ i, i < bi → ∃ fs, (ba i, .inr (3, fs)) ∈ r) ∧ ∀ q q9 e9 k9 d9 p9 : Nat, (lsW G (z 2) e9 k9 (m1 + 1) (bi + 1) (va_up ba bi q) ++ ((q9, .inr (2, [.int (nI 0), .ref (G.2.2 0), .int (nI 0)])) :: (q, .inr (3, [.int (nI d9), .ref q9, .int (nI p9), .int (nI 111), .int (nI 109), .int (zI (-1)), .int (zI 0)])) :: r)).Perm (CW G z f h ol ob sc wc tk e0 k0 m0 e9 k9 (m1 + 1) e2 k2 m2 lo (bi + 1) ru la fib gra res lst byr ra rf ro rs (va_up ba bi q) (va_up bid bi d9) (va_up wo bi q9) (va_up pri bi p9) (va_up bst bi 111) (va_up rea bi 109) (va_up rvl bi (-1)) (va_up pad bi 0) (va_up we bi (G.2.2 0)) (va_up wk bi 0) (va_up wm bi 0) (va_up itm bi 0) ia akf akg gt Y) := by
  refine ⟨[mkC z f h ol ob sc wc tk] ++ (lsW G (z 1) e0 k0 m0 lo la ++ (lsW G (z 3) e2 k2 m2 ru ra ++ (pool lo (lotC la fib gra res lst byr) ++ (pool ru (rulC ra rf ro rs) ++ (fpl bi (bidG G ba bid wo pri bst rea rvl pad we wk wm itm ia akf akg gt) ++ Y))))), hc.trans ?_, fun i hi => ?_, fun q q9 e9 k9 d9 p9 => ?_⟩
  · exact pmH _ _ _ _
  · exact ⟨_, List.mem_append_right _ (List.mem_append_right _ (List.mem_append_right _ (List.mem_append_right _ (List.mem_append_right _ (List.mem_append_left _ (fpl_mem (f := bidG G ba bid wo pri bst rea rvl pad we wk wm itm ia akf akg gt) hi (List.mem_append_left _ List.mem_cons_self))))))) ⟩
  · refine (pmE _ _ _ _ _ _ _ _ _ _).trans ?_
    unfold CW
    rw [fpl_succ, bidG_new, fpl_congr (fun j hj => bidG_old hj)]
theorem bidG_oth {b j q e9 k9 f9 g9 : Nat} (hi3 : ∀ k, itm k ≤ 3) (hb3 : itm b < 3) (hj : j ≠ b) : bidG G ba bid wo pri bst rea rvl pad (va_up we b e9) (va_up wk b k9) (va_up wm b (wm b + 1)) (va_up itm b (itm b + 1)) (va_up ia (3 * b + itm b) q) (va_up akf (3 * b + itm b) f9) (va_up akg (3 * b + itm b) g9) (va_up gt (3 * b + itm b) (-1)) j = bidG G ba bid wo pri bst rea rvl pad we wk wm itm ia akf akg gt j := by
  have h1 := hi3 j
  unfold bidG wlW
  rw [va_up_ne _ _ hj, va_up_ne _ _ hj, va_up_ne _ _ hj, va_up_ne _ _ hj]
  rw [lsW_congr (el := fun k => va_up ia (3 * b + itm b) q (3 * j + k)) (el2 := fun k => ia (3 * j + k)) (fun k hk => va_up_ne _ _ (show 3 * j + k ≠ (3 * b + itm b) by omega))]
  rw [pool_congr (f := fun k => itmC (va_up ia (3 * b + itm b) q) (va_up akf (3 * b + itm b) f9) (va_up akg (3 * b + itm b) g9) (va_up gt (3 * b + itm b) (-1)) (3 * j + k)) (g := fun k => itmC ia akf akg gt (3 * j + k)) (fun k hk => by simp only [itmC, va_up_ne _ _ (show 3 * j + k ≠ (3 * b + itm b) by omega)])]
theorem bidG_one {b q e9 k9 f9 g9 : Nat} : bidG G ba bid wo pri bst rea rvl pad (va_up we b e9) (va_up wk b k9) (va_up wm b (wm b + 1)) (va_up itm b (itm b + 1)) (va_up ia (3 * b + itm b) q) (va_up akf (3 * b + itm b) f9) (va_up akg (3 * b + itm b) g9) (va_up gt (3 * b + itm b) (-1)) b = [bidC ba bid wo pri bst rea rvl pad b] ++ (lsW G (wo b) e9 k9 (wm b + 1) (itm b + 1) (va_up (fun j => ia (3 * b + j)) (itm b) q) ++ (pool (itm b) (fun j => itmC ia akf akg gt (3 * b + j)) ++ [(q, .inr (5, [.int (nI f9), .int (nI g9), .int (zI (-1))]))])) := by
  unfold bidG wlW
  rw [va_up_self, va_up_self, va_up_self, va_up_self, pool_succ]
  rw [lsW_congr (el := fun k => va_up ia (3 * b + itm b) q (3 * b + k)) (el2 := va_up (fun j => ia (3 * b + j)) (itm b) q) (fun k hk => by
    by_cases h : k = itm b
    · subst h; rw [va_up_self, va_up_self]
    · rw [va_up_ne _ _ h, va_up_ne _ _ (show 3 * b + k ≠ (3 * b + itm b) by omega)])]
  rw [pool_congr (f := fun k => itmC (va_up ia (3 * b + itm b) q) (va_up akf (3 * b + itm b) f9) (va_up akg (3 * b + itm b) g9) (va_up gt (3 * b + itm b) (-1)) (3 * b + k)) (g := fun k => itmC ia akf akg gt (3 * b + k)) (fun k hk => by simp only [itmC, va_up_ne _ _ (show 3 * b + k ≠ (3 * b + itm b) by omega)])]
  simp only [itmC, va_up_self, bidC]
theorem cw_addI (hc : w.Perm (CW G z f h ol ob sc wc tk e0 k0 m0 e1 k1 m1 e2 k2 m2 lo bi ru la fib gra res lst byr ra rf ro rs ba bid wo pri bst rea rvl pad we wk wm itm ia akf akg gt Y)) {b : Nat} (hb : b < bi) (hi3 : ∀ k, itm k ≤ 3) (hb3 : itm b < 3) : ∃ r, w.Perm (wlW G wo we wk wm itm ia b ++ r) ∧ (∀ i, i < itm b → ∃ fs, (ia (3 * b + i), .inr (5, fs)) ∈ r) ∧ ∀ q e9 k9 f9 g9 : Nat, (lsW G (wo b) e9 k9 (wm b + 1) (itm b + 1) (va_up (fun j => ia (3 * b + j)) (itm b) q) ++ ((q, .inr (5, [.int (nI f9), .int (nI g9), .int (zI (-1))])) :: r)).Perm (CW G z f h ol ob sc wc tk e0 k0 m0 e1 k1 m1 e2 k2 m2 lo bi ru la fib gra res lst byr ra rf ro rs ba bid wo pri bst rea rvl pad (va_up we b e9) (va_up wk b k9) (va_up wm b (wm b + 1)) (va_up itm b (itm b + 1)) (va_up ia (3 * b + itm b) q) (va_up akf (3 * b + itm b) f9) (va_up akg (3 * b + itm b) g9) (va_up gt (3 * b + itm b) (-1)) Y) := by
  refine ⟨([bidC ba bid wo pri bst rea rvl pad b] ++ pool (itm b) (fun j => itmC ia akf akg gt (3 * b + j))) ++ (fpo bi b (bidG G ba bid wo pri bst rea rvl pad we wk wm itm ia akf akg gt) ++ ([mkC z f h ol ob sc wc tk] ++ (lsW G (z 1) e0 k0 m0 lo la ++ (lsW G (z 2) e1 k1 m1 bi ba ++ (lsW G (z 3) e2 k2 m2 ru ra ++ (pool lo (lotC la fib gra res lst byr) ++ (pool ru (rulC ra rf ro rs) ++ Y))))))), hc.trans ?_, fun i hi => ?_, fun q e9 k9 f9 g9 => ?_⟩
  · exact pmJ (fpl_at (bidG G ba bid wo pri bst rea rvl pad we wk wm itm ia akf akg gt) hb) _ _ _ _ _ _ _
  · exact ⟨_, List.mem_append_left _ (List.mem_append_right _ (pool_mem (f := fun j => itmC ia akf akg gt (3 * b + j)) hi))⟩
  · have h1 := fpl_at (bidG G ba bid wo pri bst rea rvl pad (va_up we b e9) (va_up wk b k9) (va_up wm b (wm b + 1)) (va_up itm b (itm b + 1)) (va_up ia (3 * b + itm b) q) (va_up akf (3 * b + itm b) f9) (va_up akg (3 * b + itm b) g9) (va_up gt (3 * b + itm b) (-1))) hb
    rw [bidG_one, ← fpo_congr (f := bidG G ba bid wo pri bst rea rvl pad we wk wm itm ia akf akg gt) (g := bidG G ba bid wo pri bst rea rvl pad (va_up we b e9) (va_up wk b k9) (va_up wm b (wm b + 1)) (va_up itm b (itm b + 1)) (va_up ia (3 * b + itm b) q) (va_up akf (3 * b + itm b) f9) (va_up akg (3 * b + itm b) g9) (va_up gt (3 * b + itm b) (-1))) (fun j _ hj => (bidG_oth hi3 hb3 hj).symm)] at h1
    exact pmK h1 _ _ _ _ _ _ _
end XAD
