theorem up_eq {α : Type} (g : Nat → α) (k : Nat) (x : α) : va_up g k x k = x := by unfold va_up; rw [if_pos rfl]
/-- the best of the sets below n, with its surplus: by C the cost, by V the surplus -/
def gS (C V : Nat → Int) (n : Nat) : Nat × Int := match n with
  | 0 => (0, -1)
  | n + 1 => if C n ≠ -1 ∧ ((gS C V n).2 < V n ∨ (V n = (gS C V n).2 ∧ ahd n (gS C V n).1 = true)) then (n, V n) else gS C V n
theorem gS_rng {C V : Nat → Int} (h : ∀ t, -2000000 ≤ V t ∧ V t ≤ 2000000) (n : Nat) : (gS C V n).1 ≤ n ∧ -2000000 ≤ (gS C V n).2 ∧ (gS C V n).2 ≤ 2000000 := by
  induction n with
  | zero => exact ⟨Nat.le_refl _, by show (-2000000 : Int) ≤ -1; decide, by show (-1 : Int) ≤ 2000000; decide⟩
  | succ n ih =>
    rw [gS]
    split
    · exact ⟨Nat.le_succ n, h n⟩
    · exact ⟨by omega, ih.2⟩
theorem V_rng {set bc lc : Nat} {bd ic fl rs pr : Nat → Nat} (hbc : bc ≤ 8) (hpr : ∀ k, pr k ≤ 9999) : -2000000 ≤ ((bsum set.testBit pr bc : Nat) : Int) - lcost set bc lc bd ic fl rs ∧ ((bsum set.testBit pr bc : Nat) : Int) - lcost set bc lc bd ic fl rs ≤ 2000000 := by
  have h1 := bsum_le (p := set.testBit) bc hpr
  have h2 := lcost_rng set bc lc bd ic fl rs
  omega
set_option maxRecDepth 100000 in
set_option maxHeartbeats 4000000 in
theorem c_X5_goThroughSets (l : Launch) (G : Gt) (f h : Nat → Nat) (lc bc ql : Nat) (ln rs rm bn bd pr ic fl qu rc : Nat → Nat) (gp : Nat → Int) (bs : Nat) (bv : Int) (cf wt ho : Nat → Nat) (Y : va_W) (hlc : lc ≤ 8) (hbc : bc ≤ 8) (hql : ql ≤ 8) (hbd : ∀ k, bd k < 8) (hic : ∀ k, ic k ≤ 3) (hfl : ∀ k, fl k < 256) (hrs : ∀ k, rs k ≤ 999) (hqu : ∀ k, qu k < 256) (hrc : ∀ k, rc k ≤ 1000000) (hpr : ∀ k, pr k ≤ 9999) : Cv l G yX5_goThroughSets (ww yX5_goThroughSets cX5_goThroughSets 4 (none : Option ClassFile.FieldType)) (RM 4 0 0) [.ref (h 0), .ref (f 0)] (fW G f lc bc ql ln rs rm bn bd pr ic fl qu rc gp ++ (sW G h bs bv cf wt ho ++ Y)) (fun w2 => ∃ (q : Nat) (u v : Nat → Nat), q ≤ 8 ∧ (∀ i, u i < 256) ∧ (∀ i, v i ≤ 1000000) ∧ w2 = (fW G f lc bc q ln rs rm bn bd pr ic fl u v gp ++ (sW G h ((gS (fun t => lcost t bc lc bd ic fl rs) (fun t => ((bsum t.testBit pr bc : Nat) : Int) - lcost t bc lc bd ic fl rs) (2 ^ bc)).1) ((gS (fun t => lcost t bc lc bd ic fl rs) (fun t => ((bsum t.testBit pr bc : Nat) : Int) - lcost t bc lc bd ic fl rs) (2 ^ bc)).2) cf wt ho ++ Y))) := by
  refine Cv.intro (by decide) (Nat.le_of_ble_eq_true rfl) ?_
  intro p e s m args below meth c A X hW ls hl
  have hx := X.exec
  have hb := X.bytes
  have hl : lv_has ls 4 [(0, .ref (h 0)), (1, .ref (f 0))] := hl
  have h256 := p2_256 hbc
  have hpos := Nat.two_pow_pos bc
  have loop : ∀ (n : Nat) (k q : Nat) (u v : Nat → Nat), 2 ^ bc + 1 ≤ k + n → k ≤ 2 ^ bc → q ≤ 8 → (∀ i, u i < 256) → (∀ i, v i ≤ 1000000) → ∀ (H : Heap) (locs : List Loc) (ls : Array Slot), Wd G A s (fW G f lc bc q ln rs rm bn bd pr ic fl u v gp ++ (sW G h ((gS (fun t => lcost t bc lc bd ic fl rs) (fun t => ((bsum t.testBit pr bc : Nat) : Int) - lcost t bc lc bd ic fl rs) k).1) ((gS (fun t => lcost t bc lc bd ic fl rs) (fun t => ((bsum t.testBit pr bc : Nat) : Int) - lcost t bc lc bd ic fl rs) k).2) cf wt ho ++ Y)) H locs → lv_has ls 4 [(0, .ref (h 0)), (1, .ref (f 0)), (2, .int (nI k))] → W p l e (RM 4 0 0) s m args below meth c H locs 0 0 (MQ below (Qv G A (fun w2 => ∃ (q : Nat) (u v : Nat → Nat), q ≤ 8 ∧ (∀ i, u i < 256) ∧ (∀ i, v i ≤ 1000000) ∧ w2 = (fW G f lc bc q ln rs rm bn bd pr ic fl u v gp ++ (sW G h ((gS (fun t => lcost t bc lc bd ic fl rs) (fun t => ((bsum t.testBit pr bc : Nat) : Int) - lcost t bc lc bd ic fl rs) (2 ^ bc)).1) ((gS (fun t => lcost t bc lc bd ic fl rs) (fun t => ((bsum t.testBit pr bc : Nat) : Int) - lcost t bc lc bd ic fl rs) (2 ^ bc)).2) cf wt ho ++ Y)))) args s (RM 4 0 0).cells (RM 4 0 0).slots A) (F0 m 6 ls []) := by
    intro n
    induction n with
    | zero => intro k q u v h1 h2 h3 h4 h5; exact absurd h1 (by omega)
    | succ n ih =>
      intro k q u v h1 h2 h3 h4 h5 H locs ls hW hl
      have hgs := gS_rng (C := (fun t => lcost t bc lc bd ic fl rs)) (fun t => @V_rng t bc lc bd ic fl rs pr hbc hpr) k
      refine lv_iload_n hx hb dX5_goThroughSets_6 rfl (lv_at hl 2 rfl) ?_
      refine lv_iconst (v := nI 1) hx hb dX5_goThroughSets_7 (by decide) ?_
      refine lv_aload_n hx hb dX5_goThroughSets_8 rfl (lv_at hl 1 rfl) ?_
      refine x_getN X hW 0 rfl 12 rfl rfl iwX1 (by decide) wq_152 rfl dX5_goThroughSets_9 ?_
      refine n_ishl1 hx hb (by omega) dX5_goThroughSets_12 ?_
      refine n_icmp_ge hx hb rfl rfl (by omega) (by omega) (tgt := 45) dX5_goThroughSets_13 (by decide) (fun c_13 => ?_) (fun c_13 => ?_)
      · exact ret_v X hW (⟨q, u, v, h3, h4, h5, by rw [show 2 ^ bc = k by omega]⟩) rfl (by decide) (by decide) dX5_goThroughSets_45
      · refine lv_aload_n hx hb dX5_goThroughSets_16 rfl (lv_at hl 1 rfl) ?_
        refine lv_iload_n hx hb dX5_goThroughSets_17 rfl (lv_at hl 2 rfl) ?_
        refine go_i X hW (run_VN X hW (As := [.int (nI k)]) (rest := []) 4 0 rfl (c_X1_leastCost l G f lc bc q ln rs rm bn bd pr ic fl u v gp (sW G h ((gS (fun t => lcost t bc lc bd ic fl rs) (fun t => ((bsum t.testBit pr bc : Nat) : Int) - lcost t bc lc bd ic fl rs) k).1) ((gS (fun t => lcost t bc lc bd ic fl rs) (fun t => ((bsum t.testBit pr bc : Nat) : Int) - lcost t bc lc bd ic fl rs) k).2) cf wt ho ++ Y) k (by omega) hlc hbc h3 hbd hic hfl hrs h4 h5 _) wq_331 wq_333 wq_12 wq_65 wq_334 hyX1_leastCost rfl rfl rfl hl.1 (Nat.le_of_ble_eq_true rfl) ⟨Nat.le_of_ble_eq_true rfl, Nat.le_of_ble_eq_true rfl⟩ ⟨by decide, by decide⟩ dX5_goThroughSets_18) (fun r w2 H locs hp hW => ?_)
        obtain ⟨q2, u2, v2, rfl, g3, g4, g5, -, rfl⟩ := hp
        refine lv_istore_n (lv' := [(3, .int (zI (lcost k bc lc bd ic fl rs))), (0, .ref (h 0)), (1, .ref (f 0)), (2, .int (nI k))]) hx hb dX5_goThroughSets_21 rfl hl (by decide) rfl (fun ls hl => ?_)
        refine lv_iload_n hx hb dX5_goThroughSets_22 rfl (lv_at hl 0 rfl) ?_
        refine lv_iconst (v := zI (-1)) hx hb dX5_goThroughSets_23 (by decide) ?_
        refine z_icmp_eq hx hb rfl rfl (by have := lcost_rng k bc lc bd ic fl rs; omega) (by omega) (tgt := 39) dX5_goThroughSets_24 (by decide) (fun c_24 => ?_) (fun c_24 => ?_)
        · refine lv_iinc (v := (nI (k + 1))) (lv' := [(2, .int (nI (k + 1))), (3, .int (zI (lcost k bc lc bd ic fl rs))), (0, .ref (h 0)), (1, .ref (f 0))]) hx hb dX5_goThroughSets_39 hl (k := 3) rfl (nI_add _ _) (by decide) rfl (fun ls hl => ?_)
          refine lv_goto (tgt := 6) hx hb dX5_goThroughSets_42 (by decide) ?_
          have eg : gS (fun t => lcost t bc lc bd ic fl rs) (fun t => ((bsum t.testBit pr bc : Nat) : Int) - lcost t bc lc bd ic fl rs) (k + 1) = gS (fun t => lcost t bc lc bd ic fl rs) (fun t => ((bsum t.testBit pr bc : Nat) : Int) - lcost t bc lc bd ic fl rs) k := by rw [gS, if_neg (fun q => q.1 c_24)]
          exact ih (k + 1) q2 u2 v2 (by omega) (by omega) g3 g4 g5 _ _ _ (by rw [eg]; exact hW) (lv_sub hl [2, 3, 0] rfl)
        · refine lv_aload_n hx hb dX5_goThroughSets_27 rfl (lv_at hl 1 rfl) ?_
          refine lv_iload_n hx hb dX5_goThroughSets_28 rfl (lv_at hl 3 rfl) ?_
          refine lv_aload_n hx hb dX5_goThroughSets_29 rfl (lv_at hl 2 rfl) ?_
          refine lv_iload_n hx hb dX5_goThroughSets_30 rfl (lv_at hl 3 rfl) ?_
          refine go_i X hW (run_VN X hW (As := [.int (nI k)]) (rest := [.int (nI k), .ref (h 0)]) 4 0 rfl (c_X1_priceSum l G f lc bc q2 ln rs rm bn bd pr ic fl u2 v2 gp (sW G h ((gS (fun t => lcost t bc lc bd ic fl rs) (fun t => ((bsum t.testBit pr bc : Nat) : Int) - lcost t bc lc bd ic fl rs) k).1) ((gS (fun t => lcost t bc lc bd ic fl rs) (fun t => ((bsum t.testBit pr bc : Nat) : Int) - lcost t bc lc bd ic fl rs) k).2) cf wt ho ++ Y) k (by omega) hbc hpr _) wq_391 wq_393 wq_22 wq_65 wq_394 hyX1_priceSum rfl rfl rfl hl.1 (Nat.le_of_ble_eq_true rfl) ⟨Nat.le_of_ble_eq_true rfl, Nat.le_of_ble_eq_true rfl⟩ ⟨by decide, by decide⟩ dX5_goThroughSets_31) (fun r w2 H locs hp hW => ?_)
          obtain ⟨rfl, rfl⟩ := hp
          refine lv_iload_n hx hb dX5_goThroughSets_34 rfl (lv_at hl 0 rfl) ?_
          refine z_isub hx hb (nZ _) rfl dX5_goThroughSets_35 ?_
          refine go_v X hW (run_V X hW (As := [.int (nI k), .int (zI ((((bsum k.testBit pr bc) : Nat) : Int) - ((lcost k bc lc bd ic fl rs) : Int)))]) (rest := []) 8 12 rfl (c_X5_compareWithBest l G f h lc bc q2 ln rs rm bn bd pr ic fl u2 v2 gp (gS (fun t => lcost t bc lc bd ic fl rs) (fun t => ((bsum t.testBit pr bc : Nat) : Int) - lcost t bc lc bd ic fl rs) k).1 (gS (fun t => lcost t bc lc bd ic fl rs) (fun t => ((bsum t.testBit pr bc : Nat) : Int) - lcost t bc lc bd ic fl rs) k).2 cf wt ho Y k (((bsum k.testBit pr bc : Nat) : Int) - (lcost k bc lc bd ic fl rs : Int)) (by omega) (by have := hgs.1; omega) (by have := @V_rng k bc lc bd ic fl rs pr hbc hpr; omega) (by have := hgs.2; omega) _) (gi_V wq_395 wq_397 wq_23 wq_66 wq_398) rfl hyX5_compareWithBest rfl rfl rfl hl.1 (Nat.le_of_ble_eq_true rfl) ⟨Nat.le_of_ble_eq_true rfl, Nat.le_of_ble_eq_true rfl⟩ ⟨by decide, by decide⟩ dX5_goThroughSets_36) (fun w2 H locs hp hW => ?_)
          subst hp
          refine lv_iinc (v := (nI (k + 1))) (lv' := [(2, .int (nI (k + 1))), (3, .int (zI (lcost k bc lc bd ic fl rs))), (0, .ref (h 0)), (1, .ref (f 0))]) hx hb dX5_goThroughSets_39 hl (k := 3) rfl (nI_add _ _) (by decide) rfl (fun ls hl => ?_)
          refine lv_goto (tgt := 6) hx hb dX5_goThroughSets_42 (by decide) ?_
          have e1 : (gS (fun t => lcost t bc lc bd ic fl rs) (fun t => ((bsum t.testBit pr bc : Nat) : Int) - lcost t bc lc bd ic fl rs) (k + 1)).1 = (if ((gS (fun t => lcost t bc lc bd ic fl rs) (fun t => ((bsum t.testBit pr bc : Nat) : Int) - lcost t bc lc bd ic fl rs) k).2 < (((bsum k.testBit pr bc : Nat) : Int) - (lcost k bc lc bd ic fl rs : Int)) ∨ ((((bsum k.testBit pr bc : Nat) : Int) - (lcost k bc lc bd ic fl rs : Int)) = (gS (fun t => lcost t bc lc bd ic fl rs) (fun t => ((bsum t.testBit pr bc : Nat) : Int) - lcost t bc lc bd ic fl rs) k).2 ∧ ahd k (gS (fun t => lcost t bc lc bd ic fl rs) (fun t => ((bsum t.testBit pr bc : Nat) : Int) - lcost t bc lc bd ic fl rs) k).1 = true)) then k else (gS (fun t => lcost t bc lc bd ic fl rs) (fun t => ((bsum t.testBit pr bc : Nat) : Int) - lcost t bc lc bd ic fl rs) k).1) := by rw [gS]; split; rename_i q; rw [if_pos q.2]; rename_i q; rw [if_neg (fun r => q ⟨c_24, r⟩)]
          have e2 : (gS (fun t => lcost t bc lc bd ic fl rs) (fun t => ((bsum t.testBit pr bc : Nat) : Int) - lcost t bc lc bd ic fl rs) (k + 1)).2 = (if ((gS (fun t => lcost t bc lc bd ic fl rs) (fun t => ((bsum t.testBit pr bc : Nat) : Int) - lcost t bc lc bd ic fl rs) k).2 < (((bsum k.testBit pr bc : Nat) : Int) - (lcost k bc lc bd ic fl rs : Int)) ∨ ((((bsum k.testBit pr bc : Nat) : Int) - (lcost k bc lc bd ic fl rs : Int)) = (gS (fun t => lcost t bc lc bd ic fl rs) (fun t => ((bsum t.testBit pr bc : Nat) : Int) - lcost t bc lc bd ic fl rs) k).2 ∧ ahd k (gS (fun t => lcost t bc lc bd ic fl rs) (fun t => ((bsum t.testBit pr bc : Nat) : Int) - lcost t bc lc bd ic fl rs) k).1 = true)) then (((bsum k.testBit pr bc : Nat) : Int) - (lcost k bc lc bd ic fl rs : Int)) else (gS (fun t => lcost t bc lc bd ic fl rs) (fun t => ((bsum t.testBit pr bc : Nat) : Int) - lcost t bc lc bd ic fl rs) k).2) := by rw [gS]; split; rename_i q; rw [if_pos q.2]; rename_i q; rw [if_neg (fun r => q ⟨c_24, r⟩)]
          exact ih (k + 1) q2 u2 v2 (by omega) (by omega) g3 g4 g5 _ _ _ (by rw [e1, e2]; exact hW) (lv_sub hl [2, 3, 0] rfl)
  refine lv_aload_n hx hb dX5_goThroughSets_0 rfl (lv_at hl 0 rfl) ?_
  refine go_v X hW (run_V X hW (As := []) (rest := []) 8 12 rfl (c_X5_forgetBest l G f h lc bc ql ln rs rm bn bd pr ic fl qu rc gp bs bv cf wt ho Y _) (gi_V wq_323 wq_325 wq_10 wq_66 wq_326) rfl hyX5_forgetBest rfl rfl rfl hl.1 (Nat.le_of_ble_eq_true rfl) ⟨Nat.le_of_ble_eq_true rfl, Nat.le_of_ble_eq_true rfl⟩ ⟨by decide, by decide⟩ dX5_goThroughSets_1) (fun w2 H locs hp hW => ?_)
  subst hp
  refine lv_iconst (v := nI 0) hx hb dX5_goThroughSets_4 (by decide) ?_
  refine lv_istore_n (lv' := [(2, .int (nI 0)), (0, .ref (h 0)), (1, .ref (f 0))]) hx hb dX5_goThroughSets_5 rfl hl (by decide) rfl (fun ls hl => ?_)
  exact loop (2 ^ bc + 1) 0 ql qu rc (by omega) (by omega) hql hqu hrc _ _ _ hW (lv_sub hl [1, 2, 0] rfl)

/-- what a bid has alone; whether it is worth trying; what the last d bids can add -/
def alo (C : Nat → Int) (pr : Nat → Nat) (k : Nat) : Int := if C (2 ^ k) = -1 then -1 else (pr k : Int) - C (2 ^ k)
def wtS (C : Nat → Int) (pr bd : Nat → Nat) (wo : Int) (k : Nat) : Bool := decide (0 ≤ alo C pr k) && decide ((bd k : Int) ≠ wo)
def hopS (C : Nat → Int) (pr bd : Nat → Nat) (wo : Int) (bc d : Nat) : Nat := match d with
  | 0 => 0
  | d + 1 => hopS C pr bd wo bc d + (if wtS C pr bd wo (bc - (d + 1)) = true then (alo C pr (bc - (d + 1))).toNat else 0)
theorem hopS_le {C : Nat → Int} {pr bd : Nat → Nat} {wo : Int} {bc c : Nat} (hC : ∀ t, -1 ≤ C t) (hpr : ∀ k, pr k ≤ c) (d : Nat) : hopS C pr bd wo bc d ≤ d * c := by
  induction d with
  | zero => exact Nat.zero_le _
  | succ d ih =>
    rw [hopS, Nat.succ_mul]
    have h1 := hpr (bc - (d + 1))
    have h2 := hC (2 ^ (bc - (d + 1)))
    have h3 : (alo C pr (bc - (d + 1))).toNat ≤ c := by unfold alo; split <;> omega
    split <;> omega
set_option maxRecDepth 100000 in
set_option maxHeartbeats 4000000 in
theorem c_X5_estimate (l : Launch) (G : Gt) (f h : Nat → Nat) (lc bc ql : Nat) (ln rs rm bn bd pr ic fl qu rc : Nat → Nat) (gp : Nat → Int) (bs : Nat) (bv : Int) (cf wt ho : Nat → Nat) (Y : va_W) (wo : Int) (hlc : lc ≤ 8) (hbc : bc ≤ 8) (hql : ql ≤ 8) (hbd : ∀ k, bd k < 8) (hic : ∀ k, ic k ≤ 3) (hfl : ∀ k, fl k < 256) (hrs : ∀ k, rs k ≤ 999) (hqu : ∀ k, qu k < 256) (hrc : ∀ k, rc k ≤ 1000000) (hpr : ∀ k, pr k ≤ 9999) (hwo : -1 ≤ wo ∧ wo < 8) (hwt : ∀ k, wt k < 2) : Cv l G yX5_estimate (ww yX5_estimate cX5_estimate 6 (none : Option ClassFile.FieldType)) (RM 3 0 0) [.ref (h 0), .ref (f 0), .int (zI wo)] (fW G f lc bc ql ln rs rm bn bd pr ic fl qu rc gp ++ (sW G h bs bv cf wt ho ++ Y)) (fun w2 => ∃ (q : Nat) (u v wx hh : Nat → Nat), q ≤ 8 ∧ (∀ i, u i < 256) ∧ (∀ i, v i ≤ 1000000) ∧ (∀ k, wx k < 2) ∧ (∀ k, k < bc → wx k = if wtS (fun t => lcost t bc lc bd ic fl rs) pr bd wo k = true then 1 else 0) ∧ (∀ k, k ≤ bc → hh k = (hopS (fun t => lcost t bc lc bd ic fl rs) pr bd wo bc (bc - k))) ∧ w2 = (fW G f lc bc q ln rs rm bn bd pr ic fl u v gp ++ (sW G h bs bv cf wx hh ++ Y))) := by
  refine Cv.intro (by decide) (Nat.le_of_ble_eq_true rfl) ?_
  intro p e s m args below meth c A X hW ls hl
  have hx := X.exec
  have hb := X.bytes
  have hl : lv_has ls 6 [(0, .ref (h 0)), (1, .ref (f 0)), (2, .int (zI wo))] := hl
  refine lv_aload_n hx hb dX5_estimate_0 rfl (lv_at hl 0 rfl) ?_
  refine x_get X hW 12 rfl 2 rfl rfl iwX5 (by decide) wq_193 rfl dX5_estimate_1 ?_
  refine lv_aload_n hx hb dX5_estimate_4 rfl (lv_at hl 1 rfl) ?_
  refine x_getN X hW 0 rfl 12 rfl rfl iwX1 (by decide) wq_152 rfl dX5_estimate_5 ?_
  refine lv_iconst (v := nI 0) hx hb dX5_estimate_8 (by decide) ?_
  refine n_iast X hW (n := 9) (f := ho) 15 rfl (w2 := (fW G f lc bc ql ln rs rm bn bd pr ic fl qu rc gp ++ (sW G h bs bv cf wt (va_up ho bc 0) ++ Y))) rfl (by omega) (by decide) dX5_estimate_9 (fun H locs hW => ?_)
  refine lv_aload_n hx hb dX5_estimate_10 rfl (lv_at hl 1 rfl) ?_
  refine x_getN X hW 0 rfl 12 rfl rfl iwX1 (by decide) wq_152 rfl dX5_estimate_11 ?_
  refine lv_iconst (v := nI 1) hx hb dX5_estimate_14 (by decide) ?_
  refine z_isub hx hb (nZ _) (nZ _) dX5_estimate_15 ?_
  refine r_z (show _ = ((bc : Nat) : Int) + (-1) by omega) ?_
  refine lv_istore_n (lv' := [(3, .int (zI (((bc : Nat) : Int) + (-1)))), (0, .ref (h 0)), (1, .ref (f 0)), (2, .int (zI wo))]) hx hb dX5_estimate_16 rfl hl (by decide) rfl (fun ls hl => ?_)
  have loop : ∀ (n : Nat) (mm q : Nat) (u v wx hh : Nat → Nat), mm + 1 ≤ n → mm ≤ bc → q ≤ 8 → (∀ i, u i < 256) → (∀ i, v i ≤ 1000000) → (∀ k, wx k < 2) → (∀ k, mm ≤ k → k < bc → wx k = if wtS (fun t => lcost t bc lc bd ic fl rs) pr bd wo k = true then 1 else 0) → (∀ k, mm ≤ k → k ≤ bc → hh k = (hopS (fun t => lcost t bc lc bd ic fl rs) pr bd wo bc (bc - k))) → ∀ (H : Heap) (locs : List Loc) (ls : Array Slot), Wd G A s (fW G f lc bc q ln rs rm bn bd pr ic fl u v gp ++ (sW G h bs bv cf wx hh ++ Y)) H locs → lv_has ls 6 [(0, .ref (h 0)), (1, .ref (f 0)), (2, .int (zI wo)), (3, .int (zI (((mm : Nat) : Int) + (-1))))] → W p l e (RM 3 0 0) s m args below meth c H locs 0 0 (MQ below (Qv G A (fun w2 => ∃ (q : Nat) (u v wx hh : Nat → Nat), q ≤ 8 ∧ (∀ i, u i < 256) ∧ (∀ i, v i ≤ 1000000) ∧ (∀ k, wx k < 2) ∧ (∀ k, k < bc → wx k = if wtS (fun t => lcost t bc lc bd ic fl rs) pr bd wo k = true then 1 else 0) ∧ (∀ k, k ≤ bc → hh k = (hopS (fun t => lcost t bc lc bd ic fl rs) pr bd wo bc (bc - k))) ∧ w2 = (fW G f lc bc q ln rs rm bn bd pr ic fl u v gp ++ (sW G h bs bv cf wx hh ++ Y)))) args s (RM 3 0 0).cells (RM 3 0 0).slots A) (F0 m 17 ls []) := by
    intro n
    induction n with
    | zero => intro mm q u v wx hh h1 h2 h3 h4 h5 h6 h7 h8; exact absurd h1 (by omega)
    | succ n ih =>
      intro mm q u v wx hh h1 h2 h3 h4 h5 h6 h7 h8 H locs ls hW hl
      refine lv_iload_n hx hb dX5_estimate_17 rfl (lv_at hl 3 rfl) ?_
      refine z_if_lt hx hb rfl (by omega) (tgt := 113) dX5_estimate_18 (by decide) (fun c_18 => ?_) (fun c_18 => ?_)
      · exact ret_v X hW (⟨q, u, v, wx, hh, h3, h4, h5, h6, fun k hk => h7 k (by omega) hk, fun k hk => h8 k (by omega) hk, rfl⟩) rfl (by decide) (by decide) dX5_estimate_113
      · have hm : 0 < mm := by omega
        rw [zpred hm] at hl
        have hp2 := @p2_le (mm - 1) (by omega)
        have hcr := lcost_rng (2 ^ (mm - 1)) bc lc bd ic fl rs
        have hprm := hpr (mm - 1)
        have hho := h8 mm (Nat.le_refl _)
        have hhl := @hopS_le (fun t => lcost t bc lc bd ic fl rs) pr bd wo bc 9999 (fun t => (lcost_rng t bc lc bd ic fl rs).1) hpr (bc - mm)
        refine lv_aload_n hx hb dX5_estimate_21 rfl (lv_at hl 1 rfl) ?_
        refine lv_iconst (v := nI 1) hx hb dX5_estimate_22 (by decide) ?_
        refine lv_iload_n hx hb dX5_estimate_23 rfl (lv_at hl 3 rfl) ?_
        refine n_ishl1 hx hb (by omega) dX5_estimate_24 ?_
        refine go_i X hW (run_VN X hW (As := [.int (nI (2 ^ (mm - 1)))]) (rest := []) 4 0 rfl (c_X1_leastCost l G f lc bc q ln rs rm bn bd pr ic fl u v gp (sW G h bs bv cf wx hh ++ Y) (2 ^ (mm - 1)) (by omega) hlc hbc h3 hbd hic hfl hrs h4 h5 _) wq_331 wq_333 wq_12 wq_65 wq_334 hyX1_leastCost rfl rfl rfl hl.1 (Nat.le_of_ble_eq_true rfl) ⟨Nat.le_of_ble_eq_true rfl, Nat.le_of_ble_eq_true rfl⟩ ⟨by decide, by decide⟩ dX5_estimate_25) (fun r w2 H locs hp hW => ?_)
        obtain ⟨q2, u2, v2, rfl, g3, g4, g5, -, rfl⟩ := hp
        refine lv_istore (lv' := [(4, .int (zI (lcost (2 ^ (mm - 1)) bc lc bd ic fl rs))), (0, .ref (h 0)), (1, .ref (f 0)), (2, .int (zI wo)), (3, .int (nI (mm - 1)))]) hx hb dX5_estimate_28 hl (by decide) rfl (fun ls hl => ?_)
        refine lv_iload hx hb dX5_estimate_30 (lv_at hl 0 rfl) ?_
        refine lv_iconst (v := zI (-1)) hx hb dX5_estimate_32 (by decide) ?_
        refine z_icmp_ne hx hb rfl rfl (by omega) (by omega) (tgt := 40) dX5_estimate_33 (by decide) (fun c_33 => ?_) (fun c_33 => ?_)
        · refine lv_aload_n hx hb dX5_estimate_40 rfl (lv_at hl 2 rfl) ?_
          refine x_getN X hW 0 rfl 5 rfl rfl iwX1 (by decide) wq_140 rfl dX5_estimate_41 ?_
          refine lv_iload_n hx hb dX5_estimate_44 rfl (lv_at hl 4 rfl) ?_
          refine n_iald X hW (n := 8) (f := pr) 6 rfl (by omega) (by decide) dX5_estimate_45 ?_
          refine lv_iload hx hb dX5_estimate_46 (lv_at hl 0 rfl) ?_
          refine z_isub hx hb (nZ _) rfl dX5_estimate_48 ?_
          have hal : (alo (fun t => lcost t bc lc bd ic fl rs) pr (mm - 1)) = ((((pr (mm - 1)) : Nat) : Int) - ((lcost (2 ^ (mm - 1)) bc lc bd ic fl rs) : Int)) := by rw [alo, if_neg c_33]
          refine r_z hal.symm ?_
          refine lv_istore (lv' := [(5, .int (zI (alo (fun t => lcost t bc lc bd ic fl rs) pr (mm - 1)))), (4, .int (zI (lcost (2 ^ (mm - 1)) bc lc bd ic fl rs))), (0, .ref (h 0)), (1, .ref (f 0)), (2, .int (zI wo)), (3, .int (nI (mm - 1)))]) hx hb dX5_estimate_49 hl (by decide) rfl (fun ls hl => ?_)
          refine lv_aload_n hx hb dX5_estimate_51 rfl (lv_at hl 2 rfl) ?_
          refine x_get X hW 12 rfl 1 rfl rfl iwX5 (by decide) wq_192 rfl dX5_estimate_52 ?_
          refine lv_iload_n hx hb dX5_estimate_55 rfl (lv_at hl 5 rfl) ?_
          refine lv_iload hx hb dX5_estimate_56 (lv_at hl 0 rfl) ?_
          refine z_if_lt hx hb rfl (by rw [hal]; omega) (tgt := 75) dX5_estimate_58 (by decide) (fun c_58 => ?_) (fun c_58 => ?_)
          · refine lv_iconst (v := nI 0) hx hb dX5_estimate_75 (by decide) ?_
            refine n_zast X hW (n := 8) (f := wx) 14 rfl (w2 := (fW G f lc bc q2 ln rs rm bn bd pr ic fl u2 v2 gp ++ (sW G h bs bv cf (va_up wx (mm - 1) 0) hh ++ Y))) rfl (by omega) (by decide) (by decide) dX5_estimate_76 (fun H locs hW => ?_)
            refine lv_aload_n hx hb dX5_estimate_77 rfl (lv_at hl 2 rfl) ?_
            refine x_get X hW 12 rfl 2 rfl rfl iwX5 (by decide) wq_193 rfl dX5_estimate_78 ?_
            refine lv_iload_n hx hb dX5_estimate_81 rfl (lv_at hl 5 rfl) ?_
            refine lv_aload_n hx hb dX5_estimate_82 rfl (lv_at hl 2 rfl) ?_
            refine x_get X hW 12 rfl 2 rfl rfl iwX5 (by decide) wq_193 rfl dX5_estimate_83 ?_
            refine lv_iload_n hx hb dX5_estimate_86 rfl (lv_at hl 5 rfl) ?_
            refine lv_iconst (v := nI 1) hx hb dX5_estimate_87 (by decide) ?_
            refine n_iadd hx hb dX5_estimate_88 ?_
            refine n_iald X hW (n := 9) (f := hh) 15 rfl (by omega) (by decide) dX5_estimate_89 ?_
            refine lv_aload_n hx hb dX5_estimate_90 rfl (lv_at hl 2 rfl) ?_
            refine x_get X hW 12 rfl 1 rfl rfl iwX5 (by decide) wq_192 rfl dX5_estimate_91 ?_
            refine lv_iload_n hx hb dX5_estimate_94 rfl (lv_at hl 5 rfl) ?_
            refine n_zald X hW (n := 8) (f := (va_up wx (mm - 1) 0)) 14 rfl (by omega) (by decide) dX5_estimate_95 ?_
            refine r_n (up_eq _ _ _) ?_
            refine n_if_eq hx hb rfl (by omega) (tgt := 104) dX5_estimate_96 (by decide) (fun c_96 => ?_) (fun c_96 => absurd c_96 (by decide))
            refine lv_iconst (v := nI 0) hx hb dX5_estimate_104 (by decide) ?_
            refine n_iadd hx hb dX5_estimate_105 ?_
            refine n_iast X hW (n := 9) (f := hh) 15 rfl (w2 := (fW G f lc bc q2 ln rs rm bn bd pr ic fl u2 v2 gp ++ (sW G h bs bv cf (va_up wx (mm - 1) 0) (va_up hh (mm - 1) ((hh ((mm - 1) + 1)) + 0)) ++ Y))) rfl (by omega) (by decide) dX5_estimate_106 (fun H locs hW => ?_)
            refine lv_iinc (v := (zI ((((mm - 1) : Nat) : Int) + (-1)))) (lv' := [(3, .int (zI ((((mm - 1) : Nat) : Int) + (-1)))), (5, .int (zI (alo (fun t => lcost t bc lc bd ic fl rs) pr (mm - 1)))), (4, .int (zI (lcost (2 ^ (mm - 1)) bc lc bd ic fl rs))), (0, .ref (h 0)), (1, .ref (f 0)), (2, .int (zI wo))]) hx hb dX5_estimate_107 hl (k := 5) rfl ((by rw [nZ]; exact zI_add _ _)) (by decide) rfl (fun ls hl => ?_)
            refine lv_goto (tgt := 17) hx hb dX5_estimate_110 (by decide) ?_
            have hws : wtS (fun t => lcost t bc lc bd ic fl rs) pr bd wo (mm - 1) = false := by rw [wtS, decide_eq_false (by omega)]; rfl
            have hst : (hopS (fun t => lcost t bc lc bd ic fl rs) pr bd wo bc (bc - (mm - 1))) = (hopS (fun t => lcost t bc lc bd ic fl rs) pr bd wo bc (bc - mm)) + (if wtS (fun t => lcost t bc lc bd ic fl rs) pr bd wo (mm - 1) = true then (alo (fun t => lcost t bc lc bd ic fl rs) pr (mm - 1)).toNat else 0) := by rw [show bc - (mm - 1) = (bc - mm) + 1 by omega, hopS, show bc - (bc - mm + 1) = mm - 1 by omega]
            rw [hws] at hst
            exact ih (mm - 1) q2 u2 v2 _ _ (by omega) (by omega) g3 g4 g5 (fun k => by unfold va_up; split; decide; exact h6 k) (fun k hk hk2 => by unfold va_up; split; rename_i e; rw [e, hws]; rfl; exact h7 k (by omega) hk2) (fun k hk hk2 => by unfold va_up; split; rename_i e; rw [e, hst, show mm - 1 + 1 = mm by omega, hho (by omega)]; rfl; exact h8 k (by omega) hk2) _ _ _ hW (lv_sub hl [3, 4, 5, 0] rfl)
          · refine lv_aload_n hx hb dX5_estimate_61 rfl (lv_at hl 3 rfl) ?_
            refine x_getN X hW 0 rfl 4 rfl rfl iwX1 (by decide) wq_138 rfl dX5_estimate_62 ?_
            refine lv_iload_n hx hb dX5_estimate_65 rfl (lv_at hl 5 rfl) ?_
            refine n_iald X hW (n := 8) (f := bd) 5 rfl (by omega) (by decide) dX5_estimate_66 ?_
            refine lv_iload_n hx hb dX5_estimate_67 rfl (lv_at hl 4 rfl) ?_
            refine z_icmp_eq hx hb (nZ _) rfl (by have := hbd (mm - 1); omega) (by omega) (tgt := 75) dX5_estimate_68 (by decide) (fun c_68 => ?_) (fun c_68 => ?_)
            · refine lv_iconst (v := nI 0) hx hb dX5_estimate_75 (by decide) ?_
              refine n_zast X hW (n := 8) (f := wx) 14 rfl (w2 := (fW G f lc bc q2 ln rs rm bn bd pr ic fl u2 v2 gp ++ (sW G h bs bv cf (va_up wx (mm - 1) 0) hh ++ Y))) rfl (by omega) (by decide) (by decide) dX5_estimate_76 (fun H locs hW => ?_)
              refine lv_aload_n hx hb dX5_estimate_77 rfl (lv_at hl 2 rfl) ?_
              refine x_get X hW 12 rfl 2 rfl rfl iwX5 (by decide) wq_193 rfl dX5_estimate_78 ?_
              refine lv_iload_n hx hb dX5_estimate_81 rfl (lv_at hl 5 rfl) ?_
              refine lv_aload_n hx hb dX5_estimate_82 rfl (lv_at hl 2 rfl) ?_
              refine x_get X hW 12 rfl 2 rfl rfl iwX5 (by decide) wq_193 rfl dX5_estimate_83 ?_
              refine lv_iload_n hx hb dX5_estimate_86 rfl (lv_at hl 5 rfl) ?_
              refine lv_iconst (v := nI 1) hx hb dX5_estimate_87 (by decide) ?_
              refine n_iadd hx hb dX5_estimate_88 ?_
              refine n_iald X hW (n := 9) (f := hh) 15 rfl (by omega) (by decide) dX5_estimate_89 ?_
              refine lv_aload_n hx hb dX5_estimate_90 rfl (lv_at hl 2 rfl) ?_
              refine x_get X hW 12 rfl 1 rfl rfl iwX5 (by decide) wq_192 rfl dX5_estimate_91 ?_
              refine lv_iload_n hx hb dX5_estimate_94 rfl (lv_at hl 5 rfl) ?_
              refine n_zald X hW (n := 8) (f := (va_up wx (mm - 1) 0)) 14 rfl (by omega) (by decide) dX5_estimate_95 ?_
              refine r_n (up_eq _ _ _) ?_
              refine n_if_eq hx hb rfl (by omega) (tgt := 104) dX5_estimate_96 (by decide) (fun c_96 => ?_) (fun c_96 => absurd c_96 (by decide))
              refine lv_iconst (v := nI 0) hx hb dX5_estimate_104 (by decide) ?_
              refine n_iadd hx hb dX5_estimate_105 ?_
              refine n_iast X hW (n := 9) (f := hh) 15 rfl (w2 := (fW G f lc bc q2 ln rs rm bn bd pr ic fl u2 v2 gp ++ (sW G h bs bv cf (va_up wx (mm - 1) 0) (va_up hh (mm - 1) ((hh ((mm - 1) + 1)) + 0)) ++ Y))) rfl (by omega) (by decide) dX5_estimate_106 (fun H locs hW => ?_)
              refine lv_iinc (v := (zI ((((mm - 1) : Nat) : Int) + (-1)))) (lv' := [(3, .int (zI ((((mm - 1) : Nat) : Int) + (-1)))), (5, .int (zI (alo (fun t => lcost t bc lc bd ic fl rs) pr (mm - 1)))), (4, .int (zI (lcost (2 ^ (mm - 1)) bc lc bd ic fl rs))), (0, .ref (h 0)), (1, .ref (f 0)), (2, .int (zI wo))]) hx hb dX5_estimate_107 hl (k := 5) rfl ((by rw [nZ]; exact zI_add _ _)) (by decide) rfl (fun ls hl => ?_)
              refine lv_goto (tgt := 17) hx hb dX5_estimate_110 (by decide) ?_
              have hws : wtS (fun t => lcost t bc lc bd ic fl rs) pr bd wo (mm - 1) = false := by simp [wtS, c_68]
              have hst : (hopS (fun t => lcost t bc lc bd ic fl rs) pr bd wo bc (bc - (mm - 1))) = (hopS (fun t => lcost t bc lc bd ic fl rs) pr bd wo bc (bc - mm)) + (if wtS (fun t => lcost t bc lc bd ic fl rs) pr bd wo (mm - 1) = true then (alo (fun t => lcost t bc lc bd ic fl rs) pr (mm - 1)).toNat else 0) := by rw [show bc - (mm - 1) = (bc - mm) + 1 by omega, hopS, show bc - (bc - mm + 1) = mm - 1 by omega]
              rw [hws] at hst
              exact ih (mm - 1) q2 u2 v2 _ _ (by omega) (by omega) g3 g4 g5 (fun k => by unfold va_up; split; decide; exact h6 k) (fun k hk hk2 => by unfold va_up; split; rename_i e; rw [e, hws]; rfl; exact h7 k (by omega) hk2) (fun k hk hk2 => by unfold va_up; split; rename_i e; rw [e, hst, show mm - 1 + 1 = mm by omega, hho (by omega)]; rfl; exact h8 k (by omega) hk2) _ _ _ hW (lv_sub hl [3, 4, 5, 0] rfl)
            · refine lv_iconst (v := nI 1) hx hb dX5_estimate_71 (by decide) ?_
              refine lv_goto (tgt := 76) hx hb dX5_estimate_72 (by decide) ?_
              refine n_zast X hW (n := 8) (f := wx) 14 rfl (w2 := (fW G f lc bc q2 ln rs rm bn bd pr ic fl u2 v2 gp ++ (sW G h bs bv cf (va_up wx (mm - 1) 1) hh ++ Y))) rfl (by omega) (by decide) (by decide) dX5_estimate_76 (fun H locs hW => ?_)
              refine lv_aload_n hx hb dX5_estimate_77 rfl (lv_at hl 2 rfl) ?_
              refine x_get X hW 12 rfl 2 rfl rfl iwX5 (by decide) wq_193 rfl dX5_estimate_78 ?_
              refine lv_iload_n hx hb dX5_estimate_81 rfl (lv_at hl 5 rfl) ?_
              refine lv_aload_n hx hb dX5_estimate_82 rfl (lv_at hl 2 rfl) ?_
              refine x_get X hW 12 rfl 2 rfl rfl iwX5 (by decide) wq_193 rfl dX5_estimate_83 ?_
              refine lv_iload_n hx hb dX5_estimate_86 rfl (lv_at hl 5 rfl) ?_
              refine lv_iconst (v := nI 1) hx hb dX5_estimate_87 (by decide) ?_
              refine n_iadd hx hb dX5_estimate_88 ?_
              refine n_iald X hW (n := 9) (f := hh) 15 rfl (by omega) (by decide) dX5_estimate_89 ?_
              refine lv_aload_n hx hb dX5_estimate_90 rfl (lv_at hl 2 rfl) ?_
              refine x_get X hW 12 rfl 1 rfl rfl iwX5 (by decide) wq_192 rfl dX5_estimate_91 ?_
              refine lv_iload_n hx hb dX5_estimate_94 rfl (lv_at hl 5 rfl) ?_
              refine n_zald X hW (n := 8) (f := (va_up wx (mm - 1) 1)) 14 rfl (by omega) (by decide) dX5_estimate_95 ?_
              refine r_n (up_eq _ _ _) ?_
              refine n_if_eq hx hb rfl (by omega) (tgt := 104) dX5_estimate_96 (by decide) (fun c_96 => absurd c_96 (by decide)) (fun c_96 => ?_)
              refine lv_iload hx hb dX5_estimate_99 (lv_at hl 0 rfl) ?_
              refine lv_goto (tgt := 105) hx hb dX5_estimate_101 (by decide) ?_
              refine r_zn (a := (alo (fun t => lcost t bc lc bd ic fl rs) pr (mm - 1)).toNat) (by omega) ?_
              refine n_iadd hx hb dX5_estimate_105 ?_
              refine n_iast X hW (n := 9) (f := hh) 15 rfl (w2 := (fW G f lc bc q2 ln rs rm bn bd pr ic fl u2 v2 gp ++ (sW G h bs bv cf (va_up wx (mm - 1) 1) (va_up hh (mm - 1) ((hh ((mm - 1) + 1)) + (alo (fun t => lcost t bc lc bd ic fl rs) pr (mm - 1)).toNat)) ++ Y))) rfl (by omega) (by decide) dX5_estimate_106 (fun H locs hW => ?_)
              refine lv_iinc (v := (zI ((((mm - 1) : Nat) : Int) + (-1)))) (lv' := [(3, .int (zI ((((mm - 1) : Nat) : Int) + (-1)))), (5, .int (zI (alo (fun t => lcost t bc lc bd ic fl rs) pr (mm - 1)))), (4, .int (zI (lcost (2 ^ (mm - 1)) bc lc bd ic fl rs))), (0, .ref (h 0)), (1, .ref (f 0)), (2, .int (zI wo))]) hx hb dX5_estimate_107 hl (k := 5) rfl ((by rw [nZ]; exact zI_add _ _)) (by decide) rfl (fun ls hl => ?_)
              refine lv_goto (tgt := 17) hx hb dX5_estimate_110 (by decide) ?_
              have hws : wtS (fun t => lcost t bc lc bd ic fl rs) pr bd wo (mm - 1) = true := by rw [wtS, decide_eq_true (by omega), decide_eq_true c_68]; rfl
              have hst : (hopS (fun t => lcost t bc lc bd ic fl rs) pr bd wo bc (bc - (mm - 1))) = (hopS (fun t => lcost t bc lc bd ic fl rs) pr bd wo bc (bc - mm)) + (if wtS (fun t => lcost t bc lc bd ic fl rs) pr bd wo (mm - 1) = true then (alo (fun t => lcost t bc lc bd ic fl rs) pr (mm - 1)).toNat else 0) := by rw [show bc - (mm - 1) = (bc - mm) + 1 by omega, hopS, show bc - (bc - mm + 1) = mm - 1 by omega]
              rw [hws] at hst
              exact ih (mm - 1) q2 u2 v2 _ _ (by omega) (by omega) g3 g4 g5 (fun k => by unfold va_up; split; decide; exact h6 k) (fun k hk hk2 => by unfold va_up; split; rename_i e; rw [e, hws]; rfl; exact h7 k (by omega) hk2) (fun k hk hk2 => by unfold va_up; split; rename_i e; rw [e, hst, show mm - 1 + 1 = mm by omega, hho (by omega)]; rfl; exact h8 k (by omega) hk2) _ _ _ hW (lv_sub hl [3, 4, 5, 0] rfl)
        · refine lv_iconst (v := zI (-1)) hx hb dX5_estimate_36 (by decide) ?_
          refine lv_goto (tgt := 49) hx hb dX5_estimate_37 (by decide) ?_
          have hal : (alo (fun t => lcost t bc lc bd ic fl rs) pr (mm - 1)) = -1 := by rw [alo, if_pos c_33]
          refine r_z hal.symm ?_
          refine lv_istore (lv' := [(5, .int (zI (alo (fun t => lcost t bc lc bd ic fl rs) pr (mm - 1)))), (4, .int (zI (lcost (2 ^ (mm - 1)) bc lc bd ic fl rs))), (0, .ref (h 0)), (1, .ref (f 0)), (2, .int (zI wo)), (3, .int (nI (mm - 1)))]) hx hb dX5_estimate_49 hl (by decide) rfl (fun ls hl => ?_)
          refine lv_aload_n hx hb dX5_estimate_51 rfl (lv_at hl 2 rfl) ?_
          refine x_get X hW 12 rfl 1 rfl rfl iwX5 (by decide) wq_192 rfl dX5_estimate_52 ?_
          refine lv_iload_n hx hb dX5_estimate_55 rfl (lv_at hl 5 rfl) ?_
          refine lv_iload hx hb dX5_estimate_56 (lv_at hl 0 rfl) ?_
          refine z_if_lt hx hb rfl (by rw [hal]; omega) (tgt := 75) dX5_estimate_58 (by decide) (fun c_58 => ?_) (fun c_58 => ?_)
          · refine lv_iconst (v := nI 0) hx hb dX5_estimate_75 (by decide) ?_
            refine n_zast X hW (n := 8) (f := wx) 14 rfl (w2 := (fW G f lc bc q2 ln rs rm bn bd pr ic fl u2 v2 gp ++ (sW G h bs bv cf (va_up wx (mm - 1) 0) hh ++ Y))) rfl (by omega) (by decide) (by decide) dX5_estimate_76 (fun H locs hW => ?_)
            refine lv_aload_n hx hb dX5_estimate_77 rfl (lv_at hl 2 rfl) ?_
            refine x_get X hW 12 rfl 2 rfl rfl iwX5 (by decide) wq_193 rfl dX5_estimate_78 ?_
            refine lv_iload_n hx hb dX5_estimate_81 rfl (lv_at hl 5 rfl) ?_
            refine lv_aload_n hx hb dX5_estimate_82 rfl (lv_at hl 2 rfl) ?_
            refine x_get X hW 12 rfl 2 rfl rfl iwX5 (by decide) wq_193 rfl dX5_estimate_83 ?_
            refine lv_iload_n hx hb dX5_estimate_86 rfl (lv_at hl 5 rfl) ?_
            refine lv_iconst (v := nI 1) hx hb dX5_estimate_87 (by decide) ?_
            refine n_iadd hx hb dX5_estimate_88 ?_
            refine n_iald X hW (n := 9) (f := hh) 15 rfl (by omega) (by decide) dX5_estimate_89 ?_
            refine lv_aload_n hx hb dX5_estimate_90 rfl (lv_at hl 2 rfl) ?_
            refine x_get X hW 12 rfl 1 rfl rfl iwX5 (by decide) wq_192 rfl dX5_estimate_91 ?_
            refine lv_iload_n hx hb dX5_estimate_94 rfl (lv_at hl 5 rfl) ?_
            refine n_zald X hW (n := 8) (f := (va_up wx (mm - 1) 0)) 14 rfl (by omega) (by decide) dX5_estimate_95 ?_
            refine r_n (up_eq _ _ _) ?_
            refine n_if_eq hx hb rfl (by omega) (tgt := 104) dX5_estimate_96 (by decide) (fun c_96 => ?_) (fun c_96 => absurd c_96 (by decide))
            refine lv_iconst (v := nI 0) hx hb dX5_estimate_104 (by decide) ?_
            refine n_iadd hx hb dX5_estimate_105 ?_
            refine n_iast X hW (n := 9) (f := hh) 15 rfl (w2 := (fW G f lc bc q2 ln rs rm bn bd pr ic fl u2 v2 gp ++ (sW G h bs bv cf (va_up wx (mm - 1) 0) (va_up hh (mm - 1) ((hh ((mm - 1) + 1)) + 0)) ++ Y))) rfl (by omega) (by decide) dX5_estimate_106 (fun H locs hW => ?_)
            refine lv_iinc (v := (zI ((((mm - 1) : Nat) : Int) + (-1)))) (lv' := [(3, .int (zI ((((mm - 1) : Nat) : Int) + (-1)))), (5, .int (zI (alo (fun t => lcost t bc lc bd ic fl rs) pr (mm - 1)))), (4, .int (zI (lcost (2 ^ (mm - 1)) bc lc bd ic fl rs))), (0, .ref (h 0)), (1, .ref (f 0)), (2, .int (zI wo))]) hx hb dX5_estimate_107 hl (k := 5) rfl ((by rw [nZ]; exact zI_add _ _)) (by decide) rfl (fun ls hl => ?_)
            refine lv_goto (tgt := 17) hx hb dX5_estimate_110 (by decide) ?_
            have hws : wtS (fun t => lcost t bc lc bd ic fl rs) pr bd wo (mm - 1) = false := by rw [wtS, decide_eq_false (by omega)]; rfl
            have hst : (hopS (fun t => lcost t bc lc bd ic fl rs) pr bd wo bc (bc - (mm - 1))) = (hopS (fun t => lcost t bc lc bd ic fl rs) pr bd wo bc (bc - mm)) + (if wtS (fun t => lcost t bc lc bd ic fl rs) pr bd wo (mm - 1) = true then (alo (fun t => lcost t bc lc bd ic fl rs) pr (mm - 1)).toNat else 0) := by rw [show bc - (mm - 1) = (bc - mm) + 1 by omega, hopS, show bc - (bc - mm + 1) = mm - 1 by omega]
            rw [hws] at hst
            exact ih (mm - 1) q2 u2 v2 _ _ (by omega) (by omega) g3 g4 g5 (fun k => by unfold va_up; split; decide; exact h6 k) (fun k hk hk2 => by unfold va_up; split; rename_i e; rw [e, hws]; rfl; exact h7 k (by omega) hk2) (fun k hk hk2 => by unfold va_up; split; rename_i e; rw [e, hst, show mm - 1 + 1 = mm by omega, hho (by omega)]; rfl; exact h8 k (by omega) hk2) _ _ _ hW (lv_sub hl [3, 4, 5, 0] rfl)
          · refine lv_aload_n hx hb dX5_estimate_61 rfl (lv_at hl 3 rfl) ?_
            refine x_getN X hW 0 rfl 4 rfl rfl iwX1 (by decide) wq_138 rfl dX5_estimate_62 ?_
            refine lv_iload_n hx hb dX5_estimate_65 rfl (lv_at hl 5 rfl) ?_
            refine n_iald X hW (n := 8) (f := bd) 5 rfl (by omega) (by decide) dX5_estimate_66 ?_
            refine lv_iload_n hx hb dX5_estimate_67 rfl (lv_at hl 4 rfl) ?_
            refine z_icmp_eq hx hb (nZ _) rfl (by have := hbd (mm - 1); omega) (by omega) (tgt := 75) dX5_estimate_68 (by decide) (fun c_68 => ?_) (fun c_68 => ?_)
            · refine lv_iconst (v := nI 0) hx hb dX5_estimate_75 (by decide) ?_
              refine n_zast X hW (n := 8) (f := wx) 14 rfl (w2 := (fW G f lc bc q2 ln rs rm bn bd pr ic fl u2 v2 gp ++ (sW G h bs bv cf (va_up wx (mm - 1) 0) hh ++ Y))) rfl (by omega) (by decide) (by decide) dX5_estimate_76 (fun H locs hW => ?_)
              refine lv_aload_n hx hb dX5_estimate_77 rfl (lv_at hl 2 rfl) ?_
              refine x_get X hW 12 rfl 2 rfl rfl iwX5 (by decide) wq_193 rfl dX5_estimate_78 ?_
              refine lv_iload_n hx hb dX5_estimate_81 rfl (lv_at hl 5 rfl) ?_
              refine lv_aload_n hx hb dX5_estimate_82 rfl (lv_at hl 2 rfl) ?_
              refine x_get X hW 12 rfl 2 rfl rfl iwX5 (by decide) wq_193 rfl dX5_estimate_83 ?_
              refine lv_iload_n hx hb dX5_estimate_86 rfl (lv_at hl 5 rfl) ?_
              refine lv_iconst (v := nI 1) hx hb dX5_estimate_87 (by decide) ?_
              refine n_iadd hx hb dX5_estimate_88 ?_
              refine n_iald X hW (n := 9) (f := hh) 15 rfl (by omega) (by decide) dX5_estimate_89 ?_
              refine lv_aload_n hx hb dX5_estimate_90 rfl (lv_at hl 2 rfl) ?_
              refine x_get X hW 12 rfl 1 rfl rfl iwX5 (by decide) wq_192 rfl dX5_estimate_91 ?_
              refine lv_iload_n hx hb dX5_estimate_94 rfl (lv_at hl 5 rfl) ?_
              refine n_zald X hW (n := 8) (f := (va_up wx (mm - 1) 0)) 14 rfl (by omega) (by decide) dX5_estimate_95 ?_
              refine r_n (up_eq _ _ _) ?_
              refine n_if_eq hx hb rfl (by omega) (tgt := 104) dX5_estimate_96 (by decide) (fun c_96 => ?_) (fun c_96 => absurd c_96 (by decide))
              refine lv_iconst (v := nI 0) hx hb dX5_estimate_104 (by decide) ?_
              refine n_iadd hx hb dX5_estimate_105 ?_
              refine n_iast X hW (n := 9) (f := hh) 15 rfl (w2 := (fW G f lc bc q2 ln rs rm bn bd pr ic fl u2 v2 gp ++ (sW G h bs bv cf (va_up wx (mm - 1) 0) (va_up hh (mm - 1) ((hh ((mm - 1) + 1)) + 0)) ++ Y))) rfl (by omega) (by decide) dX5_estimate_106 (fun H locs hW => ?_)
              refine lv_iinc (v := (zI ((((mm - 1) : Nat) : Int) + (-1)))) (lv' := [(3, .int (zI ((((mm - 1) : Nat) : Int) + (-1)))), (5, .int (zI (alo (fun t => lcost t bc lc bd ic fl rs) pr (mm - 1)))), (4, .int (zI (lcost (2 ^ (mm - 1)) bc lc bd ic fl rs))), (0, .ref (h 0)), (1, .ref (f 0)), (2, .int (zI wo))]) hx hb dX5_estimate_107 hl (k := 5) rfl ((by rw [nZ]; exact zI_add _ _)) (by decide) rfl (fun ls hl => ?_)
              refine lv_goto (tgt := 17) hx hb dX5_estimate_110 (by decide) ?_
              have hws : wtS (fun t => lcost t bc lc bd ic fl rs) pr bd wo (mm - 1) = false := by simp [wtS, c_68]
              have hst : (hopS (fun t => lcost t bc lc bd ic fl rs) pr bd wo bc (bc - (mm - 1))) = (hopS (fun t => lcost t bc lc bd ic fl rs) pr bd wo bc (bc - mm)) + (if wtS (fun t => lcost t bc lc bd ic fl rs) pr bd wo (mm - 1) = true then (alo (fun t => lcost t bc lc bd ic fl rs) pr (mm - 1)).toNat else 0) := by rw [show bc - (mm - 1) = (bc - mm) + 1 by omega, hopS, show bc - (bc - mm + 1) = mm - 1 by omega]
              rw [hws] at hst
              exact ih (mm - 1) q2 u2 v2 _ _ (by omega) (by omega) g3 g4 g5 (fun k => by unfold va_up; split; decide; exact h6 k) (fun k hk hk2 => by unfold va_up; split; rename_i e; rw [e, hws]; rfl; exact h7 k (by omega) hk2) (fun k hk hk2 => by unfold va_up; split; rename_i e; rw [e, hst, show mm - 1 + 1 = mm by omega, hho (by omega)]; rfl; exact h8 k (by omega) hk2) _ _ _ hW (lv_sub hl [3, 4, 5, 0] rfl)
            · refine lv_iconst (v := nI 1) hx hb dX5_estimate_71 (by decide) ?_
              refine lv_goto (tgt := 76) hx hb dX5_estimate_72 (by decide) ?_
              refine n_zast X hW (n := 8) (f := wx) 14 rfl (w2 := (fW G f lc bc q2 ln rs rm bn bd pr ic fl u2 v2 gp ++ (sW G h bs bv cf (va_up wx (mm - 1) 1) hh ++ Y))) rfl (by omega) (by decide) (by decide) dX5_estimate_76 (fun H locs hW => ?_)
              refine lv_aload_n hx hb dX5_estimate_77 rfl (lv_at hl 2 rfl) ?_
              refine x_get X hW 12 rfl 2 rfl rfl iwX5 (by decide) wq_193 rfl dX5_estimate_78 ?_
              refine lv_iload_n hx hb dX5_estimate_81 rfl (lv_at hl 5 rfl) ?_
              refine lv_aload_n hx hb dX5_estimate_82 rfl (lv_at hl 2 rfl) ?_
              refine x_get X hW 12 rfl 2 rfl rfl iwX5 (by decide) wq_193 rfl dX5_estimate_83 ?_
              refine lv_iload_n hx hb dX5_estimate_86 rfl (lv_at hl 5 rfl) ?_
              refine lv_iconst (v := nI 1) hx hb dX5_estimate_87 (by decide) ?_
              refine n_iadd hx hb dX5_estimate_88 ?_
              refine n_iald X hW (n := 9) (f := hh) 15 rfl (by omega) (by decide) dX5_estimate_89 ?_
              refine lv_aload_n hx hb dX5_estimate_90 rfl (lv_at hl 2 rfl) ?_
              refine x_get X hW 12 rfl 1 rfl rfl iwX5 (by decide) wq_192 rfl dX5_estimate_91 ?_
              refine lv_iload_n hx hb dX5_estimate_94 rfl (lv_at hl 5 rfl) ?_
              refine n_zald X hW (n := 8) (f := (va_up wx (mm - 1) 1)) 14 rfl (by omega) (by decide) dX5_estimate_95 ?_
              refine r_n (up_eq _ _ _) ?_
              refine n_if_eq hx hb rfl (by omega) (tgt := 104) dX5_estimate_96 (by decide) (fun c_96 => absurd c_96 (by decide)) (fun c_96 => ?_)
              refine lv_iload hx hb dX5_estimate_99 (lv_at hl 0 rfl) ?_
              refine lv_goto (tgt := 105) hx hb dX5_estimate_101 (by decide) ?_
              refine r_zn (a := (alo (fun t => lcost t bc lc bd ic fl rs) pr (mm - 1)).toNat) (by omega) ?_
              refine n_iadd hx hb dX5_estimate_105 ?_
              refine n_iast X hW (n := 9) (f := hh) 15 rfl (w2 := (fW G f lc bc q2 ln rs rm bn bd pr ic fl u2 v2 gp ++ (sW G h bs bv cf (va_up wx (mm - 1) 1) (va_up hh (mm - 1) ((hh ((mm - 1) + 1)) + (alo (fun t => lcost t bc lc bd ic fl rs) pr (mm - 1)).toNat)) ++ Y))) rfl (by omega) (by decide) dX5_estimate_106 (fun H locs hW => ?_)
              refine lv_iinc (v := (zI ((((mm - 1) : Nat) : Int) + (-1)))) (lv' := [(3, .int (zI ((((mm - 1) : Nat) : Int) + (-1)))), (5, .int (zI (alo (fun t => lcost t bc lc bd ic fl rs) pr (mm - 1)))), (4, .int (zI (lcost (2 ^ (mm - 1)) bc lc bd ic fl rs))), (0, .ref (h 0)), (1, .ref (f 0)), (2, .int (zI wo))]) hx hb dX5_estimate_107 hl (k := 5) rfl ((by rw [nZ]; exact zI_add _ _)) (by decide) rfl (fun ls hl => ?_)
              refine lv_goto (tgt := 17) hx hb dX5_estimate_110 (by decide) ?_
              have hws : wtS (fun t => lcost t bc lc bd ic fl rs) pr bd wo (mm - 1) = true := by rw [wtS, decide_eq_true (by omega), decide_eq_true c_68]; rfl
              have hst : (hopS (fun t => lcost t bc lc bd ic fl rs) pr bd wo bc (bc - (mm - 1))) = (hopS (fun t => lcost t bc lc bd ic fl rs) pr bd wo bc (bc - mm)) + (if wtS (fun t => lcost t bc lc bd ic fl rs) pr bd wo (mm - 1) = true then (alo (fun t => lcost t bc lc bd ic fl rs) pr (mm - 1)).toNat else 0) := by rw [show bc - (mm - 1) = (bc - mm) + 1 by omega, hopS, show bc - (bc - mm + 1) = mm - 1 by omega]
              rw [hws] at hst
              exact ih (mm - 1) q2 u2 v2 _ _ (by omega) (by omega) g3 g4 g5 (fun k => by unfold va_up; split; decide; exact h6 k) (fun k hk hk2 => by unfold va_up; split; rename_i e; rw [e, hws]; rfl; exact h7 k (by omega) hk2) (fun k hk hk2 => by unfold va_up; split; rename_i e; rw [e, hst, show mm - 1 + 1 = mm by omega, hho (by omega)]; rfl; exact h8 k (by omega) hk2) _ _ _ hW (lv_sub hl [3, 4, 5, 0] rfl)
  exact loop (bc + 1) bc ql qu rc wt (va_up ho bc 0) (by omega) (by omega) hql hqu hrc hwt (fun k h1 h2 => absurd h1 (by omega)) (fun k h1 h2 => by rw [show k = bc by omega, up_eq, Nat.sub_self]; rfl) _ _ _ hW (lv_sub hl [1, 2, 3, 0] rfl)

