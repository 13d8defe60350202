theorem nar_b (P : Prop) {D : Decidable P} : narrow .boolean (.int (nI (if P then 1 else 0))) = .int (nI (if P then 1 else 0)) := by
  split <;> rfl
theorem sh1_le (n k : Nat) : (n / 2 ^ k) &&& 1 ≤ 1 := Nat.and_le_right
theorem sh1_t {n k : Nat} (h : (n / 2 ^ k) &&& 1 = 1) : n.testBit k = true := by
  rw [Nat.testBit_eq_decide_div_mod_eq, ← Nat.and_one_is_mod, h]; rfl
theorem sh1_f {n k : Nat} (h : ¬ (n / 2 ^ k) &&& 1 = 1) : n.testBit k = false := by
  rw [Nat.testBit_eq_decide_div_mod_eq, ← Nat.and_one_is_mod]
  exact decide_eq_false h
theorem or_xor_all : ∀ x, x < 256 → ∀ l, l < 8 → x.testBit l = false → (x ||| 2 ^ l) ^^^ 2 ^ l = x ∧ (x ||| 2 ^ l).testBit l = true := by decide +kernel
theorem xor_or_all : ∀ x, x < 256 → ∀ l, l < 8 → x.testBit l = true → (x ^^^ 2 ^ l) ||| 2 ^ l = x ∧ (x ^^^ 2 ^ l).testBit l = false ∧ x ^^^ 2 ^ l < 256 := by decide +kernel
theorem bsum_ins {p q : Nat → Bool} {g : Nat → Nat} {l n : Nat} (hl : l < n) (hp : p l = false) (hq : q l = true) (h : ∀ k, k ≠ l → p k = q k) : bsum q g n = bsum p g n + g l := by
  induction n with
  | zero => omega
  | succ n ih =>
    by_cases e : l = n
    · subst e
      rw [bsum_t hq, bsum_f hp, bsum_congr (p := q) (q := p) (g2 := g) (fun k hk => ⟨(h k (by omega)).symm, rfl⟩)]
    · rw [bsum, bsum, ih (by omega), h n (fun q => e q.symm)]
      omega
theorem rsm_or {x l n : Nat} {rsv : Nat → Nat} (hl : l < n) (hb : x.testBit l = false) : bsum (x ||| 2 ^ l).testBit rsv n = bsum x.testBit rsv n + rsv l := by
  refine bsum_ins hl hb ?_ (fun k hk => ?_)
  · rw [Nat.testBit_or, Nat.testBit_two_pow_self, Bool.or_true]
  · rw [Nat.testBit_or, Nat.testBit_two_pow_of_ne (fun q => hk q.symm), Bool.or_false]
/-- the costs of the sets of lots, for items (the last one first) -/
def CM (cos : Nat → Nat) (base n : Nat) (rsv : Nat → Nat) (L : List Nat) : Prop := ∀ m, m < 256 → cos (base + m) = if fil n L m = true then bsum m.testBit rsv n else 1000000
def addM (mk : Nat → Nat) (n : Nat) (R : List Nat) : List Nat := match n with
  | 0 => R
  | n + 1 => mk n :: addM mk n R
theorem addI_addM (fl : Nat → Nat) (k n : Nat) (R : List Nat) : addI fl k n R = addM (fun i => fl (k * 3 + i)) n R := by
  induction n with
  | zero => rfl
  | succ n ih => rw [addI, addM, ih]
/-- the items can be had -/
abbrev canB (n : Nat) (L : List Nat) : Prop := fst1 (fil n L) 256 < 256
theorem canB_of {n m : Nat} {L : List Nat} (hm : m < 256) (h : fil n L m = true) : canB n L := (fst1_lt hm h).1
theorem canB_ex {n : Nat} {L : List Nat} (h : canB n L) : ∃ m, m < 256 ∧ fil n L m = true := ⟨_, h, fst1_of_lt h⟩
theorem fil_ex {n it m : Nat} {L : List Nat} : fil n (it :: L) m = true ↔ ∃ k, k < n ∧ m.testBit k = true ∧ it.testBit k = true ∧ fil n L (m ^^^ 2 ^ k) = true := by
  rw [fil]
  simp only [decide_eq_true_eq]
  constructor
  · intro h
    have h1 := fst1_of_lt h
    rw [Bool.and_eq_true, Bool.and_eq_true] at h1
    exact ⟨_, h, h1.1.1, h1.1.2, h1.2⟩
  · rintro ⟨k, h1, h2, h3, h4⟩
    exact (fst1_lt h1 (by rw [h2, h3, h4]; rfl)).1
theorem canB_tail {n it : Nat} {L : List Nat} (hn : n ≤ 8) (h : canB n (it :: L)) : canB n L := by
  obtain ⟨m, hm, h1⟩ := canB_ex h
  obtain ⟨k, a1, a2, -, a4⟩ := fil_ex.mp h1
  exact canB_of (xor_or_all m hm k (by omega) a2).2.2 a4
theorem canB_mono {n : Nat} {mk : Nat → Nat} {L : List Nat} (hn : n ≤ 8) {k c : Nat} (h : k ≤ c) (hc : canB n (addM mk c L)) : canB n (addM mk k L) := by
  induction c with
  | zero => rw [show k = 0 by omega]; exact hc
  | succ c ih =>
    by_cases q : k = c + 1
    · rw [q]; exact hc
    · exact ih (by omega) (canB_tail hn hc)
/-- the sets that can be filled through one of the first l lots -/
def FPl (n it : Nat) (L : List Nat) (l x : Nat) : Prop := ∃ k, k < l ∧ x.testBit k = true ∧ it.testBit k = true ∧ fil n L (x ^^^ 2 ^ k) = true
theorem FPl_no {n it l x : Nat} {L : List Nat} (h : it.testBit l = false) : FPl n it L (l + 1) x ↔ FPl n it L l x := by
  constructor
  · rintro ⟨k, a1, a2, a3, a4⟩
    by_cases q : k = l
    · subst q; rw [h] at a3; exact absurd a3 (by decide)
    · exact ⟨k, by omega, a2, a3, a4⟩
  · rintro ⟨k, a1, a2⟩
    exact ⟨k, by omega, a2⟩
/-- .. or through lot l, with the others below x -/
def FQl (n it : Nat) (L : List Nat) (l x y : Nat) : Prop := FPl n it L l y ∨ (y.testBit l = true ∧ fil n L (y ^^^ 2 ^ l) = true ∧ y ^^^ 2 ^ l < x)
theorem FQl_0 {n it l y : Nat} {L : List Nat} : FQl n it L l 0 y ↔ FPl n it L l y := ⟨fun h => h.elim id (fun q => absurd q.2.2 (Nat.not_lt_zero _)), Or.inl⟩
theorem FQl_all {n it l y : Nat} {L : List Nat} (hl : l < 8) (hy : y < 256) (hb : it.testBit l = true) : FQl n it L l 256 y ↔ FPl n it L (l + 1) y := by
  constructor
  · rintro (⟨k, a1, a2⟩ | ⟨a1, a2, -⟩)
    · exact ⟨k, by omega, a2⟩
    · exact ⟨l, by omega, a1, hb, a2⟩
  · rintro ⟨k, a1, a2, a3, a4⟩
    by_cases q : k = l
    · subst q; exact Or.inr ⟨a2, a4, (xor_or_all y hy k hl a2).2.2⟩
    · exact Or.inl ⟨k, by omega, a2, a3, a4⟩
theorem FQl_skip {n it l x y : Nat} {L : List Nat} (hl : l < 8) (hy : y < 256) (h : fil n L x = false ∨ x.testBit l = true) : FQl n it L l (x + 1) y ↔ FQl n it L l x y := by
  constructor
  · rintro (a | ⟨a1, a2, a3⟩)
    · exact Or.inl a
    · have hx := xor_or_all y hy l hl a1
      by_cases q : y ^^^ 2 ^ l = x
      · rcases h with h | h
        · rw [q] at a2; rw [h] at a2; exact absurd a2 (by decide)
        · rw [q] at hx; rw [h] at hx; exact absurd hx.2.1 (by decide)
      · exact Or.inr ⟨a1, a2, by omega⟩
  · rintro (a | ⟨a1, a2, a3⟩)
    · exact Or.inl a
    · exact Or.inr ⟨a1, a2, by omega⟩
theorem FQl_add {n it l x y : Nat} {L : List Nat} (hl : l < 8) (hx : x < 256) (hy : y < 256) (h : fil n L x = true) (hb : x.testBit l = false) : FQl n it L l (x + 1) y ↔ FQl n it L l x y ∨ y = x ||| 2 ^ l := by
  have ho := or_xor_all x hx l hl hb
  constructor
  · rintro (a | ⟨a1, a2, a3⟩)
    · exact Or.inl (Or.inl a)
    · have hz := xor_or_all y hy l hl a1
      by_cases q : y ^^^ 2 ^ l = x
      · right; rw [← q]; exact hz.1.symm
      · exact Or.inl (Or.inr ⟨a1, a2, by omega⟩)
  · rintro ((a | ⟨a1, a2, a3⟩) | q)
    · exact Or.inl a
    · exact Or.inr ⟨a1, a2, by omega⟩
    · subst q
      exact Or.inr ⟨ho.2, by rw [ho.1]; exact h, by omega⟩
theorem rsm_le {n m : Nat} {rsv : Nat → Nat} (hn : n ≤ 8) (hr : ∀ k, rsv k ≤ 999) : bsum m.testBit rsv n < 1000000 := by
  have := bsum_le (p := m.testBit) n hr
  omega
/-- what the row of costs holds while lots are gone through -/
def CQ (g : Nat → Nat) (base n : Nat) (rsv : Nat → Nat) (P : Nat → Prop) : Prop := ∀ y, y < 256 → (P y → g (base + y) = bsum y.testBit rsv n) ∧ (¬ P y → g (base + y) = 1000000)
theorem CQ_iff {g : Nat → Nat} {base n : Nat} {rsv : Nat → Nat} {P Q : Nat → Prop} (h : CQ g base n rsv P) (e : ∀ y, y < 256 → (Q y ↔ P y)) : CQ g base n rsv Q := fun y hy => ⟨fun q => (h y hy).1 ((e y hy).mp q), fun q => (h y hy).2 (fun r => q ((e y hy).mpr r))⟩
theorem CQ_put {g : Nat → Nat} {base n l x : Nat} {rsv : Nat → Nat} {P Q : Nat → Prop} (hl : l < n) (hn : n ≤ 8) (hx : x < 256) (hb : x.testBit l = false) (h : CQ g base n rsv P) (e : ∀ y, y < 256 → (Q y ↔ P y ∨ y = x ||| 2 ^ l)) : CQ (va_up g (base + (x ||| 2 ^ l)) (bsum x.testBit rsv n + rsv l)) base n rsv Q := by
  intro y hy
  unfold va_up
  by_cases q : y = x ||| 2 ^ l
  · subst q
    rw [if_pos rfl, ← rsm_or hl hb]
    exact ⟨fun _ => rfl, fun r => absurd ((e _ hy).mpr (Or.inr rfl)) r⟩
  · rw [if_neg (by omega)]
    exact ⟨fun r => (h y hy).1 (((e y hy).mp r).elim id (fun z => absurd z q)), fun r => (h y hy).2 (fun z => r ((e y hy).mpr (Or.inl z)))⟩
theorem CQ_let {g : Nat → Nat} {base n l x : Nat} {rsv : Nat → Nat} {P Q : Nat → Prop} (hl : l < n) (hn : n ≤ 8) (hr : ∀ k, rsv k ≤ 999) (hx : x < 256) (hb : x.testBit l = false) (h : CQ g base n rsv P) (e : ∀ y, y < 256 → (Q y ↔ P y ∨ y = x ||| 2 ^ l)) (hge : g (base + (x ||| 2 ^ l)) ≤ bsum x.testBit rsv n + rsv l) : CQ g base n rsv Q := by
  intro y hy
  refine ⟨fun r => ?_, fun r => (h y hy).2 (fun z => r ((e y hy).mpr (Or.inl z)))⟩
  rcases (e y hy).mp r with z | z
  · exact (h y hy).1 z
  · rcases Classical.em (P y) with w | w
    · exact (h y hy).1 w
    · have h2 := (h y hy).2 w
      have h3 := rsm_le (m := y) hn hr
      rw [z] at h2 h3
      rw [rsm_or hl hb] at h3
      omega
/-- the flag tells whether a set has been found -/
def pzI (pz : Nat) (P : Nat → Prop) : Prop := pz = 1 ↔ ∃ y, y < 256 ∧ P y
theorem pzI_iff {pz : Nat} {P Q : Nat → Prop} (h : pzI pz P) (e : ∀ y, y < 256 → (Q y ↔ P y)) : pzI pz Q := by
  unfold pzI at h ⊢
  rw [h]
  exact ⟨fun ⟨y, a1, a2⟩ => ⟨y, a1, (e y a1).mpr a2⟩, fun ⟨y, a1, a2⟩ => ⟨y, a1, (e y a1).mp a2⟩⟩
theorem pzI_1 {P : Nat → Prop} {y : Nat} (hy : y < 256) (h : P y) : pzI 1 P := ⟨fun _ => ⟨y, hy, h⟩, fun _ => rfl⟩
theorem pzI_0 {P : Nat → Prop} (h : ∀ y, ¬ P y) : pzI 0 P := ⟨fun q => absurd q (by decide), fun ⟨y, _, q⟩ => absurd q (h y)⟩
theorem pzI_val {pz n it : Nat} {L : List Nat} (hp : pz ≤ 1) (h : pzI pz (FPl n it L n)) : (if canB n (it :: L) then 1 else 0) = pz := by
  have hc : canB n (it :: L) ↔ pz = 1 := by
    constructor
    · intro q
      obtain ⟨y, a1, a2⟩ := canB_ex q
      exact h.mpr ⟨y, a1, fil_ex.mp a2⟩
    · intro q
      obtain ⟨y, a1, a2⟩ := h.mp q
      exact canB_of a1 (fil_ex.mpr a2)
  split
  · rename_i q; exact (hc.mp q).symm
  · rename_i q
    have : ¬ pz = 1 := fun r => q (hc.mpr r)
    clear h hc
    omega
theorem CM_of {g : Nat → Nat} {base n it : Nat} {rsv : Nat → Nat} {L : List Nat} (h : CQ g base n rsv (FPl n it L n)) : CM g base n rsv (it :: L) := by
  intro m hm
  split
  · rename_i q; exact (h m hm).1 (fil_ex.mp q)
  · rename_i q; exact (h m hm).2 (fun z => q (fil_ex.mpr z))
set_option maxRecDepth 100000 in
set_option maxHeartbeats 4000000 in
theorem c_X7_adds (l : Launch) (G : Gt) (a : Nat → Nat) (th lo bi ru ol ob : Nat) (tk : Int) (fib gra res buy lst bst rea bid pri itm akf akg got : Nat → Nat) (pai : Nat → Int) (riv rf ro rs lat bat : Nat → Nat) (val : Nat → Int) (cos row ahe wan giv : Nat → Nat) (Y : va_W) (b d : Nat) (mk : Nat → Nat) (L : List Nat) (hI : MIa lo bi ru ol ob fib gra res buy lst bst rea bid pri itm akf akg got pai riv rf ro rs) (hb40 : b < 40) (hd : d < 8) (hmk : ∀ k, k < 3 → ∀ l, l < ol → (mk k).testBit l = suiB fib gra rf ro rs ru akf akg (lat l) (3 * b + k)) (hlat : ∀ k, lat k < 40) (hcos : ∀ x, cos x ≤ 2000000) (hrow : ∀ x, row x ≤ 2000000) (hCM : CM cos (256 * d) ol (fun l => res (lat l)) L) (hE : canB ol L) : Ci l G yX7_adds (ww yX7_adds cX7_adds 9 (some FieldType.boolean)) (RM 2 0 0) [.ref (a 0), .int (nI b), .int (nI d)] (mW G a th lo bi ru ol ob tk fib gra res buy lst bst rea bid pri itm akf akg got pai riv rf ro rs lat bat val cos row ahe wan giv ++ Y) (fun r w2 => ∃ g r2 : Nat → Nat, r = nI (if canB ol (addM mk (itm b) L) then 1 else 0) ∧ (∀ x, x < ((256 * d) + 256) → g x = cos x) ∧ (∀ x, g x ≤ 2000000) ∧ (∀ x, r2 x ≤ 2000000) ∧ (canB ol (addM mk (itm b) L) → CM g ((256 * d) + 256) ol (fun l => res (lat l)) (addM mk (itm b) L)) ∧ w2 = (mW G a th lo bi ru ol ob tk fib gra res buy lst bst rea bid pri itm akf akg got pai riv rf ro rs lat bat val g r2 ahe wan giv ++ Y)) := by
  refine Ci.intro (by decide) (Nat.le_of_ble_eq_true rfl) ?_
  intro p e s m args below meth c A X hW ls hl
  have hx := X.exec
  have hb := X.bytes
  have hl : lv_has ls 9 [(0, .ref (a 0)), (1, .int (nI b)), (2, .int (nI d))] := hl
  obtain ⟨hlo, hbi, hru, hol, hob, hfib, hgra, hres, hbuy, hlst, hbst, hrea, hbid, hpri, hitm, hakf, hakg, hgot, hriv, hrf, hro, hrs, hpai, hcl, hcb⟩ := id hI
  refine lv_iconst (v := nI 0) hx hb dX7_adds_0 (by decide) ?_
  refine lv_istore_n (lv' := [(3, .int (nI 0)), (0, .ref (a 0)), (1, .int (nI b)), (2, .int (nI d))]) hx hb dX7_adds_1 rfl hl (by decide) rfl (fun ls hl => ?_)
  have loop : ∀ (n : Nat) (k : Nat) (g : Nat → Nat), 256 + 1 ≤ k + n → k ≤ 256 → (∀ x, x < ((256 * d) + 256) → g x = cos x) → (∀ i, i < k → g (((256 * d) + 256) + i) = cos ((256 * d) + i)) → (∀ x, g x ≤ 2000000) → ∀ (H : Heap) (locs : List Loc) (ls : Array Slot), Wd G A s (mW G a th lo bi ru ol ob tk fib gra res buy lst bst rea bid pri itm akf akg got pai riv rf ro rs lat bat val g row ahe wan giv ++ Y) H locs → lv_has ls 9 [(0, .ref (a 0)), (1, .int (nI b)), (2, .int (nI d)), (3, .int (nI k))] → W p l e (RM 2 0 0) s m args below meth c H locs 0 0 (MQ below (Qi G A (fun r w2 => ∃ g r2 : Nat → Nat, r = nI (if canB ol (addM mk (itm b) L) then 1 else 0) ∧ (∀ x, x < ((256 * d) + 256) → g x = cos x) ∧ (∀ x, g x ≤ 2000000) ∧ (∀ x, r2 x ≤ 2000000) ∧ (canB ol (addM mk (itm b) L) → CM g ((256 * d) + 256) ol (fun l => res (lat l)) (addM mk (itm b) L)) ∧ w2 = (mW G a th lo bi ru ol ob tk fib gra res buy lst bst rea bid pri itm akf akg got pai riv rf ro rs lat bat val g r2 ahe wan giv ++ Y))) args s (RM 2 0 0).cells (RM 2 0 0).slots A) (F0 m 2 ls []) := by
    intro n
    induction n with
    | zero => intro k g h1 h2 h3 h4 h5; exact absurd h1 (by omega)
    | succ n ih =>
      intro k g h1 h2 h3 h4 h5 H locs ls hW hl
      refine lv_iload_n hx hb dX7_adds_2 rfl (lv_at hl 3 rfl) ?_
      refine lv_sipush (v := nI 256) hx hb dX7_adds_3 (by decide) ?_
      refine n_icmp_ge hx hb rfl rfl (by omega) (by omega) (tgt := 43) dX7_adds_6 (by decide) (fun c_6 => ?_) (fun c_6 => ?_)
      · refine lv_iconst (v := nI 1) hx hb dX7_adds_43 (by decide) ?_
        refine lv_istore_n (lv' := [(3, .int (nI 1)), (0, .ref (a 0)), (1, .int (nI b)), (2, .int (nI d))]) hx hb dX7_adds_44 rfl hl (by decide) rfl (fun ls hl => ?_)
        refine lv_iconst (v := nI 0) hx hb dX7_adds_45 (by decide) ?_
        refine lv_istore (lv' := [(4, .int (nI 0)), (3, .int (nI 1)), (0, .ref (a 0)), (1, .int (nI b)), (2, .int (nI d))]) hx hb dX7_adds_46 hl (by decide) rfl (fun ls hl => ?_)
        have ek : k = 256 := by omega
        have loopK : ∀ (n : Nat) (k : Nat) (g r2 : Nat → Nat), itm b + 1 ≤ k + n → k ≤ itm b → (∀ x, x < ((256 * d) + 256) → g x = cos x) → (∀ x, g x ≤ 2000000) → (∀ x, r2 x ≤ 2000000) → (canB ol (addM mk k L) → CM g ((256 * d) + 256) ol (fun l => res (lat l)) (addM mk k L)) → ∀ (H : Heap) (locs : List Loc) (ls : Array Slot), Wd G A s (mW G a th lo bi ru ol ob tk fib gra res buy lst bst rea bid pri itm akf akg got pai riv rf ro rs lat bat val g r2 ahe wan giv ++ Y) H locs → lv_has ls 9 [(0, .ref (a 0)), (1, .int (nI b)), (2, .int (nI d)), (3, .int (nI (if canB ol (addM mk k L) then 1 else 0))), (4, .int (nI k))] → W p l e (RM 2 0 0) s m args below meth c H locs 0 0 (MQ below (Qi G A (fun r w2 => ∃ g r2 : Nat → Nat, r = nI (if canB ol (addM mk (itm b) L) then 1 else 0) ∧ (∀ x, x < ((256 * d) + 256) → g x = cos x) ∧ (∀ x, g x ≤ 2000000) ∧ (∀ x, r2 x ≤ 2000000) ∧ (canB ol (addM mk (itm b) L) → CM g ((256 * d) + 256) ol (fun l => res (lat l)) (addM mk (itm b) L)) ∧ w2 = (mW G a th lo bi ru ol ob tk fib gra res buy lst bst rea bid pri itm akf akg got pai riv rf ro rs lat bat val g r2 ahe wan giv ++ Y))) args s (RM 2 0 0).cells (RM 2 0 0).slots A) (F0 m 48 ls []) := by
          intro n
          induction n with
          | zero => intro k g r2 k1 k2 k3 k4 k5 k6; exact absurd k1 (by omega)
          | succ n ihK =>
            intro k g r2 k1 k2 k3 k4 k5 k6 H locs ls hW hl
            have hib := hitm b
            refine lv_iload hx hb dX7_adds_48 (lv_at hl 4 rfl) ?_
            refine lv_aload_n hx hb dX7_adds_50 rfl (lv_at hl 0 rfl) ?_
            refine x_get X hW 0 rfl 16 rfl rfl iwX7 (by decide) wq_1096 rfl dX7_adds_51 ?_
            refine lv_iload_n hx hb dX7_adds_54 rfl (lv_at hl 1 rfl) ?_
            refine n_iald X hW (n := 40) (f := itm) 10 rfl (by omega) (by decide) dX7_adds_55 ?_
            refine n_icmp_ge hx hb rfl rfl (by omega) (by omega) (tgt := 279) dX7_adds_56 (by decide) (fun c_56 => ?_) (fun c_56 => ?_)
            · refine lv_iload_n hx hb dX7_adds_279 rfl (lv_at hl 3 rfl) ?_
              exact ret_z X hW (v := (nI (if canB ol (addM mk k L) then 1 else 0))) (⟨g, r2, by rw [show itm b = k by omega], k3, k4, k5, fun q => by rw [show itm b = k by omega] at q ⊢; exact k6 q, rfl⟩) rfl (nar_b _) (by decide) (by decide) dX7_adds_280
            · refine lv_iload_n hx hb dX7_adds_59 rfl (lv_at hl 3 rfl) ?_
              refine p_if_eq hx hb (tgt := 279) dX7_adds_60 (by decide) (fun c_60 => ?_) (fun c_60 => ?_)
              · refine lv_iload_n hx hb dX7_adds_279 rfl (lv_at hl 3 rfl) ?_
                have hno : ¬ canB ol (addM mk (itm b) L) := fun q => c_60 (canB_mono hol (show k ≤ itm b by omega) q)
                exact ret_z X hW (v := (nI (if canB ol (addM mk k L) then 1 else 0))) (⟨g, r2, by rw [if_neg c_60, if_neg hno], k3, k4, k5, fun q => absurd q hno, rfl⟩) rfl (nar_b _) (by decide) (by decide) dX7_adds_280
              · refine lv_iconst (v := nI 0) hx hb dX7_adds_63 (by decide) ?_
                refine lv_istore_n (lv' := [(3, .int (nI 0)), (0, .ref (a 0)), (1, .int (nI b)), (2, .int (nI d)), (4, .int (nI k))]) hx hb dX7_adds_64 rfl hl (by decide) rfl (fun ls hl => ?_)
                refine lv_iconst (v := nI 0) hx hb dX7_adds_65 (by decide) ?_
                refine lv_istore (lv' := [(5, .int (nI 0)), (3, .int (nI 0)), (0, .ref (a 0)), (1, .int (nI b)), (2, .int (nI d)), (4, .int (nI k))]) hx hb dX7_adds_66 hl (by decide) rfl (fun ls hl => ?_)
                have loopR : ∀ (n : Nat) (j : Nat) (g1 r1 : Nat → Nat), 256 + 1 ≤ j + n → j ≤ 256 → (∀ x, x < ((256 * d) + 256) → g1 x = cos x) → (∀ x, g1 x ≤ 2000000) → (∀ x, r1 x ≤ 2000000) → (∀ i, i < j → r1 i = g (((256 * d) + 256) + i)) → (∀ i, j ≤ i → i < 256 → g1 (((256 * d) + 256) + i) = g (((256 * d) + 256) + i)) → (∀ i, i < j → g1 (((256 * d) + 256) + i) = 1000000) → ∀ (H : Heap) (locs : List Loc) (ls : Array Slot), Wd G A s (mW G a th lo bi ru ol ob tk fib gra res buy lst bst rea bid pri itm akf akg got pai riv rf ro rs lat bat val g1 r1 ahe wan giv ++ Y) H locs → lv_has ls 9 [(0, .ref (a 0)), (1, .int (nI b)), (2, .int (nI d)), (3, .int (nI 0)), (4, .int (nI k)), (5, .int (nI j))] → W p l e (RM 2 0 0) s m args below meth c H locs 0 0 (MQ below (Qi G A (fun r w2 => ∃ g r2 : Nat → Nat, r = nI (if canB ol (addM mk (itm b) L) then 1 else 0) ∧ (∀ x, x < ((256 * d) + 256) → g x = cos x) ∧ (∀ x, g x ≤ 2000000) ∧ (∀ x, r2 x ≤ 2000000) ∧ (canB ol (addM mk (itm b) L) → CM g ((256 * d) + 256) ol (fun l => res (lat l)) (addM mk (itm b) L)) ∧ w2 = (mW G a th lo bi ru ol ob tk fib gra res buy lst bst rea bid pri itm akf akg got pai riv rf ro rs lat bat val g r2 ahe wan giv ++ Y))) args s (RM 2 0 0).cells (RM 2 0 0).slots A) (F0 m 68 ls []) := by
                  intro n
                  induction n with
                  | zero => intro j g1 r1 r0 r2x r3 r4 r5 r6 r7 r8; exact absurd r0 (by omega)
                  | succ n ihR =>
                    intro j g1 r1 r0 r2x r3 r4 r5 r6 r7 r8 H locs ls hW hl
                    refine lv_iload hx hb dX7_adds_68 (lv_at hl 5 rfl) ?_
                    refine lv_sipush (v := nI 256) hx hb dX7_adds_70 (by decide) ?_
                    refine n_icmp_ge hx hb rfl rfl (by omega) (by omega) (tgt := 125) dX7_adds_73 (by decide) (fun c_73 => ?_) (fun c_73 => ?_)
                    · refine lv_iconst (v := nI 0) hx hb dX7_adds_125 (by decide) ?_
                      refine lv_istore (lv' := [(5, .int (nI 0)), (0, .ref (a 0)), (1, .int (nI b)), (2, .int (nI d)), (3, .int (nI 0)), (4, .int (nI k))]) hx hb dX7_adds_126 hl (by decide) rfl (fun ls hl => ?_)
                      have ej : j = 256 := by omega
                      have hr1 : ∀ i, i < 256 → r1 i = if fil ol (addM mk k L) i = true then bsum i.testBit (fun l => res (lat l)) ol else 1000000 := fun i hi => by rw [r6 i (by omega)]; exact k6 c_60 i hi
                      have loopL : ∀ (n : Nat) (j pz : Nat) (g2 : Nat → Nat), ol + 1 ≤ j + n → j ≤ ol → (∀ y, y < ((256 * d) + 256) → g2 y = cos y) → CQ g2 ((256 * d) + 256) ol (fun l => res (lat l)) (FPl ol (mk k) (addM mk k L) j) → (∀ y, g2 y ≤ 2000000) → pz ≤ 1 → pzI pz (FPl ol (mk k) (addM mk k L) j) → ∀ (H : Heap) (locs : List Loc) (ls : Array Slot), Wd G A s (mW G a th lo bi ru ol ob tk fib gra res buy lst bst rea bid pri itm akf akg got pai riv rf ro rs lat bat val g2 r1 ahe wan giv ++ Y) H locs → lv_has ls 9 [(0, .ref (a 0)), (1, .int (nI b)), (2, .int (nI d)), (3, .int (nI pz)), (4, .int (nI k)), (5, .int (nI j))] → W p l e (RM 2 0 0) s m args below meth c H locs 0 0 (MQ below (Qi G A (fun r w2 => ∃ g r2 : Nat → Nat, r = nI (if canB ol (addM mk (itm b) L) then 1 else 0) ∧ (∀ x, x < ((256 * d) + 256) → g x = cos x) ∧ (∀ x, g x ≤ 2000000) ∧ (∀ x, r2 x ≤ 2000000) ∧ (canB ol (addM mk (itm b) L) → CM g ((256 * d) + 256) ol (fun l => res (lat l)) (addM mk (itm b) L)) ∧ w2 = (mW G a th lo bi ru ol ob tk fib gra res buy lst bst rea bid pri itm akf akg got pai riv rf ro rs lat bat val g r2 ahe wan giv ++ Y))) args s (RM 2 0 0).cells (RM 2 0 0).slots A) (F0 m 128 ls []) := by
                        intro n
                        induction n with
                        | zero => intro j pz g2 l1 l2 l3 l4 l5 l6 l7; exact absurd l1 (by omega)
                        | succ n ihL =>
                          intro j pz g2 l1 l2 l3 l4 l5 l6 l7 H locs ls hW hl
                          have hp2 := fun (h : j < 8) => p2_le h
                          have hlj := hlat j
                          refine lv_iload hx hb dX7_adds_128 (lv_at hl 5 rfl) ?_
                          refine lv_aload_n hx hb dX7_adds_130 rfl (lv_at hl 0 rfl) ?_
                          refine x_get X hW 0 rfl 4 rfl rfl iwX7 (by decide) wq_1084 rfl dX7_adds_131 ?_
                          refine n_icmp_ge hx hb rfl rfl (by omega) (by omega) (tgt := 273) dX7_adds_134 (by decide) (fun c_134 => ?_) (fun c_134 => ?_)
                          · refine lv_iinc (v := (nI (k + 1))) (lv' := [(4, .int (nI (k + 1))), (0, .ref (a 0)), (1, .int (nI b)), (2, .int (nI d)), (3, .int (nI pz)), (5, .int (nI j))]) hx hb dX7_adds_273 hl (k := 4) rfl (nI_add _ _) (by decide) rfl (fun ls hl => ?_)
                            refine lv_goto (tgt := 48) hx hb dX7_adds_276 (by decide) ?_
                            have ej : j = ol := by omega
                            rw [ej] at l4 l7
                            have epz : (if canB ol (addM mk (k + 1) L) then 1 else 0) = pz := pzI_val l6 l7
                            exact ihK (k + 1) g2 r1 (by omega) (by omega) l3 l5 r5 (fun _ => CM_of l4) _ _ _ hW (by rw [epz]; exact lv_sub hl [1, 2, 3, 4, 0] rfl)
                          · refine lv_aload_n hx hb dX7_adds_137 rfl (lv_at hl 0 rfl) ?_
                            refine lv_aload_n hx hb dX7_adds_138 rfl (lv_at hl 0 rfl) ?_
                            refine x_get X hW 0 rfl 25 rfl rfl iwX7 (by decide) wq_1105 rfl dX7_adds_139 ?_
                            refine lv_iload hx hb dX7_adds_142 (lv_at hl 5 rfl) ?_
                            refine n_iald X hW (n := 8) (f := lat) 19 rfl (by omega) (by decide) dX7_adds_144 ?_
                            refine lv_iconst (v := nI 3) hx hb dX7_adds_145 (by decide) ?_
                            refine lv_iload_n hx hb dX7_adds_146 rfl (lv_at hl 1 rfl) ?_
                            refine n_imul hx hb dX7_adds_147 ?_
                            refine lv_iload hx hb dX7_adds_148 (lv_at hl 4 rfl) ?_
                            refine n_iadd hx hb dX7_adds_150 ?_
                            refine go_i X hW (run_V X hW (As := [.int (nI (lat j)), .int (nI ((3 * b) + k))]) (rest := []) 10 0 rfl (c_X7_suits l G a th lo bi ru ol ob tk fib gra res buy lst bst rea bid pri itm akf akg got pai riv rf ro rs lat bat val g2 r1 ahe wan giv Y (lat j) ((3 * b) + k) hI (by omega) (by omega) _) (gi_V wq_1257 wq_1259 wq_51 wq_67 wq_1260) rfl hyX7_suits rfl rfl rfl hl.1 (Nat.le_of_ble_eq_true rfl) ⟨Nat.le_of_ble_eq_true rfl, Nat.le_of_ble_eq_true rfl⟩ ⟨by decide, by decide⟩ dX7_adds_151) (fun r w2 H locs hp hW => ?_)
                            obtain ⟨rfl, rfl⟩ := hp
                            refine p_if_ne hx hb (tgt := 160) dX7_adds_154 (by decide) (fun c_154 => ?_) (fun c_154 => ?_)
                            · refine lv_iconst (v := nI 0) hx hb dX7_adds_160 (by decide) ?_
                              refine lv_istore (lv' := [(6, .int (nI 0)), (0, .ref (a 0)), (1, .int (nI b)), (2, .int (nI d)), (3, .int (nI pz)), (4, .int (nI k)), (5, .int (nI j))]) hx hb dX7_adds_161 hl (by decide) rfl (fun ls hl => ?_)
                              have hbj : (mk k).testBit j = true := by rw [hmk k (by omega) j (by omega)]; exact c_154
                              have loopM : ∀ (n : Nat) (x pz : Nat) (g2 : Nat → Nat), 256 + 1 ≤ x + n → x ≤ 256 → (∀ y, y < ((256 * d) + 256) → g2 y = cos y) → CQ g2 ((256 * d) + 256) ol (fun l => res (lat l)) (FQl ol (mk k) (addM mk k L) j x) → (∀ y, g2 y ≤ 2000000) → pz ≤ 1 → pzI pz (FQl ol (mk k) (addM mk k L) j x) → ∀ (H : Heap) (locs : List Loc) (ls : Array Slot), Wd G A s (mW G a th lo bi ru ol ob tk fib gra res buy lst bst rea bid pri itm akf akg got pai riv rf ro rs lat bat val g2 r1 ahe wan giv ++ Y) H locs → lv_has ls 9 [(0, .ref (a 0)), (1, .int (nI b)), (2, .int (nI d)), (3, .int (nI pz)), (4, .int (nI k)), (5, .int (nI j)), (6, .int (nI x))] → W p l e (RM 2 0 0) s m args below meth c H locs 0 0 (MQ below (Qi G A (fun r w2 => ∃ g r2 : Nat → Nat, r = nI (if canB ol (addM mk (itm b) L) then 1 else 0) ∧ (∀ x, x < ((256 * d) + 256) → g x = cos x) ∧ (∀ x, g x ≤ 2000000) ∧ (∀ x, r2 x ≤ 2000000) ∧ (canB ol (addM mk (itm b) L) → CM g ((256 * d) + 256) ol (fun l => res (lat l)) (addM mk (itm b) L)) ∧ w2 = (mW G a th lo bi ru ol ob tk fib gra res buy lst bst rea bid pri itm akf akg got pai riv rf ro rs lat bat val g r2 ahe wan giv ++ Y))) args s (RM 2 0 0).cells (RM 2 0 0).slots A) (F0 m 163 ls []) := by
                                intro n
                                induction n with
                                | zero => intro x pz g2 m1 m2 m3 m4 m5 m6 m7; exact absurd m1 (by omega)
                                | succ n ihM =>
                                  intro x pz g2 m1 m2 m3 m4 m5 m6 m7 H locs ls hW hl
                                  refine lv_iload hx hb dX7_adds_163 (lv_at hl 6 rfl) ?_
                                  refine lv_sipush (v := nI 256) hx hb dX7_adds_165 (by decide) ?_
                                  refine n_icmp_ge hx hb rfl rfl (by omega) (by omega) (tgt := 267) dX7_adds_168 (by decide) (fun c_168 => ?_) (fun c_168 => ?_)
                                  · refine lv_iinc (v := (nI (j + 1))) (lv' := [(5, .int (nI (j + 1))), (0, .ref (a 0)), (1, .int (nI b)), (2, .int (nI d)), (3, .int (nI pz)), (4, .int (nI k)), (6, .int (nI x))]) hx hb dX7_adds_267 hl (k := 5) rfl (nI_add _ _) (by decide) rfl (fun ls hl => ?_)
                                    refine lv_goto (tgt := 128) hx hb dX7_adds_270 (by decide) ?_
                                    have hall := fun y (hy : y < 256) => @FQl_all ol (mk k) j y (addM mk k L) (by omega) hy hbj
                                    have ex : x = 256 := by omega
                                    rw [ex] at m4 m7
                                    exact ihL (j + 1) pz g2 (by omega) (by omega) m3 (CQ_iff m4 (fun y hy => (hall y hy).symm)) m5 m6 (pzI_iff m7 (fun y hy => (hall y hy).symm)) _ _ _ hW (lv_sub hl [1, 2, 3, 4, 5, 0] rfl)
                                  · refine lv_aload_n hx hb dX7_adds_171 rfl (lv_at hl 0 rfl) ?_
                                    refine x_get X hW 0 rfl 29 rfl rfl iwX7 (by decide) wq_1109 rfl dX7_adds_172 ?_
                                    refine lv_iload hx hb dX7_adds_175 (lv_at hl 6 rfl) ?_
                                    refine n_iald X hW (n := 256) (f := r1) 23 rfl (by omega) (by decide) dX7_adds_177 ?_
                                    refine lv_ldc (v := (nI 1000000)) hx hb X.own (X.ws _ wq_1248) dX7_adds_178 ?_
                                    refine n_icmp_eq hx hb rfl rfl (by have := r5 x; omega) (by omega) (tgt := 261) dX7_adds_180 (by decide) (fun c_180 => ?_) (fun c_180 => ?_)
                                    · refine lv_iinc (v := (nI (x + 1))) (lv' := [(6, .int (nI (x + 1))), (0, .ref (a 0)), (1, .int (nI b)), (2, .int (nI d)), (3, .int (nI pz)), (4, .int (nI k)), (5, .int (nI j))]) hx hb dX7_adds_261 hl (k := 6) rfl (nI_add _ _) (by decide) rfl (fun ls hl => ?_)
                                      refine lv_goto (tgt := 163) hx hb dX7_adds_264 (by decide) ?_
                                      have hfx : fil ol (addM mk k L) x = false := by (have h9 := hr1 x (by omega); cases hf : fil ol (addM mk k L) x with | false => rfl | true => rw [hf, if_pos rfl] at h9; have := @rsm_le ol x (fun l => res (lat l)) hol (fun q => hres (lat q)); omega)
                                      have hsk := fun y (hy : y < 256) => @FQl_skip ol (mk k) j x y (addM mk k L) (by omega) hy (Or.inl hfx)
                                      exact ihM (x + 1) pz g2 (by omega) (by omega) m3 (CQ_iff m4 hsk) m5 m6 (pzI_iff m7 hsk) _ _ _ hW (lv_sub hl [1, 2, 3, 4, 5, 6, 0] rfl)
                                    · refine lv_iload hx hb dX7_adds_183 (lv_at hl 6 rfl) ?_
                                      refine lv_iload hx hb dX7_adds_185 (lv_at hl 5 rfl) ?_
                                      refine n_ishr hx hb (by omega) (by omega) dX7_adds_187 ?_
                                      refine lv_iconst (v := nI 1) hx hb dX7_adds_188 (by decide) ?_
                                      refine n_iand hx hb dX7_adds_189 ?_
                                      refine lv_iconst (v := nI 1) hx hb dX7_adds_190 (by decide) ?_
                                      refine n_icmp_ne hx hb rfl rfl (by have := sh1_le x j; omega) (by omega) (tgt := 197) dX7_adds_191 (by decide) (fun c_191 => ?_) (fun c_191 => ?_)
                                      · refine lv_aload_n hx hb dX7_adds_197 rfl (lv_at hl 0 rfl) ?_
                                        refine x_get X hW 0 rfl 29 rfl rfl iwX7 (by decide) wq_1109 rfl dX7_adds_198 ?_
                                        refine lv_iload hx hb dX7_adds_201 (lv_at hl 6 rfl) ?_
                                        refine n_iald X hW (n := 256) (f := r1) 23 rfl (by omega) (by decide) dX7_adds_203 ?_
                                        refine lv_aload_n hx hb dX7_adds_204 rfl (lv_at hl 0 rfl) ?_
                                        refine x_get X hW 0 rfl 9 rfl rfl iwX7 (by decide) wq_1089 rfl dX7_adds_205 ?_
                                        refine lv_aload_n hx hb dX7_adds_208 rfl (lv_at hl 0 rfl) ?_
                                        refine x_get X hW 0 rfl 25 rfl rfl iwX7 (by decide) wq_1105 rfl dX7_adds_209 ?_
                                        refine lv_iload hx hb dX7_adds_212 (lv_at hl 5 rfl) ?_
                                        refine n_iald X hW (n := 8) (f := lat) 19 rfl (by omega) (by decide) dX7_adds_214 ?_
                                        refine n_iald X hW (n := 40) (f := res) 3 rfl (by have := hlat j; omega) (by decide) dX7_adds_215 ?_
                                        refine n_iadd hx hb dX7_adds_216 ?_
                                        refine lv_istore (lv' := [(7, .int (nI ((r1 x) + (res (lat j))))), (0, .ref (a 0)), (1, .int (nI b)), (2, .int (nI d)), (3, .int (nI pz)), (4, .int (nI k)), (5, .int (nI j)), (6, .int (nI x))]) hx hb dX7_adds_217 hl (by decide) rfl (fun ls hl => ?_)
                                        refine lv_sipush (v := nI 256) hx hb dX7_adds_219 (by decide) ?_
                                        refine lv_iload_n hx hb dX7_adds_222 rfl (lv_at hl 3 rfl) ?_
                                        refine n_imul hx hb dX7_adds_223 ?_
                                        refine lv_sipush (v := nI 256) hx hb dX7_adds_224 (by decide) ?_
                                        refine n_iadd hx hb dX7_adds_227 ?_
                                        refine lv_iload hx hb dX7_adds_228 (lv_at hl 7 rfl) ?_
                                        refine lv_iconst (v := nI 1) hx hb dX7_adds_230 (by decide) ?_
                                        refine lv_iload hx hb dX7_adds_231 (lv_at hl 6 rfl) ?_
                                        refine n_ishl1 hx hb (by omega) dX7_adds_233 ?_
                                        refine n_ior hx hb dX7_adds_234 ?_
                                        refine n_iadd hx hb dX7_adds_235 ?_
                                        refine lv_istore (lv' := [(8, .int (nI (((256 * d) + 256) + (x ||| (2 ^ j))))), (7, .int (nI ((r1 x) + (res (lat j))))), (0, .ref (a 0)), (1, .int (nI b)), (2, .int (nI d)), (3, .int (nI pz)), (4, .int (nI k)), (5, .int (nI j)), (6, .int (nI x))]) hx hb dX7_adds_236 hl (by decide) rfl (fun ls hl => ?_)
                                        refine lv_iload hx hb dX7_adds_238 (lv_at hl 1 rfl) ?_
                                        refine lv_aload_n hx hb dX7_adds_240 rfl (lv_at hl 2 rfl) ?_
                                        refine x_get X hW 0 rfl 28 rfl rfl iwX7 (by decide) wq_1108 rfl dX7_adds_241 ?_
                                        refine lv_iload hx hb dX7_adds_244 (lv_at hl 0 rfl) ?_
                                        refine n_iald X hW (n := 2304) (f := g2) 22 rfl (by have := @or_lt x (2 ^ j) (by omega) (by omega); omega) (by decide) dX7_adds_246 ?_
                                        refine n_icmp_ge hx hb rfl rfl (by have := r5 x; have := hres (lat j); omega) (by have := m5 (((256 * d) + 256) + (x ||| 2 ^ j)); omega) (tgt := 259) dX7_adds_247 (by decide) (fun c_247 => ?_) (fun c_247 => ?_)
                                        · refine lv_iconst (v := nI 1) hx hb dX7_adds_259 (by decide) ?_
                                          refine lv_istore_n (lv' := [(3, .int (nI 1)), (8, .int (nI (((256 * d) + 256) + (x ||| (2 ^ j))))), (7, .int (nI ((r1 x) + (res (lat j))))), (0, .ref (a 0)), (1, .int (nI b)), (2, .int (nI d)), (4, .int (nI k)), (5, .int (nI j)), (6, .int (nI x))]) hx hb dX7_adds_260 rfl hl (by decide) rfl (fun ls hl => ?_)
                                          refine lv_iinc (v := (nI (x + 1))) (lv' := [(6, .int (nI (x + 1))), (3, .int (nI 1)), (8, .int (nI (((256 * d) + 256) + (x ||| (2 ^ j))))), (7, .int (nI ((r1 x) + (res (lat j))))), (0, .ref (a 0)), (1, .int (nI b)), (2, .int (nI d)), (4, .int (nI k)), (5, .int (nI j))]) hx hb dX7_adds_261 hl (k := 8) rfl (nI_add _ _) (by decide) rfl (fun ls hl => ?_)
                                          refine lv_goto (tgt := 163) hx hb dX7_adds_264 (by decide) ?_
                                          have hbx := sh1_f c_191
                                          have hrx := hr1 x (by omega)
                                          have hfx : fil ol (addM mk k L) x = true := by cases hf : fil ol (addM mk k L) x with | true => rfl | false => rw [hf, if_neg (by decide)] at hrx; exact absurd hrx c_180
                                          rw [hfx, if_pos rfl] at hrx
                                          have had := fun y (hy : y < 256) => @FQl_add ol (mk k) j x y (addM mk k L) (by omega) (by omega) hy hfx hbx
                                          have hto := @or_lt x (2 ^ j) (by omega) (by omega)
                                          have hone : pzI 1 (FQl ol (mk k) (addM mk k L) j (x + 1)) := pzI_1 hto ((had _ hto).mpr (Or.inr rfl))
                                          exact ihM (x + 1) 1 g2 (by omega) (by omega) m3 (CQ_let (by omega) hol (fun q => hres (lat q)) (by omega) hbx m4 had (by rw [← hrx]; exact c_247)) m5 (by omega) hone _ _ _ hW (lv_sub hl [4, 5, 6, 1, 7, 8, 0] rfl)
                                        · refine lv_aload_n hx hb dX7_adds_250 rfl (lv_at hl 2 rfl) ?_
                                          refine x_get X hW 0 rfl 28 rfl rfl iwX7 (by decide) wq_1108 rfl dX7_adds_251 ?_
                                          refine lv_iload hx hb dX7_adds_254 (lv_at hl 0 rfl) ?_
                                          refine lv_iload hx hb dX7_adds_256 (lv_at hl 1 rfl) ?_
                                          refine n_iast X hW (n := 2304) (f := g2) 22 rfl (w2 := (mW G a th lo bi ru ol ob tk fib gra res buy lst bst rea bid pri itm akf akg got pai riv rf ro rs lat bat val (va_up g2 (((256 * d) + 256) + (x ||| (2 ^ j))) ((r1 x) + (res (lat j)))) r1 ahe wan giv ++ Y)) rfl (by have := @or_lt x (2 ^ j) (by omega) (by omega); omega) (by decide) dX7_adds_258 (fun H locs hW => ?_)
                                          refine lv_iconst (v := nI 1) hx hb dX7_adds_259 (by decide) ?_
                                          refine lv_istore_n (lv' := [(3, .int (nI 1)), (8, .int (nI (((256 * d) + 256) + (x ||| (2 ^ j))))), (7, .int (nI ((r1 x) + (res (lat j))))), (0, .ref (a 0)), (1, .int (nI b)), (2, .int (nI d)), (4, .int (nI k)), (5, .int (nI j)), (6, .int (nI x))]) hx hb dX7_adds_260 rfl hl (by decide) rfl (fun ls hl => ?_)
                                          refine lv_iinc (v := (nI (x + 1))) (lv' := [(6, .int (nI (x + 1))), (3, .int (nI 1)), (8, .int (nI (((256 * d) + 256) + (x ||| (2 ^ j))))), (7, .int (nI ((r1 x) + (res (lat j))))), (0, .ref (a 0)), (1, .int (nI b)), (2, .int (nI d)), (4, .int (nI k)), (5, .int (nI j))]) hx hb dX7_adds_261 hl (k := 8) rfl (nI_add _ _) (by decide) rfl (fun ls hl => ?_)
                                          refine lv_goto (tgt := 163) hx hb dX7_adds_264 (by decide) ?_
                                          have hbx := sh1_f c_191
                                          have hrx := hr1 x (by omega)
                                          have hfx : fil ol (addM mk k L) x = true := by cases hf : fil ol (addM mk k L) x with | true => rfl | false => rw [hf, if_neg (by decide)] at hrx; exact absurd hrx c_180
                                          rw [hfx, if_pos rfl] at hrx
                                          have had := fun y (hy : y < 256) => @FQl_add ol (mk k) j x y (addM mk k L) (by omega) (by omega) hy hfx hbx
                                          have hto := @or_lt x (2 ^ j) (by omega) (by omega)
                                          have hone : pzI 1 (FQl ol (mk k) (addM mk k L) j (x + 1)) := pzI_1 hto ((had _ hto).mpr (Or.inr rfl))
                                          exact ihM (x + 1) 1 _ (by omega) (by omega) (fun y hy => by unfold va_up; rw [if_neg (by omega)]; exact m3 y hy) (by rw [hrx]; exact CQ_put (by omega) hol (by omega) hbx m4 had) (fun y => by unfold va_up; split; (have := @rsm_le ol x (fun l => res (lat l)) hol (fun q => hres (lat q)); have := hres (lat j); omega); exact m5 y) (by omega) hone _ _ _ hW (lv_sub hl [4, 5, 6, 1, 7, 8, 0] rfl)
                                      · refine lv_goto (tgt := 261) hx hb dX7_adds_194 (by decide) ?_
                                        refine lv_iinc (v := (nI (x + 1))) (lv' := [(6, .int (nI (x + 1))), (0, .ref (a 0)), (1, .int (nI b)), (2, .int (nI d)), (3, .int (nI pz)), (4, .int (nI k)), (5, .int (nI j))]) hx hb dX7_adds_261 hl (k := 6) rfl (nI_add _ _) (by decide) rfl (fun ls hl => ?_)
                                        refine lv_goto (tgt := 163) hx hb dX7_adds_264 (by decide) ?_
                                        have hsk := fun y (hy : y < 256) => @FQl_skip ol (mk k) j x y (addM mk k L) (by omega) hy (Or.inr (sh1_t c_191))
                                        exact ihM (x + 1) pz g2 (by omega) (by omega) m3 (CQ_iff m4 hsk) m5 m6 (pzI_iff m7 hsk) _ _ _ hW (lv_sub hl [1, 2, 3, 4, 5, 6, 0] rfl)
                              exact loopM (256 + 1) 0 pz g2 (by omega) (by omega) l3 (CQ_iff l4 (fun y _ => FQl_0)) l5 l6 (pzI_iff l7 (fun y _ => FQl_0)) _ _ _ hW (lv_sub hl [1, 2, 3, 4, 5, 6, 0] rfl)
                            · refine lv_goto (tgt := 267) hx hb dX7_adds_157 (by decide) ?_
                              refine lv_iinc (v := (nI (j + 1))) (lv' := [(5, .int (nI (j + 1))), (0, .ref (a 0)), (1, .int (nI b)), (2, .int (nI d)), (3, .int (nI pz)), (4, .int (nI k))]) hx hb dX7_adds_267 hl (k := 5) rfl (nI_add _ _) (by decide) rfl (fun ls hl => ?_)
                              refine lv_goto (tgt := 128) hx hb dX7_adds_270 (by decide) ?_
                              have hbj : (mk k).testBit j = false := by rw [hmk k (by omega) j (by omega)]; exact Bool.eq_false_iff.mpr c_154
                              exact ihL (j + 1) pz g2 (by omega) (by omega) l3 (CQ_iff l4 (fun y _ => FPl_no hbj)) l5 l6 (pzI_iff l7 (fun y _ => FPl_no hbj)) _ _ _ hW (lv_sub hl [1, 2, 3, 4, 5, 0] rfl)
                      exact loopL (ol + 1) 0 0 g1 (by omega) (by omega) r3 (fun y hy => ⟨fun ⟨_, q, _⟩ => absurd q (Nat.not_lt_zero _), fun _ => r8 y (by omega)⟩) r4 (by omega) (pzI_0 (fun y ⟨_, q, _⟩ => absurd q (Nat.not_lt_zero _))) _ _ _ hW (lv_sub hl [1, 2, 3, 4, 5, 0] rfl)
                    · refine lv_aload_n hx hb dX7_adds_76 rfl (lv_at hl 0 rfl) ?_
                      refine x_get X hW 0 rfl 29 rfl rfl iwX7 (by decide) wq_1109 rfl dX7_adds_77 ?_
                      refine lv_iload hx hb dX7_adds_80 (lv_at hl 5 rfl) ?_
                      refine lv_aload_n hx hb dX7_adds_82 rfl (lv_at hl 0 rfl) ?_
                      refine x_get X hW 0 rfl 28 rfl rfl iwX7 (by decide) wq_1108 rfl dX7_adds_83 ?_
                      refine lv_sipush (v := nI 256) hx hb dX7_adds_86 (by decide) ?_
                      refine lv_iload_n hx hb dX7_adds_89 rfl (lv_at hl 2 rfl) ?_
                      refine n_imul hx hb dX7_adds_90 ?_
                      refine lv_sipush (v := nI 256) hx hb dX7_adds_91 (by decide) ?_
                      refine n_iadd hx hb dX7_adds_94 ?_
                      refine lv_iload hx hb dX7_adds_95 (lv_at hl 5 rfl) ?_
                      refine n_iadd hx hb dX7_adds_97 ?_
                      refine n_iald X hW (n := 2304) (f := g1) 22 rfl (by omega) (by decide) dX7_adds_98 ?_
                      refine n_iast X hW (n := 256) (f := r1) 23 rfl (w2 := (mW G a th lo bi ru ol ob tk fib gra res buy lst bst rea bid pri itm akf akg got pai riv rf ro rs lat bat val g1 (va_up r1 j (g1 (((256 * d) + 256) + j))) ahe wan giv ++ Y)) rfl (by omega) (by decide) dX7_adds_99 (fun H locs hW => ?_)
                      refine lv_aload_n hx hb dX7_adds_100 rfl (lv_at hl 0 rfl) ?_
                      refine x_get X hW 0 rfl 28 rfl rfl iwX7 (by decide) wq_1108 rfl dX7_adds_101 ?_
                      refine lv_sipush (v := nI 256) hx hb dX7_adds_104 (by decide) ?_
                      refine lv_iload_n hx hb dX7_adds_107 rfl (lv_at hl 2 rfl) ?_
                      refine n_imul hx hb dX7_adds_108 ?_
                      refine lv_sipush (v := nI 256) hx hb dX7_adds_109 (by decide) ?_
                      refine n_iadd hx hb dX7_adds_112 ?_
                      refine lv_iload hx hb dX7_adds_113 (lv_at hl 5 rfl) ?_
                      refine n_iadd hx hb dX7_adds_115 ?_
                      refine lv_ldc (v := (nI 1000000)) hx hb X.own (X.ws _ wq_1248) dX7_adds_116 ?_
                      refine n_iast X hW (n := 2304) (f := g1) 22 rfl (w2 := (mW G a th lo bi ru ol ob tk fib gra res buy lst bst rea bid pri itm akf akg got pai riv rf ro rs lat bat val (va_up g1 (((256 * d) + 256) + j) 1000000) (va_up r1 j (g1 (((256 * d) + 256) + j))) ahe wan giv ++ Y)) rfl (by omega) (by decide) dX7_adds_118 (fun H locs hW => ?_)
                      refine lv_iinc (v := (nI (j + 1))) (lv' := [(5, .int (nI (j + 1))), (0, .ref (a 0)), (1, .int (nI b)), (2, .int (nI d)), (3, .int (nI 0)), (4, .int (nI k))]) hx hb dX7_adds_119 hl (k := 5) rfl (nI_add _ _) (by decide) rfl (fun ls hl => ?_)
                      refine lv_goto (tgt := 68) hx hb dX7_adds_122 (by decide) ?_
                      exact ihR (j + 1) _ _ (by omega) (by omega) (fun x hx => by unfold va_up; rw [if_neg (by omega)]; exact r3 x hx) (fun x => by unfold va_up; split; omega; exact r4 x) (fun x => by unfold va_up; split; exact r4 _; exact r5 x) (fun i hi => by unfold va_up; split; rename_i q; rw [q]; exact r7 j (by omega) (by omega); exact r6 i (by omega)) (fun i hi hi2 => by unfold va_up; rw [if_neg (by omega)]; exact r7 i (by omega) hi2) (fun i hi => by unfold va_up; split; rfl; exact r8 i (by omega)) _ _ _ hW (lv_sub hl [1, 2, 3, 4, 5, 0] rfl)
                exact loopR (256 + 1) 0 g r2 (by omega) (by omega) k3 k4 k5 (fun i hi => absurd hi (by omega)) (fun i _ _ => rfl) (fun i hi => absurd hi (by omega)) _ _ _ hW (lv_sub hl [2, 3, 4, 1, 5, 0] rfl)
        exact loopK (itm b + 1) 0 g row (by omega) (by omega) h3 h5 hrow (fun _ m hm => by show g (((256 * d) + 256) + m) = _; rw [h4 m (by omega)]; exact hCM m hm) _ _ _ hW (by rw [show (if canB ol (addM mk 0 L) then 1 else 0) = 1 from if_pos hE]; exact lv_sub hl [2, 3, 4, 1, 0] rfl)
      · refine lv_aload_n hx hb dX7_adds_9 rfl (lv_at hl 0 rfl) ?_
        refine x_get X hW 0 rfl 28 rfl rfl iwX7 (by decide) wq_1108 rfl dX7_adds_10 ?_
        refine lv_sipush (v := nI 256) hx hb dX7_adds_13 (by decide) ?_
        refine lv_iload_n hx hb dX7_adds_16 rfl (lv_at hl 2 rfl) ?_
        refine n_imul hx hb dX7_adds_17 ?_
        refine lv_sipush (v := nI 256) hx hb dX7_adds_18 (by decide) ?_
        refine n_iadd hx hb dX7_adds_21 ?_
        refine lv_iload_n hx hb dX7_adds_22 rfl (lv_at hl 3 rfl) ?_
        refine n_iadd hx hb dX7_adds_23 ?_
        refine lv_aload_n hx hb dX7_adds_24 rfl (lv_at hl 0 rfl) ?_
        refine x_get X hW 0 rfl 28 rfl rfl iwX7 (by decide) wq_1108 rfl dX7_adds_25 ?_
        refine lv_sipush (v := nI 256) hx hb dX7_adds_28 (by decide) ?_
        refine lv_iload_n hx hb dX7_adds_31 rfl (lv_at hl 2 rfl) ?_
        refine n_imul hx hb dX7_adds_32 ?_
        refine lv_iload_n hx hb dX7_adds_33 rfl (lv_at hl 3 rfl) ?_
        refine n_iadd hx hb dX7_adds_34 ?_
        refine n_iald X hW (n := 2304) (f := g) 22 rfl (by omega) (by decide) dX7_adds_35 ?_
        refine n_iast X hW (n := 2304) (f := g) 22 rfl (w2 := (mW G a th lo bi ru ol ob tk fib gra res buy lst bst rea bid pri itm akf akg got pai riv rf ro rs lat bat val (va_up g (((256 * d) + 256) + k) (g ((256 * d) + k))) row ahe wan giv ++ Y)) rfl (by omega) (by decide) dX7_adds_36 (fun H locs hW => ?_)
        refine lv_iinc (v := (nI (k + 1))) (lv' := [(3, .int (nI (k + 1))), (0, .ref (a 0)), (1, .int (nI b)), (2, .int (nI d))]) hx hb dX7_adds_37 hl (k := 3) rfl (nI_add _ _) (by decide) rfl (fun ls hl => ?_)
        refine lv_goto (tgt := 2) hx hb dX7_adds_40 (by decide) ?_
        exact ih (k + 1) _ (by omega) (by omega) (fun x hx => by unfold va_up; rw [if_neg (by omega)]; exact h3 x hx) (fun i hi => by unfold va_up; split; rename_i q; rw [show i = k by omega]; exact h3 _ (by omega); exact h4 i (by omega)) (fun x => by unfold va_up; split; exact h5 _; exact h5 x) _ _ _ hW (lv_sub hl [1, 2, 3, 0] rfl)
  exact loop (256 + 1) 0 cos (by omega) (by omega) (fun _ _ => rfl) (fun i hi => absurd hi (by omega)) hcos _ _ _ hW (lv_sub hl [1, 2, 3, 0] rfl)

