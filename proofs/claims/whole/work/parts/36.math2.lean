theorem fst1_min {P : Nat → Bool} {n j : Nat} (h : j < fst1 P n) : P j = false := by
  induction n with
  | zero => exact absurd h (Nat.not_lt_zero _)
  | succ n ih =>
    have hle := fst1_le P n
    rw [fst1] at h
    by_cases q : fst1 P n < n
    · rw [if_pos q] at h; exact ih h
    · rw [if_neg q] at h
      by_cases r : j < fst1 P n
      · exact ih r
      · by_cases t : P n = true
        · rw [if_pos t] at h; omega
        · rw [show j = n by rw [if_neg t] at h; omega]; exact Bool.eq_false_iff.mpr t
theorem ahd_iff {x y : Nat} : ahd x y = true ↔ ∃ k, k < 8 ∧ x.testBit k = true ∧ y.testBit k = false ∧ ∀ j, j < k → x.testBit j = y.testBit j := by
  constructor
  · intro h
    rw [ahd, Bool.and_eq_true] at h
    have h1 := of_decide_eq_true h.1
    have h2 := fst1_of_lt h1
    refine ⟨_, h1, h.2, ?_, fun j hj => ?_⟩
    · rw [Nat.testBit_xor, h.2] at h2
      cases q : y.testBit (fst1 (x ^^^ y).testBit 8) with
      | false => rfl
      | true => rw [q] at h2; exact absurd h2 (by decide)
    · have := fst1_min hj
      rw [Nat.testBit_xor] at this
      cases qx : x.testBit j <;> cases qy : y.testBit j <;> rw [qx, qy] at this <;> first | rfl | exact absurd this (by decide)
  · rintro ⟨k, hk, h1, h2, h3⟩
    have e : fst1 (x ^^^ y).testBit 8 = k := fst1_at hk (fun j hj => by rw [Nat.testBit_xor, h3 j hj, Bool.xor_self]) (by rw [Nat.testBit_xor, h1, h2]; rfl)
    rw [ahd, e, decide_eq_true hk, h1]; rfl
theorem ahd_total {x y : Nat} (hx : x < 256) (hy : y < 256) (hne : x ≠ y) (h : ahd x y = false) : ahd y x = true := by
  by_cases q : fst1 (x ^^^ y).testBit 8 < 8
  · have h2 := fst1_of_lt q
    rw [Nat.testBit_xor] at h2
    refine ahd_iff.mpr ⟨_, q, ?_, ?_, fun j hj => ?_⟩
    · cases r : y.testBit (fst1 (x ^^^ y).testBit 8) with
      | true => rfl
      | false =>
        rw [r, Bool.xor_false] at h2
        rw [ahd, decide_eq_true q, h2] at h; exact absurd h (by decide)
    · cases r : x.testBit (fst1 (x ^^^ y).testBit 8) with
      | false => rfl
      | true => rw [ahd, decide_eq_true q, r] at h; exact absurd h (by decide)
    · have := fst1_min hj
      rw [Nat.testBit_xor] at this
      cases qx : x.testBit j <;> cases qy : y.testBit j <;> rw [qx, qy] at this <;> first | rfl | exact absurd this (by decide)
  · refine absurd (eq_of_bits (n := 8) hx hy (fun j hj => ?_)) hne
    have := fst1_min (P := (x ^^^ y).testBit) (n := 8) (j := j) (by have := fst1_le (x ^^^ y).testBit 8; omega)
    rw [Nat.testBit_xor] at this
    cases qx : x.testBit j <;> cases qy : y.testBit j <;> rw [qx, qy] at this <;> first | rfl | exact absurd this (by decide)
theorem ahd_trans {x y z : Nat} (h1 : ahd x y = true) (h2 : ahd y z = true) : ahd x z = true := by
  obtain ⟨k, a1, a2, a3, a4⟩ := ahd_iff.mp h1
  obtain ⟨l, b1, b2, b3, b4⟩ := ahd_iff.mp h2
  rcases Nat.lt_trichotomy k l with q | q | q
  · exact ahd_iff.mpr ⟨k, a1, a2, by rw [← b4 k q]; exact a3, fun j hj => (a4 j hj).trans (b4 j (by omega))⟩
  · rw [q, b2] at a3; exact absurd a3 (by decide)
  · exact ahd_iff.mpr ⟨l, b1, by rw [a4 l q]; exact b2, b3, fun j hj => (a4 j (by omega)).trans (b4 j hj)⟩
theorem ahd_irr {x : Nat} (h : ahd x x = true) : False := by
  obtain ⟨k, _, a2, a3, _⟩ := ahd_iff.mp h
  rw [a2] at a3; exact absurd a3 (by decide)
/-- one set, with its surplus, comes before another one, or is it -/
def betr (v w : Int) (b s : Nat) : Prop := w < v ∨ (w = v ∧ (s = b ∨ ahd b s = true))
theorem betr_rfl {v : Int} {b : Nat} : betr v v b b := Or.inr ⟨rfl, Or.inl rfl⟩
theorem betr_trans {u v w : Int} {x y z : Nat} (h1 : betr u v x y) (h2 : betr v w y z) : betr u w x z := by
  rcases h1 with h1 | ⟨h1, h3⟩ <;> rcases h2 with h2 | ⟨h2, h4⟩
  · exact Or.inl (by omega)
  · exact Or.inl (by omega)
  · exact Or.inl (by omega)
  · refine Or.inr ⟨by omega, ?_⟩
    rcases h3 with h3 | h3 <;> rcases h4 with h4 | h4
    · exact Or.inl (h4.trans h3)
    · rw [h3] at h4; exact Or.inr h4
    · rw [h4]; exact Or.inr h3
    · exact Or.inr (ahd_trans h3 h4)
theorem betr_anti {u v : Int} {x y : Nat} (h1 : betr u v x y) (h2 : betr v u y x) : x = y := by
  rcases h1 with h1 | ⟨h1, h3⟩ <;> rcases h2 with h2 | ⟨h2, h4⟩
  · omega
  · omega
  · omega
  · rcases h3 with h3 | h3
    · exact h3.symm
    · rcases h4 with h4 | h4
      · exact h4
      · exact (ahd_irr (ahd_trans h3 h4)).elim
/-- no bid of the set is the bidder's -/
def nwP (bd : Nat → Nat) (n : Nat) (wo : Int) (s : Nat) : Prop := ∀ k, k < n → s.testBit k = true → (bd k : Int) ≠ wo
theorem nwP_iff {bd : Nat → Nat} {n s : Nat} {wo : Int} : nwP bd n wo s ↔ ¬ fst1 (fun k => s.testBit k && decide ((bd k : Int) = wo)) n < n := by
  constructor
  · intro h q
    have := fst1_of_lt q
    rw [Bool.and_eq_true] at this
    exact h _ q this.1 (of_decide_eq_true this.2)
  · intro h k hk hb e
    exact h (fst1_lt (P := fun k => s.testBit k && decide ((bd k : Int) = wo)) hk (by show (_ && _) = true; rw [hb, decide_eq_true e]; rfl)).1
theorem nwP_0 {bd : Nat → Nat} {n : Nat} {wo : Int} : nwP bd n wo 0 := fun k _ h => by rw [Nat.zero_testBit] at h; exact absurd h (by decide)
/-- the best set of those that are possible and without the bidder -/
def IsB (ol : Nat) (bd ic fl rsv pr : Nat → Nat) (n : Nat) (wo : Int) (b : Nat) : Prop := b < 2 ^ n ∧ PS ol bd ic fl b n ∧ nwP bd n wo b ∧ ∀ s, s < 2 ^ n → PS ol bd ic fl s n → nwP bd n wo s → betr (VS ol rsv ic fl pr b n) (VS ol rsv ic fl pr s n) b s
theorem IsB.uniq {ol : Nat} {bd ic fl rsv pr : Nat → Nat} {n : Nat} {wo : Int} {x y : Nat} (h1 : IsB ol bd ic fl rsv pr n wo x) (h2 : IsB ol bd ic fl rsv pr n wo y) : x = y := betr_anti (h1.2.2.2 y h2.1 h2.2.1 h2.2.2.1) (h2.2.2.2 x h1.1 h1.2.1 h1.2.2.1)
theorem bsM_spec (v : Nat → Int) (bd : Nat → Nat) (n : Nat) (wo : Int) (m : Nat) (h0 : 0 < m) (h256 : m ≤ 256) : nwP bd n wo (bsM v bd n wo m) ∧ ∀ s, s < m → nwP bd n wo s → betr (v (bsM v bd n wo m)) (v s) (bsM v bd n wo m) s := by
  induction m with
  | zero => omega
  | succ m ih =>
    rw [bsM]
    rcases Nat.eq_zero_or_pos m with q | q
    · rw [if_pos (Or.inl q), q]
      refine ⟨nwP_0, fun s hs _ => ?_⟩
      rw [show s = 0 by omega]; exact betr_rfl
    · obtain ⟨i1, i2⟩ := ih q (by omega)
      have hbl := bsM_lt v bd n wo q
      by_cases c : m = 0 ∨ v m < v (bsM v bd n wo m) ∨ (v m = v (bsM v bd n wo m) ∧ ahd m (bsM v bd n wo m) = false) ∨ fst1 (fun k => m.testBit k && decide ((bd k : Int) = wo)) n < n
      · rw [if_pos c]
        refine ⟨i1, fun s hs hw => ?_⟩
        rcases Nat.lt_or_ge s m with r | r
        · exact i2 s r hw
        · rw [show s = m by omega] at hw ⊢
          rcases c with c | c | c | c
          · omega
          · exact Or.inl c
          · exact Or.inr ⟨c.1, Or.inr (ahd_total (by omega) (by omega) (by omega) c.2)⟩
          · exact absurd c (nwP_iff.mp hw)
      · rw [if_neg c]
        have hw : nwP bd n wo m := nwP_iff.mpr (fun r => c (Or.inr (Or.inr (Or.inr r))))
        have hb : betr (v m) (v (bsM v bd n wo m)) m (bsM v bd n wo m) := by
          have c1 : ¬ v m < v (bsM v bd n wo m) := fun r => c (Or.inr (Or.inl r))
          by_cases e : v m = v (bsM v bd n wo m)
          · refine Or.inr ⟨e.symm, Or.inr ?_⟩
            cases t : ahd m (bsM v bd n wo m) with
            | true => rfl
            | false => exact absurd (Or.inr (Or.inr (Or.inl ⟨e, t⟩))) c
          · exact Or.inl (by omega)
        refine ⟨hw, fun s hs hws => ?_⟩
        rcases Nat.lt_or_ge s m with r | r
        · exact betr_trans hb (i2 s r hws)
        · rw [show s = m by omega]; exact betr_rfl
theorem bsM_best {v : Nat → Int} {ol n : Nat} {rsv bd ic fl pr : Nat → Nat} (wo : Int) (hn : n ≤ 8) (hF : valF v ol n rsv bd ic fl pr) : IsB ol bd ic fl rsv pr n wo (bsM v bd n wo 256) := by
  obtain ⟨h1, h2, h3, h4, h5⟩ := best_PS wo hF
  obtain ⟨g1, g2⟩ := bsM_spec v bd n wo 256 (by decide) (Nat.le_refl _)
  have hp := p2_256 hn
  refine ⟨h2, h3, g1, fun s hs hps hw => ?_⟩
  have := g2 s (by omega) hw
  rw [(hF s (by omega)).1 ⟨hs, hps⟩, h4] at this
  exact this
theorem okQ_okN {p : Nat → Bool} {ic : Nat → Nat} {lc n : Nat} : okQ p ic lc n = true ↔ okN p ic n = true ∧ (bsum p ic n ≤ lc ∨ bsum p ic n = 0) := by
  induction n with
  | zero => exact ⟨fun _ => ⟨rfl, Or.inr rfl⟩, fun _ => rfl⟩
  | succ n ih =>
    rw [okQ, okN]
    cases hp : p n with
    | false =>
      rw [bsum_f hp]
      simp only [Bool.not_false, Bool.true_or, Bool.and_true]
      exact ih
    | true =>
      rw [bsum_t hp]
      simp only [Bool.not_true, Bool.false_or, Bool.and_eq_true, decide_eq_true_eq]
      constructor
      · rintro ⟨h1, h2, h3⟩
        exact ⟨⟨(ih.mp h1).1, h2⟩, Or.inl h3⟩
      · rintro ⟨⟨h1, h2⟩, h3⟩
        have h4 : bsum p ic n + ic n ≤ lc := by omega
        exact ⟨ih.mpr ⟨h1, Or.inl (by omega)⟩, h2, h4⟩
/-- the class's least cost, as the reference has it -/
theorem lcost_PS {lc bc set : Nat} {bd ic fl rs : Nat → Nat} (hlc : lc ≤ 8) (hr : ∀ k, rs k ≤ 999) : (PS lc bd ic fl set bc → lcost set bc lc bd ic fl rs = (lmC lc rs (lmR set.testBit ic fl bc) : Int)) ∧ (¬ PS lc bd ic fl set bc → lcost set bc lc bd ic fl rs = -1) := by
  have e := lmC_rcv (n := bc) (rsv := rs) (ic := ic) (fl := fl) (p := set.testBit) hlc hr
  constructor
  · intro h
    obtain ⟨h1, h2⟩ := PS_cost (rsv := rs) hlc hr h
    unfold lcost
    rw [if_pos ⟨h.2.1, okQ_okN.mpr ⟨h.1, Or.inl h1⟩, h2⟩, e]
  · intro h
    unfold lcost
    rw [if_neg]
    rintro ⟨h1, h2, h3⟩
    refine h ⟨(okQ_okN.mp h2).1, h1, (canB_cost (rsv := rs) hlc hr).mpr ?_⟩
    rw [e]; exact h3
theorem gS_spec {C V : Nat → Int} (h0 : C 0 ≠ -1) (hv : V 0 = 0) (m : Nat) (hp : 0 < m) (hm : m ≤ 256) : (gS C V m).2 = V (gS C V m).1 ∧ (gS C V m).1 < m ∧ C (gS C V m).1 ≠ -1 ∧ ∀ s, s < m → C s ≠ -1 → betr (V (gS C V m).1) (V s) (gS C V m).1 s := by
  induction m with
  | zero => omega
  | succ m ih =>
    rw [gS]
    rcases Nat.eq_zero_or_pos m with q | q
    · rw [q, if_pos ⟨h0, Or.inl (by rw [hv]; show (-1 : Int) < 0; decide)⟩]
      refine ⟨rfl, Nat.zero_lt_one, h0, fun s hs _ => ?_⟩
      rw [show s = 0 by omega]; exact betr_rfl
    · obtain ⟨i1, i2, i3, i4⟩ := ih q (by omega)
      by_cases c : C m ≠ -1 ∧ ((gS C V m).2 < V m ∨ (V m = (gS C V m).2 ∧ ahd m (gS C V m).1 = true))
      · rw [if_pos c]
        have hb : betr (V m) (V (gS C V m).1) m (gS C V m).1 := by
          rcases c.2 with q | q
          · exact Or.inl (by omega)
          · exact Or.inr ⟨by rw [← i1]; exact q.1.symm, Or.inr q.2⟩
        refine ⟨rfl, Nat.lt_succ_self m, c.1, fun s hs hc => ?_⟩
        rcases Nat.lt_or_ge s m with r | r
        · exact betr_trans hb (i4 s r hc)
        · rw [show s = m by omega]; exact betr_rfl
      · rw [if_neg c]
        refine ⟨i1, by omega, i3, fun s hs hc => ?_⟩
        rcases Nat.lt_or_ge s m with r | r
        · exact i4 s r hc
        · rw [show s = m by omega] at hc ⊢
          have c1 : ¬ (gS C V m).2 < V m := fun z => c ⟨hc, Or.inl z⟩
          by_cases e : V m = (gS C V m).2
          · refine Or.inr ⟨by omega, Or.inr ?_⟩
            refine ahd_total (by omega) (by omega) (by omega) ?_
            exact Bool.eq_false_iff.mpr (fun z => c ⟨hc, Or.inr ⟨e, z⟩⟩)
          · exact Or.inl (by omega)
theorem PSV {lc bc s : Nat} {bd ic fl rs pr : Nat → Nat} (hlc : lc ≤ 8) (hr : ∀ k, rs k ≤ 999) (h : PS lc bd ic fl s bc) : ((bsum s.testBit pr bc : Nat) : Int) - lcost s bc lc bd ic fl rs = VS lc rs ic fl pr s bc := by
  rw [(lcost_PS hlc hr).1 h]; rfl
theorem gS_best {lc bc : Nat} {bd ic fl rs pr : Nat → Nat} (hlc : lc ≤ 8) (hbc : bc ≤ 8) (hr : ∀ k, rs k ≤ 999) : IsB lc bd ic fl rs pr bc (-1) (gS (fun t => lcost t bc lc bd ic fl rs) (fun t => ((bsum t.testBit pr bc : Nat) : Int) - lcost t bc lc bd ic fl rs) (2 ^ bc)).1 ∧ (gS (fun t => lcost t bc lc bd ic fl rs) (fun t => ((bsum t.testBit pr bc : Nat) : Int) - lcost t bc lc bd ic fl rs) (2 ^ bc)).2 = VS lc rs ic fl pr (gS (fun t => lcost t bc lc bd ic fl rs) (fun t => ((bsum t.testBit pr bc : Nat) : Int) - lcost t bc lc bd ic fl rs) (2 ^ bc)).1 bc := by
  have hne : ∀ s, lcost s bc lc bd ic fl rs ≠ -1 ↔ PS lc bd ic fl s bc := by
    intro s
    constructor
    · intro h
      exact Classical.byContradiction fun q => h ((lcost_PS hlc hr).2 q)
    · intro h
      rw [(lcost_PS hlc hr).1 h]; omega
  have h0 : PS lc bd ic fl 0 bc := PS_0
  obtain ⟨h1, h2, h3, h4⟩ := gS_spec (C := fun t => lcost t bc lc bd ic fl rs) (V := fun t => ((bsum t.testBit pr bc : Nat) : Int) - lcost t bc lc bd ic fl rs) ((hne 0).mpr h0) ((PSV hlc hr h0).trans VS_0) (2 ^ bc) (Nat.two_pow_pos bc) (p2_256 hbc)
  have h3 := (hne _).mp h3
  refine ⟨⟨h2, h3, fun k _ _ => by omega, fun s hs hps _ => ?_⟩, ?_⟩
  · have := h4 s hs ((hne s).mpr hps)
    rw [PSV hlc hr h3, PSV hlc hr hps] at this
    exact this
  · rw [h1]; exact PSV hlc hr h3
