/-- the sets that branch and bound goes through from here -/
def cnd (lc bc : Nat) (bd ic fl : Nat → Nat) (Wt : Nat → Bool) (k set s : Nat) : Prop := s < 2 ^ bc ∧ PS lc bd ic fl s bc ∧ (∀ j, j < k → s.testBit j = set.testBit j) ∧ ∀ j, k ≤ j → j < bc → s.testBit j = true → Wt j = true
/-- the answer is the best of them, or the old one where none is better -/
def bres (Cn : Nat → Prop) (V : Nat → Int) (b r : Nat × Int) : Prop := (r = b ∧ ∀ s, Cn s → V s ≤ b.2) ∨ ∃ s, Cn s ∧ b.2 < V s ∧ r = (s, V s) ∧ ∀ t, Cn t → betr (V s) (V t) s t
theorem bres_join {C0 C1 Cn : Nat → Prop} {V : Nat → Int} {b b1 r : Nat × Int} (hc : ∀ s, Cn s ↔ C1 s ∨ C0 s) (ha : ∀ s t, C1 s → C0 t → ahd s t = true) (h1 : bres C1 V b b1) (h0 : bres C0 V b1 r) : bres Cn V b r := by
  rcases h1 with ⟨e1, f1⟩ | ⟨s, g1, g2, g3, g4⟩
  · rw [e1] at h0
    rcases h0 with ⟨e0, f0⟩ | ⟨t, k1, k2, k3, k4⟩
    · exact Or.inl ⟨e0, fun s hs => ((hc s).mp hs).elim (f1 s) (f0 s)⟩
    · refine Or.inr ⟨t, (hc t).mpr (Or.inr k1), k2, k3, fun u hu => ?_⟩
      rcases (hc u).mp hu with q | q
      · have := f1 u q
        exact Or.inl (by omega)
      · exact k4 u q
  · rw [g3] at h0
    rcases h0 with ⟨e0, f0⟩ | ⟨t, k1, k2, k3, k4⟩
    · refine Or.inr ⟨s, (hc s).mpr (Or.inl g1), g2, e0, fun u hu => ?_⟩
      rcases (hc u).mp hu with q | q
      · exact g4 u q
      · have h : V u ≤ V s := f0 u q
        by_cases e : V u = V s
        · exact Or.inr ⟨e, Or.inr (ha s u g1 q)⟩
        · exact Or.inl (by omega)
    · have k2 : V s < V t := k2
      refine Or.inr ⟨t, (hc t).mpr (Or.inr k1), by omega, k3, fun u hu => ?_⟩
      rcases (hc u).mp hu with q | q
      · refine Or.inl ?_
        rcases g4 u q with z | z
        · omega
        · have := z.1; omega
      · exact k4 u q
theorem bres_none {Cn : Nat → Prop} {V : Nat → Int} {b : Nat × Int} (h : ∀ s, Cn s → V s ≤ b.2) : bres Cn V b b := Or.inl ⟨rfl, h⟩
theorem cnd_split {lc bc k set s : Nat} {bd ic fl : Nat → Nat} {Wt : Nat → Bool} (hs : set < 2 ^ k) : cnd lc bc bd ic fl Wt k set s ↔ (s.testBit k = true ∧ cnd lc bc bd ic fl Wt k set s) ∨ cnd lc bc bd ic fl Wt (k + 1) set s := by
  constructor
  · intro h
    cases hb : s.testBit k with
    | true => exact Or.inl ⟨rfl, h⟩
    | false =>
      right
      obtain ⟨h1, h2, h3, h4⟩ := h
      refine ⟨h1, h2, fun j hj => ?_, fun j a b c => h4 j (by omega) b c⟩
      rcases Nat.lt_or_ge j k with q | q
      · exact h3 j q
      · rw [show j = k by omega, hb, tb_hi hs (Nat.le_refl k)]
  · rintro (⟨_, h⟩ | ⟨h1, h2, h3, h4⟩)
    · exact h
    · refine ⟨h1, h2, fun j hj => h3 j (by omega), fun j a b c => ?_⟩
      rcases Nat.lt_or_ge k j with q | q
      · exact h4 j q b c
      · rw [show j = k by omega, h3 k (by omega), tb_hi hs (Nat.le_refl k)] at c; exact absurd c (by decide)
theorem cnd_with {lc bc k set s : Nat} {bd ic fl : Nat → Nat} {Wt : Nat → Bool} (hs : set < 2 ^ k) (hk : k < bc) (hw : Wt k = true) : (s.testBit k = true ∧ cnd lc bc bd ic fl Wt k set s) ↔ cnd lc bc bd ic fl Wt (k + 1) (set ||| 2 ^ k) s := by
  constructor
  · rintro ⟨hb, h1, h2, h3, h4⟩
    refine ⟨h1, h2, fun j hj => ?_, fun j a b c => h4 j (by omega) b c⟩
    rw [or_at]
    rcases Nat.lt_or_ge j k with q | q
    · rw [h3 j q, decide_eq_false (by omega), Bool.or_false]
    · rw [show j = k by omega, hb, decide_eq_true rfl, Bool.or_true]
  · rintro ⟨h1, h2, h3, h4⟩
    have hb : s.testBit k = true := by rw [h3 k (by omega), or_at, decide_eq_true rfl, Bool.or_true]
    refine ⟨hb, h1, h2, fun j hj => ?_, fun j a b c => ?_⟩
    · rw [h3 j (by omega), or_at, decide_eq_false (by omega), Bool.or_false]
    · rcases Nat.lt_or_ge k j with q | q
      · exact h4 j q b c
      · rw [show j = k by omega]; exact hw
set_option maxHeartbeats 1000000 in
theorem brS_spec {lc bc : Nat} {rm bd ic fl rs pr : Nat → Nat} {wo : Int} (hlc : lc ≤ 8) (hbc : bc ≤ 8) (hr : ∀ k, rs k ≤ 999) (hR : RS rm rs lc) (d : Nat) : ∀ (k : Nat), k + d = bc → ∀ (set : Nat) (b : Nat × Int), set < 2 ^ k → PS lc bd ic fl set k → bres (cnd lc bc bd ic fl (wtS (fun t => lcost t bc lc bd ic fl rs) pr bd wo) k set) (fun s => VS lc rs ic fl pr s bc) b (brS lc bc rm bd pr ic fl (wtS (fun t => lcost t bc lc bd ic fl rs) pr bd wo) (fun k => hopS (fun t => lcost t bc lc bd ic fl rs) pr bd wo bc (bc - k)) d set (lmR set.testBit ic fl k) (lmR set.testBit ic fl k).length (bsum set.testBit pr k) (lmC lc rs (lmR set.testBit ic fl k)) b) := by
  induction d with
  | zero =>
    intro k hk set b hs hp
    have hk : k = bc := hk
    subst hk
    rw [brS_0, Nat.sub_self]
    have hv : ∀ s, cnd lc k bd ic fl (wtS (fun t => lcost t k lc bd ic fl rs) pr bd wo) k set s → s = set := fun s h => eq_of_bits h.1 hs h.2.2.1
    have hV : ((bsum set.testBit pr k : Nat) : Int) - (lmC lc rs (lmR set.testBit ic fl k) : Int) = VS lc rs ic fl pr set k := rfl
    rw [hV]
    show bres _ _ _ (if VS lc rs ic fl pr set k + ((0 : Nat) : Int) ≤ b.2 then b else (set, VS lc rs ic fl pr set k))
    by_cases q : VS lc rs ic fl pr set k + ((0 : Nat) : Int) ≤ b.2
    · rw [if_pos q]
      refine bres_none (fun s h => ?_)
      rw [hv s h]; show VS lc rs ic fl pr set k ≤ b.2; omega
    · rw [if_neg q]
      refine Or.inr ⟨set, ⟨hs, hp, fun _ _ => rfl, fun j h1 h2 => by omega⟩, by show b.2 < VS lc rs ic fl pr set k; omega, rfl, fun t ht => ?_⟩
      rw [hv t ht]; exact betr_rfl
  | succ d ih =>
    intro k hk set b hs hp
    rw [brS_s]
    have hV : ((bsum set.testBit pr k : Nat) : Int) - (lmC lc rs (lmR set.testBit ic fl k) : Int) = VS lc rs ic fl pr set k := rfl
    rw [show bc - (d + 1) = k by omega, hV]
    by_cases q : VS lc rs ic fl pr set k + ((hopS (fun t => lcost t bc lc bd ic fl rs) pr bd wo bc (bc - k) : Nat) : Int) ≤ b.2
    · rw [if_pos q]
      refine bres_none (fun s h => ?_)
      have h1 := VS_bound (rs := rs) (pr := pr) (wo := wo) hlc hr h.2.1 (bc - k) (by omega) (fun j a b c => h.2.2.2 j (by omega) b c)
      rw [show bc - (bc - k) = k by omega, VS_congr (t := set) (fun j hj => h.2.2.1 j hj)] at h1
      show VS lc rs ic fl pr s bc ≤ b.2
      omega
    · rw [if_neg q]
      have hup : ∀ j, k ≤ j → j < k + 1 → set.testBit j = false := fun j h1 _ => tb_hi hs h1
      have i0 := ih (k + 1) (by omega) set
      rw [lmR_up (Nat.le_succ k) hup, bsum_up (Nat.le_succ k) hup] at i0
      have hs1 : set < 2 ^ (k + 1) := Nat.lt_of_lt_of_le hs (Nat.pow_le_pow_right (by decide) (Nat.le_succ k))
      have hp1 : PS lc bd ic fl set (k + 1) := (PS_up (Nat.le_succ k) hup).mpr hp
      refine bres_join (C1 := fun s => s.testBit k = true ∧ cnd lc bc bd ic fl (wtS (fun t => lcost t bc lc bd ic fl rs) pr bd wo) k set s) (fun s => cnd_split hs) (fun s t h1 h0 => ?_) ?_ (i0 _ hs1 hp1)
      · refine ahd_iff.mpr ⟨k, by omega, h1.1, by rw [h0.2.2.1 k (by omega)]; exact tb_hi hs (Nat.le_refl k), fun j hj => by rw [h1.2.2.2.1 j hj, h0.2.2.1 j (by omega)]⟩
      · have hje := joinC_eq (fl := fl) hlc hr hR k (ic k) (lmR set.testBit ic fl k)
        by_cases c : wtS (fun t => lcost t bc lc bd ic fl rs) pr bd wo k = true ∧ fst1 (fun j => set.testBit j && decide (bd j = bd k)) bc = bc ∧ joinC lc rm fl k (lmR set.testBit ic fl k).length (ic k) (lmR set.testBit ic fl k) ≠ -1
        · rw [if_pos c]
          have hcb : canB lc (addI fl k (ic k) (lmR set.testBit ic fl k)) := Classical.byContradiction fun z => c.2.2 (hje.2 z)
          have hbk : (set ||| 2 ^ k).testBit k = true := by rw [or_at, decide_eq_true rfl, Bool.or_true]
          have hlow : ∀ j, j < k → (set ||| 2 ^ k).testBit j = set.testBit j := fun j hj => by rw [or_at, decide_eq_false (by omega), Bool.or_false]
          have hlm : lmR (set ||| 2 ^ k).testBit ic fl (k + 1) = addI fl k (ic k) (lmR set.testBit ic fl k) := by rw [lmR, if_pos hbk, lmR_congr hlow]
          have hbs : bsum (set ||| 2 ^ k).testBit pr (k + 1) = bsum set.testBit pr k + pr k := by rw [bsum_t hbk, bsum_congr (fun j hj => ⟨hlow j hj, rfl⟩)]
          have hic : ic k ≠ 0 := by
            have h := c.1
            rw [wtS, Bool.and_eq_true] at h
            have h := of_decide_eq_true h.1
            intro z
            have hne : ¬ PS lc bd ic fl (2 ^ k) bc := by
              intro y
              have y := PS_mono (k := k + 1) hlc (by omega) y
              exact ((PS_t hlc (by rw [tb_p2]; exact decide_eq_true rfl)).mp y).2.1 z
            have e := (lcost_PS (bd := bd) hlc hr).2 hne
            unfold alo at h
            rw [if_pos e] at h
            exact absurd h (by decide)
          have hp2 : PS lc bd ic fl (set ||| 2 ^ k) (k + 1) := (PS_t hlc hbk).mpr ⟨(PS_congr hlow).mpr hp, hic, by rw [sn_congr hlow]; exact (free_iff hs (by omega)).mp c.2.1, by rw [lmR_congr hlow]; exact hcb⟩
          have i1 := ih (k + 1) (by omega) (set ||| 2 ^ k) b (or_p2 hs1 (by omega)) hp2
          rw [hlm, hbs, addI_len] at i1
          rw [hje.1 hcb, Int.toNat_natCast]
          rcases i1 with ⟨e1, f1⟩ | ⟨s, g1, g2, g3, g4⟩
          · exact Or.inl ⟨e1, fun s h => f1 s ((cnd_with hs (by omega) c.1).mp h)⟩
          · exact Or.inr ⟨s, (cnd_with hs (by omega) c.1).mpr g1, g2, g3, fun t ht => g4 t ((cnd_with hs (by omega) c.1).mp ht)⟩
        · rw [if_neg c]
          refine bres_none (fun s h => absurd ?_ c)
          obtain ⟨hb, h1, h2, h3, h4⟩ := h
          obtain ⟨_, _, p3, p4⟩ := (PS_t hlc hb).mp (PS_mono (k := k + 1) hlc (by omega) h2)
          rw [sn_congr h3] at p3
          rw [lmR_congr h3] at p4
          refine ⟨h4 k (Nat.le_refl k) (by omega) hb, (free_iff hs (by omega)).mpr p3, ?_⟩
          rw [hje.1 p4]; omega
theorem okN_iff {p : Nat → Bool} {ic : Nat → Nat} {n : Nat} : okN p ic n = true ↔ ∀ k, k < n → p k = true → ic k ≠ 0 := by
  induction n with
  | zero => exact ⟨fun _ k hk => absurd hk (Nat.not_lt_zero k), fun _ => rfl⟩
  | succ n ih =>
    rw [okN, Bool.and_eq_true, ih, Bool.or_eq_true, Bool.not_eq_true', decide_eq_true_eq]
    constructor
    · rintro ⟨h1, h2⟩ k hk hp
      rcases Nat.lt_or_ge k n with q | q
      · exact h1 k q hp
      · rw [show k = n by omega] at hp ⊢
        rcases h2 with h2 | h2
        · rw [h2] at hp; exact absurd hp (by decide)
        · exact h2
    · intro h
      refine ⟨fun k hk hp => h k (by omega) hp, ?_⟩
      cases hp : p n with
      | false => exact Or.inl rfl
      | true => exact Or.inr (h n (by omega) hp)
theorem okB_iff {p : Nat → Bool} {bd : Nat → Nat} {n : Nat} : okB p bd n = true ↔ ∀ x y, x < y → y < n → p x = true → p y = true → bd x ≠ bd y := by
  induction n with
  | zero => exact ⟨fun _ x y _ h => absurd h (Nat.not_lt_zero y), fun _ => rfl⟩
  | succ n ih =>
    rw [okB, Bool.and_eq_true, ih, Bool.not_eq_true', Bool.and_eq_false_iff]
    constructor
    · rintro ⟨h1, h2⟩ x y hxy hy px py
      rcases Nat.lt_or_ge y n with q | q
      · exact h1 x y hxy q px py
      · rw [show y = n by omega] at py ⊢
        rcases h2 with h2 | h2
        · rw [h2] at py; exact absurd py (by decide)
        · intro e
          rw [sn_iff.mpr ⟨x, by omega, px, e⟩] at h2; exact absurd h2 (by decide)
    · intro h
      refine ⟨fun x y a b c d => h x y a (by omega) c d, ?_⟩
      cases hp : p n with
      | false => exact Or.inl rfl
      | true =>
        right
        cases q : (sn p bd n).testBit (bd n) with
        | false => rfl
        | true =>
          obtain ⟨j, h1, h2, h3⟩ := sn_iff.mp q
          exact absurd h3 (h j n h1 (by omega) h2 hp)
theorem lmR_rem {ic fl : Nat → Nat} {s j n : Nat} (hj : j < n) (hb : s.testBit j = true) : ∃ P Q, lmR s.testBit ic fl n = P ++ (addI fl j (ic j) [] ++ Q) ∧ lmR (s ^^^ 2 ^ j).testBit ic fl n = P ++ Q := by
  induction n with
  | zero => omega
  | succ n ih =>
    by_cases q : j = n
    · rw [← q]
      refine ⟨[], lmR s.testBit ic fl j, ?_, ?_⟩
      · rw [lmR, if_pos hb, addI_app]; rfl
      · rw [lmR, if_neg (by rw [xor_at, hb, decide_eq_true rfl]; decide)]
        exact lmR_congr (fun k hk => by rw [xor_at, decide_eq_false (by omega), Bool.xor_false])
    · obtain ⟨P, Q, h1, h2⟩ := ih (by omega)
      have e : (s ^^^ 2 ^ j).testBit n = s.testBit n := by rw [xor_at, decide_eq_false q, Bool.xor_false]
      rw [lmR, lmR, h1, h2, e]
      cases hs : s.testBit n with
      | false => exact ⟨P, Q, by rw [if_neg (by decide)], by rw [if_neg (by decide)]⟩
      | true =>
        refine ⟨addI fl n (ic n) [] ++ P, Q, ?_, ?_⟩
        · rw [if_pos rfl, addI_app, List.append_assoc]
        · rw [if_pos rfl, addI_app, List.append_assoc]
theorem fil_mid {lc m : Nat} {P M Q : List Nat} (h : fil lc (P ++ (M ++ Q)) m = true) : ∃ u v, u ^^^ v = m ∧ dj u v ∧ fil lc (P ++ Q) u = true ∧ fil lc M v = true := by
  obtain ⟨u, w, h1, h2, h3, h4⟩ := fil_app.mp h
  obtain ⟨v, x, g1, g2, g3, g4⟩ := fil_app.mp h4
  have hxw : ∀ k, x.testBit k = true → w.testBit k = true := fun k hk => by
    rw [← g1, Nat.testBit_xor, hk, dj_symm g2 k hk]; rfl
  have hvw : ∀ k, v.testBit k = true → w.testBit k = true := fun k hk => by
    rw [← g1, Nat.testBit_xor, hk, g2 k hk]; rfl
  have hux : dj u x := fun k hk => by
    cases q : x.testBit k with
    | false => rfl
    | true => have := hxw k q; rw [h2 k hk] at this; exact absurd this (by decide)
  refine ⟨u ^^^ x, v, ?_, fun k hk => ?_, fil_app.mpr ⟨u, x, rfl, hux, h3, g4⟩, g3⟩
  · rw [Nat.xor_assoc, Nat.xor_comm x v, g1, h1]
  · cases q : v.testBit k with
    | false => rfl
    | true =>
      rw [Nat.testBit_xor] at hk
      have h5 : x.testBit k = false := g2 k q
      rw [h5, Bool.xor_false] at hk
      have := h2 k hk
      rw [hvw k q] at this; exact absurd this (by decide)
theorem PS_rem {lc bc s j : Nat} {bd ic fl rs pr : Nat → Nat} (hlc : lc ≤ 8) (hr : ∀ k, rs k ≤ 999) (hj : j < bc) (hb : s.testBit j = true) (h : PS lc bd ic fl s bc) : PS lc bd ic fl (s ^^^ 2 ^ j) bc ∧ VS lc rs ic fl pr s bc ≤ VS lc rs ic fl pr (s ^^^ 2 ^ j) bc + alo (fun t => lcost t bc lc bd ic fl rs) pr j := by
  have h256 := p2_256 hlc
  obtain ⟨h1, h2, h3⟩ := h
  obtain ⟨P, Q, e1, e2⟩ := lmR_rem (ic := ic) (fl := fl) hj hb
  have hsub : ∀ k, (s ^^^ 2 ^ j).testBit k = true → s.testBit k = true := fun k hk => by
    rw [xor_at] at hk
    by_cases q : j = k
    · rw [← q]; exact hb
    · rw [decide_eq_false q, Bool.xor_false] at hk; exact hk
  have hc3 := h3
  rw [e1] at hc3
  obtain ⟨m, _, hf, hbm⟩ := lmC_ex ((canB_cost (rsv := rs) hlc hr).mp hc3)
  obtain ⟨u, v, g1, g2, g3, g4⟩ := fil_mid hf
  have k1 := fil_256 hlc g3
  have k2 := fil_256 hlc g4
  have l1 := lmC_le (rsv := rs) (show u < 256 by omega) g3
  have l2 := lmC_le (rsv := rs) (show v < 256 by omega) g4
  rw [← g1, bsum_xor g2] at hbm
  constructor
  · refine ⟨okN_iff.mpr (fun k hk hp => okN_iff.mp h1 k hk (hsub k hp)), okB_iff.mpr (fun x y a b c d => okB_iff.mp h2 x y a b (hsub x c) (hsub y d)), ?_⟩
    rw [e2]; exact canB_of (by omega) g3
  · have e3 := alo_eq (bd := bd) (pr := pr) (bc := bc) hlc hr hj (okN_iff.mp h1 j hj hb) (canB_of (by omega) g4)
    have e4 := bsum_ins (p := (s ^^^ 2 ^ j).testBit) (q := s.testBit) (g := pr) hj (by rw [xor_at, hb, decide_eq_true rfl]; rfl) hb (fun k hk => by rw [xor_at, decide_eq_false (fun q => hk q.symm), Bool.xor_false])
    unfold VS
    rw [e1, e2, e3, e4]
    omega
theorem cnd_ex {lc bc : Nat} {bd ic fl rs pr : Nat → Nat} {wo : Int} (hlc : lc ≤ 8) (hbc : bc ≤ 8) (hr : ∀ k, rs k ≤ 999) (s : Nat) : s < 2 ^ bc → PS lc bd ic fl s bc → nwP bd bc wo s → ∃ t, cnd lc bc bd ic fl (wtS (fun t => lcost t bc lc bd ic fl rs) pr bd wo) 0 0 t ∧ betr (VS lc rs ic fl pr t bc) (VS lc rs ic fl pr s bc) t s := by
  have h256 := p2_256 hbc
  induction s using Nat.strongRecOn with
  | ind s ih =>
    intro h1 h2 h3
    by_cases q : ∀ j, j < bc → s.testBit j = true → wtS (fun t => lcost t bc lc bd ic fl rs) pr bd wo j = true
    · exact ⟨s, ⟨h1, h2, fun j hj => absurd hj (Nat.not_lt_zero j), fun j _ a b => q j a b⟩, betr_rfl⟩
    · have : ∃ j, j < bc ∧ s.testBit j = true ∧ ¬ wtS (fun t => lcost t bc lc bd ic fl rs) pr bd wo j = true := Classical.byContradiction fun z => q (fun j a b => Classical.byContradiction fun c => z ⟨j, a, b, c⟩)
      obtain ⟨j, a1, a2, a3⟩ := this
      have ha : alo (fun t => lcost t bc lc bd ic fl rs) pr j < 0 := by
        refine Classical.byContradiction fun c => a3 ?_
        rw [wtS, decide_eq_true (show 0 ≤ alo (fun t => lcost t bc lc bd ic fl rs) pr j by omega), decide_eq_true (h3 j a1 a2)]; rfl
      have hlt := (pop_xor s (by omega) j (by omega) a2).2
      obtain ⟨b1, b2⟩ := PS_rem (pr := pr) hlc hr a1 a2 h2
      obtain ⟨t, c1, c2⟩ := ih (s ^^^ 2 ^ j) hlt (by omega) b1 (fun k hk hb => h3 k hk (by
        rw [xor_at] at hb
        by_cases q : j = k
        · rw [← q]; exact a2
        · rw [decide_eq_false q, Bool.xor_false] at hb; exact hb))
      refine ⟨t, c1, Or.inl ?_⟩
      rcases c2 with c2 | c2
      · omega
      · have := c2.1; omega
theorem fbS_best {lc bc : Nat} {rm bd ic fl rs pr : Nat → Nat} (wo : Int) (hlc : lc ≤ 8) (hbc : bc ≤ 8) (hr : ∀ k, rs k ≤ 999) (hR : RS rm rs lc) : IsB lc bd ic fl rs pr bc wo (fbS lc bc rm bd pr ic fl rs wo).1 ∧ (fbS lc bc rm bd pr ic fl rs wo).2 = VS lc rs ic fl pr (fbS lc bc rm bd pr ic fl rs wo).1 bc := by
  have h0 := brS_spec (bd := bd) (ic := ic) (fl := fl) (pr := pr) (wo := wo) hlc hbc hr hR bc 0 (Nat.zero_add bc) 0 (0, -1) (Nat.two_pow_pos 0) ⟨rfl, rfl, canB_nil⟩
  have e0 : lmC lc rs (lmR (0 : Nat).testBit ic fl 0) = 0 := lmC_nil
  rw [e0] at h0
  have h0 : bres _ _ (0, -1) (fbS lc bc rm bd pr ic fl rs wo) := h0
  have hz : cnd lc bc bd ic fl (wtS (fun t => lcost t bc lc bd ic fl rs) pr bd wo) 0 0 0 := ⟨Nat.two_pow_pos bc, PS_0, fun _ _ => rfl, fun j _ _ h => by rw [Nat.zero_testBit] at h; exact absurd h (by decide)⟩
  rcases h0 with ⟨_, f⟩ | ⟨s, g1, g2, g3, g4⟩
  · have := f 0 hz
    have e : VS lc rs ic fl pr 0 bc = 0 := VS_0
    have this : VS lc rs ic fl pr 0 bc ≤ -1 := this
    omega
  · rw [g3]
    refine ⟨⟨g1.1, g1.2.1, fun k hk hb => ?_, fun t a b c => ?_⟩, rfl⟩
    · have := g1.2.2.2 k (Nat.zero_le k) hk hb
      rw [wtS, Bool.and_eq_true] at this
      exact of_decide_eq_true this.2
    · obtain ⟨u, k1, k2⟩ := cnd_ex (rs := rs) (pr := pr) (wo := wo) hlc hbc hr t a b c
      exact betr_trans (g4 u k1) k2
