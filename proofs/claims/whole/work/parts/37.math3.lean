theorem lfl_at {cf rm : Nat → Nat} {size n k : Nat} (hk : k < n) (h1 : cf k ≠ 0) (h2 : pop k = size) : lfl cf rm size n ≤ rm k := by
  induction n with
  | zero => omega
  | succ n ih =>
    rw [lfl]
    by_cases q : k = n
    · rw [← q, if_pos ⟨h1, h2⟩]; exact Nat.min_le_right _ _
    · have := ih (by omega)
      split <;> omega
theorem lfl_ex {cf rm : Nat → Nat} {size n : Nat} (h : lfl cf rm size n < 1000000) : ∃ k, k < n ∧ cf k ≠ 0 ∧ pop k = size ∧ rm k = lfl cf rm size n := by
  induction n with
  | zero => exact absurd h (Nat.lt_irrefl 1000000)
  | succ n ih =>
    rw [lfl] at h ⊢
    by_cases c : cf n ≠ 0 ∧ pop n = size
    · rw [if_pos c] at h ⊢
      by_cases q : rm n ≤ lfl cf rm size n
      · exact ⟨n, by omega, c.1, c.2, (Nat.min_eq_right q).symm⟩
      · obtain ⟨k, h1, h2, h3, h4⟩ := ih (by omega)
        exact ⟨k, by omega, h2, h3, by omega⟩
    · rw [if_neg c] at h ⊢
      obtain ⟨k, h1, h2, h3, h4⟩ := ih h
      exact ⟨k, by omega, h2, h3, h4⟩
theorem filN_ne {lc m : Nat} {L : List Nat} : filN lc L m ≠ 0 ↔ fil lc L m = true := by
  unfold filN
  by_cases q : fil lc L m = true
  · rw [if_pos q]; exact ⟨fun _ => q, fun _ => by decide⟩
  · rw [if_neg q]; exact ⟨fun h => absurd rfl h, fun h => absurd h q⟩
theorem lfl_eq {lc : Nat} {rm rs : Nat → Nat} (hlc : lc ≤ 8) (hR : RS rm rs lc) (L : List Nat) : lfl (filN lc L) rm L.length (2 ^ lc) = lmC lc rs L := by
  have h256 := p2_256 hlc
  have a1 := lfl_le (filN lc L) rm L.length (2 ^ lc)
  have a2 : lmC lc rs L ≤ 1000000 := lmn_le _ _
  have up : lmC lc rs L < 1000000 → lfl (filN lc L) rm L.length (2 ^ lc) ≤ lmC lc rs L := by
    intro h
    obtain ⟨m, h1, h2, h3⟩ := lmC_ex h
    have h4 := fil_256 hlc h2
    have := lfl_at (cf := filN lc L) (rm := rm) (size := L.length) h4 (filN_ne.mpr h2) (fil_len hlc h2)
    rw [hR m h4, h3] at this
    exact this
  have dn : lfl (filN lc L) rm L.length (2 ^ lc) < 1000000 → lmC lc rs L ≤ lfl (filN lc L) rm L.length (2 ^ lc) := by
    intro h
    obtain ⟨m, h1, h2, h3, h4⟩ := lfl_ex h
    have := lmC_le (rsv := rs) (show m < 256 by omega) (filN_ne.mp h2)
    rw [← h4, hR m h1]
    exact this
  by_cases q : lmC lc rs L < 1000000
  · have := up q
    have := dn (by omega)
    omega
  · by_cases r : lfl (filN lc L) rm L.length (2 ^ lc) < 1000000
    · have := dn r; omega
    · omega
theorem addI_app (fl : Nat → Nat) (k c : Nat) (R : List Nat) : addI fl k c R = addI fl k c [] ++ R := by
  rw [addI_map, addI_map fl k c [], List.append_nil]
theorem addI_len (fl : Nat → Nat) (k c : Nat) (R : List Nat) : (addI fl k c R).length = R.length + c := by
  rw [addI_map, List.length_append, List.length_reverse, List.length_map, List.length_range, Nat.add_comm]
theorem joinC_eq {lc : Nat} {rm rs fl : Nat → Nat} (hlc : lc ≤ 8) (hr : ∀ k, rs k ≤ 999) (hR : RS rm rs lc) (k cnt : Nat) (R : List Nat) : (canB lc (addI fl k cnt R) → joinC lc rm fl k R.length cnt R = (lmC lc rs (addI fl k cnt R) : Int)) ∧ (¬ canB lc (addI fl k cnt R) → joinC lc rm fl k R.length cnt R = -1) := by
  have e := lfl_eq hlc hR (addI fl k cnt R)
  rw [addI_len] at e
  unfold joinC
  rw [e]
  constructor
  · intro h
    have h1 := canB_len hlc h
    rw [addI_len] at h1
    rw [if_pos ⟨h1, (canB_cost (rsv := rs) hlc hr).mp h⟩]
  · intro h
    rw [if_neg]
    rintro ⟨_, h2⟩
    exact h ((canB_cost (rsv := rs) hlc hr).mpr h2)
theorem bsum_xor {u v : Nat} {g : Nat → Nat} (h : dj u v) (n : Nat) : bsum (u ^^^ v).testBit g n = bsum u.testBit g n + bsum v.testBit g n := by
  induction n with
  | zero => rfl
  | succ n ih =>
    rw [bsum, bsum, bsum, ih, Nat.testBit_xor]
    cases hu : u.testBit n with
    | false => cases hv : v.testBit n <;> simp <;> omega
    | true => rw [h n hu]; simp; omega
theorem canB_app {lc : Nat} {P Q : List Nat} (hlc : lc ≤ 8) (h : canB lc (P ++ Q)) : canB lc P ∧ canB lc Q := by
  have h256 := p2_256 hlc
  obtain ⟨m, _, hf⟩ := canB_ex h
  obtain ⟨u, v, _, _, h3, h4⟩ := fil_app.mp hf
  have h5 := fil_256 hlc h3
  have h6 := fil_256 hlc h4
  exact ⟨canB_of (by omega) h3, canB_of (by omega) h4⟩
theorem lmC_sup {lc : Nat} {rs : Nat → Nat} {P Q : List Nat} (hlc : lc ≤ 8) (hr : ∀ k, rs k ≤ 999) (h : canB lc (P ++ Q)) : lmC lc rs P + lmC lc rs Q ≤ lmC lc rs (P ++ Q) := by
  have h256 := p2_256 hlc
  obtain ⟨m, _, hf, hb⟩ := lmC_ex ((canB_cost (rsv := rs) hlc hr).mp h)
  obtain ⟨u, v, h1, h2, h3, h4⟩ := fil_app.mp hf
  have h5 := fil_256 hlc h3
  have h6 := fil_256 hlc h4
  have g1 := lmC_le (rsv := rs) (show u < 256 by omega) h3
  have g2 := lmC_le (rsv := rs) (show v < 256 by omega) h4
  rw [← h1, bsum_xor h2] at hb
  omega
theorem tb_p2 {j i : Nat} : (2 ^ j).testBit i = decide (j = i) := Nat.testBit_two_pow
theorem lmR_one {ic fl : Nat → Nat} {j bc : Nat} (hj : j < bc) : lmR (2 ^ j).testBit ic fl bc = addI fl j (ic j) [] := by
  rw [lmR_up (k := j + 1) hj (fun i h1 _ => by rw [tb_p2]; exact decide_eq_false (by omega)), lmR, if_pos (by rw [tb_p2]; exact decide_eq_true rfl), lmR_up (k := 0) (Nat.zero_le j) (fun i _ h2 => by rw [tb_p2]; exact decide_eq_false (by omega))]
  rfl
theorem PS_one {lc bc j : Nat} {bd ic fl : Nat → Nat} (hlc : lc ≤ 8) (hj : j < bc) (h1 : ic j ≠ 0) (h2 : canB lc (addI fl j (ic j) [])) : PS lc bd ic fl (2 ^ j) bc := by
  have z : ∀ i, 0 ≤ i → i < j → (2 ^ j).testBit i = false := fun i _ h => by rw [tb_p2]; exact decide_eq_false (by omega)
  refine (PS_up (k := j + 1) hj (fun i h1 _ => by rw [tb_p2]; exact decide_eq_false (by omega))).mpr ((PS_t hlc (by rw [tb_p2]; exact decide_eq_true rfl)).mpr ⟨(PS_up (k := 0) (Nat.zero_le j) z).mpr ⟨rfl, rfl, canB_nil⟩, h1, ?_, ?_⟩)
  · rw [sn_up (k := 0) (Nat.zero_le j) z]; exact Nat.zero_testBit _
  · rw [lmR_up (k := 0) (Nat.zero_le j) z]; exact h2
/-- what a bid has alone -/
theorem alo_eq {lc bc j : Nat} {bd ic fl rs pr : Nat → Nat} (hlc : lc ≤ 8) (hr : ∀ k, rs k ≤ 999) (hj : j < bc) (h1 : ic j ≠ 0) (h2 : canB lc (addI fl j (ic j) [])) : alo (fun t => lcost t bc lc bd ic fl rs) pr j = (pr j : Int) - lmC lc rs (addI fl j (ic j) []) := by
  have e := (lcost_PS hlc hr).1 (PS_one (bd := bd) hlc hj h1 h2)
  rw [lmR_one hj] at e
  unfold alo
  show (if lcost (2 ^ j) bc lc bd ic fl rs = -1 then -1 else (pr j : Int) - lcost (2 ^ j) bc lc bd ic fl rs) = _
  rw [e, if_neg (by omega)]
theorem VS_step {lc bc j s : Nat} {bd ic fl rs pr : Nat → Nat} (hlc : lc ≤ 8) (hr : ∀ k, rs k ≤ 999) (hj : j < bc) (hb : s.testBit j = true) (h : PS lc bd ic fl s (j + 1)) : VS lc rs ic fl pr s (j + 1) ≤ VS lc rs ic fl pr s j + alo (fun t => lcost t bc lc bd ic fl rs) pr j := by
  obtain ⟨_, h2, _, h4⟩ := (PS_t hlc hb).mp h
  rw [addI_app] at h4
  have h5 := lmC_sup hlc hr h4
  have h6 := alo_eq (bd := bd) (pr := pr) (bc := bc) hlc hr hj h2 (canB_app hlc h4).1
  unfold VS
  rw [lmR, if_pos hb, addI_app, bsum_t hb, h6]
  omega
theorem VS_bound {lc bc s : Nat} {bd ic fl rs pr : Nat → Nat} {wo : Int} (hlc : lc ≤ 8) (hr : ∀ k, rs k ≤ 999) (h : PS lc bd ic fl s bc) (d : Nat) (hd : d ≤ bc) (hw : ∀ j, bc - d ≤ j → j < bc → s.testBit j = true → wtS (fun t => lcost t bc lc bd ic fl rs) pr bd wo j = true) : VS lc rs ic fl pr s bc ≤ VS lc rs ic fl pr s (bc - d) + hopS (fun t => lcost t bc lc bd ic fl rs) pr bd wo bc d := by
  induction d with
  | zero => rw [Nat.sub_zero, hopS]; omega
  | succ d ih =>
    have i1 := ih (by omega) (fun j h1 h2 h3 => hw j (by omega) h2 h3)
    obtain ⟨k, hk⟩ : ∃ k, k = bc - (d + 1) := ⟨_, rfl⟩
    rw [show bc - d = k + 1 by omega] at i1
    rw [hopS, ← hk]
    cases hb : s.testBit k with
    | false =>
      rw [VS_up (k := k) (Nat.le_succ k) (fun j h1 h2 => by rw [show j = k by omega]; exact hb)] at i1
      omega
    | true =>
      have h1 := VS_step (rs := rs) (pr := pr) (bc := bc) hlc hr (show k < bc by omega) hb (PS_mono hlc (by omega) h)
      have h2 := hw k (by omega) (by omega) hb
      rw [if_pos h2]
      rw [wtS, Bool.and_eq_true] at h2
      have h3 := of_decide_eq_true h2.1
      omega
theorem sn_iff {p : Nat → Bool} {bd : Nat → Nat} {n w : Nat} : (sn p bd n).testBit w = true ↔ ∃ j, j < n ∧ p j = true ∧ bd j = w := by
  induction n with
  | zero =>
    constructor
    · intro h; rw [sn, Nat.zero_testBit] at h; exact absurd h (by decide)
    · rintro ⟨j, h, _⟩; omega
  | succ n ih =>
    rw [sn]
    cases hp : p n with
    | false =>
      rw [if_neg (by decide), ih]
      constructor
      · rintro ⟨j, h1, h2, h3⟩; exact ⟨j, by omega, h2, h3⟩
      · rintro ⟨j, h1, h2, h3⟩
        rcases Nat.lt_or_ge j n with q | q
        · exact ⟨j, q, h2, h3⟩
        · rw [show j = n by omega, hp] at h2; exact absurd h2 (by decide)
    | true =>
      rw [if_pos rfl, or_at, Bool.or_eq_true, ih]
      constructor
      · rintro (⟨j, h1, h2, h3⟩ | h)
        · exact ⟨j, by omega, h2, h3⟩
        · exact ⟨n, by omega, hp, of_decide_eq_true h⟩
      · rintro ⟨j, h1, h2, h3⟩
        rcases Nat.lt_or_ge j n with q | q
        · exact Or.inl ⟨j, q, h2, h3⟩
        · rw [show j = n by omega] at h3; exact Or.inr (decide_eq_true h3)
theorem free_iff {set k bc w : Nat} {bd : Nat → Nat} (hs : set < 2 ^ k) (hk : k ≤ bc) : fst1 (fun j => set.testBit j && decide (bd j = w)) bc = bc ↔ (sn set.testBit bd k).testBit w = false := by
  constructor
  · intro h
    cases q : (sn set.testBit bd k).testBit w with
    | false => rfl
    | true =>
      obtain ⟨j, h1, h2, h3⟩ := sn_iff.mp q
      have := (fst1_lt (P := fun j => set.testBit j && decide (bd j = w)) (show j < bc by omega) (by show (_ && _) = true; rw [h2, decide_eq_true h3]; rfl)).1
      omega
  · intro h
    refine fst1_no (fun j hj => ?_)
    show (_ && _) = false
    cases hb : set.testBit j with
    | false => rfl
    | true =>
      rw [Bool.true_and]
      refine decide_eq_false (fun e => ?_)
      have hjk : j < k := Nat.lt_of_not_le (fun q => by rw [tb_hi hs q] at hb; exact absurd hb (by decide))
      rw [sn_iff.mpr ⟨j, hjk, hb, e⟩] at h; exact absurd h (by decide)
