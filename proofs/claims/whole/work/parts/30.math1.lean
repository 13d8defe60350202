theorem mnl_le_at {it : Nat} {rs g : Nat → Nat} {t n k : Nat} (hk : k < n) (h1 : it.testBit k = true) (h2 : t.testBit k = false) : mnl it rs g t n ≤ rs k + g (t ||| 2 ^ k) := by
  induction n with
  | zero => omega
  | succ n ih =>
    by_cases q : k = n
    · rw [← q, mnl_yes h1 h2]; exact Nat.min_le_right _ _
    · have := ih (by omega)
      rw [mnl]
      split <;> omega
/-- the least cost for a list of items, one after the other, when the lots t are taken -/
def rcL (lc : Nat) (rs : Nat → Nat) (L : List Nat) : Nat → Nat := match L with
  | [] => fun _ => 0
  | it :: r => fun t => mnl it rs (rcL lc rs r) t lc
theorem rcv_rcL {L : List Nat} {lc : Nat} {rs : Nat → Nat} (d : Nat) (hd : d ≤ L.length) (t : Nat) : rcv (qf L) L.length lc rs d t = rcL lc rs (L.drop (L.length - d)) t := by
  induction d generalizing t with
  | zero => rw [Nat.sub_zero, List.drop_length]; rfl
  | succ d ih =>
    have h : L.length - (d + 1) < L.length := by omega
    rw [List.drop_eq_getElem_cons h, show L.length - (d + 1) + 1 = L.length - d by omega]
    show mnl (qf L (L.length - (d + 1))) rs (rcv (qf L) L.length lc rs d) t lc = mnl _ rs (rcL lc rs _) t lc
    have e : qf L (L.length - (d + 1)) = L[L.length - (d + 1)] := by
      unfold qf; rw [List.getD_eq_getElem?_getD, List.getElem?_eq_getElem h]; rfl
    rw [e]
    exact mnl_congr (fun l _ _ _ => ih (by omega) _)
theorem xor_at {x k j : Nat} : (x ^^^ 2 ^ k).testBit j = (x.testBit j ^^ decide (k = j)) := by
  rw [Nat.testBit_xor, Nat.testBit_two_pow]
abbrev dj (m t : Nat) : Prop := ∀ k, m.testBit k = true → t.testBit k = false
theorem dj_step {m t k : Nat} (h : dj m t) (hm : m.testBit k = true) : dj (m ^^^ 2 ^ k) (t ||| 2 ^ k) := by
  intro j hj
  rw [xor_at] at hj
  rw [or_at]
  by_cases q : k = j
  · rw [decide_eq_true q, ← q, hm] at hj; exact absurd hj (by decide)
  · rw [decide_eq_false q, Bool.xor_false] at hj
    rw [h j hj, decide_eq_false q]; rfl
theorem rcL_le {lc : Nat} {rs : Nat → Nat} (hlc : lc ≤ 8) (L : List Nat) : ∀ t m, m < 256 → fil lc L m = true → dj m t → rcL lc rs L t ≤ bsum m.testBit rs lc := by
  induction L with
  | nil => exact fun t m _ _ _ => Nat.zero_le _
  | cons it r ih =>
    intro t m hm hf hd
    obtain ⟨k, hk, h1, h2, h3⟩ := fil_ex.mp hf
    obtain ⟨e1, e2, e3⟩ := xor_or_all m hm k (by omega) h1
    have h4 := ih (t ||| 2 ^ k) (m ^^^ 2 ^ k) e3 h3 (dj_step hd h1)
    have h5 := rsm_or (rsv := rs) hk e2
    rw [e1] at h5
    have h6 := mnl_le_at (rs := rs) (g := rcL lc rs r) hk h2 (hd k h1)
    show mnl it rs (rcL lc rs r) t lc ≤ _
    omega
theorem rcL_ex {lc : Nat} {rs : Nat → Nat} (hlc : lc ≤ 8) (L : List Nat) : ∀ t, rcL lc rs L t < 1000000 → ∃ m, m < 2 ^ lc ∧ fil lc L m = true ∧ dj m t ∧ bsum m.testBit rs lc = rcL lc rs L t := by
  have h256 := p2_256 hlc
  induction L with
  | nil =>
    intro t _
    refine ⟨0, Nat.two_pow_pos lc, rfl, fun k hk => ?_, ?_⟩
    · rw [Nat.zero_testBit] at hk; exact absurd hk (by decide)
    · exact bsum_up (k := 0) (Nat.zero_le lc) (fun j _ _ => Nat.zero_testBit j)
  | cons it r ih =>
    intro t ht
    have ht2 : mnl it rs (rcL lc rs r) t lc < 1000000 := ht
    obtain ⟨l, h1, h2, h3, h4⟩ := mnl_at ht2
    obtain ⟨m, g1, g2, g3, g4⟩ := ih (t ||| 2 ^ l) (by omega)
    have hml : m.testBit l = false := by
      cases q : m.testBit l with
      | false => rfl
      | true => have := g3 l q; rw [or_at, decide_eq_true rfl, Bool.or_true] at this; exact absurd this (by decide)
    have e := or_xor_all m (by omega) l (by omega) hml
    refine ⟨m ||| 2 ^ l, or_p2 g1 h1, fil_ex.mpr ⟨l, h1, e.2, h2, by rw [e.1]; exact g2⟩, fun k hk => ?_, ?_⟩
    · rw [or_at] at hk
      by_cases q : l = k
      · rw [← q]; exact h3
      · rw [decide_eq_false q, Bool.or_false] at hk
        have := g3 k hk
        rw [or_at, decide_eq_false q, Bool.or_false] at this
        exact this
    · rw [rsm_or h1 hml]
      show _ = mnl it rs (rcL lc rs r) t lc
      omega
theorem fil_256 {n m : Nat} {L : List Nat} (hn : n ≤ 8) (h : fil n L m = true) : m < 2 ^ n := by
  induction L generalizing m with
  | nil => have : m = 0 := of_decide_eq_true h; rw [this]; exact Nat.two_pow_pos n
  | cons it r ih =>
    obtain ⟨k, h1, h2, h3, h4⟩ := fil_ex.mp h
    have := ih h4
    have e : (m ^^^ 2 ^ k) ||| 2 ^ k = m := by
      apply Nat.eq_of_testBit_eq
      intro j
      rw [or_at, xor_at]
      by_cases q : k = j
      · rw [← q, h2, decide_eq_true rfl]; rfl
      · rw [decide_eq_false q, Bool.xor_false, Bool.or_false]
    rw [← e]
    exact or_p2 this h1
theorem fil_len {n m : Nat} {L : List Nat} (hn : n ≤ 8) (h : fil n L m = true) : pop m = L.length := by
  have h256 := p2_256 hn
  induction L generalizing m with
  | nil => have : m = 0 := of_decide_eq_true h; rw [this]; exact pop_0
  | cons it r ih =>
    obtain ⟨k, h1, h2, h3, h4⟩ := fil_ex.mp h
    have hm := fil_256 hn h
    have e := pop_xor m (by omega) k (by omega) h2
    rw [List.length_cons, ← ih h4, e.1]
theorem pop_leN : ∀ n, n ≤ 8 → ∀ m, m < 2 ^ n → pop m ≤ n := by decide +kernel
theorem canB_len {n : Nat} {L : List Nat} (hn : n ≤ 8) (h : canB n L) : L.length ≤ n := by
  obtain ⟨m, _, hf⟩ := canB_ex h
  rw [← fil_len hn hf]
  exact pop_leN n hn m (fil_256 hn hf)
theorem fil_app {n : Nat} {A B : List Nat} {m : Nat} : fil n (A ++ B) m = true ↔ ∃ u v, u ^^^ v = m ∧ dj u v ∧ fil n A u = true ∧ fil n B v = true := by
  induction A generalizing m with
  | nil =>
    constructor
    · intro h
      exact ⟨0, m, Nat.zero_xor m, fun k hk => by rw [Nat.zero_testBit] at hk; exact absurd hk (by decide), rfl, h⟩
    · rintro ⟨u, v, h1, h2, h3, h4⟩
      have : u = 0 := of_decide_eq_true h3
      rw [this, Nat.zero_xor] at h1
      rw [← h1]; exact h4
  | cons it r ih =>
    show fil n (it :: (r ++ B)) m = true ↔ _
    constructor
    · intro h
      obtain ⟨k, h1, h2, h3, h4⟩ := fil_ex.mp h
      obtain ⟨u, v, g1, g2, g3, g4⟩ := ih.mp h4
      have hk : (m ^^^ 2 ^ k).testBit k = false := by rw [xor_at, h2, decide_eq_true rfl]; rfl
      have huv : (u.testBit k ^^ v.testBit k) = false := by rw [← Nat.testBit_xor, g1]; exact hk
      have huk : u.testBit k = false := by
        cases q : u.testBit k with
        | false => rfl
        | true => rw [q, g2 k q] at huv; exact absurd huv (by decide)
      have hvk : v.testBit k = false := by rw [huk, Bool.false_xor] at huv; exact huv
      refine ⟨u ^^^ 2 ^ k, v, ?_, ?_, fil_ex.mpr ⟨k, h1, ?_, h3, ?_⟩, g4⟩
      · rw [Nat.xor_assoc, Nat.xor_comm (2 ^ k) v, ← Nat.xor_assoc, g1, Nat.xor_assoc, Nat.xor_self, Nat.xor_zero]
      · intro j hj
        by_cases q : k = j
        · rw [← q]; exact hvk
        · rw [xor_at, decide_eq_false q, Bool.xor_false] at hj; exact g2 j hj
      · rw [xor_at, huk, decide_eq_true rfl]; rfl
      · rw [Nat.xor_assoc, Nat.xor_self, Nat.xor_zero]; exact g3
    · rintro ⟨u, v, g1, g2, g3, g4⟩
      obtain ⟨k, h1, h2, h3, h4⟩ := fil_ex.mp g3
      refine fil_ex.mpr ⟨k, h1, ?_, h3, ih.mpr ⟨u ^^^ 2 ^ k, v, ?_, ?_, h4, g4⟩⟩
      · rw [← g1, Nat.testBit_xor, h2, g2 k h2]; rfl
      · rw [← g1, Nat.xor_assoc, Nat.xor_comm (2 ^ k) v, ← Nat.xor_assoc]
      · intro j hj
        rw [xor_at] at hj
        by_cases q : k = j
        · rw [← q, h2, decide_eq_true rfl] at hj; exact absurd hj (by decide)
        · rw [decide_eq_false q, Bool.xor_false] at hj; exact g2 j hj
theorem dj_symm {u v : Nat} (h : dj u v) : dj v u := fun k hk => by
  cases q : u.testBit k with
  | false => rfl
  | true => rw [h k q] at hk; exact absurd hk (by decide)
theorem fil_rev {n : Nat} {L : List Nat} {m : Nat} : fil n L.reverse m = true ↔ fil n L m = true := by
  induction L generalizing m with
  | nil => exact Iff.rfl
  | cons it r ih =>
    rw [List.reverse_cons, fil_app, show it :: r = [it] ++ r from rfl, fil_app]
    constructor
    · rintro ⟨u, v, g1, g2, g3, g4⟩
      exact ⟨v, u, by rw [Nat.xor_comm]; exact g1, dj_symm g2, g4, ih.mp g3⟩
    · rintro ⟨u, v, g1, g2, g3, g4⟩
      exact ⟨v, u, by rw [Nat.xor_comm]; exact g1, dj_symm g2, ih.mpr g4, g3⟩
theorem addI_map (fl : Nat → Nat) (k c : Nat) (R : List Nat) : addI fl k c R = ((List.range c).map (fun i => fl (k * 3 + i))).reverse ++ R := by
  induction c with
  | zero => rfl
  | succ c ih =>
    rw [addI, ih, List.range_succ, List.map_append, List.reverse_append]; rfl
theorem lmR_its (p : Nat → Bool) (ic fl : Nat → Nat) (n : Nat) : lmR p ic fl n = (its p ic fl n).reverse := by
  induction n with
  | zero => rfl
  | succ n ih =>
    rw [lmR, its]
    split
    · rw [addI_map, ih, List.reverse_append]
    · rw [ih, List.append_nil]
theorem lmn_ex {f : Nat → Nat} {n : Nat} (h : lmn f n < 1000000) : ∃ k, k < n ∧ f k = lmn f n := by
  induction n with
  | zero => exact absurd h (Nat.lt_irrefl 1000000)
  | succ n ih =>
    rw [lmn] at h ⊢
    split
    · exact ⟨n, by omega, rfl⟩
    · rename_i q
      rw [if_neg q] at h
      obtain ⟨k, hk, e⟩ := ih h
      exact ⟨k, by omega, e⟩
theorem lmC_ex {ol : Nat} {rsv : Nat → Nat} {L : List Nat} (h : lmC ol rsv L < 1000000) : ∃ m, m < 256 ∧ fil ol L m = true ∧ bsum m.testBit rsv ol = lmC ol rsv L := by
  obtain ⟨m, hm, e⟩ := lmn_ex h
  refine ⟨m, hm, ?_⟩
  unfold lmC at h ⊢
  rw [← e] at h ⊢
  by_cases q : fil ol L m = true
  · exact ⟨q, by rw [if_pos q]⟩
  · rw [if_neg q] at h; exact absurd h (by decide)
theorem lmC_le {ol m : Nat} {rsv : Nat → Nat} {L : List Nat} (hm : m < 256) (h : fil ol L m = true) : lmC ol rsv L ≤ bsum m.testBit rsv ol := by
  have := lmn_at (f := fun m => if fil ol L m = true then bsum m.testBit rsv ol else 1000000) hm
  unfold lmC
  rw [if_pos h] at this
  exact this
theorem lmC_rev {ol : Nat} {rsv : Nat → Nat} {L : List Nat} : lmC ol rsv L.reverse = lmC ol rsv L := by
  unfold lmC
  refine lmn_congr (fun m _ => ?_)
  by_cases q : fil ol L m = true
  · rw [if_pos q, if_pos (fil_rev.mpr q)]
  · rw [if_neg q, if_neg (fun r => q (fil_rev.mp r))]
theorem lmC_rcL {ol : Nat} {rsv : Nat → Nat} (hol : ol ≤ 8) (hr : ∀ k, rsv k ≤ 999) {L : List Nat} : lmC ol rsv L = min 1000000 (rcL ol rsv L 0) := by
  have h256 := p2_256 hol
  have hle : lmC ol rsv L ≤ 1000000 := lmn_le _ _
  have z : ∀ m, dj m 0 := fun m k _ => Nat.zero_testBit k
  by_cases q : rcL ol rsv L 0 < 1000000
  · obtain ⟨m, g1, g2, g3, g4⟩ := rcL_ex hol L 0 q
    have h1 := lmC_le (rsv := rsv) (show m < 256 by omega) g2
    obtain ⟨m2, k1, k2, k3⟩ := lmC_ex (show lmC ol rsv L < 1000000 by omega)
    have h2 := rcL_le (rs := rsv) hol L 0 m2 k1 k2 (z m2)
    omega
  · by_cases q2 : lmC ol rsv L < 1000000
    · obtain ⟨m2, k1, k2, k3⟩ := lmC_ex q2
      have h2 := rcL_le (rs := rsv) hol L 0 m2 k1 k2 (z m2)
      omega
    · omega
theorem rcL_le6 {lc : Nat} {rs : Nat → Nat} {L : List Nat} {t : Nat} : rcL lc rs L t ≤ 1000000 := by
  cases L with
  | nil => exact Nat.zero_le _
  | cons it r => exact mnl_le _ _ _ _ _
/-- the model's least cost is that of the row of items -/
theorem lmC_rcv {ol n : Nat} {rsv ic fl : Nat → Nat} {p : Nat → Bool} (hol : ol ≤ 8) (hr : ∀ k, rsv k ≤ 999) : lmC ol rsv (lmR p ic fl n) = rcv (qf (its p ic fl n)) (bsum p ic n) ol rsv (bsum p ic n) 0 := by
  rw [lmR_its, lmC_rev, lmC_rcL hol hr, ← its_len p ic fl n, rcv_rcL _ (Nat.le_refl _), Nat.sub_self, List.drop_zero]
  exact Nat.min_eq_right rcL_le6
theorem canB_cost {ol : Nat} {rsv : Nat → Nat} (hol : ol ≤ 8) (hr : ∀ k, rsv k ≤ 999) {L : List Nat} : canB ol L ↔ lmC ol rsv L < 1000000 := by
  constructor
  · intro h
    obtain ⟨m, hm, hf⟩ := canB_ex h
    have h1 := lmC_le (rsv := rsv) hm hf
    have h2 := rsm_le (m := m) hol hr
    omega
  · intro h
    obtain ⟨m, hm, hf, _⟩ := lmC_ex h
    exact canB_of hm hf
/-- for a possible set: its items are no more than the lots, and there is a way -/
theorem PS_cost {ol ob set : Nat} {bd ic fl rsv : Nat → Nat} (hol : ol ≤ 8) (hr : ∀ k, rsv k ≤ 999) (h : PS ol bd ic fl set ob) : bsum set.testBit ic ob ≤ ol ∧ rcv (qf (its set.testBit ic fl ob)) (bsum set.testBit ic ob) ol rsv (bsum set.testBit ic ob) 0 < 1000000 := by
  have h1 := h.2.2
  constructor
  · have := canB_len hol h1
    rw [lmR_its, List.length_reverse, its_len] at this
    exact this
  · rw [← lmC_rcv hol hr]
    exact (canB_cost hol hr).mp h1
