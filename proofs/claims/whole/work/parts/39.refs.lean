theorem va_D_iff {A : Nat → Prop} {w : va_W} : va_D A w ↔ (w.map Prod.fst).Nodup ∧ ∀ q ∈ w, A q.1 := by
  constructor
  · rintro ⟨h1, h2⟩
    refine ⟨?_, fun q hq => ?_⟩
    · refine List.pairwise_iff_getElem.mpr (fun i j hi hj hij e => ?_)
      rw [List.length_map] at hi hj
      rw [List.getElem_map, List.getElem_map] at e
      have := h1 i j _ _ (List.getElem?_eq_getElem hi) (List.getElem?_eq_getElem hj) e
      omega
    · obtain ⟨k, hk⟩ := List.mem_iff_getElem?.mp hq
      exact h2 k q hk
  · rintro ⟨h1, h2⟩
    refine ⟨fun i j x y hi hj e => ?_, fun k q hk => h2 q (List.mem_of_getElem? hk)⟩
    have h3 := List.pairwise_iff_getElem.mp h1
    obtain ⟨li, ei⟩ := List.getElem?_eq_some_iff.mp hi
    obtain ⟨lj, ej⟩ := List.getElem?_eq_some_iff.mp hj
    have key : ∀ (i j : Nat) (li : i < w.length) (lj : j < w.length), i < j → w[i].1 = w[j].1 → False := fun i j li lj q e => h3 i j (by rw [List.length_map]; exact li) (by rw [List.length_map]; exact lj) q (by rw [List.getElem_map, List.getElem_map]; exact e)
    rcases Nat.lt_trichotomy i j with q | q | q
    · exact (key i j li lj q (by rw [ei, ej]; exact e)).elim
    · exact q
    · exact (key j i lj li q (by rw [ei, ej]; exact e.symm)).elim
theorem va_P_iff {D : va_G} {cl : List vw_C} {w : va_W} {H : Heap} : va_P D cl w H ↔ ∀ q ∈ w, va_at D cl q H :=
  ⟨fun h q hq => by obtain ⟨k, hk⟩ := List.mem_iff_getElem?.mp hq; exact h k q hk, fun h k q hk => h q (List.mem_of_getElem? hk)⟩
theorem Wd.perm {G : Gt} {A : Nat → Prop} {s : State} {w w2 : va_W} {H : Heap} {locs : List Loc} (hW : Wd G A s w H locs) (h : w.Perm w2) : Wd G A s w2 H locs := by
  obtain ⟨h1, h2, h3⟩ := hW
  rw [va_D_iff] at h2
  exact ⟨va_P_iff.mpr (fun q hq => va_P_iff.mp h1 q (h.mem_iff.mpr hq)), va_D_iff.mpr ⟨(h.map Prod.fst).nodup_iff.mp h2.1, fun q hq => h2.2 q (h.mem_iff.mpr hq)⟩, h3⟩
theorem Wd.drop {G : Gt} {A : Nat → Prop} {s : State} {w w2 : va_W} {H : Heap} {locs : List Loc} (hW : Wd G A s w H locs) (h : w2.Sublist w) : Wd G A s w2 H locs := by
  obtain ⟨h1, h2, h3⟩ := hW
  rw [va_D_iff] at h2
  exact ⟨va_P_iff.mpr (fun q hq => va_P_iff.mp h1 q (h.subset hq)), va_D_iff.mpr ⟨(h.map Prod.fst).nodup h2.1, fun q hq => h2.2 q (h.subset hq)⟩, h3⟩
/-- cells of a kind in any number -/
def pool (n : Nat) (f : Nat → Nat × va_E) : va_W := (List.range n).map f
/-- .. all but one -/
def po (n i : Nat) (f : Nat → Nat × va_E) : va_W := ((List.range n).erase i).map f
theorem pool_at {n i : Nat} (f : Nat → Nat × va_E) (h : i < n) : (pool n f).Perm (f i :: po n i f) := (List.perm_cons_erase (List.mem_range.mpr h)).map f
theorem po_congr {n i : Nat} {f g : Nat → Nat × va_E} (h : ∀ j, j < n → j ≠ i → f j = g j) : po n i f = po n i g := by
  refine List.map_congr_left (fun j hj => ?_)
  rw [List.Nodup.mem_erase_iff List.nodup_range] at hj
  exact h j (List.mem_range.mp hj.2) hj.1
theorem pool_congr {n : Nat} {f g : Nat → Nat × va_E} (h : ∀ j, j < n → f j = g j) : pool n f = pool n g := List.map_congr_left (fun j hj => h j (List.mem_range.mp hj))
theorem pool_up {n i : Nat} {f g : Nat → Nat × va_E} (h : i < n) (hg : ∀ j, j < n → j ≠ i → f j = g j) : (g i :: po n i f).Perm (pool n g) := by
  rw [po_congr hg]; exact (pool_at g h).symm
theorem pool_succ (n : Nat) (f : Nat → Nat × va_E) : pool (n + 1) f = pool n f ++ [f n] := by
  unfold pool; rw [List.range_succ, List.map_append]; rfl
section XREF
variable {p : Program} {l : Launch} {e : Env} {R : Room} {s : State} {m : MethodId} {args : Array Value} {below : List Frame} {meth : Method} {c : Code} {H : Heap} {locs : List Loc} {cells slots : Nat} {Q : State → Prop}
variable {cc : ByteArray} {nL pc : Nat} {ls : Array Slot} {rest : List Value} {own : String} {rt : Option FieldType} {G : Gt} {A : Nat → Prop} {w : va_W}
/-- an array of objects -/
abbrev aR (G : Gt) (n : Nat) (f : Nat → Option Nat) : va_E := .inl (G.2.1 3, n, .inr (.inr (.inr (.inr f))))
theorem r_aald (X : Cx p s m args meth c cc nL own rt G A) (hW : Wd G A s w H locs) {a n i : Nat} {f : Nat → Option Nat} (q0 : Nat) (ha : w[q0]? = some (a, aR G n f)) (hi : i < n) (hn : n < 2 ^ 31) {r : Value} (hr : va_rf (f i) = r) (hdg : decode cc pc = .ok (.aaload, 1)) (kk : W p l e R s m args below meth c H locs cells slots Q (F0 m (pc + 1) ls (r :: rest))) : W p l e R s m args below meth c H locs cells slots Q (F0 m pc ls (.int (nI i) :: .ref a :: rest)) := by
  have e1 : (nI i).toNatClampNeg = i := nI_clamp (by omega)
  refine va_aldq X.exec X.bytes X.K hW.1 q0 3 ha rfl (i := nI i) ?_ hdg ?_
  · rintro (q | q)
    · exact nI_pos (by omega) q
    · rw [e1] at q; omega
  · rw [e1, hr]; exact kk
theorem r_alen (X : Cx p s m args meth c cc nL own rt G A) (hW : Wd G A s w H locs) {a n : Nat} {f : Nat → Option Nat} (q0 : Nat) (ha : w[q0]? = some (a, aR G n f)) (hdg : decode cc pc = .ok (.arraylength, 1)) (kk : W p l e R s m args below meth c H locs cells slots Q (F0 m (pc + 1) ls (.int (nI n) :: rest))) : W p l e R s m args below meth c H locs cells slots Q (F0 m pc ls (.ref a :: rest)) :=
  va_alen X.exec X.bytes X.K hW.1 q0 3 ha rfl rfl hdg kk
theorem r_aast (X : Cx p s m args meth c cc nL own rt G A) (hW : Wd G A s w H locs) {a n i v : Nat} {f : Nat → Option Nat} {w2 : va_W} (q0 qk ci : Nat) {r : vw_C} {vs : List Value} (ha : w[q0]? = some (a, aR G n f)) (hv : w[qk]? = some (v, .inr (ci, vs))) (hc : vwCl[ci]? = some r) (hca : Cond.castable r.1 "java/lang/Object" ∈ NN) (hw2 : w.set q0 (a, aR G n (va_up f i (some v))) = w2) (hi : i < n) (hn : n < 2 ^ 31) (hdg : decode cc pc = .ok (.aastore, 1)) (kk : ∀ (H1 : Heap) (locs1 : List Loc), Wd G A s w2 H1 locs1 → W p l e R s m args below meth c H1 locs1 cells slots Q (F0 m (pc + 1) ls rest)) : W p l e R s m args below meth c H locs cells slots Q (F0 m pc ls (.ref v :: .int (nI i) :: .ref a :: rest)) := by
  have e1 : (nI i).toNatClampNeg = i := nI_clamp (by omega)
  refine va_astqO X.exec X.bytes X.K hW.1 hW.2.1 hW.2.2 q0 3 qk ci ha rfl (X.nest hca) hv hc (i := nI i) ?_ hdg (fun H1 locs1 h1 h2 h3 => ?_)
  · rintro (q | q)
    · exact nI_pos (by omega) q
    · rw [e1] at q; omega
  · rw [e1] at h1 h2
    subst hw2
    exact kk H1 locs1 ⟨h1, h2, h3⟩
theorem r_aastN (X : Cx p s m args meth c cc nL own rt G A) (hW : Wd G A s w H locs) {a n i : Nat} {f : Nat → Option Nat} {w2 : va_W} (q0 : Nat) (ha : w[q0]? = some (a, aR G n f)) (hw2 : w.set q0 (a, aR G n (va_up f i none)) = w2) (hi : i < n) (hn : n < 2 ^ 31) (hdg : decode cc pc = .ok (.aastore, 1)) (kk : ∀ (H1 : Heap) (locs1 : List Loc), Wd G A s w2 H1 locs1 → W p l e R s m args below meth c H1 locs1 cells slots Q (F0 m (pc + 1) ls rest)) : W p l e R s m args below meth c H locs cells slots Q (F0 m pc ls (.null :: .int (nI i) :: .ref a :: rest)) := by
  have e1 : (nI i).toNatClampNeg = i := nI_clamp (by omega)
  refine va_astqN X.exec X.bytes X.K hW.1 hW.2.1 hW.2.2 q0 3 ha rfl (i := nI i) ?_ hdg (fun H1 locs1 h1 h2 h3 => ?_)
  · rintro (q | q)
    · exact nI_pos (by omega) q
    · rw [e1] at q; omega
  · rw [e1] at h1 h2
    subst hw2
    exact kk H1 locs1 ⟨h1, h2, h3⟩
end XREF
