section XM3
variable {p : Program} {l : Launch} {e : Env} {R : Room} {s : State} {m : MethodId} {args : Array Value} {below : List Frame} {meth : Method} {c : Code} {H : Heap} {locs : List Loc} {cells slots : Nat} {Q : State → Prop}
variable {cc : ByteArray} {nL pc : Nat} {ls : Array Slot} {rest : List Value} {own : String} {rt : Option FieldType} {G : Gt} {A : Nat → Prop} {w : va_W}
theorem p_if_eq (hx : p.tables.exec = Jvm.exec) (hb : c.code = cc) {P : Prop} {D : Decidable P} {off : Int} {tgt : Nat} (hdg : decode cc pc = .ok (.ifCond .eq off, 3)) (ht : (pc : Int) + off = (tgt : Int)) (kt : ¬ P → W p l e R s m args below meth c H locs cells slots Q (F0 m tgt ls rest)) (kf : P → W p l e R s m args below meth c H locs cells slots Q (F0 m (pc + 3) ls rest)) : W p l e R s m args below meth c H locs cells slots Q (F0 m pc ls (.int (nI (if P then 1 else 0)) :: rest)) := by
  by_cases h : P
  · rw [if_pos h]
    exact n_if_eq hx hb rfl (by decide) hdg ht (fun q => absurd q (by decide)) (fun _ => kf h)
  · rw [if_neg h]
    exact n_if_eq hx hb rfl (by decide) hdg ht (fun _ => kt h) (fun q => absurd rfl q)
theorem p_if_ne (hx : p.tables.exec = Jvm.exec) (hb : c.code = cc) {P : Prop} {D : Decidable P} {off : Int} {tgt : Nat} (hdg : decode cc pc = .ok (.ifCond .ne off, 3)) (ht : (pc : Int) + off = (tgt : Int)) (kt : P → W p l e R s m args below meth c H locs cells slots Q (F0 m tgt ls rest)) (kf : ¬ P → W p l e R s m args below meth c H locs cells slots Q (F0 m (pc + 3) ls rest)) : W p l e R s m args below meth c H locs cells slots Q (F0 m pc ls (.int (nI (if P then 1 else 0)) :: rest)) := by
  by_cases h : P
  · rw [if_pos h]
    exact n_if_ne hx hb rfl (by decide) hdg ht (fun _ => kt h) (fun q => absurd q (by decide))
  · rw [if_neg h]
    exact n_if_ne hx hb rfl (by decide) hdg ht (fun q => absurd rfl q) (fun _ => kf h)
end XM3
def lZ (z : Int) : Int64 := Int64.ofInt z
abbrev iR (z : Int) : Prop := -2147483648 ≤ z ∧ z < 2147483648
/-- the reference: its counts, its rows of lots, bids, items and rules, and its rows to reckon in -/
def mW (G : Gt) (a : Nat → Nat) (th lo bi ru ol ob : Nat) (tk : Int) (fib gra res buy lst bst rea bid pri itm akf akg got : Nat → Nat) (pai : Nat → Int) (riv rf ro rs lat bat : Nat → Nat) (val : Nat → Int) (cos row ahe wan giv : Nat → Nat) : va_W := [(a 0, .inr (10, [.int (nI th), .int (nI lo), .int (nI bi), .int (nI ru), .int (nI ol), .int (nI ob), .long (lZ tk), .ref (a 1), .ref (a 2), .ref (a 3), .ref (a 4), .ref (a 5), .ref (a 6), .ref (a 7), .ref (a 8), .ref (a 9), .ref (a 10), .ref (a 11), .ref (a 12), .ref (a 13), .ref (a 14), .ref (a 15), .ref (a 16), .ref (a 17), .ref (a 18), .ref (a 19), .ref (a 20), .ref (a 21), .ref (a 22), .ref (a 23), .ref (a 24), .ref (a 25), .ref (a 26)])), (a 1, .inl (G.2.1 0, 40, .inl (nF fib))), (a 2, .inl (G.2.1 0, 40, .inl (nF gra))), (a 3, .inl (G.2.1 0, 40, .inl (nF res))), (a 4, .inl (G.2.1 0, 40, .inl (nF buy))), (a 5, .inl (G.2.1 1, 40, .inl (nF lst))), (a 6, .inl (G.2.1 1, 40, .inl (nF bst))), (a 7, .inl (G.2.1 1, 40, .inl (nF rea))), (a 8, .inl (G.2.1 0, 40, .inl (nF bid))), (a 9, .inl (G.2.1 0, 40, .inl (nF pri))), (a 10, .inl (G.2.1 0, 40, .inl (nF itm))), (a 11, .inl (G.2.1 0, 120, .inl (nF akf))), (a 12, .inl (G.2.1 0, 120, .inl (nF akg))), (a 13, .inl (G.2.1 0, 120, .inl (nF got))), (a 14, .inl (G.2.1 0, 40, .inl (zF pai))), (a 15, .inl (G.2.1 0, 40, .inl (nF riv))), (a 16, .inl (G.2.1 0, 6, .inl (nF rf))), (a 17, .inl (G.2.1 0, 6, .inl (nF ro))), (a 18, .inl (G.2.1 0, 6, .inl (nF rs))), (a 19, .inl (G.2.1 0, 8, .inl (nF lat))), (a 20, .inl (G.2.1 0, 8, .inl (nF bat))), (a 21, .inl (G.2.1 0, 256, .inl (zF val))), (a 22, .inl (G.2.1 0, 2304, .inl (nF cos))), (a 23, .inl (G.2.1 0, 256, .inl (nF row))), (a 24, .inl (G.2.1 0, 2304, .inl (nF ahe))), (a 25, .inl (G.2.1 0, 8, .inl (nF wan))), (a 26, .inl (G.2.1 0, 8, .inl (nF giv)))]
