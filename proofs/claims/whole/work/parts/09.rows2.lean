theorem andnot_all : ∀ q, q < 256 → ∀ t, t < 256 → nI q &&& (nI t ^^^ zI (-1)) = nI (q &&& (t ^^^ 255)) := by decide +kernel
/-- how many of the first eight bits are set -/
def pop (n : Nat) : Nat := (if n.testBit 0 = true then 1 else 0) + (if n.testBit 1 = true then 1 else 0) + (if n.testBit 2 = true then 1 else 0) + (if n.testBit 3 = true then 1 else 0) + (if n.testBit 4 = true then 1 else 0) + (if n.testBit 5 = true then 1 else 0) + (if n.testBit 6 = true then 1 else 0) + (if n.testBit 7 = true then 1 else 0)
theorem pop_le (n : Nat) : pop n ≤ 8 := by
  unfold pop
  repeat' split
  all_goals decide
section XM2
variable {p : Program} {l : Launch} {e : Env} {R : Room} {s : State} {m : MethodId} {args : Array Value} {below : List Frame} {meth : Method} {c : Code} {H : Heap} {locs : List Loc} {cells slots : Nat} {Q : State → Prop}
variable {cc : ByteArray} {nL pc : Nat} {ls : Array Slot} {rest : List Value} {own : String} {rt : Option FieldType} {G : Gt} {A : Nat → Prop} {w : va_W}
theorem n_andnot (hx : p.tables.exec = Jvm.exec) (hb : c.code = cc) {q t : Nat} (hq : q < 256) (ht : t < 256) (hdg : decode cc pc = .ok (.iand, 1)) (k : W p l e R s m args below meth c H locs cells slots Q (F0 m (pc + 1) ls (.int (nI (q &&& (t ^^^ 255))) :: rest))) : W p l e R s m args below meth c H locs cells slots Q (F0 m pc ls (.int (nI t ^^^ zI (-1)) :: .int (nI q) :: rest)) :=
  lv_iand hx hb hdg (by rw [andnot_all q hq t ht]; exact k)
end XM2
theorem bit_andnot {q t l : Nat} (hl : l < 8) : (q &&& (t ^^^ 255)).testBit l = (q.testBit l && !t.testBit l) := by
  have h : (255 : Nat).testBit l = true := by
    have : ∀ l, l < 8 → (255 : Nat).testBit l = true := by decide
    exact this l hl
  rw [Nat.testBit_and, Nat.testBit_xor, h, Bool.xor_true]
