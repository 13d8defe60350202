/-! THE CLAIM OUT OF ONE WALK OF THE LAW'S BODY. Your part is whole_start (and what it stands on); all else here is the same for every law, but numbers. -/
def R_law : String := "SkeinMarketLaw"
def lw_P (b : Addr) (xs : List Int32) (args : Array Value) (s : State) : Prop := args = #[.ref b] ∧ s.IntsAt b xs ∧ xs.length ≤ 2048 ∧ (Jvm.Cond.and given_1 narrow_1).before args s = true
/-- what a walk over the start with the record d0 says of its end, said of the start itself -/
theorem lw_closed {s t : State} {o : Outcome} {d0 : Drawn} {L : List Loc} {k n : Nat} (hd0 : s.drawn.sameBut d0 lw_cs) (hv : ∃ v, o = .returned v) (hW : (s.setDrawn d0).WarmedH t.vm) (hs : (s.setDrawn d0).sameButNew ({ t with vm := s.vm } : State) L k n) : State.butDraws s t lw_cs (fun t1 => Framed s o t1 L k n) := by
  have h2 : t.drawn = d0 := congrArg State.drawn hs.1
  refine ⟨⟨hv, hW, State.sameButNew.setDrawn hs s.drawn⟩, ?_, by decide⟩
  rw [h2]
  exact hd0
def lw_Q (_ : Array Value) (s : State) (o : Outcome) (t : State) : Prop := o = .returned (some (.int 1)) ∧ State.butDraws s t lw_cs (fun t1 => Framed s o t1 [] 603072 7215210)
def lw_Z (below : List Frame) (a : Array Value) (s : State) : State → Prop := fun t => ∃ o, t.status = .running ∧ Ended t below o ∧ lw_Q a s o t
/-- the law's own end, with 1 on the stack, nothing written that was there before, its room as the claim has it; d0: the record of draws at this point (at the entry s.drawn: begin with 'refine W.base ?_' and 'have hd0 := Drawn.sameBut.refl s.drawn lw_cs') -/
theorem lw_ret {p : Program} {l : Launch} {e : Env} {s : State} {m : MethodId} {below : List Frame} {meth : Method} {c : Code} {b : Nat} {d0 : Drawn} (hd0 : s.drawn.sameBut d0 lw_cs) (hx : p.tables.exec = Jvm.exec) (hb : c.code = code) (hr : meth.sig.returnType = ret) (hlocks : meth.locks = false) {pc : Nat} {H : Heap} {ls : Array Slot} (hdg : decode code pc = .ok (.ireturn, 1)) : W p l e room_1 (s.setDrawn d0) m #[Value.ref b] below meth c H [] 603072 7215210 (lw_Z below #[Value.ref b] s) (F0 m pc ls [.int 1]) := by
  intro T hT X
  obtain ⟨fs, hret, hrun, hended, hW, hframe⟩ := X.leave (v := some (.int 1)) (hlocks := hlocks) (fun h => by rw [hr] at h; cases h)
  have hmeth' : T.vm.method? m = some meth := X.method'
  refine ⟨T.setFrames fs, ?_, .returned (some (.int 1)), hrun, hended, rfl, lw_closed hd0 ⟨_, rfl⟩ hW hframe⟩
  jvm_step X.here [X.here.top, hx, hb, hdg, hmeth', hr, ret, narrow_b1]
  (try refine ⟨rfl, ?_⟩); (try refine ⟨rfl, ?_⟩)
  first | (intro acts; rw [hret _ acts rfl rfl rfl]) | rw [hret _ _ rfl rfl rfl]
  exact Steps.refl _
/-- what holds at the law's entry: the machine, the code, the tables' words (any of lw_tbl by 'hts w (by decide +kernel)'), the script of L ints xs at the cell b, what the Statement gives of the start (any of its parts by flat_of_before) -/
def lw_At (p : Program) (s : State) (m : MethodId) (meth : Method) (c : Code) (b L : Nat) (xs : Nat → Int32) : Prop :=
  p.tables.exec = Jvm.exec ∧ c.code = code ∧ meth.sig.returnType = ret ∧ c.maxLocals = 9 ∧ s.vm.findClass R_law = some m.cls ∧ (∀ w ∈ lw_tbl, w.before #[Value.ref b] s = true) ∧ va_X b L xs s s.heap ∧ b < s.heap.size ∧ meth.locks = false ∧ (Jvm.Cond.and given_1 narrow_1).before #[Value.ref b] s = true
theorem st_cls {s : State} {args : Array Value} (hts : ∀ w ∈ lw_tbl, w.before args s = true) : ∀ k : Nat, ∃ d : ClassId × (Nat → Nat), ∀ q, vwCl[k]? = some q → u_Kn s q.1 q.2.1 q.2.2 d.1 d.2 := fun k => match k with
  | 0 => by
    obtain ⟨c, i, h⟩ := u_known (ws := lw_tbl) (C := RJ0) (T := TJ0) (N := 2) (n := 4) hts (by decide +kernel) (hts _ (List.mem_filter.mp wq_891).1)
    exact ⟨(c, i), fun q hq => by cases hq; exact h⟩
  | 1 => by
    obtain ⟨c, i, h⟩ := u_known (ws := lw_tbl) (C := RJx00060) (T := TJx00060) (N := 6) (n := 6) hts (by decide +kernel) (hts _ (List.mem_filter.mp wq_873).1)
    exact ⟨(c, i), fun q hq => by cases hq; exact h⟩
  | 2 => by
    obtain ⟨c, i, h⟩ := u_known (ws := lw_tbl) (C := RJx4a65c) (T := TJx4a65c) (N := 3) (n := 3) hts (fun w h => (List.mem_filter.mp (iwJx4a65c w h)).1) (hts _ (List.mem_filter.mp wq_99).1)
    exact ⟨(c, i), fun q hq => by cases hq; exact h⟩
  | 3 => by
    obtain ⟨c, i, h⟩ := u_known (ws := lw_tbl) (C := RX0) (T := TX0) (N := 7) (n := 7) hts (fun w h => (List.mem_filter.mp (iwX0 w h)).1) (hts _ (List.mem_filter.mp wq_685).1)
    exact ⟨(c, i), fun q hq => by cases hq; exact h⟩
  | 4 => by
    obtain ⟨c, i, h⟩ := u_known (ws := lw_tbl) (C := RX1) (T := TX1) (N := 14) (n := 14) hts (fun w h => (List.mem_filter.mp (iwX1 w h)).1) (hts _ (List.mem_filter.mp wq_125).1)
    exact ⟨(c, i), fun q hq => by cases hq; exact h⟩
  | 5 => by
    obtain ⟨c, i, h⟩ := u_known (ws := lw_tbl) (C := RX2) (T := TX2) (N := 3) (n := 3) hts (fun w h => (List.mem_filter.mp (iwX2 w h)).1) (hts _ (List.mem_filter.mp wq_738).1)
    exact ⟨(c, i), fun q hq => by cases hq; exact h⟩
  | 6 => by
    obtain ⟨c, i, h⟩ := u_known (ws := lw_tbl) (C := RX3) (T := TX3) (N := 5) (n := 5) hts (fun w h => (List.mem_filter.mp (iwX3 w h)).1) (hts _ (List.mem_filter.mp wq_509).1)
    exact ⟨(c, i), fun q hq => by cases hq; exact h⟩
  | 7 => by
    obtain ⟨c, i, h⟩ := u_known (ws := lw_tbl) (C := RX4) (T := TX4) (N := 3) (n := 3) hts (fun w h => (List.mem_filter.mp (iwX4 w h)).1) (hts _ (List.mem_filter.mp wq_634).1)
    exact ⟨(c, i), fun q hq => by cases hq; exact h⟩
  | 8 => by
    obtain ⟨c, i, h⟩ := u_known (ws := lw_tbl) (C := RX5) (T := TX5) (N := 5) (n := 5) hts (fun w h => (List.mem_filter.mp (iwX5 w h)).1) (hts _ (List.mem_filter.mp wq_186).1)
    exact ⟨(c, i), fun q hq => by cases hq; exact h⟩
  | 9 => by
    obtain ⟨c, i, h⟩ := u_known (ws := lw_tbl) (C := RX6) (T := TX6) (N := 10) (n := 10) hts (fun w h => (List.mem_filter.mp (iwX6 w h)).1) (hts _ (List.mem_filter.mp wq_91).1)
    exact ⟨(c, i), fun q hq => by cases hq; exact h⟩
  | 10 => by
    obtain ⟨c, i, h⟩ := u_known (ws := lw_tbl) (C := RX7) (T := TX7) (N := 33) (n := 33) hts (fun w h => (List.mem_filter.mp (iwX7 w h)).1) (hts _ (List.mem_filter.mp wq_1075).1)
    exact ⟨(c, i), fun q hq => by cases hq; exact h⟩
  | n + 11 => ⟨(0, fun _ => 0), fun q hq => by simp [vwCl] at hq⟩
theorem st_prim {s : State} {args : Array Value} {ty : FieldType} (hn : ∀ C, ty ≠ .object C) (h : (Cond.arrayClass ty).before args s = true) : ∃ cA, ArrOfT s cA ty ∧ s.vm.findClass ("[" ++ ty.toString) = some cA := by
  obtain ⟨cA, kA, comp, h1, h2, h3⟩ := Cond.arrayClass_spec h
  exact ⟨cA, fun n z => ⟨fun k h => (by cases h), kA, h2, comp, h3⟩, h1⟩
theorem st_obj {s : State} (h : va_AO "java/lang/Object" s) : ∃ cA, ArrOfT s cA (.object "java/lang/Object") ∧ va_RA s cA (.object "java/lang/Object") := by
  obtain ⟨comp, c, k, h1, h2, h3, h4, h5⟩ := Cond.arrayOver_spec h
  exact ⟨c, fun n z => ⟨fun _ h => (by cases h), k, h3, comp, h4⟩, k, comp, h3, h4, h1, h5⟩
theorem st_str {s : State} {args : Array Value} (hts : ∀ w ∈ lw_tbl, w.before args s = true) : ∀ k : Nat, ∃ a : Nat, ∀ q : String × Nat × String, strs[k]? = some q → vk_R q.1 q.2.1 q.2.2 a s := by
  intro k
  cases hk : strs[k]? with
  | none => exact ⟨0, fun q hq => by cases hq⟩
  | some q =>
    have hall : ∀ q ∈ strs, Cond.stringRef q.1 q.2.1 q.2.2 ∈ lw_tbl ∧ q.1 = RX6 := by decide +kernel
    obtain ⟨hm, hown⟩ := hall q (List.mem_of_getElem? hk)
    have hSR := hts _ hm
    obtain ⟨d, hd⟩ := st_cls hts 9
    obtain ⟨c9, k9, f1, -⟩ := Cond.instantiable_spec (hts _ (List.mem_filter.mp wq_91).1)
    obtain ⟨kx, cf, i, a, -, -, -, -, -, hev⟩ := Cond.stringRef_spec (cls := q.1) (by rw [hown]; exact f1) hSR
    exact ⟨a, fun q2 hq2 => by cases hq2; exact vk_R.of hSR hev⟩
theorem st_nc : ∀ E ∈ exs, ∀ F ∈ exs, E ≠ F → Cond.not (.castable E F) ∈ flatC (Jvm.Cond.and given_1 narrow_1) := by decide +kernel
set_option maxRecDepth 100000 in
set_option maxHeartbeats 4000000 in
theorem st_cx {p : Program} {s : State} {m : MethodId} {meth : Method} {c : Code} {b L : Nat} {xs : Nat → Int32} (C0 : lw_At p s m meth c b L xs) : ∃ G : Gt, Cx p s m #[.ref b] meth c cL_law 9 RL ret G (fun q => s.heap.size ≤ q) := by
  obtain ⟨hx, hb, hr, hml, hown, hts, hX, hbl, hlocks, hgv⟩ := C0
  have hs := flat_of_before _ hgv
  have hA0 : ∀ a : Nat, a < s.heap.size → ¬ (fun q : Nat => s.heap.size ≤ q) a := fun a h q => absurd h (Nat.not_lt.mpr q)
  obtain ⟨dC, hdC⟩ := Classical.axiomOfChoice (st_cls hts)
  obtain ⟨ad, had⟩ := Classical.axiomOfChoice (st_str hts)
  obtain ⟨cI, hI1, hI2⟩ := st_prim (ty := .int) (fun _ h => by cases h) (hts _ (List.mem_filter.mp wq_184).1)
  obtain ⟨cC, hC1, hC2⟩ := st_prim (ty := .char) (fun _ h => by cases h) (hts _ (List.mem_filter.mp wq_1180).1)
  obtain ⟨cZ, hZ1, hZ2⟩ := st_prim (ty := .boolean) (fun _ h => by cases h) (hts _ (List.mem_filter.mp wq_209).1)
  obtain ⟨cJ, hJ1, hJ2⟩ := st_prim (ty := .long) (fun _ h => by cases h) (hts _ (List.mem_filter.mp wq_1418).1)
  obtain ⟨cD, hD1, hD2⟩ := st_prim (ty := .double) (fun _ h => by cases h) (hts _ (List.mem_filter.mp wq_1419).1)
  have hAO : va_AO "java/lang/Object" s := va_AO.of (hts _ (List.mem_of_getElem? (i := 588) (by decide +kernel)))
  obtain ⟨cO, hO1, hO2⟩ := st_obj hAO
  obtain ⟨mi, hmi⟩ := va_Mi.of (C := "[Ljava/lang/Object;") (hs _ (by decide +kernel))
  have hlen := Cond.eq_int (a := Term.length (Term.static "java/util/ArrayList" "DEFAULTCAPACITY_EMPTY_ELEMENTDATA" "[Ljava/lang/Object;")) (b := Term.int 0) (n := 0) (hs _ (by decide +kernel)) rfl
  obtain ⟨t0, ht0, hT0⟩ := va_Tof (tm := (Term.static "java/util/ArrayList" "DEFAULTCAPACITY_EMPTY_ELEMENTDATA" "[Ljava/lang/Object;")) (ty := .object "java/lang/Object") (N := 0) (f := fun _ => .null) (A := fun q => s.heap.size ≤ q) (by decide) (hs _ (by decide +kernel)) hlen (fun j hj => absurd hj (Nat.not_lt_zero j)) hA0
  have hZ0 := va_Zref (A := fun q => s.heap.size ≤ q) (hts _ (List.mem_of_getElem? (i := 111) (by decide +kernel))) (hts _ (List.mem_filter.mp wq_64).1) ht0 hA0
  have hU := vx_Zqof (C := Bundle.tN) (n := "UNASSIGNED_STACK") (d := Bundle.steD) (A := fun q => s.heap.size ≤ q) (hts _ (List.mem_of_getElem? (i := 448) (by decide +kernel))) (hts _ (List.mem_filter.mp wq_68).1) (hs _ (by decide +kernel)) hA0
  have hN := vx_Zqof (C := Bundle.tN) (n := "SUPPRESSED_SENTINEL") (d := Bundle.listD) (A := fun q => s.heap.size ≤ q) (hts _ (List.mem_of_getElem? (i := 450) (by decide +kernel))) (hts _ (List.mem_filter.mp wq_68).1) (hs _ (by decide +kernel)) hA0
  refine ⟨((fun k => (dC k).1, fun k => (dC k).2), (fun n => match n with | 0 => cI | 1 => cC | 2 => cZ | 3 => cO | 4 => cJ | _ => cD), fun n => if n = 0 then t0 else if n = 1 then mi else ad (n - 10)), hx, hb, hml, hown, fun w hw => hts w (List.mem_filter.mp hw).1, ⟨fun k q hq => hdC k q hq, fun k q hq => ?_⟩, ⟨?_, ?_, hZ0, hT0, hU, hN, hmi, hAO, fun E hE F hF n => va_Nc.of (hs _ (st_nc E hE F hF n))⟩, fun q h => h, hlocks, hr, ⟨_, rfl⟩⟩
  · match k, hq with
    | 0, hq => cases hq; exact ⟨hI1, hI2⟩
    | 1, hq => cases hq; exact ⟨hC1, hC2⟩
    | 2, hq => cases hq; exact ⟨hZ1, hZ2⟩
    | 3, hq => cases hq; exact ⟨hO1, hO2⟩
    | 4, hq => cases hq; exact ⟨hJ1, hJ2⟩
    | 5, hq => cases hq; exact ⟨hD1, hD2⟩
    | k + 6, hq => simp at hq
  · intro w hw
    have h1 := hts w (List.mem_filter.mp hw).1
    have h2 : isN w = true := (List.mem_filter.mp hw).2
    have ht : w.onTables = true := by
      cases w <;> first | rfl | (simp [isN] at h2; done)
    exact va_tabs ht rfl h1
  · intro k q hq
    have e : (if 10 + k = 0 then t0 else if 10 + k = 1 then mi else ad (10 + k - 10)) = ad k := by
      rw [if_neg (by omega), if_neg (by omega), Nat.add_sub_cancel_left]
    show vk_R _ _ _ (if 10 + k = 0 then t0 else if 10 + k = 1 then mi else ad (10 + k - 10)) s
    rw [e]
    exact had k q hq
section XNL
variable {p : Program} {l : Launch} {e : Env} {R : Room} {s : State} {m : MethodId} {args : Array Value} {below : List Frame} {meth : Method} {c : Code} {H : Heap} {locs : List Loc} {cells slots : Nat} {Q : State → Prop}
variable {cc : ByteArray} {nL pc : Nat} {ls : Array Slot} {rest : List Value} {own : String} {rt : Option FieldType} {G : Gt} {A : Nat → Prop} {w : va_W}
theorem x_newL (X : Cx p s m args meth c cc nL own rt G A) (hW : Wd G A s w H locs) (hcells : cells + 1 ≤ R.cells) (hslots : slots + 1 ≤ R.slots) (hdg : decode cc pc = .ok (.newarray .long, 2))
    (kk : ∀ (q : Nat) (H1 : Heap), Wd G A s (w ++ [outL G q (fun _ => 0)]) H1 locs → W p l e R s m args below meth c H1 locs (cells + 1) (slots + 1) Q (F0 m (pc + 2) ls (.ref q :: rest))) : W p l e R s m args below meth c H locs cells slots Q (F0 m pc ls (.int (nI 1) :: rest)) := by
  refine va_newa X.exec X.bytes (X.ws _ wq_1418) rfl X.K hW.1 hW.2.1 hW.2.2 X.A (atype := .long) (a0 := (1, .inr (.inl (fun _ => 0)))) (fun _ => rfl) (nI_pos (by omega)) (nI_clamp (by omega)) (by decide) hcells hslots hdg (fun q cA H1 hK hP hD hS => ?_)
  have e : cA = G.2.1 4 := Option.some.inj ((va_nm_long (hK.2 6 (cA, .long) rfl).2).symm.trans (va_nm_long (X.K.2 4 (G.2.1 4, .long) rfl).2))
  subst e
  exact kk q H1 ⟨hP, hD, hS⟩
theorem x_newD (X : Cx p s m args meth c cc nL own rt G A) (hW : Wd G A s w H locs) (hcells : cells + 1 ≤ R.cells) (hslots : slots + 1 ≤ R.slots) (hdg : decode cc pc = .ok (.newarray .double, 2))
    (kk : ∀ (q : Nat) (H1 : Heap), Wd G A s (w ++ [outD G q (fun _ => 0)]) H1 locs → W p l e R s m args below meth c H1 locs (cells + 1) (slots + 1) Q (F0 m (pc + 2) ls (.ref q :: rest))) : W p l e R s m args below meth c H locs cells slots Q (F0 m pc ls (.int (nI 1) :: rest)) := by
  refine va_newa X.exec X.bytes (X.ws _ wq_1419) rfl X.K hW.1 hW.2.1 hW.2.2 X.A (atype := .double) (a0 := (1, .inr (.inr (.inr (.inl (fun _ => 0)))))) (fun _ => rfl) (nI_pos (by omega)) (nI_clamp (by omega)) (by decide) hcells hslots hdg (fun q cA H1 hK hP hD hS => ?_)
  have e : cA = G.2.1 5 := Option.some.inj ((va_nm_double (hK.2 6 (cA, .double) rfl).2).symm.trans (va_nm_double (X.K.2 5 (G.2.1 5, .double) rfl).2))
  subst e
  exact kk q H1 ⟨hP, hD, hS⟩
end XNL
