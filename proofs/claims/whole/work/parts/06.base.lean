/-! ===== what a method's walk stands on: the words, what stays outside the world, the context ===== -/
def WH (args : Array Value) (s : State) : Prop := ∀ w ∈ WW, w.before args s = true
def ww (y : MethodName) (b : ByteArray) (n : Nat) (ret : Option FieldType) : List Cond := .code y b n ret :: WW
theorem ww_good {w : Cond} (h : w ∈ WW) : goodWord w = true := (List.mem_filter.mp h).2
theorem gi_cons {w : Cond} {ws : List Cond} (h : w ∈ WW) (g : GoodIn WW ws) : GoodIn WW (w :: ws) := fun x hx => (List.mem_cons.mp hx).elim (fun e => by rw [e]; exact ⟨h, good_of_word (ww_good h)⟩) (g x)
theorem gi_self : GoodIn WW WW := fun _ h => ⟨h, good_of_word (ww_good h)⟩
theorem gi_ww {y : MethodName} {b : ByteArray} {n : Nat} {ret : Option FieldType} (h : Cond.code y b n ret ∈ WW) : GoodIn WW (ww y b n ret) := gi_cons h gi_self
theorem gi_V {own C : String} {idx : Nat} {y : MethodName} {b : ByteArray} {n : Nat} {ret : Option FieldType} (h1 : Cond.methodLink own idx y ∈ WW) (h2 : Cond.instanceMethod y ∈ WW) (h3 : Cond.selects C y y ∈ WW) (h4 : Cond.initialized C ∈ WW) (h5 : Cond.code y b n ret ∈ WW) : GoodIn WW (wsV own idx C y (ww y b n ret)) := gi_cons h1 (gi_cons h2 (gi_cons h3 (gi_cons h4 (gi_ww h5))))
theorem gi_S {own : String} {idx : Nat} {y : MethodName} {b : ByteArray} {n : Nat} {ret : Option FieldType} (h1 : Cond.methodLink own idx y ∈ WW) (h2 : Cond.static y ∈ WW) (h4 : Cond.initialized y.cls ∈ WW) (h5 : Cond.code y b n ret ∈ WW) : GoodIn WW (va_wsS own idx y (ww y b n ret)) := gi_cons h1 (gi_cons h2 (gi_cons h4 (gi_ww h5)))
abbrev Gt : Type := va_G × (Nat → ClassId) × (Nat → Nat)
abbrev TY (G : Gt) : List (ClassId × FieldType) := [(G.2.1 0, .int), (G.2.1 1, .char), (G.2.1 2, .boolean), (G.2.1 3, .object "java/lang/Object"), (G.2.1 4, .long), (G.2.1 5, .double)]
def NH (U : State) : Prop := ∀ w ∈ NN, va_Nw w U
theorem NH.warm {s U : State} (hW : s.WarmedH U.vm) (h : NH s) : NH U := by
  intro w hw
  have h1 := h w hw
  have h2 : isN w = true := (List.mem_filter.mp hw).2
  cases w with
  | fieldLinkNest a b c d f => exact va_Nw.warmF hW h1
  | methodLinkNest a b c d => exact va_Nw.warmM hW h1
  | castable a b => exact va_Nw.warmC hW h1
  | declares a => exact va_Nw.warmD hW h1
  | _ => simp [isN] at h2
def SH (G : Gt) (U : State) : Prop := ∀ (k : Nat) (q : String × Nat × String), strs[k]? = some q → vk_R q.1 q.2.1 q.2.2 (G.2.2 (10 + k)) U
theorem SH.warm {G : Gt} {s U : State} (hW : s.WarmedH U.vm) (h : SH G s) : SH G U := fun k q hq => vk_R.warm hW (h k q hq)
/-- the exceptions that are thrown here, none of them another -/
def exs : List String := ["java/lang/IllegalArgumentException", "java/lang/IllegalStateException", "java/util/NoSuchElementException", "java/lang/IndexOutOfBoundsException", "java/lang/UnsupportedOperationException", "java/lang/ArithmeticException"]
def NCs (U : State) : Prop := ∀ E ∈ exs, ∀ F ∈ exs, E ≠ F → va_Nc E F U
theorem NCs.moved {u U : State} (hvm : u.vm.Alike U.vm) (h : NCs u) : NCs U := fun E hE F hF n => (h E hE F hF n).moved hvm
/-- what lies outside every world: the nest's words, the texts, ArrayList's empty row, what Throwable reads -/
def Env0 (G : Gt) (A : Nat → Prop) (U : State) (H : Heap) : Prop :=
  NH U ∧ SH G U ∧ va_Z "java/util/ArrayList" "DEFAULTCAPACITY_EMPTY_ELEMENTDATA" "[Ljava/lang/Object;" (.ref (G.2.2 0)) A U H ∧ va_T (.object "java/lang/Object") (G.2.2 0) 0 (fun _ => .null) A U H ∧ vx_Zq Bundle.tN "UNASSIGNED_STACK" Bundle.steD A U H ∧ vx_Zq Bundle.tN "SUPPRESSED_SENTINEL" Bundle.listD A U H ∧ va_Mi "[Ljava/lang/Object;" (G.2.2 1) U ∧ va_AO "java/lang/Object" U ∧ NCs U
theorem Env0.call {G : Gt} {A B : Nat → Prop} {s U : State} {H : Heap} {locs : List Loc} (hW : s.WarmedH U.vm) (hE : Env0 G A s s.heap) (hS : va_S A s.heap H locs) (hB : ∀ q, B q → A q) : Env0 G B U H := by
  obtain ⟨h1, h2, h3, h4, h5, h6, h7, h8, h9⟩ := hE
  have hk : ∀ a : Nat, a < s.heap.size → ¬ A a → H[a]? = s.heap[a]? := hS.2.1
  exact ⟨h1.warm hW, h2.warm hW, ((h3.moved hW.alike).kept hk).narrow hB, ((h4.moved hW.alike).kept hk).narrow hB, ((h5.moved hW.alike).kept hk).narrow hB, ((h6.moved hW.alike).kept hk).narrow hB, h7.moved hW.alike, h8.moved hW.alike, h9.moved hW.alike⟩
def Cx (p : Program) (s : State) (m : MethodId) (args : Array Value) (meth : Method) (c : Code) (cc : ByteArray) (nL : Nat) (own : String) (rt : Option FieldType) (G : Gt) (A : Nat → Prop) : Prop :=
  p.tables.exec = Jvm.exec ∧ c.code = cc ∧ c.maxLocals = nL ∧ s.vm.findClass own = some m.cls ∧ WH args s ∧ va_K G.1 vwCl (TY G) s ∧ Env0 G A s s.heap ∧ (∀ q, s.heap.size ≤ q → A q) ∧ meth.locks = false ∧ meth.sig.returnType = rt ∧ (∃ n, meth.name = n)
/-- the world at a heap -/
def Wd (G : Gt) (A : Nat → Prop) (s : State) (w : va_W) (H : Heap) (locs : List Loc) : Prop := va_P G.1 vwCl w H ∧ va_D A w ∧ va_S A s.heap H locs
def Pre0 (G : Gt) (av : List Value) (w : va_W) (sz : Nat) : Array Value → State → Prop := va_Pc av (fun U => U.heap.size = sz ∧ va_P G.1 vwCl w U.heap ∧ va_K G.1 vwCl (TY G) U ∧ va_D (fun _ => True) w ∧ Env0 G (va_A w sz) U U.heap)
abbrev B0 (G : Gt) (A : Nat → Prop) : va_W → State → Prop := fun w t => va_P G.1 vwCl w t.heap ∧ va_D A w
theorem nh_calling {U : State} {g : JFrame} {mk : MethodId} {a : Array Value} (h : NH U) : NH (U.calling g mk a) := fun w hw => by
  have h2 : isN w = true := (List.mem_filter.mp hw).2
  have ht : w.onTables = true := by
    cases w <;> first | rfl | (simp [isN] at h2; done)
  exact va_Nw.same (u := U) ht rfl (h w hw)
theorem env_calling {G : Gt} {A : Nat → Prop} {U : State} {H : Heap} {g : JFrame} {mk : MethodId} {a : Array Value} (h : Env0 G A U H) : Env0 G A (U.calling g mk a) H := by
  obtain ⟨h1, h2, h3, h4, h5, h6, h7, h8, h9⟩ := h
  have hv : U.vm.Alike (U.calling g mk a).vm := Vm.Alike.refl U.vm
  exact ⟨nh_calling h1, fun k q hq => vk_R.same (u := U) rfl (h2 k q hq), h3.moved hv, h4.moved hv, h5.moved hv, h6.moved hv, h7.moved hv, h8.moved hv, h9.moved hv⟩
theorem pre0_blind {G : Gt} {av : List Value} {w : va_W} {sz : Nat} : FrameBlind (Pre0 G av w sz) := fun a U g mk q => by
  obtain ⟨q0, q1, q2, q3, q4, q5⟩ := q
  exact ⟨q0, q1, q2, va_K.moved (u := U) (U := U.calling g mk a) (Vm.Alike.refl U.vm) q3, q4, env_calling q5⟩
abbrev Qi (G : Gt) (A : Nat → Prop) (post : Int32 → va_W → Prop) := va_Qi post (B0 G A) A
abbrev Ql (G : Gt) (A : Nat → Prop) (post : Int64 → va_W → Prop) := va_Ql post (B0 G A) A
abbrev Qv (G : Gt) (A : Nat → Prop) (post : va_W → Prop) := va_Qv post (B0 G A) A
abbrev Qr (G : Gt) (A : Nat → Prop) (post : Nat → va_W → Prop) := va_Qr (S := Nat × va_W) (fun u => post u.1 u.2) (fun u a t => u.1 = a ∧ B0 G A u.2 t) A
/-- contracts that return: an int, a long, nothing, a cell -/
def Ci (l : Launch) (G : Gt) (y : MethodName) (ws : List Cond) (rm : Room) (av : List Value) (w : va_W) (post : Int32 → va_W → Prop) : Prop := ∀ sz, Met l y ws rm (Pre0 G av w sz) (Qi G (va_A w sz) post) rm.cells rm.slots (va_A w sz)
def Cl (l : Launch) (G : Gt) (y : MethodName) (ws : List Cond) (rm : Room) (av : List Value) (w : va_W) (post : Int64 → va_W → Prop) : Prop := ∀ sz, Met l y ws rm (Pre0 G av w sz) (Ql G (va_A w sz) post) rm.cells rm.slots (va_A w sz)
def Cv (l : Launch) (G : Gt) (y : MethodName) (ws : List Cond) (rm : Room) (av : List Value) (w : va_W) (post : va_W → Prop) : Prop := ∀ sz, Met l y ws rm (Pre0 G av w sz) (Qv G (va_A w sz) post) rm.cells rm.slots (va_A w sz)
def Cr (l : Launch) (G : Gt) (y : MethodName) (ws : List Cond) (rm : Room) (av : List Value) (w : va_W) (post : Nat → va_W → Prop) : Prop := ∀ sz, Met l y ws rm (Pre0 G av w sz) (Qr G (va_A w sz) post) rm.cells rm.slots (va_A w sz)
theorem cx_of {p : Program} {l : Launch} {y : MethodName} {b : ByteArray} {n : Nat} {ret : Option FieldType} {rm : Room} {e : Env} {s s₁ : State} {m : MethodId} {args : Array Value} {below : List Frame} {meth : Method} {c : Code} {G : Gt} {av : List Value} {w : va_W} {sz : Nat} (B : BodyLoose p l y (headSpec (ww y b n ret) rm) b n ret e s m args below meth c s₁) (hml : c.maxLocals = n) (hv : Pre0 G av w sz args s) :
    args = av.toArray ∧ Cx p s m args meth c b n y.cls ret G (va_A w sz) ∧ Wd G (va_A w sz) s w s.heap [] := by
  obtain ⟨ha, hsz, hP, hK, hD, hE⟩ := hv
  have hts := atoms_spec (ws := ww y b n ret) B.pre
  subst hsz
  exact ⟨ha, ⟨B.exec, B.bytes, hml, findClass_of_methodNamed B.named, fun w h => hts w (List.mem_cons_of_mem _ h), hK, hE, fun q h => Or.inr h, B.notSynchronized, B.returns, ⟨_, rfl⟩⟩, hP, hD.self, va_S.rf⟩
section XINTRO
variable {l : Launch} {G : Gt} {y : MethodName} {cc : ByteArray} {nL : Nat} {ret : Option FieldType} {rm : Room} {av : List Value} {w : va_W}
theorem Ci.intro {post : Int32 → va_W → Prop} (hy : plainName y.cls = true) (hn : (lg_sl av).length ≤ nL)
    (body : ∀ (p : Program) (e : Env) (s : State) (m : MethodId) (args : Array Value) (below : List Frame) (meth : Method) (c : Code) (A : Nat → Prop), Cx p s m args meth c cc nL y.cls ret G A → Wd G A s w s.heap [] → ∀ ls : Array Slot, lv_has ls nL (lv_args 0 av) → W p l e rm s m args below meth c s.heap [] 0 0 (MQ below (Qi G A post) args s rm.cells rm.slots A) (F0 m 0 ls [])) : Ci l G y (ww y cc nL ret) rm av w post := by
  intro sz
  refine Met.ofW (cc := cc) (maxL := nL) (ret := ret) hy rfl ?_
  intro p e s m args below meth c s₁ B hml hv
  obtain ⟨ha, X, hW⟩ := cx_of B hml hv
  subst ha
  rw [lg_entry_eq]
  exact body p e s m _ below meth c _ X hW _ (lv_entry av hn)
theorem Cl.intro {post : Int64 → va_W → Prop} (hy : plainName y.cls = true) (hn : (lg_sl av).length ≤ nL)
    (body : ∀ (p : Program) (e : Env) (s : State) (m : MethodId) (args : Array Value) (below : List Frame) (meth : Method) (c : Code) (A : Nat → Prop), Cx p s m args meth c cc nL y.cls ret G A → Wd G A s w s.heap [] → ∀ ls : Array Slot, lv_has ls nL (lv_args 0 av) → W p l e rm s m args below meth c s.heap [] 0 0 (MQ below (Ql G A post) args s rm.cells rm.slots A) (F0 m 0 ls [])) : Cl l G y (ww y cc nL ret) rm av w post := by
  intro sz
  refine Met.ofW (cc := cc) (maxL := nL) (ret := ret) hy rfl ?_
  intro p e s m args below meth c s₁ B hml hv
  obtain ⟨ha, X, hW⟩ := cx_of B hml hv
  subst ha
  rw [lg_entry_eq]
  exact body p e s m _ below meth c _ X hW _ (lv_entry av hn)
theorem Cv.intro {post : va_W → Prop} (hy : plainName y.cls = true) (hn : (lg_sl av).length ≤ nL)
    (body : ∀ (p : Program) (e : Env) (s : State) (m : MethodId) (args : Array Value) (below : List Frame) (meth : Method) (c : Code) (A : Nat → Prop), Cx p s m args meth c cc nL y.cls ret G A → Wd G A s w s.heap [] → ∀ ls : Array Slot, lv_has ls nL (lv_args 0 av) → W p l e rm s m args below meth c s.heap [] 0 0 (MQ below (Qv G A post) args s rm.cells rm.slots A) (F0 m 0 ls [])) : Cv l G y (ww y cc nL ret) rm av w post := by
  intro sz
  refine Met.ofW (cc := cc) (maxL := nL) (ret := ret) hy rfl ?_
  intro p e s m args below meth c s₁ B hml hv
  obtain ⟨ha, X, hW⟩ := cx_of B hml hv
  subst ha
  rw [lg_entry_eq]
  exact body p e s m _ below meth c _ X hW _ (lv_entry av hn)
theorem Cr.intro {post : Nat → va_W → Prop} (hy : plainName y.cls = true) (hn : (lg_sl av).length ≤ nL)
    (body : ∀ (p : Program) (e : Env) (s : State) (m : MethodId) (args : Array Value) (below : List Frame) (meth : Method) (c : Code) (A : Nat → Prop), Cx p s m args meth c cc nL y.cls ret G A → Wd G A s w s.heap [] → ∀ ls : Array Slot, lv_has ls nL (lv_args 0 av) → W p l e rm s m args below meth c s.heap [] 0 0 (MQ below (Qr G A post) args s rm.cells rm.slots A) (F0 m 0 ls [])) : Cr l G y (ww y cc nL ret) rm av w post := by
  intro sz
  refine Met.ofW (cc := cc) (maxL := nL) (ret := ret) hy rfl ?_
  intro p e s m args below meth c s₁ B hml hv
  obtain ⟨ha, X, hW⟩ := cx_of B hml hv
  subst ha
  rw [lg_entry_eq]
  exact body p e s m _ below meth c _ X hW _ (lv_entry av hn)
end XINTRO
