theorem va_A.perm {w w2 : va_W} (h : w2.Perm w) (sz : Nat) : va_A w2 sz = va_A w sz := by
  have key : ∀ (x y : va_W), x.Perm y → ∀ q, va_A x sz q → va_A y sz q := fun x y hp q hq => by
    rcases hq with ⟨k, e, hk⟩ | hq
    · obtain ⟨j, hj⟩ := List.mem_iff_getElem?.mp (hp.mem_iff.mp (List.mem_of_getElem? hk))
      exact Or.inl ⟨j, e, hj⟩
    · exact Or.inr hq
  funext q
  exact propext ⟨key _ _ h q, key _ _ h.symm q⟩
theorem B0.perm {G : Gt} {A : Nat → Prop} {w w2 : va_W} {t : State} (h : B0 G A w t) (hp : w.Perm w2) : B0 G A w2 t := by
  obtain ⟨h1, h2⟩ := h
  rw [va_D_iff] at h2
  exact ⟨va_P_iff.mpr (fun q hq => va_P_iff.mp h1 q (hp.mem_iff.mpr hq)), va_D_iff.mpr ⟨(hp.map Prod.fst).nodup_iff.mp h2.1, fun q hq => h2.2 q (hp.mem_iff.mpr hq)⟩⟩
theorem B0.drop {G : Gt} {A : Nat → Prop} {w w2 : va_W} {t : State} (h : B0 G A w t) (hp : w2.Sublist w) : B0 G A w2 t := by
  obtain ⟨h1, h2⟩ := h
  rw [va_D_iff] at h2
  exact ⟨va_P_iff.mpr (fun q hq => va_P_iff.mp h1 q (hp.subset hq)), va_D_iff.mpr ⟨(hp.map Prod.fst).nodup h2.1, fun q hq => h2.2 q (hp.subset hq)⟩⟩
theorem Pre0.perm {G : Gt} {av : List Value} {w w2 : va_W} {sz : Nat} (hp : w2.Perm w) {a : Array Value} {U : State} (h : Pre0 G av w2 sz a U) : Pre0 G av w sz a U := by
  obtain ⟨q0, q1, q2, q3, q4, q5⟩ := h
  obtain ⟨r1, r2⟩ := B0.perm (A := fun _ => True) (t := U) ⟨q2, q4⟩ hp
  exact ⟨q0, q1, r1, q3, r2, by rw [← va_A.perm hp]; exact q5⟩
theorem Ci.conv {l : Launch} {G : Gt} {y : MethodName} {ws : List Cond} {rm : Room} {av : List Value} {w w' : va_W} {P P2 : Int32 → va_W → Prop} (h : Ci l G y ws rm av w P) (hp : w'.Perm w) (k : ∀ (r : Int32) (w2 : va_W), P r w2 → ∃ w3, w2.Perm w3 ∧ P2 r w3) : Ci l G y ws rm av w' P2 := by
  intro sz
  rw [va_A.perm hp]
  refine MetFree.mono (h sz) (fun a s q => q.perm hp) (fun _ _ _ _ _ q => q) (fun a s o t _ q => ?_)
  obtain ⟨⟨⟨r, u, h1, h2, h3⟩, hF⟩, hL⟩ := q
  obtain ⟨w3, h4, h5⟩ := k r u h2
  exact ⟨⟨⟨r, w3, h1, h5, h3.perm h4⟩, hF⟩, hL⟩
theorem Ci.post {l : Launch} {G : Gt} {y : MethodName} {ws : List Cond} {rm : Room} {av : List Value} {w : va_W} {P P2 : Int32 → va_W → Prop} (h : Ci l G y ws rm av w P) (k : ∀ (r : Int32) (w2 : va_W), P r w2 → P2 r w2) : Ci l G y ws rm av w P2 := h.conv (List.Perm.refl _) (fun r w2 q => ⟨w2, List.Perm.refl _, k r w2 q⟩)
theorem Cr.conv {l : Launch} {G : Gt} {y : MethodName} {ws : List Cond} {rm : Room} {av : List Value} {w w' : va_W} {P P2 : Nat → va_W → Prop} (h : Cr l G y ws rm av w P) (hp : w'.Perm w) (k : ∀ (r : Nat) (w2 : va_W), P r w2 → ∃ w3, w2.Perm w3 ∧ P2 r w3) : Cr l G y ws rm av w' P2 := by
  intro sz
  rw [va_A.perm hp]
  refine MetFree.mono (h sz) (fun a s q => q.perm hp) (fun _ _ _ _ _ q => q) (fun a s o t _ q => ?_)
  obtain ⟨⟨⟨u, b, h1, h2, h3, h6⟩, hF⟩, hL⟩ := q
  obtain ⟨w3, h4, h5⟩ := k u.1 u.2 h2
  exact ⟨⟨⟨(u.1, w3), b, h1, h5, h3, h6.perm h4⟩, hF⟩, hL⟩
theorem Cr.post {l : Launch} {G : Gt} {y : MethodName} {ws : List Cond} {rm : Room} {av : List Value} {w : va_W} {P P2 : Nat → va_W → Prop} (h : Cr l G y ws rm av w P) (k : ∀ (r : Nat) (w2 : va_W), P r w2 → P2 r w2) : Cr l G y ws rm av w P2 := h.conv (List.Perm.refl _) (fun r w2 q => ⟨w2, List.Perm.refl _, k r w2 q⟩)
theorem Cv.conv {l : Launch} {G : Gt} {y : MethodName} {ws : List Cond} {rm : Room} {av : List Value} {w w' : va_W} {P P2 : va_W → Prop} (h : Cv l G y ws rm av w P) (hp : w'.Perm w) (k : ∀ (w2 : va_W), P w2 → ∃ w3, w2.Perm w3 ∧ P2 w3) : Cv l G y ws rm av w' P2 := by
  intro sz
  rw [va_A.perm hp]
  refine MetFree.mono (h sz) (fun a s q => q.perm hp) (fun _ _ _ _ _ q => q) (fun a s o t _ q => ?_)
  obtain ⟨⟨⟨u, h1, h2, h3⟩, hF⟩, hL⟩ := q
  obtain ⟨w3, h4, h5⟩ := k u h2
  exact ⟨⟨⟨w3, h1, h5, h3.perm h4⟩, hF⟩, hL⟩
theorem Cv.post {l : Launch} {G : Gt} {y : MethodName} {ws : List Cond} {rm : Room} {av : List Value} {w : va_W} {P P2 : va_W → Prop} (h : Cv l G y ws rm av w P) (k : ∀ (w2 : va_W), P w2 → P2 w2) : Cv l G y ws rm av w P2 := h.conv (List.Perm.refl _) (fun w2 q => ⟨w2, List.Perm.refl _, k w2 q⟩)
theorem Cl.conv {l : Launch} {G : Gt} {y : MethodName} {ws : List Cond} {rm : Room} {av : List Value} {w w' : va_W} {P P2 : Int64 → va_W → Prop} (h : Cl l G y ws rm av w P) (hp : w'.Perm w) (k : ∀ (r : Int64) (w2 : va_W), P r w2 → ∃ w3, w2.Perm w3 ∧ P2 r w3) : Cl l G y ws rm av w' P2 := by
  intro sz
  rw [va_A.perm hp]
  refine MetFree.mono (h sz) (fun a s q => q.perm hp) (fun _ _ _ _ _ q => q) (fun a s o t _ q => ?_)
  obtain ⟨⟨⟨r, u, h1, h2, h3⟩, hF⟩, hL⟩ := q
  obtain ⟨w3, h4, h5⟩ := k r u h2
  exact ⟨⟨⟨r, w3, h1, h5, h3.perm h4⟩, hF⟩, hL⟩
theorem Cl.post {l : Launch} {G : Gt} {y : MethodName} {ws : List Cond} {rm : Room} {av : List Value} {w : va_W} {P P2 : Int64 → va_W → Prop} (h : Cl l G y ws rm av w P) (k : ∀ (r : Int64) (w2 : va_W), P r w2 → P2 r w2) : Cl l G y ws rm av w P2 := h.conv (List.Perm.refl _) (fun r w2 q => ⟨w2, List.Perm.refl _, k r w2 q⟩)
