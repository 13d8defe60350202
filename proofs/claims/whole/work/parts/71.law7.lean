theorem and63 (x : Int32) : ∃ k : Nat, k < 64 ∧ (x &&& 63).toInt = (k : Int) := by
  have h : ((x &&& 63).toBitVec).toNat < 64 := by
    have : (x &&& 63).toBitVec = x.toBitVec &&& 63#32 := rfl
    rw [this, BitVec.toNat_and]
    exact Nat.lt_of_le_of_lt Nat.and_le_right (by decide)
  refine ⟨((x &&& 63).toBitVec).toNat, h, ?_⟩
  show ((x &&& 63).toBitVec).toInt = _
  rw [BitVec.toInt_eq_toNat_of_lt (by omega)]
theorem has_sub {ls : Array Slot} {nL : Nat} {l l2 : List (Nat × Value)} (h : lv_has ls nL l) (hs : ∀ x, x ∈ l2 → x ∈ l) : lv_has ls nL l2 := ⟨h.1, h.2.1, fun x hx => h.2.2 x (hs x hx)⟩
section KLOOP
variable {p : Program} {l : Launch} {e : Env} {s : State} {m : MethodId} {args : Array Value} {below : List Frame} {meth : Method} {c : Code} {H : Heap} {locs : List Loc} {cells slots : Nat} {Q : State → Prop}
variable {ls : Array Slot} {rt : Option FieldType} {G : Gt} {A : Nat → Prop} {w : va_W} {b L i o1 o2 : Nat} {xs : Nat → Int32} {z f h a : Nat → Nat} {fl : Nat → Int64} {fd : Nat → UInt64} {k : Nat}
set_option maxRecDepth 100000 in
set_option maxHeartbeats 4000000 in
theorem law_switch (hl9 : l.stackTraces = false) (X : Cx p s m args meth c cL_law 9 RL rt G A) (hX : va_X b L xs s s.heap) (hbl : b < s.heap.size) (hbA : ¬ A b) (hL : L ≤ 2048) (hi : i + 4 ≤ L) (hcl : cells + 30 ≤ 603072) (hsl : slots + 400 ≤ 7215210) (hLI : LI G z f h a o1 o2 w) (hW : Wd G A s w H locs) (hl : lv_has ls 9 (LV6 b (z 0) (a 0) o1 o2 i)) (kk : ∀ (w : va_W) (H : Heap) (locs : List Loc) (ls : Array Slot), LI G z f h a o1 o2 w → Wd G A s w H locs → lv_has ls 9 (LV6 b (z 0) (a 0) o1 o2 i) → W p l e room_1 s m args below meth c H locs (cells + 30) (slots + 400) Q (F0 m 2290 ls [])) : W p l e room_1 s m args below meth c H locs cells slots Q (F0 m 44 ls [.int (xs i &&& 63)]) := by
  have hx := X.exec
  have hb := X.bytes
  obtain ⟨k, hk, e⟩ := and63 (xs i)
  by_cases h39 : 39 ≤ k
  · refine lv_tableOut (tgt := 2290) hx hb dL_law_44 (Or.inr (by rw [e]; omega)) rfl ?_
    exact W.widen (by omega) (by omega) (kk w H locs ls hLI hW hl)
  · have h : k = 0 ∨ k = 1 ∨ k = 2 ∨ k = 3 ∨ k = 4 ∨ k = 5 ∨ k = 6 ∨ k = 7 ∨ k = 8 ∨ k = 9 ∨ k = 10 ∨ k = 11 ∨ k = 12 ∨ k = 13 ∨ k = 14 ∨ k = 15 ∨ k = 16 ∨ k = 17 ∨ k = 18 ∨ k = 19 ∨ k = 20 ∨ k = 21 ∨ k = 22 ∨ k = 23 ∨ k = 24 ∨ k = 25 ∨ k = 26 ∨ k = 27 ∨ k = 28 ∨ k = 29 ∨ k = 30 ∨ k = 31 ∨ k = 32 ∨ k = 33 ∨ k = 34 ∨ k = 35 ∨ k = 36 ∨ k = 37 ∨ k = 38 := by omega
    rcases h with rfl | rfl | rfl | rfl | rfl | rfl | rfl | rfl | rfl | rfl | rfl | rfl | rfl | rfl | rfl | rfl | rfl | rfl | rfl | rfl | rfl | rfl | rfl | rfl | rfl | rfl | rfl | rfl | rfl | rfl | rfl | rfl | rfl | rfl | rfl | rfl | rfl | rfl | rfl
    · exact lv_tableIn (off := 172) (tgt := 216) hx hb dL_law_44 (by rw [e]; decide) (by rw [e]; decide) (by rw [e]; rfl) rfl (k_offer hl9 X hX hbl hbA hL hi hcl hsl hLI hW hl kk)
    · exact lv_tableIn (off := 254) (tgt := 298) hx hb dL_law_44 (by rw [e]; decide) (by rw [e]; decide) (by rw [e]; rfl) rfl (k_withdraw hl9 X hX hbl hbA hL hi hcl hsl hLI hW hl kk)
    · exact lv_tableIn (off := 310) (tgt := 354) hx hb dL_law_44 (by rw [e]; decide) (by rw [e]; decide) (by rw [e]; rfl) rfl (k_allow hl9 X hX hbl hbA hL hi hcl hsl hLI hW hl kk)
    · exact lv_tableIn (off := 390) (tgt := 434) hx hb dL_law_44 (by rw [e]; decide) (by rw [e]; decide) (by rw [e]; rfl) rfl (k_forbid hl9 X hX hbl hbA hL hi hcl hsl hLI hW hl kk)
    · exact lv_tableIn (off := 434) (tgt := 478) hx hb dL_law_44 (by rw [e]; decide) (by rw [e]; decide) (by rw [e]; rfl) rfl (k_bid hl9 X hX hbl hbA hL hi hcl hsl hLI hW hl kk)
    · exact lv_tableIn (off := 502) (tgt := 546) hx hb dL_law_44 (by rw [e]; decide) (by rw [e]; decide) (by rw [e]; rfl) rfl (k_ask hl9 X hX hbl hbA hL hi hcl hsl hLI hW hl kk)
    · exact lv_tableIn (off := 584) (tgt := 628) hx hb dL_law_44 (by rw [e]; decide) (by rw [e]; decide) (by rw [e]; rfl) rfl (k_raise hl9 X hX hbl hbA hL hi hcl hsl hLI hW hl kk)
    · exact lv_tableIn (off := 652) (tgt := 696) hx hb dL_law_44 (by rw [e]; decide) (by rw [e]; decide) (by rw [e]; rfl) rfl (k_cancel hl9 X hX hbl hbA hL hi hcl hsl hLI hW hl kk)
    · exact lv_tableIn (off := 708) (tgt := 752) hx hb dL_law_44 (by rw [e]; decide) (by rw [e]; decide) (by rw [e]; rfl) rfl (k_close hl9 X hX hbl hbA hL hi hcl hsl hLI hW hl kk)
    · exact lv_tableIn (off := 752) (tgt := 796) hx hb dL_law_44 (by rw [e]; decide) (by rw [e]; decide) (by rw [e]; rfl) rfl (k_lots hl9 X hX hbl hbA hL hi hcl hsl hLI hW hl kk)
    · exact lv_tableIn (off := 765) (tgt := 809) hx hb dL_law_44 (by rw [e]; decide) (by rw [e]; decide) (by rw [e]; rfl) rfl (k_bids hl9 X hX hbl hbA hL hi hcl hsl hLI hW hl kk)
    · exact lv_tableIn (off := 778) (tgt := 822) hx hb dL_law_44 (by rw [e]; decide) (by rw [e]; decide) (by rw [e]; rfl) rfl (k_openLots hl9 X hX hbl hbA hL hi hcl hsl hLI hW hl kk)
    · exact lv_tableIn (off := 791) (tgt := 835) hx hb dL_law_44 (by rw [e]; decide) (by rw [e]; decide) (by rw [e]; rfl) rfl (k_openBids hl9 X hX hbl hbA hL hi hcl hsl hLI hW hl kk)
    · exact lv_tableIn (off := 804) (tgt := 848) hx hb dL_law_44 (by rw [e]; decide) (by rw [e]; decide) (by rw [e]; rfl) rfl (k_fibreOf hl9 X hX hbl hbA hL hi hcl hsl hLI hW hl kk)
    · exact lv_tableIn (off := 860) (tgt := 904) hx hb dL_law_44 (by rw [e]; decide) (by rw [e]; decide) (by rw [e]; rfl) rfl (k_gradeOf hl9 X hX hbl hbA hL hi hcl hsl hLI hW hl kk)
    · exact lv_tableIn (off := 916) (tgt := 960) hx hb dL_law_44 (by rw [e]; decide) (by rw [e]; decide) (by rw [e]; rfl) rfl (k_reserveOf hl9 X hX hbl hbA hL hi hcl hsl hLI hW hl kk)
    · exact lv_tableIn (off := 972) (tgt := 1016) hx hb dL_law_44 (by rw [e]; decide) (by rw [e]; decide) (by rw [e]; rfl) rfl (k_lotState hl9 X hX hbl hbA hL hi hcl hsl hLI hW hl kk)
    · exact lv_tableIn (off := 1028) (tgt := 1072) hx hb dL_law_44 (by rw [e]; decide) (by rw [e]; decide) (by rw [e]; rfl) rfl (k_soldTo hl9 X hX hbl hbA hL hi hcl hsl hLI hW hl kk)
    · exact lv_tableIn (off := 1084) (tgt := 1128) hx hb dL_law_44 (by rw [e]; decide) (by rw [e]; decide) (by rw [e]; rfl) rfl (k_countOf hl9 X hX hbl hbA hL hi hcl hsl hLI hW hl kk)
    · exact lv_tableIn (off := 1154) (tgt := 1198) hx hb dL_law_44 (by rw [e]; decide) (by rw [e]; decide) (by rw [e]; rfl) rfl (k_items hl9 X hX hbl hbA hL hi hcl hsl hLI hW hl kk)
    · exact lv_tableIn (off := 1210) (tgt := 1254) hx hb dL_law_44 (by rw [e]; decide) (by rw [e]; decide) (by rw [e]; rfl) rfl (k_fits hl9 X hX hbl hbA hL hi hcl hsl hLI hW hl kk)
    · exact lv_tableIn (off := 1297) (tgt := 1341) hx hb dL_law_44 (by rw [e]; decide) (by rw [e]; decide) (by rw [e]; rfl) rfl (k_fitting hl9 X hX hbl hbA hL hi hcl hsl hLI hW hl kk)
    · exact lv_tableIn (off := 1365) (tgt := 1409) hx hb dL_law_44 (by rw [e]; decide) (by rw [e]; decide) (by rw [e]; rfl) rfl (k_priceOf hl9 X hX hbl hbA hL hi hcl hsl hLI hW hl kk)
    · exact lv_tableIn (off := 1421) (tgt := 1465) hx hb dL_law_44 (by rw [e]; decide) (by rw [e]; decide) (by rw [e]; rfl) rfl (k_stateOf hl9 X hX hbl hbA hL hi hcl hsl hLI hW hl kk)
    · exact lv_tableIn (off := 1477) (tgt := 1521) hx hb dL_law_44 (by rw [e]; decide) (by rw [e]; decide) (by rw [e]; rfl) rfl (k_reason hl9 X hX hbl hbA hL hi hcl hsl hLI hW hl kk)
    · exact lv_tableIn (off := 1533) (tgt := 1577) hx hb dL_law_44 (by rw [e]; decide) (by rw [e]; decide) (by rw [e]; rfl) rfl (k_rival hl9 X hX hbl hbA hL hi hcl hsl hLI hW hl kk)
    · exact lv_tableIn (off := 1589) (tgt := 1633) hx hb dL_law_44 (by rw [e]; decide) (by rw [e]; decide) (by rw [e]; rfl) rfl (k_lotOf hl9 X hX hbl hbA hL hi hcl hsl hLI hW hl kk)
    · exact lv_tableIn (off := 1657) (tgt := 1701) hx hb dL_law_44 (by rw [e]; decide) (by rw [e]; decide) (by rw [e]; rfl) rfl (k_paid hl9 X hX hbl hbA hL hi hcl hsl hLI hW hl kk)
    · exact lv_tableIn (off := 1713) (tgt := 1757) hx hb dL_law_44 (by rw [e]; decide) (by rw [e]; decide) (by rw [e]; rfl) rfl (k_costOf hl9 X hX hbl hbA hL hi hcl hsl hLI hW hl kk)
    · exact lv_tableIn (off := 1769) (tgt := 1813) hx hb dL_law_44 (by rw [e]; decide) (by rw [e]; decide) (by rw [e]; rfl) rfl (k_surplus hl9 X hX hbl hbA hL hi hcl hsl hLI hW hl kk)
    · exact lv_tableIn (off := 1782) (tgt := 1826) hx hb dL_law_44 (by rw [e]; decide) (by rw [e]; decide) (by rw [e]; rfl) rfl (k_surplusBySets hl9 X hX hbl hbA hL hi hcl hsl hLI hW hl kk)
    · exact lv_tableIn (off := 1795) (tgt := 1839) hx hb dL_law_44 (by rw [e]; decide) (by rw [e]; decide) (by rw [e]; rfl) rfl (k_surplusWithout hl9 X hX hbl hbA hL hi hcl hsl hLI hW hl kk)
    · exact lv_tableIn (off := 1851) (tgt := 1895) hx hb dL_law_44 (by rw [e]; decide) (by rw [e]; decide) (by rw [e]; rfl) rfl (k_wouldWin hl9 X hX hbl hbA hL hi hcl hsl hLI hW hl kk)
    · exact lv_tableIn (off := 1914) (tgt := 1958) hx hb dL_law_44 (by rw [e]; decide) (by rw [e]; decide) (by rw [e]; rfl) rfl (k_wouldWinBySets hl9 X hX hbl hbA hL hi hcl hsl hLI hW hl kk)
    · exact lv_tableIn (off := 1977) (tgt := 2021) hx hb dL_law_44 (by rw [e]; decide) (by rw [e]; decide) (by rw [e]; rfl) rfl (k_lotFor hl9 X hX hbl hbA hL hi hcl hsl hLI hW hl kk)
    · exact lv_tableIn (off := 2045) (tgt := 2089) hx hb dL_law_44 (by rw [e]; decide) (by rw [e]; decide) (by rw [e]; rfl) rfl (k_payment hl9 X hX hbl hbA hL hi hcl hsl hLI hW hl kk)
    · exact lv_tableIn (off := 2101) (tgt := 2145) hx hb dL_law_44 (by rw [e]; decide) (by rw [e]; decide) (by rw [e]; rfl) rfl (k_takings hl9 X hX hbl hbA hL hi hcl hsl hLI hW hl kk)
    · exact lv_tableIn (off := 2115) (tgt := 2159) hx hb dL_law_44 (by rw [e]; decide) (by rw [e]; decide) (by rw [e]; rfl) rfl (k_soldShare hl9 X hX hbl hbA hL hi hcl hsl hLI hW hl kk)
    · exact lv_tableIn (off := 2181) (tgt := 2225) hx hb dL_law_44 (by rw [e]; decide) (by rw [e]; decide) (by rw [e]; rfl) rfl (k_meanPaid hl9 X hX hbl hbA hL hi hcl hsl hLI hW hl kk)
set_option maxRecDepth 100000 in
set_option maxHeartbeats 4000000 in
theorem law_loop (hl9 : l.stackTraces = false) (X : Cx p s m args meth c cL_law 9 RL rt G A) (hX : va_X b L xs s s.heap) (hbl : b < s.heap.size) (hbA : ¬ A b) (hL : L ≤ 2048) (kend : ∀ (w : va_W) (H : Heap) (locs : List Loc) (ls : Array Slot), Wd G A s w H locs → W p l e room_1 s m args below meth c H locs 603072 7215210 Q (F0 m 2296 ls [])) : ∀ (n i : Nat) (w : va_W) (H : Heap) (locs : List Loc) (ls : Array Slot) (cells slots : Nat), L < i + 4 + 4 * n → i ≤ 4096 → cells + 30 * n ≤ 603072 → slots + 400 * n ≤ 7215210 → LI G z f h a o1 o2 w → Wd G A s w H locs → lv_has ls 9 (LV6 b (z 0) (a 0) o1 o2 i) → W p l e room_1 s m args below meth c H locs cells slots Q (F0 m 28 ls []) := by
  intro n
  induction n with
  | zero =>
    intro i w H locs ls cells slots h1 h2 h3 h4 hLI hW hl
    have hx := X.exec
    have hb := X.bytes
    refine lv_iload hx hb dL_law_28 (lv_at hl 5 rfl) ?_
    refine lv_aload_n hx hb dL_law_30 rfl (lv_at hl 0 rfl) ?_
    refine va_slen hx hb hX hbl hbA hW.2.2 dL_law_31 ?_
    refine lv_iconst (v := zI 4) hx hb dL_law_32 (by decide) ?_
    refine z_isub hx hb (a := (L : Int)) (b := 4) (nZ L) rfl dL_law_33 ?_
    refine z_icmp_gt (a := (i : Int)) (b := (L : Int) - 4) (tgt := 2296) hx hb (nZ i) rfl ⟨by omega, by omega⟩ ⟨by omega, by omega⟩ dL_law_34 rfl (fun _ => ?_) (fun q => absurd q (by omega))
    exact W.widen (by omega) (by omega) (kend w H locs ls hW)
  | succ n ih =>
    intro i w H locs ls cells slots h1 h2 h3 h4 hLI hW hl
    have hx := X.exec
    have hb := X.bytes
    refine lv_iload hx hb dL_law_28 (lv_at hl 5 rfl) ?_
    refine lv_aload_n hx hb dL_law_30 rfl (lv_at hl 0 rfl) ?_
    refine va_slen hx hb hX hbl hbA hW.2.2 dL_law_31 ?_
    refine lv_iconst (v := zI 4) hx hb dL_law_32 (by decide) ?_
    refine z_isub hx hb (a := (L : Int)) (b := 4) (nZ L) rfl dL_law_33 ?_
    refine z_icmp_gt (a := (i : Int)) (b := (L : Int) - 4) (tgt := 2296) hx hb (nZ i) rfl ⟨by omega, by omega⟩ ⟨by omega, by omega⟩ dL_law_34 rfl (fun _ => ?_) (fun q => ?_)
    · exact W.widen (by omega) (by omega) (kend w H locs ls hW)
    · have hi : i + 4 ≤ L := by omega
      refine lv_aload_n hx hb dL_law_37 rfl (lv_at hl 0 rfl) ?_
      refine lv_iload hx hb dL_law_38 (lv_at hl 5 rfl) ?_
      have hc : (nI i).toNatClampNeg = i := nI_clamp (by omega)
      refine va_sld hx hb hX hbl hbA hW.2.2 (i := nI i) (fun q => ?_) dL_law_40 ?_
      · rcases q with q | q
        · exact absurd q (nI_pos (by omega))
        · rw [hc] at q; omega
      rw [hc]
      refine lv_bipush (v := 63) hx hb dL_law_41 (by decide) ?_
      refine lv_iand hx hb dL_law_43 ?_
      refine law_switch hl9 X hX hbl hbA hL hi (by omega) (by omega) hLI hW hl (fun w H locs ls hLI hW hl => ?_)
      refine lv_iinc (lv' := [(5, .int (nI (i + 4))), (0, .ref b), (1, .ref (z 0)), (2, .ref (a 0)), (3, .ref o1), (4, .ref o2)]) (k := 5) (v := nI (i + 4)) hx hb dL_law_2290 hl rfl (nI_add i 4) (by decide) rfl (fun ls hl => ?_)
      have hl : lv_has ls 9 (LV6 b (z 0) (a 0) o1 o2 (i + 4)) := has_sub hl (fun x hx => by
        simp only [List.mem_cons, List.not_mem_nil, or_false] at hx ⊢
        rcases hx with h | h | h | h | h | h <;> simp [h])
      refine lv_goto (tgt := 28) hx hb dL_law_2293 rfl ?_
      exact ih (i + 4) w H locs ls _ _ (by omega) (by omega) (by omega) (by omega) hLI hW hl
end KLOOP
