theorem bc_all : ∀ n, n < 256 → (((((((((nI n) - (((((nI n)).toUInt32 >>> (((nI 1)).toUInt32 &&& Int32.toUInt32 31)).toInt32) &&& (nI 1431655765))) &&& (nI 858993459)) + ((((((nI n) - (((((nI n)).toUInt32 >>> (((nI 1)).toUInt32 &&& Int32.toUInt32 31)).toInt32) &&& (nI 1431655765)))).toUInt32 >>> (((nI 2)).toUInt32 &&& Int32.toUInt32 31)).toInt32) &&& (nI 858993459))) + (((((((nI n) - (((((nI n)).toUInt32 >>> (((nI 1)).toUInt32 &&& Int32.toUInt32 31)).toInt32) &&& (nI 1431655765))) &&& (nI 858993459)) + ((((((nI n) - (((((nI n)).toUInt32 >>> (((nI 1)).toUInt32 &&& Int32.toUInt32 31)).toInt32) &&& (nI 1431655765)))).toUInt32 >>> (((nI 2)).toUInt32 &&& Int32.toUInt32 31)).toInt32) &&& (nI 858993459)))).toUInt32 >>> (((nI 4)).toUInt32 &&& Int32.toUInt32 31)).toInt32)) &&& (nI 252645135)) + (((((((((nI n) - (((((nI n)).toUInt32 >>> (((nI 1)).toUInt32 &&& Int32.toUInt32 31)).toInt32) &&& (nI 1431655765))) &&& (nI 858993459)) + ((((((nI n) - (((((nI n)).toUInt32 >>> (((nI 1)).toUInt32 &&& Int32.toUInt32 31)).toInt32) &&& (nI 1431655765)))).toUInt32 >>> (((nI 2)).toUInt32 &&& Int32.toUInt32 31)).toInt32) &&& (nI 858993459))) + (((((((nI n) - (((((nI n)).toUInt32 >>> (((nI 1)).toUInt32 &&& Int32.toUInt32 31)).toInt32) &&& (nI 1431655765))) &&& (nI 858993459)) + ((((((nI n) - (((((nI n)).toUInt32 >>> (((nI 1)).toUInt32 &&& Int32.toUInt32 31)).toInt32) &&& (nI 1431655765)))).toUInt32 >>> (((nI 2)).toUInt32 &&& Int32.toUInt32 31)).toInt32) &&& (nI 858993459)))).toUInt32 >>> (((nI 4)).toUInt32 &&& Int32.toUInt32 31)).toInt32)) &&& (nI 252645135))).toUInt32 >>> (((nI 8)).toUInt32 &&& Int32.toUInt32 31)).toInt32)) + ((((((((((nI n) - (((((nI n)).toUInt32 >>> (((nI 1)).toUInt32 &&& Int32.toUInt32 31)).toInt32) &&& (nI 1431655765))) &&& (nI 858993459)) + ((((((nI n) - (((((nI n)).toUInt32 >>> (((nI 1)).toUInt32 &&& Int32.toUInt32 31)).toInt32) &&& (nI 1431655765)))).toUInt32 >>> (((nI 2)).toUInt32 &&& Int32.toUInt32 31)).toInt32) &&& (nI 858993459))) + (((((((nI n) - (((((nI n)).toUInt32 >>> (((nI 1)).toUInt32 &&& Int32.toUInt32 31)).toInt32) &&& (nI 1431655765))) &&& (nI 858993459)) + ((((((nI n) - (((((nI n)).toUInt32 >>> (((nI 1)).toUInt32 &&& Int32.toUInt32 31)).toInt32) &&& (nI 1431655765)))).toUInt32 >>> (((nI 2)).toUInt32 &&& Int32.toUInt32 31)).toInt32) &&& (nI 858993459)))).toUInt32 >>> (((nI 4)).toUInt32 &&& Int32.toUInt32 31)).toInt32)) &&& (nI 252645135)) + (((((((((nI n) - (((((nI n)).toUInt32 >>> (((nI 1)).toUInt32 &&& Int32.toUInt32 31)).toInt32) &&& (nI 1431655765))) &&& (nI 858993459)) + ((((((nI n) - (((((nI n)).toUInt32 >>> (((nI 1)).toUInt32 &&& Int32.toUInt32 31)).toInt32) &&& (nI 1431655765)))).toUInt32 >>> (((nI 2)).toUInt32 &&& Int32.toUInt32 31)).toInt32) &&& (nI 858993459))) + (((((((nI n) - (((((nI n)).toUInt32 >>> (((nI 1)).toUInt32 &&& Int32.toUInt32 31)).toInt32) &&& (nI 1431655765))) &&& (nI 858993459)) + ((((((nI n) - (((((nI n)).toUInt32 >>> (((nI 1)).toUInt32 &&& Int32.toUInt32 31)).toInt32) &&& (nI 1431655765)))).toUInt32 >>> (((nI 2)).toUInt32 &&& Int32.toUInt32 31)).toInt32) &&& (nI 858993459)))).toUInt32 >>> (((nI 4)).toUInt32 &&& Int32.toUInt32 31)).toInt32)) &&& (nI 252645135))).toUInt32 >>> (((nI 8)).toUInt32 &&& Int32.toUInt32 31)).toInt32))).toUInt32 >>> (((nI 16)).toUInt32 &&& Int32.toUInt32 31)).toInt32)) &&& (nI 63)) = nI (pop n) := by decide +kernel
set_option maxRecDepth 100000 in
set_option maxHeartbeats 4000000 in
theorem c_J6_bitCount_0f7a4 (l : Launch) (G : Gt) (n : Nat) (w : va_W) (hn : n < 256) : Ci l G yJ6_bitCount_0f7a4 (ww yJ6_bitCount_0f7a4 cJ6_bitCount_0f7a4 1 (some FieldType.int)) (RM 0 0 0) [.int (nI n)] w (fun r w2 => r = nI (pop n) ∧ w2 = w) := by
  refine Ci.intro (by decide) (Nat.le_of_ble_eq_true rfl) ?_
  intro p e s m args below meth c A X hW ls hl
  have hx := X.exec
  have hb := X.bytes
  have hl : lv_has ls 1 [(0, .int (nI n))] := hl
  refine lv_iload_n hx hb dJ6_bitCount_0f7a4_0 rfl (lv_at hl 0 rfl) ?_
  refine lv_iload_n hx hb dJ6_bitCount_0f7a4_1 rfl (lv_at hl 0 rfl) ?_
  refine lv_iconst (v := nI 1) hx hb dJ6_bitCount_0f7a4_2 (by decide) ?_
  refine lv_iushr (v := (((nI n)).toUInt32 >>> (((nI 1)).toUInt32 &&& Int32.toUInt32 31)).toInt32) hx hb dJ6_bitCount_0f7a4_3 rfl ?_
  refine lv_ldcw (v := (nI 1431655765)) hx hb X.own (X.ws _ wq_350) dJ6_bitCount_0f7a4_4 ?_
  refine lv_iand hx hb dJ6_bitCount_0f7a4_7 ?_
  refine lv_isub hx hb dJ6_bitCount_0f7a4_8 ?_
  refine lv_istore_n (lv' := [(0, .int ((nI n) - (((((nI n)).toUInt32 >>> (((nI 1)).toUInt32 &&& Int32.toUInt32 31)).toInt32) &&& (nI 1431655765))))]) hx hb dJ6_bitCount_0f7a4_9 rfl hl (by decide) rfl (fun ls hl => ?_)
  refine lv_iload_n hx hb dJ6_bitCount_0f7a4_10 rfl (lv_at hl 0 rfl) ?_
  refine lv_ldcw (v := (nI 858993459)) hx hb X.own (X.ws _ wq_351) dJ6_bitCount_0f7a4_11 ?_
  refine lv_iand hx hb dJ6_bitCount_0f7a4_14 ?_
  refine lv_iload_n hx hb dJ6_bitCount_0f7a4_15 rfl (lv_at hl 0 rfl) ?_
  refine lv_iconst (v := nI 2) hx hb dJ6_bitCount_0f7a4_16 (by decide) ?_
  refine lv_iushr (v := ((((nI n) - (((((nI n)).toUInt32 >>> (((nI 1)).toUInt32 &&& Int32.toUInt32 31)).toInt32) &&& (nI 1431655765)))).toUInt32 >>> (((nI 2)).toUInt32 &&& Int32.toUInt32 31)).toInt32) hx hb dJ6_bitCount_0f7a4_17 rfl ?_
  refine lv_ldcw (v := (nI 858993459)) hx hb X.own (X.ws _ wq_351) dJ6_bitCount_0f7a4_18 ?_
  refine lv_iand hx hb dJ6_bitCount_0f7a4_21 ?_
  refine lv_iadd hx hb dJ6_bitCount_0f7a4_22 ?_
  refine lv_istore_n (lv' := [(0, .int ((((nI n) - (((((nI n)).toUInt32 >>> (((nI 1)).toUInt32 &&& Int32.toUInt32 31)).toInt32) &&& (nI 1431655765))) &&& (nI 858993459)) + ((((((nI n) - (((((nI n)).toUInt32 >>> (((nI 1)).toUInt32 &&& Int32.toUInt32 31)).toInt32) &&& (nI 1431655765)))).toUInt32 >>> (((nI 2)).toUInt32 &&& Int32.toUInt32 31)).toInt32) &&& (nI 858993459))))]) hx hb dJ6_bitCount_0f7a4_23 rfl hl (by decide) rfl (fun ls hl => ?_)
  refine lv_iload_n hx hb dJ6_bitCount_0f7a4_24 rfl (lv_at hl 0 rfl) ?_
  refine lv_iload_n hx hb dJ6_bitCount_0f7a4_25 rfl (lv_at hl 0 rfl) ?_
  refine lv_iconst (v := nI 4) hx hb dJ6_bitCount_0f7a4_26 (by decide) ?_
  refine lv_iushr (v := ((((((nI n) - (((((nI n)).toUInt32 >>> (((nI 1)).toUInt32 &&& Int32.toUInt32 31)).toInt32) &&& (nI 1431655765))) &&& (nI 858993459)) + ((((((nI n) - (((((nI n)).toUInt32 >>> (((nI 1)).toUInt32 &&& Int32.toUInt32 31)).toInt32) &&& (nI 1431655765)))).toUInt32 >>> (((nI 2)).toUInt32 &&& Int32.toUInt32 31)).toInt32) &&& (nI 858993459)))).toUInt32 >>> (((nI 4)).toUInt32 &&& Int32.toUInt32 31)).toInt32) hx hb dJ6_bitCount_0f7a4_27 rfl ?_
  refine lv_iadd hx hb dJ6_bitCount_0f7a4_28 ?_
  refine lv_ldcw (v := (nI 252645135)) hx hb X.own (X.ws _ wq_352) dJ6_bitCount_0f7a4_29 ?_
  refine lv_iand hx hb dJ6_bitCount_0f7a4_32 ?_
  refine lv_istore_n (lv' := [(0, .int ((((((nI n) - (((((nI n)).toUInt32 >>> (((nI 1)).toUInt32 &&& Int32.toUInt32 31)).toInt32) &&& (nI 1431655765))) &&& (nI 858993459)) + ((((((nI n) - (((((nI n)).toUInt32 >>> (((nI 1)).toUInt32 &&& Int32.toUInt32 31)).toInt32) &&& (nI 1431655765)))).toUInt32 >>> (((nI 2)).toUInt32 &&& Int32.toUInt32 31)).toInt32) &&& (nI 858993459))) + (((((((nI n) - (((((nI n)).toUInt32 >>> (((nI 1)).toUInt32 &&& Int32.toUInt32 31)).toInt32) &&& (nI 1431655765))) &&& (nI 858993459)) + ((((((nI n) - (((((nI n)).toUInt32 >>> (((nI 1)).toUInt32 &&& Int32.toUInt32 31)).toInt32) &&& (nI 1431655765)))).toUInt32 >>> (((nI 2)).toUInt32 &&& Int32.toUInt32 31)).toInt32) &&& (nI 858993459)))).toUInt32 >>> (((nI 4)).toUInt32 &&& Int32.toUInt32 31)).toInt32)) &&& (nI 252645135)))]) hx hb dJ6_bitCount_0f7a4_33 rfl hl (by decide) rfl (fun ls hl => ?_)
  refine lv_iload_n hx hb dJ6_bitCount_0f7a4_34 rfl (lv_at hl 0 rfl) ?_
  refine lv_iload_n hx hb dJ6_bitCount_0f7a4_35 rfl (lv_at hl 0 rfl) ?_
  refine lv_bipush (v := nI 8) hx hb dJ6_bitCount_0f7a4_36 (by decide) ?_
  refine lv_iushr (v := ((((((((nI n) - (((((nI n)).toUInt32 >>> (((nI 1)).toUInt32 &&& Int32.toUInt32 31)).toInt32) &&& (nI 1431655765))) &&& (nI 858993459)) + ((((((nI n) - (((((nI n)).toUInt32 >>> (((nI 1)).toUInt32 &&& Int32.toUInt32 31)).toInt32) &&& (nI 1431655765)))).toUInt32 >>> (((nI 2)).toUInt32 &&& Int32.toUInt32 31)).toInt32) &&& (nI 858993459))) + (((((((nI n) - (((((nI n)).toUInt32 >>> (((nI 1)).toUInt32 &&& Int32.toUInt32 31)).toInt32) &&& (nI 1431655765))) &&& (nI 858993459)) + ((((((nI n) - (((((nI n)).toUInt32 >>> (((nI 1)).toUInt32 &&& Int32.toUInt32 31)).toInt32) &&& (nI 1431655765)))).toUInt32 >>> (((nI 2)).toUInt32 &&& Int32.toUInt32 31)).toInt32) &&& (nI 858993459)))).toUInt32 >>> (((nI 4)).toUInt32 &&& Int32.toUInt32 31)).toInt32)) &&& (nI 252645135))).toUInt32 >>> (((nI 8)).toUInt32 &&& Int32.toUInt32 31)).toInt32) hx hb dJ6_bitCount_0f7a4_38 rfl ?_
  refine lv_iadd hx hb dJ6_bitCount_0f7a4_39 ?_
  refine lv_istore_n (lv' := [(0, .int (((((((nI n) - (((((nI n)).toUInt32 >>> (((nI 1)).toUInt32 &&& Int32.toUInt32 31)).toInt32) &&& (nI 1431655765))) &&& (nI 858993459)) + ((((((nI n) - (((((nI n)).toUInt32 >>> (((nI 1)).toUInt32 &&& Int32.toUInt32 31)).toInt32) &&& (nI 1431655765)))).toUInt32 >>> (((nI 2)).toUInt32 &&& Int32.toUInt32 31)).toInt32) &&& (nI 858993459))) + (((((((nI n) - (((((nI n)).toUInt32 >>> (((nI 1)).toUInt32 &&& Int32.toUInt32 31)).toInt32) &&& (nI 1431655765))) &&& (nI 858993459)) + ((((((nI n) - (((((nI n)).toUInt32 >>> (((nI 1)).toUInt32 &&& Int32.toUInt32 31)).toInt32) &&& (nI 1431655765)))).toUInt32 >>> (((nI 2)).toUInt32 &&& Int32.toUInt32 31)).toInt32) &&& (nI 858993459)))).toUInt32 >>> (((nI 4)).toUInt32 &&& Int32.toUInt32 31)).toInt32)) &&& (nI 252645135)) + (((((((((nI n) - (((((nI n)).toUInt32 >>> (((nI 1)).toUInt32 &&& Int32.toUInt32 31)).toInt32) &&& (nI 1431655765))) &&& (nI 858993459)) + ((((((nI n) - (((((nI n)).toUInt32 >>> (((nI 1)).toUInt32 &&& Int32.toUInt32 31)).toInt32) &&& (nI 1431655765)))).toUInt32 >>> (((nI 2)).toUInt32 &&& Int32.toUInt32 31)).toInt32) &&& (nI 858993459))) + (((((((nI n) - (((((nI n)).toUInt32 >>> (((nI 1)).toUInt32 &&& Int32.toUInt32 31)).toInt32) &&& (nI 1431655765))) &&& (nI 858993459)) + ((((((nI n) - (((((nI n)).toUInt32 >>> (((nI 1)).toUInt32 &&& Int32.toUInt32 31)).toInt32) &&& (nI 1431655765)))).toUInt32 >>> (((nI 2)).toUInt32 &&& Int32.toUInt32 31)).toInt32) &&& (nI 858993459)))).toUInt32 >>> (((nI 4)).toUInt32 &&& Int32.toUInt32 31)).toInt32)) &&& (nI 252645135))).toUInt32 >>> (((nI 8)).toUInt32 &&& Int32.toUInt32 31)).toInt32)))]) hx hb dJ6_bitCount_0f7a4_40 rfl hl (by decide) rfl (fun ls hl => ?_)
  refine lv_iload_n hx hb dJ6_bitCount_0f7a4_41 rfl (lv_at hl 0 rfl) ?_
  refine lv_iload_n hx hb dJ6_bitCount_0f7a4_42 rfl (lv_at hl 0 rfl) ?_
  refine lv_bipush (v := nI 16) hx hb dJ6_bitCount_0f7a4_43 (by decide) ?_
  refine lv_iushr (v := (((((((((nI n) - (((((nI n)).toUInt32 >>> (((nI 1)).toUInt32 &&& Int32.toUInt32 31)).toInt32) &&& (nI 1431655765))) &&& (nI 858993459)) + ((((((nI n) - (((((nI n)).toUInt32 >>> (((nI 1)).toUInt32 &&& Int32.toUInt32 31)).toInt32) &&& (nI 1431655765)))).toUInt32 >>> (((nI 2)).toUInt32 &&& Int32.toUInt32 31)).toInt32) &&& (nI 858993459))) + (((((((nI n) - (((((nI n)).toUInt32 >>> (((nI 1)).toUInt32 &&& Int32.toUInt32 31)).toInt32) &&& (nI 1431655765))) &&& (nI 858993459)) + ((((((nI n) - (((((nI n)).toUInt32 >>> (((nI 1)).toUInt32 &&& Int32.toUInt32 31)).toInt32) &&& (nI 1431655765)))).toUInt32 >>> (((nI 2)).toUInt32 &&& Int32.toUInt32 31)).toInt32) &&& (nI 858993459)))).toUInt32 >>> (((nI 4)).toUInt32 &&& Int32.toUInt32 31)).toInt32)) &&& (nI 252645135)) + (((((((((nI n) - (((((nI n)).toUInt32 >>> (((nI 1)).toUInt32 &&& Int32.toUInt32 31)).toInt32) &&& (nI 1431655765))) &&& (nI 858993459)) + ((((((nI n) - (((((nI n)).toUInt32 >>> (((nI 1)).toUInt32 &&& Int32.toUInt32 31)).toInt32) &&& (nI 1431655765)))).toUInt32 >>> (((nI 2)).toUInt32 &&& Int32.toUInt32 31)).toInt32) &&& (nI 858993459))) + (((((((nI n) - (((((nI n)).toUInt32 >>> (((nI 1)).toUInt32 &&& Int32.toUInt32 31)).toInt32) &&& (nI 1431655765))) &&& (nI 858993459)) + ((((((nI n) - (((((nI n)).toUInt32 >>> (((nI 1)).toUInt32 &&& Int32.toUInt32 31)).toInt32) &&& (nI 1431655765)))).toUInt32 >>> (((nI 2)).toUInt32 &&& Int32.toUInt32 31)).toInt32) &&& (nI 858993459)))).toUInt32 >>> (((nI 4)).toUInt32 &&& Int32.toUInt32 31)).toInt32)) &&& (nI 252645135))).toUInt32 >>> (((nI 8)).toUInt32 &&& Int32.toUInt32 31)).toInt32))).toUInt32 >>> (((nI 16)).toUInt32 &&& Int32.toUInt32 31)).toInt32) hx hb dJ6_bitCount_0f7a4_45 rfl ?_
  refine lv_iadd hx hb dJ6_bitCount_0f7a4_46 ?_
  refine lv_istore_n (lv' := [(0, .int ((((((((nI n) - (((((nI n)).toUInt32 >>> (((nI 1)).toUInt32 &&& Int32.toUInt32 31)).toInt32) &&& (nI 1431655765))) &&& (nI 858993459)) + ((((((nI n) - (((((nI n)).toUInt32 >>> (((nI 1)).toUInt32 &&& Int32.toUInt32 31)).toInt32) &&& (nI 1431655765)))).toUInt32 >>> (((nI 2)).toUInt32 &&& Int32.toUInt32 31)).toInt32) &&& (nI 858993459))) + (((((((nI n) - (((((nI n)).toUInt32 >>> (((nI 1)).toUInt32 &&& Int32.toUInt32 31)).toInt32) &&& (nI 1431655765))) &&& (nI 858993459)) + ((((((nI n) - (((((nI n)).toUInt32 >>> (((nI 1)).toUInt32 &&& Int32.toUInt32 31)).toInt32) &&& (nI 1431655765)))).toUInt32 >>> (((nI 2)).toUInt32 &&& Int32.toUInt32 31)).toInt32) &&& (nI 858993459)))).toUInt32 >>> (((nI 4)).toUInt32 &&& Int32.toUInt32 31)).toInt32)) &&& (nI 252645135)) + (((((((((nI n) - (((((nI n)).toUInt32 >>> (((nI 1)).toUInt32 &&& Int32.toUInt32 31)).toInt32) &&& (nI 1431655765))) &&& (nI 858993459)) + ((((((nI n) - (((((nI n)).toUInt32 >>> (((nI 1)).toUInt32 &&& Int32.toUInt32 31)).toInt32) &&& (nI 1431655765)))).toUInt32 >>> (((nI 2)).toUInt32 &&& Int32.toUInt32 31)).toInt32) &&& (nI 858993459))) + (((((((nI n) - (((((nI n)).toUInt32 >>> (((nI 1)).toUInt32 &&& Int32.toUInt32 31)).toInt32) &&& (nI 1431655765))) &&& (nI 858993459)) + ((((((nI n) - (((((nI n)).toUInt32 >>> (((nI 1)).toUInt32 &&& Int32.toUInt32 31)).toInt32) &&& (nI 1431655765)))).toUInt32 >>> (((nI 2)).toUInt32 &&& Int32.toUInt32 31)).toInt32) &&& (nI 858993459)))).toUInt32 >>> (((nI 4)).toUInt32 &&& Int32.toUInt32 31)).toInt32)) &&& (nI 252645135))).toUInt32 >>> (((nI 8)).toUInt32 &&& Int32.toUInt32 31)).toInt32)) + ((((((((((nI n) - (((((nI n)).toUInt32 >>> (((nI 1)).toUInt32 &&& Int32.toUInt32 31)).toInt32) &&& (nI 1431655765))) &&& (nI 858993459)) + ((((((nI n) - (((((nI n)).toUInt32 >>> (((nI 1)).toUInt32 &&& Int32.toUInt32 31)).toInt32) &&& (nI 1431655765)))).toUInt32 >>> (((nI 2)).toUInt32 &&& Int32.toUInt32 31)).toInt32) &&& (nI 858993459))) + (((((((nI n) - (((((nI n)).toUInt32 >>> (((nI 1)).toUInt32 &&& Int32.toUInt32 31)).toInt32) &&& (nI 1431655765))) &&& (nI 858993459)) + ((((((nI n) - (((((nI n)).toUInt32 >>> (((nI 1)).toUInt32 &&& Int32.toUInt32 31)).toInt32) &&& (nI 1431655765)))).toUInt32 >>> (((nI 2)).toUInt32 &&& Int32.toUInt32 31)).toInt32) &&& (nI 858993459)))).toUInt32 >>> (((nI 4)).toUInt32 &&& Int32.toUInt32 31)).toInt32)) &&& (nI 252645135)) + (((((((((nI n) - (((((nI n)).toUInt32 >>> (((nI 1)).toUInt32 &&& Int32.toUInt32 31)).toInt32) &&& (nI 1431655765))) &&& (nI 858993459)) + ((((((nI n) - (((((nI n)).toUInt32 >>> (((nI 1)).toUInt32 &&& Int32.toUInt32 31)).toInt32) &&& (nI 1431655765)))).toUInt32 >>> (((nI 2)).toUInt32 &&& Int32.toUInt32 31)).toInt32) &&& (nI 858993459))) + (((((((nI n) - (((((nI n)).toUInt32 >>> (((nI 1)).toUInt32 &&& Int32.toUInt32 31)).toInt32) &&& (nI 1431655765))) &&& (nI 858993459)) + ((((((nI n) - (((((nI n)).toUInt32 >>> (((nI 1)).toUInt32 &&& Int32.toUInt32 31)).toInt32) &&& (nI 1431655765)))).toUInt32 >>> (((nI 2)).toUInt32 &&& Int32.toUInt32 31)).toInt32) &&& (nI 858993459)))).toUInt32 >>> (((nI 4)).toUInt32 &&& Int32.toUInt32 31)).toInt32)) &&& (nI 252645135))).toUInt32 >>> (((nI 8)).toUInt32 &&& Int32.toUInt32 31)).toInt32))).toUInt32 >>> (((nI 16)).toUInt32 &&& Int32.toUInt32 31)).toInt32)))]) hx hb dJ6_bitCount_0f7a4_47 rfl hl (by decide) rfl (fun ls hl => ?_)
  refine lv_iload_n hx hb dJ6_bitCount_0f7a4_48 rfl (lv_at hl 0 rfl) ?_
  refine lv_bipush (v := nI 63) hx hb dJ6_bitCount_0f7a4_49 (by decide) ?_
  refine lv_iand hx hb dJ6_bitCount_0f7a4_51 ?_
  exact ret_i X hW (v := (((((((((nI n) - (((((nI n)).toUInt32 >>> (((nI 1)).toUInt32 &&& Int32.toUInt32 31)).toInt32) &&& (nI 1431655765))) &&& (nI 858993459)) + ((((((nI n) - (((((nI n)).toUInt32 >>> (((nI 1)).toUInt32 &&& Int32.toUInt32 31)).toInt32) &&& (nI 1431655765)))).toUInt32 >>> (((nI 2)).toUInt32 &&& Int32.toUInt32 31)).toInt32) &&& (nI 858993459))) + (((((((nI n) - (((((nI n)).toUInt32 >>> (((nI 1)).toUInt32 &&& Int32.toUInt32 31)).toInt32) &&& (nI 1431655765))) &&& (nI 858993459)) + ((((((nI n) - (((((nI n)).toUInt32 >>> (((nI 1)).toUInt32 &&& Int32.toUInt32 31)).toInt32) &&& (nI 1431655765)))).toUInt32 >>> (((nI 2)).toUInt32 &&& Int32.toUInt32 31)).toInt32) &&& (nI 858993459)))).toUInt32 >>> (((nI 4)).toUInt32 &&& Int32.toUInt32 31)).toInt32)) &&& (nI 252645135)) + (((((((((nI n) - (((((nI n)).toUInt32 >>> (((nI 1)).toUInt32 &&& Int32.toUInt32 31)).toInt32) &&& (nI 1431655765))) &&& (nI 858993459)) + ((((((nI n) - (((((nI n)).toUInt32 >>> (((nI 1)).toUInt32 &&& Int32.toUInt32 31)).toInt32) &&& (nI 1431655765)))).toUInt32 >>> (((nI 2)).toUInt32 &&& Int32.toUInt32 31)).toInt32) &&& (nI 858993459))) + (((((((nI n) - (((((nI n)).toUInt32 >>> (((nI 1)).toUInt32 &&& Int32.toUInt32 31)).toInt32) &&& (nI 1431655765))) &&& (nI 858993459)) + ((((((nI n) - (((((nI n)).toUInt32 >>> (((nI 1)).toUInt32 &&& Int32.toUInt32 31)).toInt32) &&& (nI 1431655765)))).toUInt32 >>> (((nI 2)).toUInt32 &&& Int32.toUInt32 31)).toInt32) &&& (nI 858993459)))).toUInt32 >>> (((nI 4)).toUInt32 &&& Int32.toUInt32 31)).toInt32)) &&& (nI 252645135))).toUInt32 >>> (((nI 8)).toUInt32 &&& Int32.toUInt32 31)).toInt32)) + ((((((((((nI n) - (((((nI n)).toUInt32 >>> (((nI 1)).toUInt32 &&& Int32.toUInt32 31)).toInt32) &&& (nI 1431655765))) &&& (nI 858993459)) + ((((((nI n) - (((((nI n)).toUInt32 >>> (((nI 1)).toUInt32 &&& Int32.toUInt32 31)).toInt32) &&& (nI 1431655765)))).toUInt32 >>> (((nI 2)).toUInt32 &&& Int32.toUInt32 31)).toInt32) &&& (nI 858993459))) + (((((((nI n) - (((((nI n)).toUInt32 >>> (((nI 1)).toUInt32 &&& Int32.toUInt32 31)).toInt32) &&& (nI 1431655765))) &&& (nI 858993459)) + ((((((nI n) - (((((nI n)).toUInt32 >>> (((nI 1)).toUInt32 &&& Int32.toUInt32 31)).toInt32) &&& (nI 1431655765)))).toUInt32 >>> (((nI 2)).toUInt32 &&& Int32.toUInt32 31)).toInt32) &&& (nI 858993459)))).toUInt32 >>> (((nI 4)).toUInt32 &&& Int32.toUInt32 31)).toInt32)) &&& (nI 252645135)) + (((((((((nI n) - (((((nI n)).toUInt32 >>> (((nI 1)).toUInt32 &&& Int32.toUInt32 31)).toInt32) &&& (nI 1431655765))) &&& (nI 858993459)) + ((((((nI n) - (((((nI n)).toUInt32 >>> (((nI 1)).toUInt32 &&& Int32.toUInt32 31)).toInt32) &&& (nI 1431655765)))).toUInt32 >>> (((nI 2)).toUInt32 &&& Int32.toUInt32 31)).toInt32) &&& (nI 858993459))) + (((((((nI n) - (((((nI n)).toUInt32 >>> (((nI 1)).toUInt32 &&& Int32.toUInt32 31)).toInt32) &&& (nI 1431655765))) &&& (nI 858993459)) + ((((((nI n) - (((((nI n)).toUInt32 >>> (((nI 1)).toUInt32 &&& Int32.toUInt32 31)).toInt32) &&& (nI 1431655765)))).toUInt32 >>> (((nI 2)).toUInt32 &&& Int32.toUInt32 31)).toInt32) &&& (nI 858993459)))).toUInt32 >>> (((nI 4)).toUInt32 &&& Int32.toUInt32 31)).toInt32)) &&& (nI 252645135))).toUInt32 >>> (((nI 8)).toUInt32 &&& Int32.toUInt32 31)).toInt32))).toUInt32 >>> (((nI 16)).toUInt32 &&& Int32.toUInt32 31)).toInt32)) &&& (nI 63))) (⟨bc_all n hn, rfl⟩) rfl (by decide) (by decide) dJ6_bitCount_0f7a4_52

set_option maxRecDepth 100000 in
set_option maxHeartbeats 4000000 in
theorem c_X1_clearAll (l : Launch) (G : Gt) (f : Nat → Nat) (lc bc ql : Nat) (ln rs rm bn bd pr ic fl qu rc : Nat → Nat) (gp : Nat → Int) (Y : va_W)  : Cv l G yX1_clearAll (ww yX1_clearAll cX1_clearAll 1 (none : Option ClassFile.FieldType)) (RM 0 0 0) [.ref (f 0)] (fW G f lc bc ql ln rs rm bn bd pr ic fl qu rc gp ++ Y) (fun w2 => w2 = (fW G f 0 0 0 ln rs rm bn bd pr ic fl qu rc gp ++ Y)) := by
  refine Cv.intro (by decide) (Nat.le_of_ble_eq_true rfl) ?_
  intro p e s m args below meth c A X hW ls hl
  have hx := X.exec
  have hb := X.bytes
  have hl : lv_has ls 1 [(0, .ref (f 0))] := hl
  refine lv_aload_n hx hb dX1_clearAll_0 rfl (lv_at hl 0 rfl) ?_
  refine lv_iconst (v := nI 0) hx hb dX1_clearAll_1 (by decide) ?_
  refine x_put X hW 0 rfl 11 (w2 := (fW G f 0 bc ql ln rs rm bn bd pr ic fl qu rc gp ++ Y)) rfl rfl iwX1 tyX1_ok nmX1 (by decide) wq_148 rfl rfl rfl rfl (Nat.le_of_ble_eq_true rfl) dX1_clearAll_2 (fun H locs hW => ?_)
  refine lv_aload_n hx hb dX1_clearAll_5 rfl (lv_at hl 0 rfl) ?_
  refine lv_iconst (v := nI 0) hx hb dX1_clearAll_6 (by decide) ?_
  refine x_put X hW 0 rfl 12 (w2 := (fW G f 0 0 ql ln rs rm bn bd pr ic fl qu rc gp ++ Y)) rfl rfl iwX1 tyX1_ok nmX1 (by decide) wq_151 rfl rfl rfl rfl (Nat.le_of_ble_eq_true rfl) dX1_clearAll_7 (fun H locs hW => ?_)
  refine lv_aload_n hx hb dX1_clearAll_10 rfl (lv_at hl 0 rfl) ?_
  refine lv_iconst (v := nI 0) hx hb dX1_clearAll_11 (by decide) ?_
  refine x_put X hW 0 rfl 13 (w2 := (fW G f 0 0 0 ln rs rm bn bd pr ic fl qu rc gp ++ Y)) rfl rfl iwX1 tyX1_ok nmX1 (by decide) wq_154 rfl rfl rfl rfl (Nat.le_of_ble_eq_true rfl) dX1_clearAll_12 (fun H locs hW => ?_)
  exact ret_v X hW (rfl) rfl (by decide) (by decide) dX1_clearAll_15

/-- the lot that fits, is free, and begins a cheapest way -/
def fcP (it : Nat) (rs g : Nat → Nat) (t : Nat) : Nat → Bool := fun l => it.testBit l && decide (rs l + g (t ||| 2 ^ l) = g t)
set_option maxRecDepth 100000 in
set_option maxHeartbeats 4000000 in
theorem c_X1_firstCheapest (l : Launch) (G : Gt) (f : Nat → Nat) (lc bc ql : Nat) (ln rs rm bn bd pr ic fl qu rc : Nat → Nat) (gp : Nat → Int) (Y : va_W) (free taken : Nat) (hfr : free < 256) (hta : taken < 256) (hlc : lc ≤ 8) (hrs : ∀ k, rs k ≤ 999) (hrc : ∀ k, rc k ≤ 1000000) : Ci l G yX1_firstCheapest (ww yX1_firstCheapest cX1_firstCheapest 4 (some FieldType.int)) (RM 0 0 0) [.ref (f 0), .int (nI free), .int (nI taken)] (fW G f lc bc ql ln rs rm bn bd pr ic fl qu rc gp ++ Y) (fun r w2 => r = zI (orNo (decide ((fst1 (fcP free rs rc taken) lc) < lc)) (fst1 (fcP free rs rc taken) lc)) ∧ w2 = (fW G f lc bc ql ln rs rm bn bd pr ic fl qu rc gp ++ Y)) := by
  refine Ci.intro (by decide) (Nat.le_of_ble_eq_true rfl) ?_
  intro p e s m args below meth c A X hW ls hl
  have hx := X.exec
  have hb := X.bytes
  have hl : lv_has ls 4 [(0, .ref (f 0)), (1, .int (nI free)), (2, .int (nI taken))] := hl
  have loop : ∀ (n : Nat) (k : Nat), lc + 1 ≤ k + n → k ≤ lc → (∀ j, j < k → fcP free rs rc taken j = false) → ∀ (H : Heap) (locs : List Loc) (ls : Array Slot), Wd G A s (fW G f lc bc ql ln rs rm bn bd pr ic fl qu rc gp ++ Y) H locs → lv_has ls 4 [(0, .ref (f 0)), (1, .int (nI free)), (2, .int (nI taken)), (3, .int (nI k))] → W p l e (RM 0 0 0) s m args below meth c H locs 0 0 (MQ below (Qi G A (fun r w2 => r = zI (orNo (decide ((fst1 (fcP free rs rc taken) lc) < lc)) (fst1 (fcP free rs rc taken) lc)) ∧ w2 = (fW G f lc bc ql ln rs rm bn bd pr ic fl qu rc gp ++ Y))) args s (RM 0 0 0).cells (RM 0 0 0).slots A) (F0 m 2 ls []) := by
    intro n
    induction n with
    | zero => intro k h1 h2 h3; exact absurd h1 (by omega)
    | succ n ih =>
      intro k h1 h2 h3 H locs ls hW hl
      have hp2 := fun (h : k < 8) => p2_le h
      refine lv_iload_n hx hb dX1_firstCheapest_2 rfl (lv_at hl 3 rfl) ?_
      refine lv_aload_n hx hb dX1_firstCheapest_3 rfl (lv_at hl 0 rfl) ?_
      refine x_get X hW 0 rfl 11 rfl rfl iwX1 (by decide) wq_148 rfl dX1_firstCheapest_4 ?_
      refine n_icmp_ge hx hb rfl rfl (by omega) (by omega) (tgt := 52) dX1_firstCheapest_7 (by decide) (fun c_7 => ?_) (fun c_7 => ?_)
      · refine lv_iconst (v := zI (-1)) hx hb dX1_firstCheapest_52 (by decide) ?_
        exact ret_i X hW (v := (zI (-1))) (⟨by rw [fst1_no (fun j hj => h3 j (by omega)), decide_eq_false (by omega)]; rfl, rfl⟩) rfl (by decide) (by decide) dX1_firstCheapest_53
      · refine lv_iload_n hx hb dX1_firstCheapest_10 rfl (lv_at hl 1 rfl) ?_
        refine lv_iconst (v := nI 1) hx hb dX1_firstCheapest_11 (by decide) ?_
        refine lv_iload_n hx hb dX1_firstCheapest_12 rfl (lv_at hl 3 rfl) ?_
        refine n_ishl1 hx hb (by omega) dX1_firstCheapest_13 ?_
        refine n_iand hx hb dX1_firstCheapest_14 ?_
        refine n_if_eq hx hb rfl (by have := @and_lt free (2 ^ k) 256 hfr; omega) (tgt := 46) dX1_firstCheapest_15 (by decide) (fun c_15 => ?_) (fun c_15 => ?_)
        · refine lv_iinc (v := (nI (k + 1))) (lv' := [(3, .int (nI (k + 1))), (0, .ref (f 0)), (1, .int (nI free)), (2, .int (nI taken))]) hx hb dX1_firstCheapest_46 hl (k := 3) rfl (nI_add _ _) (by decide) rfl (fun ls hl => ?_)
          refine lv_goto (tgt := 2) hx hb dX1_firstCheapest_49 (by decide) ?_
          exact ih (k + 1) (by omega) (by omega) (fun j hj => by rcases Nat.lt_or_ge j k with q | q; exact h3 j q; rw [show j = k by omega]; rw [fcP, bit_f c_15]; rfl) _ _ _ hW (lv_sub hl [1, 2, 3, 0] rfl)
        · refine lv_aload_n hx hb dX1_firstCheapest_18 rfl (lv_at hl 0 rfl) ?_
          refine x_get X hW 0 rfl 1 rfl rfl iwX1 (by decide) wq_132 rfl dX1_firstCheapest_19 ?_
          refine lv_iload_n hx hb dX1_firstCheapest_22 rfl (lv_at hl 3 rfl) ?_
          refine n_iald X hW (n := 8) (f := rs) 2 rfl (by omega) (by decide) dX1_firstCheapest_23 ?_
          refine lv_aload_n hx hb dX1_firstCheapest_24 rfl (lv_at hl 0 rfl) ?_
          refine x_get X hW 0 rfl 9 rfl rfl iwX1 (by decide) wq_146 rfl dX1_firstCheapest_25 ?_
          refine lv_iload_n hx hb dX1_firstCheapest_28 rfl (lv_at hl 2 rfl) ?_
          refine lv_iconst (v := nI 1) hx hb dX1_firstCheapest_29 (by decide) ?_
          refine lv_iload_n hx hb dX1_firstCheapest_30 rfl (lv_at hl 3 rfl) ?_
          refine n_ishl1 hx hb (by omega) dX1_firstCheapest_31 ?_
          refine n_ior hx hb dX1_firstCheapest_32 ?_
          refine n_iald X hW (n := 256) (f := rc) 10 rfl (or_lt hta (by omega)) (by decide) dX1_firstCheapest_33 ?_
          refine n_iadd hx hb dX1_firstCheapest_34 ?_
          refine lv_aload_n hx hb dX1_firstCheapest_35 rfl (lv_at hl 0 rfl) ?_
          refine x_get X hW 0 rfl 9 rfl rfl iwX1 (by decide) wq_146 rfl dX1_firstCheapest_36 ?_
          refine lv_iload_n hx hb dX1_firstCheapest_39 rfl (lv_at hl 2 rfl) ?_
          refine n_iald X hW (n := 256) (f := rc) 10 rfl (by omega) (by decide) dX1_firstCheapest_40 ?_
          refine n_icmp_ne hx hb rfl rfl (by have := hrs k; have := hrc (taken ||| 2 ^ k); omega) (by have := hrc taken; omega) (tgt := 46) dX1_firstCheapest_41 (by decide) (fun c_41 => ?_) (fun c_41 => ?_)
          · refine lv_iinc (v := (nI (k + 1))) (lv' := [(3, .int (nI (k + 1))), (0, .ref (f 0)), (1, .int (nI free)), (2, .int (nI taken))]) hx hb dX1_firstCheapest_46 hl (k := 3) rfl (nI_add _ _) (by decide) rfl (fun ls hl => ?_)
            refine lv_goto (tgt := 2) hx hb dX1_firstCheapest_49 (by decide) ?_
            exact ih (k + 1) (by omega) (by omega) (fun j hj => by rcases Nat.lt_or_ge j k with q | q; exact h3 j q; rw [show j = k by omega]; rw [fcP, decide_eq_false c_41, Bool.and_false]) _ _ _ hW (lv_sub hl [1, 2, 3, 0] rfl)
          · refine lv_iload_n hx hb dX1_firstCheapest_44 rfl (lv_at hl 3 rfl) ?_
            exact ret_i X hW (v := (nI k)) (⟨by rw [fst1_at (k := k) (by omega) h3 (by rw [fcP, bit_t c_15, decide_eq_true c_41]; rfl), decide_eq_true (by omega)]; exact nZ k, rfl⟩) rfl (by decide) (by decide) dX1_firstCheapest_45
  refine lv_iconst (v := nI 0) hx hb dX1_firstCheapest_0 (by decide) ?_
  refine lv_istore_n (lv' := [(3, .int (nI 0)), (0, .ref (f 0)), (1, .int (nI free)), (2, .int (nI taken))]) hx hb dX1_firstCheapest_1 rfl hl (by decide) rfl (fun ls hl => ?_)
  exact loop (lc + 1) 0 (by omega) (by omega) (fun j hj => absurd hj (by omega)) _ _ _ hW (lv_sub hl [1, 2, 3, 0] rfl)

/-- the least of rs l + g (t and l) over the lots l below n that fit and are not in t -/
def mnl (it : Nat) (rs g : Nat → Nat) (t : Nat) (n : Nat) : Nat := match n with
  | 0 => 1000000
  | n + 1 => if (it.testBit n && !t.testBit n) = true then min (mnl it rs g t n) (rs n + g (t ||| 2 ^ n)) else mnl it rs g t n
theorem mnl_le (it : Nat) (rs g : Nat → Nat) (t n : Nat) : mnl it rs g t n ≤ 1000000 := by
  induction n with
  | zero => exact Nat.le_refl _
  | succ n ih => rw [mnl]; split <;> omega
set_option maxRecDepth 100000 in
set_option maxHeartbeats 4000000 in
theorem c_X1_restCost (l : Launch) (G : Gt) (f : Nat → Nat) (lc bc ql : Nat) (ln rs rm bn bd pr ic fl qu rc : Nat → Nat) (gp : Nat → Int) (Y : va_W) (taken : Nat) (hta : taken < 256) (hlc : lc ≤ 8) (hql : ql ≤ 8) (hrs : ∀ k, rs k ≤ 999) (hrc : ∀ k, rc k ≤ 1000000) (hqu : ∀ k, qu k < 256) : Ci l G yX1_restCost (ww yX1_restCost cX1_restCost 6 (some FieldType.int)) (RM 1 0 0) [.ref (f 0), .int (nI taken)] (fW G f lc bc ql ln rs rm bn bd pr ic fl qu rc gp ++ Y) (fun r w2 => r = nI (if ql ≤ pop taken then 0 else mnl (qu (pop taken)) rs rc taken lc) ∧ w2 = (fW G f lc bc ql ln rs rm bn bd pr ic fl qu rc gp ++ Y)) := by
  refine Ci.intro (by decide) (Nat.le_of_ble_eq_true rfl) ?_
  intro p e s m args below meth c A X hW ls hl
  have hx := X.exec
  have hb := X.bytes
  have hl : lv_has ls 6 [(0, .ref (f 0)), (1, .int (nI taken))] := hl
  have hpop := pop_le taken
  refine lv_iload_n hx hb dX1_restCost_0 rfl (lv_at hl 1 rfl) ?_
  refine go_i X hW (run_S X hW (As := [.int (nI taken)]) (rest := []) (c_J6_bitCount_0f7a4 l G taken (fW G f lc bc ql ln rs rm bn bd pr ic fl qu rc gp ++ Y) (by omega) _) (gi_S wq_347 wq_348 wq_84 wq_349) hyJ6_bitCount_0f7a4 rfl rfl hl.1 (Nat.le_of_ble_eq_true rfl) ⟨Nat.le_of_ble_eq_true rfl, Nat.le_of_ble_eq_true rfl⟩ ⟨by decide, by decide⟩ dX1_restCost_1) (fun r w2 H locs hp hW => ?_)
  obtain ⟨rfl, rfl⟩ := hp
  refine lv_istore_n (lv' := [(2, .int (nI (pop taken))), (0, .ref (f 0)), (1, .int (nI taken))]) hx hb dX1_restCost_4 rfl hl (by decide) rfl (fun ls hl => ?_)
  refine lv_iload_n hx hb dX1_restCost_5 rfl (lv_at hl 0 rfl) ?_
  refine lv_aload_n hx hb dX1_restCost_6 rfl (lv_at hl 1 rfl) ?_
  refine x_get X hW 0 rfl 13 rfl rfl iwX1 (by decide) wq_154 rfl dX1_restCost_7 ?_
  refine n_icmp_lt hx hb rfl rfl (by have := pop_le taken; omega) (by omega) (tgt := 15) dX1_restCost_10 (by decide) (fun c_10 => ?_) (fun c_10 => ?_)
  · refine lv_aload_n hx hb dX1_restCost_15 rfl (lv_at hl 1 rfl) ?_
    refine x_get X hW 0 rfl 8 rfl rfl iwX1 (by decide) wq_145 rfl dX1_restCost_16 ?_
    refine lv_iload_n hx hb dX1_restCost_19 rfl (lv_at hl 0 rfl) ?_
    refine n_iald X hW (n := 8) (f := qu) 9 rfl (by omega) (by decide) dX1_restCost_20 ?_
    refine lv_iload_n hx hb dX1_restCost_21 rfl (lv_at hl 2 rfl) ?_
    refine lv_iconst (v := zI (-1)) hx hb dX1_restCost_22 (by decide) ?_
    refine lv_ixor hx hb dX1_restCost_23 ?_
    refine n_andnot hx hb (hqu _) hta dX1_restCost_24 ?_
    refine lv_istore_n (lv' := [(3, .int (nI ((qu (pop taken)) &&& (taken ^^^ 255)))), (2, .int (nI (pop taken))), (0, .ref (f 0)), (1, .int (nI taken))]) hx hb dX1_restCost_25 rfl hl (by decide) rfl (fun ls hl => ?_)
    refine lv_ldc (v := (nI 1000000)) hx hb X.own (X.ws _ wq_353) dX1_restCost_26 ?_
    refine lv_istore (lv' := [(4, .int (nI 1000000)), (3, .int (nI ((qu (pop taken)) &&& (taken ^^^ 255)))), (2, .int (nI (pop taken))), (0, .ref (f 0)), (1, .int (nI taken))]) hx hb dX1_restCost_28 hl (by decide) rfl (fun ls hl => ?_)
    refine lv_iconst (v := nI 0) hx hb dX1_restCost_30 (by decide) ?_
    refine lv_istore (lv' := [(5, .int (nI 0)), (4, .int (nI 1000000)), (3, .int (nI ((qu (pop taken)) &&& (taken ^^^ 255)))), (2, .int (nI (pop taken))), (0, .ref (f 0)), (1, .int (nI taken))]) hx hb dX1_restCost_31 hl (by decide) rfl (fun ls hl => ?_)
    have loop : ∀ (n : Nat) (k : Nat), lc + 1 ≤ k + n → k ≤ lc → ∀ (H : Heap) (locs : List Loc) (ls : Array Slot), Wd G A s (fW G f lc bc ql ln rs rm bn bd pr ic fl qu rc gp ++ Y) H locs → lv_has ls 6 [(0, .ref (f 0)), (1, .int (nI taken)), (2, .int (nI (pop taken))), (3, .int (nI ((qu (pop taken)) &&& (taken ^^^ 255)))), (4, .int (nI (mnl (qu (pop taken)) rs rc taken k))), (5, .int (nI k))] → W p l e (RM 1 0 0) s m args below meth c H locs 0 0 (MQ below (Qi G A (fun r w2 => r = nI (if ql ≤ pop taken then 0 else mnl (qu (pop taken)) rs rc taken lc) ∧ w2 = (fW G f lc bc ql ln rs rm bn bd pr ic fl qu rc gp ++ Y))) args s (RM 1 0 0).cells (RM 1 0 0).slots A) (F0 m 33 ls []) := by
      intro n
      induction n with
      | zero => intro k h1 h2; exact absurd h1 (by omega)
      | succ n ih =>
        intro k h1 h2 H locs ls hW hl
        have hp2 := fun (h : k < 8) => p2_le h
        refine lv_iload hx hb dX1_restCost_33 (lv_at hl 5 rfl) ?_
        refine lv_aload_n hx hb dX1_restCost_35 rfl (lv_at hl 0 rfl) ?_
        refine x_get X hW 0 rfl 11 rfl rfl iwX1 (by decide) wq_148 rfl dX1_restCost_36 ?_
        refine n_icmp_ge hx hb rfl rfl (by omega) (by omega) (tgt := 83) dX1_restCost_39 (by decide) (fun c_39 => ?_) (fun c_39 => ?_)
        · refine lv_iload hx hb dX1_restCost_83 (lv_at hl 4 rfl) ?_
          exact ret_i X hW (v := (nI (mnl (qu (pop taken)) rs rc taken k))) (⟨by rw [if_neg (by omega), show lc = k by omega], rfl⟩) rfl (by decide) (by decide) dX1_restCost_85
        · refine lv_iload_n hx hb dX1_restCost_42 rfl (lv_at hl 3 rfl) ?_
          refine lv_iconst (v := nI 1) hx hb dX1_restCost_43 (by decide) ?_
          refine lv_iload hx hb dX1_restCost_44 (lv_at hl 5 rfl) ?_
          refine n_ishl1 hx hb (by omega) dX1_restCost_46 ?_
          refine n_iand hx hb dX1_restCost_47 ?_
          refine n_if_eq hx hb rfl (by have := @and_lt ((qu (pop taken)) &&& (taken ^^^ 255)) (2 ^ k) 256 (and_lt (hqu _)); omega) (tgt := 77) dX1_restCost_48 (by decide) (fun c_48 => ?_) (fun c_48 => ?_)
          · refine lv_iinc (v := (nI (k + 1))) (lv' := [(5, .int (nI (k + 1))), (0, .ref (f 0)), (1, .int (nI taken)), (2, .int (nI (pop taken))), (3, .int (nI ((qu (pop taken)) &&& (taken ^^^ 255)))), (4, .int (nI (mnl (qu (pop taken)) rs rc taken k)))]) hx hb dX1_restCost_77 hl (k := 5) rfl (nI_add _ _) (by decide) rfl (fun ls hl => ?_)
            refine lv_goto (tgt := 33) hx hb dX1_restCost_80 (by decide) ?_
            exact ih (k + 1) (by omega) (by omega) _ _ _ hW (by rw [show mnl (qu (pop taken)) rs rc taken (k + 1) = (mnl (qu (pop taken)) rs rc taken k) by rw [mnl, ← bit_andnot (by omega), if_neg (by rw [bit_f c_48]; decide)]]; exact lv_sub hl [1, 2, 3, 4, 5, 0] rfl)
          · refine lv_iload hx hb dX1_restCost_51 (lv_at hl 4 rfl) ?_
            refine lv_aload_n hx hb dX1_restCost_53 rfl (lv_at hl 0 rfl) ?_
            refine x_get X hW 0 rfl 1 rfl rfl iwX1 (by decide) wq_132 rfl dX1_restCost_54 ?_
            refine lv_iload hx hb dX1_restCost_57 (lv_at hl 5 rfl) ?_
            refine n_iald X hW (n := 8) (f := rs) 2 rfl (by omega) (by decide) dX1_restCost_59 ?_
            refine lv_aload_n hx hb dX1_restCost_60 rfl (lv_at hl 0 rfl) ?_
            refine x_get X hW 0 rfl 9 rfl rfl iwX1 (by decide) wq_146 rfl dX1_restCost_61 ?_
            refine lv_iload_n hx hb dX1_restCost_64 rfl (lv_at hl 1 rfl) ?_
            refine lv_iconst (v := nI 1) hx hb dX1_restCost_65 (by decide) ?_
            refine lv_iload hx hb dX1_restCost_66 (lv_at hl 5 rfl) ?_
            refine n_ishl1 hx hb (by omega) dX1_restCost_68 ?_
            refine n_ior hx hb dX1_restCost_69 ?_
            refine n_iald X hW (n := 256) (f := rc) 10 rfl (or_lt hta (by omega)) (by decide) dX1_restCost_70 ?_
            refine n_iadd hx hb dX1_restCost_71 ?_
            refine x_min X hl.1 (by have := mnl_le (qu (pop taken)) rs rc taken k; omega) (by have := hrs k; have := hrc (taken ||| 2 ^ k); omega) wq_354 (Nat.le_of_ble_eq_true rfl) (Nat.le_of_ble_eq_true rfl) (by decide) (by decide) dX1_restCost_72 ?_
            refine lv_istore (lv' := [(4, .int (nI (min (mnl (qu (pop taken)) rs rc taken k) ((rs k) + (rc (taken ||| (2 ^ k))))))), (0, .ref (f 0)), (1, .int (nI taken)), (2, .int (nI (pop taken))), (3, .int (nI ((qu (pop taken)) &&& (taken ^^^ 255)))), (5, .int (nI k))]) hx hb dX1_restCost_75 hl (by decide) rfl (fun ls hl => ?_)
            refine lv_iinc (v := (nI (k + 1))) (lv' := [(5, .int (nI (k + 1))), (4, .int (nI (min (mnl (qu (pop taken)) rs rc taken k) ((rs k) + (rc (taken ||| (2 ^ k))))))), (0, .ref (f 0)), (1, .int (nI taken)), (2, .int (nI (pop taken))), (3, .int (nI ((qu (pop taken)) &&& (taken ^^^ 255))))]) hx hb dX1_restCost_77 hl (k := 5) rfl (nI_add _ _) (by decide) rfl (fun ls hl => ?_)
            refine lv_goto (tgt := 33) hx hb dX1_restCost_80 (by decide) ?_
            exact ih (k + 1) (by omega) (by omega) _ _ _ hW (by rw [show mnl (qu (pop taken)) rs rc taken (k + 1) = (min (mnl (qu (pop taken)) rs rc taken k) ((rs k) + (rc (taken ||| (2 ^ k))))) by rw [mnl, ← bit_andnot (by omega), if_pos (bit_t c_48)]]; exact lv_sub hl [2, 3, 4, 5, 1, 0] rfl)
    exact loop (lc + 1) 0 (by omega) (by omega) _ _ _ hW (lv_sub hl [4, 5, 3, 2, 1, 0] rfl)
  · refine lv_iconst (v := nI 0) hx hb dX1_restCost_13 (by decide) ?_
    exact ret_i X hW (v := (nI 0)) (⟨by rw [if_pos (by omega)], rfl⟩) rfl (by decide) (by decide) dX1_restCost_14

