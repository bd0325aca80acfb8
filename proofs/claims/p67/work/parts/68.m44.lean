theorem i_639 : (2147483639 : Int32).toInt = 2147483639 := by decide
theorem i_647 : (2147483647 : Int32).toInt = 2147483647 := by decide
theorem i_631 : (2147483631 : Int32).toInt = 2147483631 := by decide
theorem yu_J5_ensureCapacityInternal_d00df : Yu RJ4 RJ5 yJ5_ensureCapacityInternal_d00df yJ5_ensureCapacityInternal_d00df cJ5_ensureCapacityInternal_d00df 3 none 1 := ⟨⟨TT_t 1482 (by decide +kernel) (by decide +kernel), Or.inr (List.mem_of_getElem? (i := 0) rfl), TT_t 316 (by decide +kernel) (by decide +kernel), TT_t 3 (by decide +kernel) (by decide +kernel), TT_t 317 (by decide +kernel) (by decide +kernel)⟩, ⟨TT_t 316 (by decide +kernel) (by decide +kernel), cJ5_ensureCapacityInternal_d00df, 3, none, TT_t 317 (by decide +kernel) (by decide +kernel)⟩, ⟨by decide +kernel, by decide +kernel, by decide +kernel⟩, by decide⟩
theorem yu_J5_newCapacity_0f7a4 : Yu RJ4 RJ5 yJ5_newCapacity_0f7a4 yJ5_newCapacity_0f7a4 cJ5_newCapacity_0f7a4 6 (some FieldType.int) 1 := ⟨⟨TT_t 1483 (by decide +kernel) (by decide +kernel), Or.inr (List.mem_of_getElem? (i := 1) rfl), TT_t 320 (by decide +kernel) (by decide +kernel), TT_t 3 (by decide +kernel) (by decide +kernel), TT_t 321 (by decide +kernel) (by decide +kernel)⟩, ⟨TT_t 320 (by decide +kernel) (by decide +kernel), cJ5_newCapacity_0f7a4, 6, (some FieldType.int), TT_t 321 (by decide +kernel) (by decide +kernel)⟩, ⟨by decide +kernel, by decide +kernel, by decide +kernel⟩, by decide⟩
theorem yu_J5_putStringAt_47b60 : Yu RJ4 RJ5 yJ5_putStringAt_47b60 yJ5_putStringAt_47b60 cJ5_putStringAt_47b60 3 none 2 := ⟨⟨TT_t 1484 (by decide +kernel) (by decide +kernel), Or.inr (List.mem_of_getElem? (i := 2) rfl), TT_t 382 (by decide +kernel) (by decide +kernel), TT_t 3 (by decide +kernel) (by decide +kernel), TT_t 383 (by decide +kernel) (by decide +kernel)⟩, ⟨TT_t 382 (by decide +kernel) (by decide +kernel), cJ5_putStringAt_47b60, 3, none, TT_t 383 (by decide +kernel) (by decide +kernel)⟩, ⟨by decide +kernel, by decide +kernel, by decide +kernel⟩, by decide⟩
theorem yu_J5_inflateIfNeededFor_a7421 : Yu RJ4 RJ5 yJ5_inflateIfNeededFor_a7421 yJ5_inflateIfNeededFor_a7421 cJ5_inflateIfNeededFor_a7421 2 none 1 := ⟨⟨TT_t 1485 (by decide +kernel) (by decide +kernel), Or.inr (List.mem_of_getElem? (i := 3) rfl), TT_t 386 (by decide +kernel) (by decide +kernel), TT_t 3 (by decide +kernel) (by decide +kernel), TT_t 387 (by decide +kernel) (by decide +kernel)⟩, ⟨TT_t 386 (by decide +kernel) (by decide +kernel), cJ5_inflateIfNeededFor_a7421, 2, none, TT_t 387 (by decide +kernel) (by decide +kernel)⟩, ⟨by decide +kernel, by decide +kernel, by decide +kernel⟩, by decide⟩
theorem yu_J5_isLatin1_aae02 : Yu RJ4 RJ5 yJ5_isLatin1_aae02 yJ5_isLatin1_aae02 cJ5_isLatin1_aae02 1 (some FieldType.boolean) 0 := ⟨⟨TT_t 350 (by decide +kernel) (by decide +kernel), Or.inl (TT_t 351 (by decide +kernel) (by decide +kernel)), TT_t 349 (by decide +kernel) (by decide +kernel), TT_t 3 (by decide +kernel) (by decide +kernel), TT_t 352 (by decide +kernel) (by decide +kernel)⟩, ⟨TT_t 349 (by decide +kernel) (by decide +kernel), cJ5_isLatin1_aae02, 1, (some FieldType.boolean), TT_t 352 (by decide +kernel) (by decide +kernel)⟩, ⟨by decide +kernel, by decide +kernel, by decide +kernel⟩, by decide⟩
theorem yu_J5_getValue_6d5f1 : Yu RJ4 RJ5 yJ5_getValue_6d5f1 yJ5_getValue_6d5f1 cJ5_getValue_6d5f1 1 (some (FieldType.array FieldType.byte)) 0 := ⟨⟨TT_t 1438 (by decide +kernel) (by decide +kernel), Or.inl (TT_t 1439 (by decide +kernel) (by decide +kernel)), TT_t 1437 (by decide +kernel) (by decide +kernel), TT_t 3 (by decide +kernel) (by decide +kernel), TT_t 1440 (by decide +kernel) (by decide +kernel)⟩, ⟨TT_t 1437 (by decide +kernel) (by decide +kernel), cJ5_getValue_6d5f1, 1, (some (FieldType.array FieldType.byte)), TT_t 1440 (by decide +kernel) (by decide +kernel)⟩, ⟨by decide +kernel, by decide +kernel, by decide +kernel⟩, by decide⟩
theorem yu_J5_length_8abf5 : Yu RJ4 RJ5 yJ5_length_8abf5 yJ4_length_8abf5 cJ4_length_8abf5 1 (some FieldType.int) 0 := ⟨⟨TT_t 1490 (by decide +kernel) (by decide +kernel), Or.inl (TT_t 1492 (by decide +kernel) (by decide +kernel)), TT_t 1371 (by decide +kernel) (by decide +kernel), TT_t 4 (by decide +kernel) (by decide +kernel), TT_t 1373 (by decide +kernel) (by decide +kernel)⟩, ⟨TT_t 1375 (by decide +kernel) (by decide +kernel), cJ5_length_8abf5, 1, (some FieldType.int), TT_t 1376 (by decide +kernel) (by decide +kernel)⟩, ⟨by decide +kernel, by decide +kernel, by decide +kernel⟩, by decide⟩
theorem yu_J5_append_cf1ce : Yu RJ4 RJ5 yJ5_append_cf1ce yJ4_append_cf1ce cJ4_append_cf1ce 2 (some (FieldType.object "java/lang/AbstractStringBuilder")) 1 := ⟨⟨TT_t 299 (by decide +kernel) (by decide +kernel), Or.inl (TT_t 300 (by decide +kernel) (by decide +kernel)), TT_t 301 (by decide +kernel) (by decide +kernel), TT_t 4 (by decide +kernel) (by decide +kernel), TT_t 302 (by decide +kernel) (by decide +kernel)⟩, ⟨TT_t 298 (by decide +kernel) (by decide +kernel), cJ5_append_cf1ce, 3, (some (FieldType.object "java/lang/AbstractStringBuilder")), TT_t 309 (by decide +kernel) (by decide +kernel)⟩, ⟨by decide +kernel, by decide +kernel, by decide +kernel⟩, by decide⟩
theorem yw_J5_append_cf1ce : Ysu RJ4 yJ5_append_cf1ce cJ5_append_cf1ce 3 (some (FieldType.object "java/lang/AbstractStringBuilder")) 1 := ⟨⟨TT_t 299 (by decide +kernel) (by decide +kernel), TT_t 308 (by decide +kernel) (by decide +kernel), TT_t 298 (by decide +kernel) (by decide +kernel), TT_t 3 (by decide +kernel) (by decide +kernel), TT_t 309 (by decide +kernel) (by decide +kernel)⟩, ⟨by decide +kernel, by decide +kernel⟩, by decide⟩
theorem yw_J5_append_3fe6f : Ysu RJ4 yJ5_append_3fe6f cJ5_append_3fe6f 2 (some (FieldType.object "java/lang/AbstractStringBuilder")) 1 := ⟨⟨TT_t 1488 (by decide +kernel) (by decide +kernel), TT_t 308 (by decide +kernel) (by decide +kernel), TT_t 496 (by decide +kernel) (by decide +kernel), TT_t 3 (by decide +kernel) (by decide +kernel), TT_t 497 (by decide +kernel) (by decide +kernel)⟩, ⟨by decide +kernel, by decide +kernel⟩, by decide⟩
theorem yw_J5_append_c97b9 : Ysu RJ4 yJ5_append_c97b9 cJ5_append_c97b9 4 (some (FieldType.object "java/lang/AbstractStringBuilder")) 1 := ⟨⟨TT_t 1487 (by decide +kernel) (by decide +kernel), TT_t 308 (by decide +kernel) (by decide +kernel), TT_t 466 (by decide +kernel) (by decide +kernel), TT_t 3 (by decide +kernel) (by decide +kernel), TT_t 467 (by decide +kernel) (by decide +kernel)⟩, ⟨by decide +kernel, by decide +kernel⟩, by decide⟩
theorem yw_J5_length_8abf5 : Ysu RJ4 yJ5_length_8abf5 cJ5_length_8abf5 1 (some FieldType.int) 0 := ⟨⟨TT_t 1490 (by decide +kernel) (by decide +kernel), TT_t 308 (by decide +kernel) (by decide +kernel), TT_t 1375 (by decide +kernel) (by decide +kernel), TT_t 3 (by decide +kernel) (by decide +kernel), TT_t 1376 (by decide +kernel) (by decide +kernel)⟩, ⟨by decide +kernel, by decide +kernel⟩, by decide⟩
theorem yw_J5_charAt_5068e : Ysu RJ4 yJ5_charAt_5068e cJ5_charAt_5068e 5 (some FieldType.char) 1 := ⟨⟨TT_t 1491 (by decide +kernel) (by decide +kernel), TT_t 308 (by decide +kernel) (by decide +kernel), TT_t 1385 (by decide +kernel) (by decide +kernel), TT_t 3 (by decide +kernel) (by decide +kernel), TT_t 1386 (by decide +kernel) (by decide +kernel)⟩, ⟨by decide +kernel, by decide +kernel⟩, by decide⟩
theorem yc_J5_init_d00df : Yc yJ5_init_d00df cJ5_init_d00df 2 1 := ⟨⟨TT_t 1324 (by decide +kernel) (by decide +kernel), TT_t 3 (by decide +kernel) (by decide +kernel), TT_t 1325 (by decide +kernel) (by decide +kernel)⟩, rfl, ⟨by decide +kernel, by decide +kernel, by decide +kernel⟩, by decide⟩
theorem yc_J5_init_a7421 : Yc yJ5_init_a7421 cJ5_init_a7421 5 1 := ⟨⟨TT_t 274 (by decide +kernel) (by decide +kernel), TT_t 3 (by decide +kernel) (by decide +kernel), TT_t 275 (by decide +kernel) (by decide +kernel)⟩, rfl, ⟨by decide +kernel, by decide +kernel, by decide +kernel⟩, by decide⟩
theorem yc_J0_init_81219 : Yc yJ0_init_81219 cJ0_init_81219 2 1 := ⟨⟨TT_t 1430 (by decide +kernel) (by decide +kernel), TT_t 5 (by decide +kernel) (by decide +kernel), TT_t 1431 (by decide +kernel) (by decide +kernel)⟩, rfl, ⟨by decide +kernel, by decide +kernel, by decide +kernel⟩, by decide⟩
theorem yc_J0_init_db425 : Yc yJ0_init_db425 cJ0_init_db425 5 2 := ⟨⟨TT_t 1433 (by decide +kernel) (by decide +kernel), TT_t 5 (by decide +kernel) (by decide +kernel), TT_t 1434 (by decide +kernel) (by decide +kernel)⟩, rfl, ⟨by decide +kernel, by decide +kernel, by decide +kernel⟩, by decide⟩
theorem fwf_J0_0 : FWf RJ0 9 0 (.array .byte) := ⟨(RJ0, TJ0, 4), tyJ0, rfl, tyJ0_ok, nmJ0, rfl, rfl, by decide +kernel⟩
theorem fwf_J0_1 : FWf RJ0 9 1 .byte := ⟨(RJ0, TJ0, 4), tyJ0, rfl, tyJ0_ok, nmJ0, rfl, rfl, by decide +kernel⟩
theorem nw_L_218 : NWo RL 218 6 2 [.null, .int 0] := by
  refine ⟨(RX6, TX6, 2), tyX6, rfl, inTX6, tyX6_ok, TT_t 243 (by decide +kernel) (by decide +kernel), TT_t 244 (by decide +kernel) (by decide +kernel), TT_t 1 (by decide +kernel) (by decide +kernel), ?_, rfl⟩
  intro j hj
  match j, hj with
  | 0, _ => rfl
  | 1, _ => rfl
  | j + 2, hj => exact absurd (show j + 2 < 2 from hj) (by omega)
theorem nw_L_155 : NWo RL 155 7 7 [.null, .null, .null, .null, .null, .int 0, .int 0] := by
  refine ⟨(RX7, TX7, 7), tyX7, rfl, inTX7, tyX7_ok, TT_t 261 (by decide +kernel) (by decide +kernel), TT_t 262 (by decide +kernel) (by decide +kernel), TT_t 2 (by decide +kernel) (by decide +kernel), ?_, rfl⟩
  intro j hj
  match j, hj with
  | 0, _ => rfl
  | 1, _ => rfl
  | 2, _ => rfl
  | 3, _ => rfl
  | 4, _ => rfl
  | 5, _ => rfl
  | 6, _ => rfl
  | j + 7, hj => exact absurd (show j + 7 < 7 from hj) (by omega)
theorem nw_X7_7 : NWo RX7 7 10 4 [.null, .int 0, .int 0, .int 0] := by
  refine ⟨(RJ4, TJ4, 4), tyJ4, rfl, inTJ4, tyJ4_ok, TT_t 267 (by decide +kernel) (by decide +kernel), TT_t 268 (by decide +kernel) (by decide +kernel), TT_t 4 (by decide +kernel) (by decide +kernel), ?_, rfl⟩
  intro j hj
  match j, hj with
  | 0, _ => rfl
  | 1, _ => rfl
  | 2, _ => rfl
  | 3, _ => rfl
  | j + 4, hj => exact absurd (show j + 4 < 4 from hj) (by omega)
theorem nw_X7_38 : NWo RX7 38 8 5 [.int 0, .int 0, .int 0, .null, .int 0] := by
  refine ⟨(RX8, TX8, 5), tyX8, rfl, inTX8, tyX8_ok, TT_t 429 (by decide +kernel) (by decide +kernel), TT_t 431 (by decide +kernel) (by decide +kernel), TT_t 13 (by decide +kernel) (by decide +kernel), ?_, rfl⟩
  intro j hj
  match j, hj with
  | 0, _ => rfl
  | 1, _ => rfl
  | 2, _ => rfl
  | 3, _ => rfl
  | 4, _ => rfl
  | j + 5, hj => exact absurd (show j + 5 < 5 from hj) (by omega)
theorem nw_L_268 : NWo RL 268 10 4 [.null, .int 0, .int 0, .int 0] := by
  refine ⟨(RJ4, TJ4, 4), tyJ4, rfl, inTJ4, tyJ4_ok, TT_t 1319 (by decide +kernel) (by decide +kernel), TT_t 268 (by decide +kernel) (by decide +kernel), TT_t 4 (by decide +kernel) (by decide +kernel), ?_, rfl⟩
  intro j hj
  match j, hj with
  | 0, _ => rfl
  | 1, _ => rfl
  | 2, _ => rfl
  | 3, _ => rfl
  | j + 4, hj => exact absurd (show j + 4 < 4 from hj) (by omega)
theorem nw_J4_18 : NWo RJ4 18 9 4 [.null, .int 0, .int 0, .int 0] := by
  refine ⟨(RJ0, TJ0, 4), tyJ0, rfl, inTJ0, tyJ0_ok, TT_t 1427 (by decide +kernel) (by decide +kernel), TT_t 1428 (by decide +kernel) (by decide +kernel), TT_t 5 (by decide +kernel) (by decide +kernel), ?_, rfl⟩
  intro j hj
  match j, hj with
  | 0, _ => rfl
  | 1, _ => rfl
  | 2, _ => rfl
  | 3, _ => rfl
  | j + 4, hj => exact absurd (show j + 4 < 4 from hj) (by omega)
theorem nw_J7_45 : NWo RJ7 45 10 4 [.null, .int 0, .int 0, .int 0] := by
  refine ⟨(RJ4, TJ4, 4), tyJ4, rfl, inTJ4, tyJ4_ok, TT_t 1453 (by decide +kernel) (by decide +kernel), TT_t 268 (by decide +kernel) (by decide +kernel), TT_t 4 (by decide +kernel) (by decide +kernel), ?_, rfl⟩
  intro j hj
  match j, hj with
  | 0, _ => rfl
  | 1, _ => rfl
  | 2, _ => rfl
  | 3, _ => rfl
  | j + 4, hj => exact absurd (show j + 4 < 4 from hj) (by omega)
set_option maxHeartbeats 16000000 in
theorem c_J8_newLength_cabcc {l : Launch} (hl : l.stackTraces = false) {κ : Kp} {o g p M : Nat} {ws : va_W} (hM : (if g < p then p else g) = M) (h0 : 0 < o + M) (h1 : o < 2 ^ 20) (h2 : g < 2 ^ 20) (h3 : p < 2 ^ 20) (h4 : M < 2 ^ 20) : CtG SS MM l κ yJ8_newLength_cabcc cJ8_newLength_cabcc 4 (some FieldType.int) 0 0 0 [.int (nI o), .int (nI g), .int (nI p)] (ws) ri (fun r w => r = nI (o + M) ∧ w = ws) (fun _ _ => False) := by
  refine CtG.of (own := RJ8) (by decide) rfl hl (by intro v hv; simp only [List.mem_cons, List.not_mem_nil, or_false] at hv; first | (rcases hv with rfl | rfl | rfl | rfl | rfl | rfl <;> rfl) | (rcases hv with rfl | rfl | rfl | rfl | rfl <;> rfl) | (rcases hv with rfl | rfl | rfl | rfl <;> rfl) | (rcases hv with rfl | rfl | rfl <;> rfl) | (rcases hv with rfl | rfl <;> rfl) | (subst hv; rfl) | exact hv.elim) (Nat.le_of_ble_eq_true rfl) (fun X hxl hxk C F NH hnm => ?_)
  subst hxl hxk
  show V X iW 0 [some (.int (nI o)), some (.int (nI g)), some (.int (nI p)), none] [] (ws) 0 0
  refine v_iload_n C dJ8_newLength_cabcc_0 rfl ?_
  refine v_iload_n C dJ8_newLength_cabcc_1 rfl ?_
  refine v_iload_n C dJ8_newLength_cabcc_2 rfl ?_
  refine v_mmax (z := nI M) C ml_J8_194 w_maxS w_mI w_maxC rfl (Nat.le_of_ble_eq_true rfl) dJ8_newLength_cabcc_3 (by first | omega | exact Nat.le_of_ble_eq_true rfl) (by first | omega | exact Nat.le_of_ble_eq_true rfl) ?_ ?_
  · rw [mx_n (by omega) (by omega), hM]
  first | refine v_iaddN C dJ8_newLength_cabcc_6 ?_ | refine v_iadd C dJ8_newLength_cabcc_6 ?_
  refine v_istore_n C (lo2 := [some _, some _, some _, some _]) dJ8_newLength_cabcc_7 rfl (Nat.le_of_ble_eq_true rfl) rfl ?_
  refine v_iconst (v := nI 0) C dJ8_newLength_cabcc_8 (by decide) ?_
  refine v_iload_n C dJ8_newLength_cabcc_9 rfl ?_
  first | refine v_icmp_geN C 21 dJ8_newLength_cabcc_10 (by decide) (by omega) (by omega) (fun c10 => ?_) (fun c10 => ?_) | refine v_icmp_ge C 21 dJ8_newLength_cabcc_10 (by decide) (fun c10 => ?_) (fun c10 => ?_)
  · exact absurd c10 (by omega)
  · refine v_iload_n C dJ8_newLength_cabcc_13 rfl ?_
    refine v_ldcI (v := 2147483639) C (TT_t 328 (by decide +kernel) (by decide +kernel)) dJ8_newLength_cabcc_14 ?_
    refine v_icmp_gt C 21 dJ8_newLength_cabcc_16 (by decide) (fun c16 => ?_) (fun c16 => ?_)
    · exact absurd c16 (by rw [nI_toInt (by omega)]; rw [i_639]; omega)
    · refine v_iload_n C dJ8_newLength_cabcc_19 rfl ?_
      refine v_iretG C F (by first | rfl | exact bI_nar _) dJ8_newLength_cabcc_20 (by first | omega | exact Nat.le_of_ble_eq_true rfl) (by first | omega | exact Nat.le_of_ble_eq_true rfl) rfl (List.Perm.refl _) ?_
      first | exact rfl | exact ⟨rfl, rfl⟩
set_option maxHeartbeats 16000000 in
theorem c_J1_canEncode_fc78d {l : Launch} (hl : l.stackTraces = false) {κ : Kp} {c : Nat} {ws : va_W} (hc : c < 128) : CtG SS MM l κ yJ1_canEncode_fc78d cJ1_canEncode_fc78d 1 (some FieldType.boolean) 0 0 0 [.int (nI c)] (ws) ri (fun r w => r = nI 1 ∧ w = ws) (fun _ _ => False) := by
  refine CtG.of (own := RJ1) (by decide) rfl hl (by intro v hv; simp only [List.mem_cons, List.not_mem_nil, or_false] at hv; first | (rcases hv with rfl | rfl | rfl | rfl | rfl | rfl <;> rfl) | (rcases hv with rfl | rfl | rfl | rfl | rfl <;> rfl) | (rcases hv with rfl | rfl | rfl | rfl <;> rfl) | (rcases hv with rfl | rfl | rfl <;> rfl) | (rcases hv with rfl | rfl <;> rfl) | (subst hv; rfl) | exact hv.elim) (Nat.le_of_ble_eq_true rfl) (fun X hxl hxk C F NH hnm => ?_)
  subst hxl hxk
  show V X iW 0 [some (.int (nI c))] [] (ws) 0 0
  refine v_iload_n C dJ1_canEncode_fc78d_0 rfl ?_
  refine v_sipush (v := nI 255) C dJ1_canEncode_fc78d_1 (by decide) ?_
  first | refine v_icmp_gtN C 11 dJ1_canEncode_fc78d_4 (by decide) (by omega) (by omega) (fun c4 => ?_) (fun c4 => ?_) | refine v_icmp_gt C 11 dJ1_canEncode_fc78d_4 (by decide) (fun c4 => ?_) (fun c4 => ?_)
  · exact absurd c4 (by omega)
  · refine v_iconst (v := nI 1) C dJ1_canEncode_fc78d_7 (by decide) ?_
    refine v_goto C 12 dJ1_canEncode_fc78d_8 (by decide) ?_
    refine v_iretG C F (by first | rfl | exact bI_nar _) dJ1_canEncode_fc78d_12 (by first | omega | exact Nat.le_of_ble_eq_true rfl) (by first | omega | exact Nat.le_of_ble_eq_true rfl) rfl (List.Perm.refl _) ?_
    first | exact rfl | exact ⟨rfl, rfl⟩
set_option maxHeartbeats 16000000 in
theorem c_J7_checkLength_df160 {l : Launch} (hl : l.stackTraces = false) {κ : Kp} {a b : Nat} {ws : va_W} (h1 : a ≤ b) (h2 : b < 2 ^ 31) : CtG SS MM l κ yJ7_checkLength_df160 cJ7_checkLength_df160 2 none 0 0 0 [.int (nI a), .int (nI b)] (ws) rv (fun _ w => w = ws) (fun _ _ => False) := by
  refine CtG.of (own := RJ7) (by decide) rfl hl (by intro v hv; simp only [List.mem_cons, List.not_mem_nil, or_false] at hv; first | (rcases hv with rfl | rfl | rfl | rfl | rfl | rfl <;> rfl) | (rcases hv with rfl | rfl | rfl | rfl | rfl <;> rfl) | (rcases hv with rfl | rfl | rfl | rfl <;> rfl) | (rcases hv with rfl | rfl | rfl <;> rfl) | (rcases hv with rfl | rfl <;> rfl) | (subst hv; rfl) | exact hv.elim) (Nat.le_of_ble_eq_true rfl) (fun X hxl hxk C F NH hnm => ?_)
  subst hxl hxk
  show V X iW 0 [some (.int (nI a)), some (.int (nI b))] [] (ws) 0 0
  refine v_iload_n C dJ7_checkLength_df160_0 rfl ?_
  refine v_iload_n C dJ7_checkLength_df160_1 rfl ?_
  first | refine v_icmp_geN C 37 dJ7_checkLength_df160_2 (by decide) (by omega) (by omega) (fun c2 => ?_) (fun c2 => ?_) | refine v_icmp_ge C 37 dJ7_checkLength_df160_2 (by decide) (fun c2 => ?_) (fun c2 => ?_)
  · refine v_vretG C (r := ()) F dJ7_checkLength_df160_37 (by first | omega | exact Nat.le_of_ble_eq_true rfl) (by first | omega | exact Nat.le_of_ble_eq_true rfl) rfl (List.Perm.refl _) ?_
    first | exact rfl | exact ⟨rfl, rfl⟩
  · exact absurd c2 (by omega)
set_option maxHeartbeats 16000000 in
theorem c_stringSize1 {l : Launch} (hl : l.stackTraces = false) {κ : Kp} {x : Nat} {ws : va_W} (h0 : 0 ≤ x) (h1 : x < 10) : CtG SS MM l κ yJ6_stringSize_0f7a4 cJ6_stringSize_0f7a4 4 (some FieldType.int) 0 0 0 [.int (nI x)] (ws) ri (fun r w => r = nI 1 ∧ w = ws) (fun _ _ => False) := by
  refine CtG.of (own := RJ6) (by decide) rfl hl (by intro v hv; simp only [List.mem_cons, List.not_mem_nil, or_false] at hv; first | (rcases hv with rfl | rfl | rfl | rfl | rfl | rfl <;> rfl) | (rcases hv with rfl | rfl | rfl | rfl | rfl <;> rfl) | (rcases hv with rfl | rfl | rfl | rfl <;> rfl) | (rcases hv with rfl | rfl | rfl <;> rfl) | (rcases hv with rfl | rfl <;> rfl) | (subst hv; rfl) | exact hv.elim) (Nat.le_of_ble_eq_true rfl) (fun X hxl hxk C F NH hnm => ?_)
  subst hxl hxk
  show V X iW 0 [some (.int (nI x)), none, none, none] [] (ws) 0 0
  have hng := nI_neg (x := x) (by omega)
  have e1 : (-10 : Int32).toInt = -10 := by decide
  have e2 : (nI 10 * (-10 : Int32)).toInt = -100 := by decide
  have e3 : (nI 10 * (nI 10 * (-10 : Int32))).toInt = -1000 := by decide
  refine v_iconst (v := nI 1) C dJ6_stringSize_0f7a4_0 (by decide) ?_
  refine v_istore_n C (lo2 := [some _, some _, none, none]) dJ6_stringSize_0f7a4_1 rfl (Nat.le_of_ble_eq_true rfl) rfl ?_
  refine v_iload_n C dJ6_stringSize_0f7a4_2 rfl ?_
  refine v_if_lt C 11 dJ6_stringSize_0f7a4_3 (by decide) (fun c3 => ?_) (fun c3 => ?_)
  · exact absurd c3 (by rw [nI_toInt (by omega)]; omega)
  · refine v_iconst (v := nI 0) C dJ6_stringSize_0f7a4_6 (by decide) ?_
    refine v_istore_n C (lo2 := [some _, some _, none, none]) dJ6_stringSize_0f7a4_7 rfl (Nat.le_of_ble_eq_true rfl) rfl ?_
    refine v_iload_n C dJ6_stringSize_0f7a4_8 rfl ?_
    refine v_ineg C dJ6_stringSize_0f7a4_9 ?_
    refine v_istore_n C (lo2 := [some _, some _, none, none]) dJ6_stringSize_0f7a4_10 rfl (Nat.le_of_ble_eq_true rfl) rfl ?_
    refine v_bipush (v := (-10)) C dJ6_stringSize_0f7a4_11 (by decide) ?_
    refine v_istore_n C (lo2 := [some _, some _, some _, none]) dJ6_stringSize_0f7a4_13 rfl (Nat.le_of_ble_eq_true rfl) rfl ?_
    refine v_iconst (v := nI 1) C dJ6_stringSize_0f7a4_14 (by decide) ?_
    refine v_istore_n C (lo2 := [some _, some _, some _, some _]) dJ6_stringSize_0f7a4_15 rfl (Nat.le_of_ble_eq_true rfl) rfl ?_
    refine v_iload_n C dJ6_stringSize_0f7a4_16 rfl ?_
    refine v_bipush (v := nI 10) C dJ6_stringSize_0f7a4_17 (by decide) ?_
    refine v_icmp_ge C 42 dJ6_stringSize_0f7a4_19 (by decide) (fun c => absurd c (by decide)) (fun c19 => ?_)
    refine v_iload_n C dJ6_stringSize_0f7a4_22 rfl ?_
    refine v_iload_n C dJ6_stringSize_0f7a4_23 rfl ?_
    refine v_icmp_le C 31 dJ6_stringSize_0f7a4_24 (by decide) (fun c24 => ?_) (fun c24 => ?_)
    · exact absurd c24 (by rw [hng, e1]; omega)
    · refine v_iload_n C dJ6_stringSize_0f7a4_27 rfl ?_
      refine v_iload_n C dJ6_stringSize_0f7a4_28 rfl ?_
      first | refine v_iaddN C dJ6_stringSize_0f7a4_29 ?_ | refine v_iadd C dJ6_stringSize_0f7a4_29 ?_
      refine v_iretG C F (by first | rfl | exact bI_nar _) dJ6_stringSize_0f7a4_30 (by first | omega | exact Nat.le_of_ble_eq_true rfl) (by first | omega | exact Nat.le_of_ble_eq_true rfl) rfl (List.Perm.refl _) ?_
      first | exact rfl | exact ⟨rfl, rfl⟩
set_option maxHeartbeats 16000000 in
theorem c_stringSize2 {l : Launch} (hl : l.stackTraces = false) {κ : Kp} {x : Nat} {ws : va_W} (h0 : 10 ≤ x) (h1 : x < 100) : CtG SS MM l κ yJ6_stringSize_0f7a4 cJ6_stringSize_0f7a4 4 (some FieldType.int) 0 0 0 [.int (nI x)] (ws) ri (fun r w => r = nI 2 ∧ w = ws) (fun _ _ => False) := by
  refine CtG.of (own := RJ6) (by decide) rfl hl (by intro v hv; simp only [List.mem_cons, List.not_mem_nil, or_false] at hv; first | (rcases hv with rfl | rfl | rfl | rfl | rfl | rfl <;> rfl) | (rcases hv with rfl | rfl | rfl | rfl | rfl <;> rfl) | (rcases hv with rfl | rfl | rfl | rfl <;> rfl) | (rcases hv with rfl | rfl | rfl <;> rfl) | (rcases hv with rfl | rfl <;> rfl) | (subst hv; rfl) | exact hv.elim) (Nat.le_of_ble_eq_true rfl) (fun X hxl hxk C F NH hnm => ?_)
  subst hxl hxk
  show V X iW 0 [some (.int (nI x)), none, none, none] [] (ws) 0 0
  have hng := nI_neg (x := x) (by omega)
  have e1 : (-10 : Int32).toInt = -10 := by decide
  have e2 : (nI 10 * (-10 : Int32)).toInt = -100 := by decide
  have e3 : (nI 10 * (nI 10 * (-10 : Int32))).toInt = -1000 := by decide
  refine v_iconst (v := nI 1) C dJ6_stringSize_0f7a4_0 (by decide) ?_
  refine v_istore_n C (lo2 := [some _, some _, none, none]) dJ6_stringSize_0f7a4_1 rfl (Nat.le_of_ble_eq_true rfl) rfl ?_
  refine v_iload_n C dJ6_stringSize_0f7a4_2 rfl ?_
  refine v_if_lt C 11 dJ6_stringSize_0f7a4_3 (by decide) (fun c3 => ?_) (fun c3 => ?_)
  · exact absurd c3 (by rw [nI_toInt (by omega)]; omega)
  · refine v_iconst (v := nI 0) C dJ6_stringSize_0f7a4_6 (by decide) ?_
    refine v_istore_n C (lo2 := [some _, some _, none, none]) dJ6_stringSize_0f7a4_7 rfl (Nat.le_of_ble_eq_true rfl) rfl ?_
    refine v_iload_n C dJ6_stringSize_0f7a4_8 rfl ?_
    refine v_ineg C dJ6_stringSize_0f7a4_9 ?_
    refine v_istore_n C (lo2 := [some _, some _, none, none]) dJ6_stringSize_0f7a4_10 rfl (Nat.le_of_ble_eq_true rfl) rfl ?_
    refine v_bipush (v := (-10)) C dJ6_stringSize_0f7a4_11 (by decide) ?_
    refine v_istore_n C (lo2 := [some _, some _, some _, none]) dJ6_stringSize_0f7a4_13 rfl (Nat.le_of_ble_eq_true rfl) rfl ?_
    refine v_iconst (v := nI 1) C dJ6_stringSize_0f7a4_14 (by decide) ?_
    refine v_istore_n C (lo2 := [some _, some _, some _, some _]) dJ6_stringSize_0f7a4_15 rfl (Nat.le_of_ble_eq_true rfl) rfl ?_
    refine v_iload_n C dJ6_stringSize_0f7a4_16 rfl ?_
    refine v_bipush (v := nI 10) C dJ6_stringSize_0f7a4_17 (by decide) ?_
    refine v_icmp_ge C 42 dJ6_stringSize_0f7a4_19 (by decide) (fun c => absurd c (by decide)) (fun c19 => ?_)
    refine v_iload_n C dJ6_stringSize_0f7a4_22 rfl ?_
    refine v_iload_n C dJ6_stringSize_0f7a4_23 rfl ?_
    refine v_icmp_le C 31 dJ6_stringSize_0f7a4_24 (by decide) (fun c24 => ?_) (fun c24 => ?_)
    · refine v_bipush (v := nI 10) C dJ6_stringSize_0f7a4_31 (by decide) ?_
      refine v_iload_n C dJ6_stringSize_0f7a4_33 rfl ?_
      refine v_imul C dJ6_stringSize_0f7a4_34 ?_
      refine v_istore_n C (lo2 := [some _, some _, some _, some _]) dJ6_stringSize_0f7a4_35 rfl (Nat.le_of_ble_eq_true rfl) rfl ?_
      first | refine v_iinc1 C (lo2 := [some _, some _, some _, some _]) dJ6_stringSize_0f7a4_36 rfl rfl rfl ?_ | refine v_iinc C (lo2 := [some _, some _, some _, some _]) dJ6_stringSize_0f7a4_36 rfl rfl rfl rfl ?_
      refine v_goto C 16 dJ6_stringSize_0f7a4_39 (by decide) ?_
      refine v_iload_n C dJ6_stringSize_0f7a4_16 rfl ?_
      refine v_bipush (v := nI 10) C dJ6_stringSize_0f7a4_17 (by decide) ?_
      refine v_icmp_ge C 42 dJ6_stringSize_0f7a4_19 (by decide) (fun c => absurd c (by decide)) (fun c19 => ?_)
      refine v_iload_n C dJ6_stringSize_0f7a4_22 rfl ?_
      refine v_iload_n C dJ6_stringSize_0f7a4_23 rfl ?_
      refine v_icmp_le C 31 dJ6_stringSize_0f7a4_24 (by decide) (fun c24 => ?_) (fun c24 => ?_)
      · exact absurd c24 (by rw [hng, e2]; omega)
      · refine v_iload_n C dJ6_stringSize_0f7a4_27 rfl ?_
        refine v_iload_n C dJ6_stringSize_0f7a4_28 rfl ?_
        first | refine v_iaddN C dJ6_stringSize_0f7a4_29 ?_ | refine v_iadd C dJ6_stringSize_0f7a4_29 ?_
        refine v_iretG C F (by first | rfl | exact bI_nar _) dJ6_stringSize_0f7a4_30 (by first | omega | exact Nat.le_of_ble_eq_true rfl) (by first | omega | exact Nat.le_of_ble_eq_true rfl) rfl (List.Perm.refl _) ?_
        first | exact rfl | exact ⟨rfl, rfl⟩
    · exact absurd c24 (by rw [hng, e1]; omega)
set_option maxHeartbeats 16000000 in
theorem c_stringSize3 {l : Launch} (hl : l.stackTraces = false) {κ : Kp} {x : Nat} {ws : va_W} (h0 : 100 ≤ x) (h1 : x < 1000) : CtG SS MM l κ yJ6_stringSize_0f7a4 cJ6_stringSize_0f7a4 4 (some FieldType.int) 0 0 0 [.int (nI x)] (ws) ri (fun r w => r = nI 3 ∧ w = ws) (fun _ _ => False) := by
  refine CtG.of (own := RJ6) (by decide) rfl hl (by intro v hv; simp only [List.mem_cons, List.not_mem_nil, or_false] at hv; first | (rcases hv with rfl | rfl | rfl | rfl | rfl | rfl <;> rfl) | (rcases hv with rfl | rfl | rfl | rfl | rfl <;> rfl) | (rcases hv with rfl | rfl | rfl | rfl <;> rfl) | (rcases hv with rfl | rfl | rfl <;> rfl) | (rcases hv with rfl | rfl <;> rfl) | (subst hv; rfl) | exact hv.elim) (Nat.le_of_ble_eq_true rfl) (fun X hxl hxk C F NH hnm => ?_)
  subst hxl hxk
  show V X iW 0 [some (.int (nI x)), none, none, none] [] (ws) 0 0
  have hng := nI_neg (x := x) (by omega)
  have e1 : (-10 : Int32).toInt = -10 := by decide
  have e2 : (nI 10 * (-10 : Int32)).toInt = -100 := by decide
  have e3 : (nI 10 * (nI 10 * (-10 : Int32))).toInt = -1000 := by decide
  refine v_iconst (v := nI 1) C dJ6_stringSize_0f7a4_0 (by decide) ?_
  refine v_istore_n C (lo2 := [some _, some _, none, none]) dJ6_stringSize_0f7a4_1 rfl (Nat.le_of_ble_eq_true rfl) rfl ?_
  refine v_iload_n C dJ6_stringSize_0f7a4_2 rfl ?_
  refine v_if_lt C 11 dJ6_stringSize_0f7a4_3 (by decide) (fun c3 => ?_) (fun c3 => ?_)
  · exact absurd c3 (by rw [nI_toInt (by omega)]; omega)
  · refine v_iconst (v := nI 0) C dJ6_stringSize_0f7a4_6 (by decide) ?_
    refine v_istore_n C (lo2 := [some _, some _, none, none]) dJ6_stringSize_0f7a4_7 rfl (Nat.le_of_ble_eq_true rfl) rfl ?_
    refine v_iload_n C dJ6_stringSize_0f7a4_8 rfl ?_
    refine v_ineg C dJ6_stringSize_0f7a4_9 ?_
    refine v_istore_n C (lo2 := [some _, some _, none, none]) dJ6_stringSize_0f7a4_10 rfl (Nat.le_of_ble_eq_true rfl) rfl ?_
    refine v_bipush (v := (-10)) C dJ6_stringSize_0f7a4_11 (by decide) ?_
    refine v_istore_n C (lo2 := [some _, some _, some _, none]) dJ6_stringSize_0f7a4_13 rfl (Nat.le_of_ble_eq_true rfl) rfl ?_
    refine v_iconst (v := nI 1) C dJ6_stringSize_0f7a4_14 (by decide) ?_
    refine v_istore_n C (lo2 := [some _, some _, some _, some _]) dJ6_stringSize_0f7a4_15 rfl (Nat.le_of_ble_eq_true rfl) rfl ?_
    refine v_iload_n C dJ6_stringSize_0f7a4_16 rfl ?_
    refine v_bipush (v := nI 10) C dJ6_stringSize_0f7a4_17 (by decide) ?_
    refine v_icmp_ge C 42 dJ6_stringSize_0f7a4_19 (by decide) (fun c => absurd c (by decide)) (fun c19 => ?_)
    refine v_iload_n C dJ6_stringSize_0f7a4_22 rfl ?_
    refine v_iload_n C dJ6_stringSize_0f7a4_23 rfl ?_
    refine v_icmp_le C 31 dJ6_stringSize_0f7a4_24 (by decide) (fun c24 => ?_) (fun c24 => ?_)
    · refine v_bipush (v := nI 10) C dJ6_stringSize_0f7a4_31 (by decide) ?_
      refine v_iload_n C dJ6_stringSize_0f7a4_33 rfl ?_
      refine v_imul C dJ6_stringSize_0f7a4_34 ?_
      refine v_istore_n C (lo2 := [some _, some _, some _, some _]) dJ6_stringSize_0f7a4_35 rfl (Nat.le_of_ble_eq_true rfl) rfl ?_
      first | refine v_iinc1 C (lo2 := [some _, some _, some _, some _]) dJ6_stringSize_0f7a4_36 rfl rfl rfl ?_ | refine v_iinc C (lo2 := [some _, some _, some _, some _]) dJ6_stringSize_0f7a4_36 rfl rfl rfl rfl ?_
      refine v_goto C 16 dJ6_stringSize_0f7a4_39 (by decide) ?_
      refine v_iload_n C dJ6_stringSize_0f7a4_16 rfl ?_
      refine v_bipush (v := nI 10) C dJ6_stringSize_0f7a4_17 (by decide) ?_
      refine v_icmp_ge C 42 dJ6_stringSize_0f7a4_19 (by decide) (fun c => absurd c (by decide)) (fun c19 => ?_)
      refine v_iload_n C dJ6_stringSize_0f7a4_22 rfl ?_
      refine v_iload_n C dJ6_stringSize_0f7a4_23 rfl ?_
      refine v_icmp_le C 31 dJ6_stringSize_0f7a4_24 (by decide) (fun c24 => ?_) (fun c24 => ?_)
      · refine v_bipush (v := nI 10) C dJ6_stringSize_0f7a4_31 (by decide) ?_
        refine v_iload_n C dJ6_stringSize_0f7a4_33 rfl ?_
        refine v_imul C dJ6_stringSize_0f7a4_34 ?_
        refine v_istore_n C (lo2 := [some _, some _, some _, some _]) dJ6_stringSize_0f7a4_35 rfl (Nat.le_of_ble_eq_true rfl) rfl ?_
        first | refine v_iinc1 C (lo2 := [some _, some _, some _, some _]) dJ6_stringSize_0f7a4_36 rfl rfl rfl ?_ | refine v_iinc C (lo2 := [some _, some _, some _, some _]) dJ6_stringSize_0f7a4_36 rfl rfl rfl rfl ?_
        refine v_goto C 16 dJ6_stringSize_0f7a4_39 (by decide) ?_
        refine v_iload_n C dJ6_stringSize_0f7a4_16 rfl ?_
        refine v_bipush (v := nI 10) C dJ6_stringSize_0f7a4_17 (by decide) ?_
        refine v_icmp_ge C 42 dJ6_stringSize_0f7a4_19 (by decide) (fun c => absurd c (by decide)) (fun c19 => ?_)
        refine v_iload_n C dJ6_stringSize_0f7a4_22 rfl ?_
        refine v_iload_n C dJ6_stringSize_0f7a4_23 rfl ?_
        refine v_icmp_le C 31 dJ6_stringSize_0f7a4_24 (by decide) (fun c24 => ?_) (fun c24 => ?_)
        · exact absurd c24 (by rw [hng, e3]; omega)
        · refine v_iload_n C dJ6_stringSize_0f7a4_27 rfl ?_
          refine v_iload_n C dJ6_stringSize_0f7a4_28 rfl ?_
          first | refine v_iaddN C dJ6_stringSize_0f7a4_29 ?_ | refine v_iadd C dJ6_stringSize_0f7a4_29 ?_
          refine v_iretG C F (by first | rfl | exact bI_nar _) dJ6_stringSize_0f7a4_30 (by first | omega | exact Nat.le_of_ble_eq_true rfl) (by first | omega | exact Nat.le_of_ble_eq_true rfl) rfl (List.Perm.refl _) ?_
          first | exact rfl | exact ⟨rfl, rfl⟩
      · exact absurd c24 (by rw [hng, e2]; omega)
    · exact absurd c24 (by rw [hng, e1]; omega)
theorem c_J6_stringSize_0f7a4 {l : Launch} (hl : l.stackTraces = false) {κ : Kp} {x : Nat} {ws : va_W} (hx : x < 1000) : CtG SS MM l κ yJ6_stringSize_0f7a4 cJ6_stringSize_0f7a4 4 (some FieldType.int) 0 0 0 [.int (nI x)] ws ri (fun r w => r = nI (dig x) ∧ w = ws) (fun _ _ => False) := by
  by_cases h10 : x < 10
  · have e1 : dig x = 1 := if_pos h10
    have e2 : digs x = [48 + x % 10] := if_pos h10
    rw [e1]
    exact c_stringSize1 hl (Nat.zero_le x) h10
  · by_cases h100 : x < 100
    · have e1 : dig x = 2 := by unfold dig; rw [if_neg h10, if_pos h100]
      have e2 : digs x = [48 + x / 10, 48 + x % 10] := by unfold digs; rw [if_neg h10, if_pos h100]
      rw [e1]
      exact c_stringSize2 hl (Nat.le_of_not_lt h10) h100
    · have e1 : dig x = 3 := by unfold dig; rw [if_neg h10, if_neg h100]
      have e2 : digs x = [48 + x / 100 % 10, 48 + x % 100 / 10, 48 + x % 100 % 10] := by unfold digs; rw [if_neg h10, if_neg h100]
      rw [e1]
      exact c_stringSize3 hl (Nat.le_of_not_lt h100) hx
set_option maxHeartbeats 16000000 in
theorem c_getChars1 {l : Launch} (hl : l.stackTraces = false) {κ : Kp} {v N x : Nat} {T : List Nat} (hN : T.length + 1 ≤ N) (hN2 : N ≤ 1000) (h0 : 0 ≤ x) (h1 : x < 10) : CtG SS MM l κ yJ6_getChars_ba4f3 cJ6_getChars_ba4f3 7 (some FieldType.int) 0 0 0 [.int (nI x), .int (nI (T.length + 1)), .ref v] ([cB κ v N (tf T)]) ri (fun r w => r = nI T.length ∧ w = [cB κ v N (tf (T ++ [48 + x % 10]))]) (fun _ _ => False) := by
  refine CtG.of (own := RJ6) (by decide) rfl hl (by intro v hv; simp only [List.mem_cons, List.not_mem_nil, or_false] at hv; first | (rcases hv with rfl | rfl | rfl | rfl | rfl | rfl <;> rfl) | (rcases hv with rfl | rfl | rfl | rfl | rfl <;> rfl) | (rcases hv with rfl | rfl | rfl | rfl <;> rfl) | (rcases hv with rfl | rfl | rfl <;> rfl) | (rcases hv with rfl | rfl <;> rfl) | (subst hv; rfl) | exact hv.elim) (Nat.le_of_ble_eq_true rfl) (fun X hxl hxk C F NH hnm => ?_)
  subst hxl hxk
  show V X iW 0 [some (.int (nI x)), some (.int (nI (T.length + 1))), some (.ref v), none, none, none, none] [] ([cB (xK X) v N (tf T)]) 0 0
  have e100 : (-100 : Int32).toInt = -100 := by decide
  have e9 : (-9 : Int32).toInt = -9 := by decide
  refine v_iload_n C dJ6_getChars_ba4f3_0 rfl ?_
  refine v_istore C (lo2 := [some _, some _, some _, none, none, some _, none]) dJ6_getChars_ba4f3_1 rfl (Nat.le_of_ble_eq_true rfl) rfl ?_
  refine v_iload_n C dJ6_getChars_ba4f3_3 rfl ?_
  refine v_if_ge C 11 dJ6_getChars_ba4f3_4 (by decide) (fun c4 => ?_) (fun c4 => ?_)
  · refine v_iconst (v := nI 0) C dJ6_getChars_ba4f3_11 (by decide) ?_
    refine v_istore C (lo2 := [some _, some _, some _, none, none, some _, some _]) dJ6_getChars_ba4f3_12 rfl (Nat.le_of_ble_eq_true rfl) rfl ?_
    refine v_iload C dJ6_getChars_ba4f3_14 rfl ?_
    refine v_if_ne C 22 dJ6_getChars_ba4f3_16 (by decide) (fun c => absurd c (by decide)) (fun c16 => ?_)
    refine v_iload_n C dJ6_getChars_ba4f3_19 rfl ?_
    refine v_ineg C dJ6_getChars_ba4f3_20 ?_
    refine v_istore_n C (lo2 := [some _, some _, some _, none, none, some _, some _]) dJ6_getChars_ba4f3_21 rfl (Nat.le_of_ble_eq_true rfl) rfl ?_
    refine v_iload_n C dJ6_getChars_ba4f3_22 rfl ?_
    refine v_bipush (v := (-100)) C dJ6_getChars_ba4f3_23 (by decide) ?_
    refine v_icmp_gt C 72 dJ6_getChars_ba4f3_25 (by decide) (fun c25 => ?_) (fun c25 => ?_)
    · refine v_aload_n C dJ6_getChars_ba4f3_72 rfl ?_
      refine v_iinc (v := nI (T.length)) C (lo2 := [some _, some _, some _, none, none, some _, some _]) dJ6_getChars_ba4f3_73 rfl (nI_prd (T.length)) rfl rfl ?_
      refine v_iload C dJ6_getChars_ba4f3_76 rfl ?_
      refine v_getsO C (TT_t 474 (by decide +kernel) (by decide +kernel)) rfl dJ6_getChars_ba4f3_78 ?_
      refine v_iload_n C dJ6_getChars_ba4f3_81 rfl ?_
      refine v_ineg C dJ6_getChars_ba4f3_82 ?_
      rw [gc_neg _ (by omega)]
      refine v_tO C (by omega) dJ6_getChars_ba4f3_83 ?_
      refine v_sB (K := fun w => w) C Cxt.id (y := nI (48 + x % 10)) 0 rfl (by omega) (T.length) ?_ rfl (ch_nb _ (by omega)) rfl dJ6_getChars_ba4f3_84 ?_
      · first | decide | omega
      refine V.stt (g2 := [cB (xK X) v N (upd (tf T) (T.length) (nI (48 + x % 10)))]) (rfl) ?_
      refine v_iload_n C dJ6_getChars_ba4f3_85 rfl ?_
      refine v_bipush (v := (-9)) C dJ6_getChars_ba4f3_86 (by decide) ?_
      refine v_icmp_ge C 104 dJ6_getChars_ba4f3_88 (by decide) (fun c88 => ?_) (fun c88 => ?_)
      · refine v_iload C dJ6_getChars_ba4f3_104 rfl ?_
        refine v_if_eq C 118 dJ6_getChars_ba4f3_106 (by decide) (fun c106 => ?_) (fun c => absurd c (by decide))
        refine v_iload C dJ6_getChars_ba4f3_118 rfl ?_
        refine v_iretG C F (by first | rfl | exact bI_nar _) dJ6_getChars_ba4f3_120 (by first | omega | exact Nat.le_of_ble_eq_true rfl) (by first | omega | exact Nat.le_of_ble_eq_true rfl) rfl (List.Perm.refl _) ?_
        exact ⟨rfl, by rw [← tf_one T (48 + x % 10)]⟩
      · exact absurd c88 (by rw [nI_neg (by omega), e9]; omega)
    · exact absurd c25 (by rw [nI_neg (by omega), e100]; omega)
  · exact absurd (show 0 ≤ (nI x).toInt by rw [nI_toInt (by omega)]; omega) c4
set_option maxHeartbeats 16000000 in
theorem c_getChars2 {l : Launch} (hl : l.stackTraces = false) {κ : Kp} {v N x : Nat} {T : List Nat} (hN : T.length + 2 ≤ N) (hN2 : N ≤ 1000) (h0 : 10 ≤ x) (h1 : x < 100) : CtG SS MM l κ yJ6_getChars_ba4f3 cJ6_getChars_ba4f3 7 (some FieldType.int) 0 0 0 [.int (nI x), .int (nI (T.length + 2)), .ref v] ([cB κ v N (tf T)]) ri (fun r w => r = nI T.length ∧ w = [cB κ v N (tf (T ++ [48 + x / 10, 48 + x % 10]))]) (fun _ _ => False) := by
  refine CtG.of (own := RJ6) (by decide) rfl hl (by intro v hv; simp only [List.mem_cons, List.not_mem_nil, or_false] at hv; first | (rcases hv with rfl | rfl | rfl | rfl | rfl | rfl <;> rfl) | (rcases hv with rfl | rfl | rfl | rfl | rfl <;> rfl) | (rcases hv with rfl | rfl | rfl | rfl <;> rfl) | (rcases hv with rfl | rfl | rfl <;> rfl) | (rcases hv with rfl | rfl <;> rfl) | (subst hv; rfl) | exact hv.elim) (Nat.le_of_ble_eq_true rfl) (fun X hxl hxk C F NH hnm => ?_)
  subst hxl hxk
  show V X iW 0 [some (.int (nI x)), some (.int (nI (T.length + 2))), some (.ref v), none, none, none, none] [] ([cB (xK X) v N (tf T)]) 0 0
  have e100 : (-100 : Int32).toInt = -100 := by decide
  have e9 : (-9 : Int32).toInt = -9 := by decide
  refine v_iload_n C dJ6_getChars_ba4f3_0 rfl ?_
  refine v_istore C (lo2 := [some _, some _, some _, none, none, some _, none]) dJ6_getChars_ba4f3_1 rfl (Nat.le_of_ble_eq_true rfl) rfl ?_
  refine v_iload_n C dJ6_getChars_ba4f3_3 rfl ?_
  refine v_if_ge C 11 dJ6_getChars_ba4f3_4 (by decide) (fun c4 => ?_) (fun c4 => ?_)
  · refine v_iconst (v := nI 0) C dJ6_getChars_ba4f3_11 (by decide) ?_
    refine v_istore C (lo2 := [some _, some _, some _, none, none, some _, some _]) dJ6_getChars_ba4f3_12 rfl (Nat.le_of_ble_eq_true rfl) rfl ?_
    refine v_iload C dJ6_getChars_ba4f3_14 rfl ?_
    refine v_if_ne C 22 dJ6_getChars_ba4f3_16 (by decide) (fun c => absurd c (by decide)) (fun c16 => ?_)
    refine v_iload_n C dJ6_getChars_ba4f3_19 rfl ?_
    refine v_ineg C dJ6_getChars_ba4f3_20 ?_
    refine v_istore_n C (lo2 := [some _, some _, some _, none, none, some _, some _]) dJ6_getChars_ba4f3_21 rfl (Nat.le_of_ble_eq_true rfl) rfl ?_
    refine v_iload_n C dJ6_getChars_ba4f3_22 rfl ?_
    refine v_bipush (v := (-100)) C dJ6_getChars_ba4f3_23 (by decide) ?_
    refine v_icmp_gt C 72 dJ6_getChars_ba4f3_25 (by decide) (fun c25 => ?_) (fun c25 => ?_)
    · refine v_aload_n C dJ6_getChars_ba4f3_72 rfl ?_
      refine v_iinc (v := nI (T.length + 1)) C (lo2 := [some _, some _, some _, none, none, some _, some _]) dJ6_getChars_ba4f3_73 rfl (nI_prd (T.length + 1)) rfl rfl ?_
      refine v_iload C dJ6_getChars_ba4f3_76 rfl ?_
      refine v_getsO C (TT_t 474 (by decide +kernel) (by decide +kernel)) rfl dJ6_getChars_ba4f3_78 ?_
      refine v_iload_n C dJ6_getChars_ba4f3_81 rfl ?_
      refine v_ineg C dJ6_getChars_ba4f3_82 ?_
      rw [gc_neg _ (by omega)]
      refine v_tO C (by omega) dJ6_getChars_ba4f3_83 ?_
      refine v_sB (K := fun w => w) C Cxt.id (y := nI (48 + x % 10)) 0 rfl (by omega) (T.length + 1) ?_ rfl (ch_nb _ (by omega)) rfl dJ6_getChars_ba4f3_84 ?_
      · first | decide | omega
      refine V.stt (g2 := [cB (xK X) v N (upd (tf T) (T.length + 1) (nI (48 + x % 10)))]) (rfl) ?_
      refine v_iload_n C dJ6_getChars_ba4f3_85 rfl ?_
      refine v_bipush (v := (-9)) C dJ6_getChars_ba4f3_86 (by decide) ?_
      refine v_icmp_ge C 104 dJ6_getChars_ba4f3_88 (by decide) (fun c88 => ?_) (fun c88 => ?_)
      · exact absurd c88 (by rw [nI_neg (by omega), e9]; omega)
      · refine v_aload_n C dJ6_getChars_ba4f3_91 rfl ?_
        refine v_iinc (v := nI (T.length)) C (lo2 := [some _, some _, some _, none, none, some _, some _]) dJ6_getChars_ba4f3_92 rfl (nI_prd (T.length)) rfl rfl ?_
        refine v_iload C dJ6_getChars_ba4f3_95 rfl ?_
        refine v_getsT C (TT_t 476 (by decide +kernel) (by decide +kernel)) rfl dJ6_getChars_ba4f3_97 ?_
        refine v_iload_n C dJ6_getChars_ba4f3_100 rfl ?_
        refine v_ineg C dJ6_getChars_ba4f3_101 ?_
        rw [gc_neg _ (by omega)]
        refine v_tT C (by omega) dJ6_getChars_ba4f3_102 ?_
        refine v_sB (K := fun w => w) C Cxt.id (y := nI (48 + x / 10)) 0 rfl (by omega) (T.length) ?_ rfl (ch_nb _ (by omega)) rfl dJ6_getChars_ba4f3_103 ?_
        · first | decide | omega
        refine V.stt (g2 := [cB (xK X) v N (upd (upd (tf T) (T.length + 1) (nI (48 + x % 10))) (T.length) (nI (48 + x / 10)))]) (rfl) ?_
        refine v_iload C dJ6_getChars_ba4f3_104 rfl ?_
        refine v_if_eq C 118 dJ6_getChars_ba4f3_106 (by decide) (fun c106 => ?_) (fun c => absurd c (by decide))
        refine v_iload C dJ6_getChars_ba4f3_118 rfl ?_
        refine v_iretG C F (by first | rfl | exact bI_nar _) dJ6_getChars_ba4f3_120 (by first | omega | exact Nat.le_of_ble_eq_true rfl) (by first | omega | exact Nat.le_of_ble_eq_true rfl) rfl (List.Perm.refl _) ?_
        exact ⟨rfl, by rw [← tf_two T (48 + x / 10) (48 + x % 10)]⟩
    · exact absurd c25 (by rw [nI_neg (by omega), e100]; omega)
  · exact absurd (show 0 ≤ (nI x).toInt by rw [nI_toInt (by omega)]; omega) c4
set_option maxHeartbeats 16000000 in
theorem c_getChars3 {l : Launch} (hl : l.stackTraces = false) {κ : Kp} {v N x : Nat} {T : List Nat} (hN : T.length + 3 ≤ N) (hN2 : N ≤ 1000) (h0 : 100 ≤ x) (h1 : x < 1000) : CtG SS MM l κ yJ6_getChars_ba4f3 cJ6_getChars_ba4f3 7 (some FieldType.int) 0 0 0 [.int (nI x), .int (nI (T.length + 3)), .ref v] ([cB κ v N (tf T)]) ri (fun r w => r = nI T.length ∧ w = [cB κ v N (tf (T ++ [48 + x / 100 % 10, 48 + x % 100 / 10, 48 + x % 100 % 10]))]) (fun _ _ => False) := by
  refine CtG.of (own := RJ6) (by decide) rfl hl (by intro v hv; simp only [List.mem_cons, List.not_mem_nil, or_false] at hv; first | (rcases hv with rfl | rfl | rfl | rfl | rfl | rfl <;> rfl) | (rcases hv with rfl | rfl | rfl | rfl | rfl <;> rfl) | (rcases hv with rfl | rfl | rfl | rfl <;> rfl) | (rcases hv with rfl | rfl | rfl <;> rfl) | (rcases hv with rfl | rfl <;> rfl) | (subst hv; rfl) | exact hv.elim) (Nat.le_of_ble_eq_true rfl) (fun X hxl hxk C F NH hnm => ?_)
  subst hxl hxk
  show V X iW 0 [some (.int (nI x)), some (.int (nI (T.length + 3))), some (.ref v), none, none, none, none] [] ([cB (xK X) v N (tf T)]) 0 0
  have e100 : (-100 : Int32).toInt = -100 := by decide
  have e9 : (-9 : Int32).toInt = -9 := by decide
  refine v_iload_n C dJ6_getChars_ba4f3_0 rfl ?_
  refine v_istore C (lo2 := [some _, some _, some _, none, none, some _, none]) dJ6_getChars_ba4f3_1 rfl (Nat.le_of_ble_eq_true rfl) rfl ?_
  refine v_iload_n C dJ6_getChars_ba4f3_3 rfl ?_
  refine v_if_ge C 11 dJ6_getChars_ba4f3_4 (by decide) (fun c4 => ?_) (fun c4 => ?_)
  · refine v_iconst (v := nI 0) C dJ6_getChars_ba4f3_11 (by decide) ?_
    refine v_istore C (lo2 := [some _, some _, some _, none, none, some _, some _]) dJ6_getChars_ba4f3_12 rfl (Nat.le_of_ble_eq_true rfl) rfl ?_
    refine v_iload C dJ6_getChars_ba4f3_14 rfl ?_
    refine v_if_ne C 22 dJ6_getChars_ba4f3_16 (by decide) (fun c => absurd c (by decide)) (fun c16 => ?_)
    refine v_iload_n C dJ6_getChars_ba4f3_19 rfl ?_
    refine v_ineg C dJ6_getChars_ba4f3_20 ?_
    refine v_istore_n C (lo2 := [some _, some _, some _, none, none, some _, some _]) dJ6_getChars_ba4f3_21 rfl (Nat.le_of_ble_eq_true rfl) rfl ?_
    refine v_iload_n C dJ6_getChars_ba4f3_22 rfl ?_
    refine v_bipush (v := (-100)) C dJ6_getChars_ba4f3_23 (by decide) ?_
    refine v_icmp_gt C 72 dJ6_getChars_ba4f3_25 (by decide) (fun c25 => ?_) (fun c25 => ?_)
    · exact absurd c25 (by rw [nI_neg (by omega), e100]; omega)
    · refine v_iload_n C dJ6_getChars_ba4f3_28 rfl ?_
      refine v_bipush (v := nI 100) C dJ6_getChars_ba4f3_29 (by decide) ?_
      refine v_idiv C dJ6_getChars_ba4f3_31 ?_ ?_
      · decide
      rw [gc_div _ (by omega)]
      refine v_istore_n C (lo2 := [some _, some _, some _, some _, none, some _, some _]) dJ6_getChars_ba4f3_32 rfl (Nat.le_of_ble_eq_true rfl) rfl ?_
      refine v_iload_n C dJ6_getChars_ba4f3_33 rfl ?_
      refine v_bipush (v := nI 100) C dJ6_getChars_ba4f3_34 (by decide) ?_
      refine v_imul C dJ6_getChars_ba4f3_36 ?_
      refine v_iload_n C dJ6_getChars_ba4f3_37 rfl ?_
      refine v_isub C dJ6_getChars_ba4f3_38 ?_
      rw [gc_mod _ (by omega)]
      refine v_istore C (lo2 := [some _, some _, some _, some _, some _, some _, some _]) dJ6_getChars_ba4f3_39 rfl (Nat.le_of_ble_eq_true rfl) rfl ?_
      refine v_iload_n C dJ6_getChars_ba4f3_41 rfl ?_
      refine v_istore_n C (lo2 := [some _, some _, some _, some _, some _, some _, some _]) dJ6_getChars_ba4f3_42 rfl (Nat.le_of_ble_eq_true rfl) rfl ?_
      refine v_aload_n C dJ6_getChars_ba4f3_43 rfl ?_
      refine v_iinc (v := nI (T.length + 2)) C (lo2 := [some _, some _, some _, some _, some _, some _, some _]) dJ6_getChars_ba4f3_44 rfl (nI_prd (T.length + 2)) rfl rfl ?_
      refine v_iload C dJ6_getChars_ba4f3_47 rfl ?_
      refine v_getsO C (TT_t 474 (by decide +kernel) (by decide +kernel)) rfl dJ6_getChars_ba4f3_49 ?_
      refine v_iload C dJ6_getChars_ba4f3_52 rfl ?_
      refine v_tO C (by omega) dJ6_getChars_ba4f3_54 ?_
      refine v_sB (K := fun w => w) C Cxt.id (y := nI (48 + x % 100 % 10)) 0 rfl (by omega) (T.length + 2) ?_ rfl (ch_nb _ (by omega)) rfl dJ6_getChars_ba4f3_55 ?_
      · first | decide | omega
      refine V.stt (g2 := [cB (xK X) v N (upd (tf T) (T.length + 2) (nI (48 + x % 100 % 10)))]) (rfl) ?_
      refine v_aload_n C dJ6_getChars_ba4f3_56 rfl ?_
      refine v_iinc (v := nI (T.length + 1)) C (lo2 := [some _, some _, some _, some _, some _, some _, some _]) dJ6_getChars_ba4f3_57 rfl (nI_prd (T.length + 1)) rfl rfl ?_
      refine v_iload C dJ6_getChars_ba4f3_60 rfl ?_
      refine v_getsT C (TT_t 476 (by decide +kernel) (by decide +kernel)) rfl dJ6_getChars_ba4f3_62 ?_
      refine v_iload C dJ6_getChars_ba4f3_65 rfl ?_
      refine v_tT C (by omega) dJ6_getChars_ba4f3_67 ?_
      refine v_sB (K := fun w => w) C Cxt.id (y := nI (48 + x % 100 / 10)) 0 rfl (by omega) (T.length + 1) ?_ rfl (ch_nb _ (by omega)) rfl dJ6_getChars_ba4f3_68 ?_
      · first | decide | omega
      refine V.stt (g2 := [cB (xK X) v N (upd (upd (tf T) (T.length + 2) (nI (48 + x % 100 % 10))) (T.length + 1) (nI (48 + x % 100 / 10)))]) (rfl) ?_
      refine v_goto C 22 dJ6_getChars_ba4f3_69 (by decide) ?_
      refine v_iload_n C dJ6_getChars_ba4f3_22 rfl ?_
      refine v_bipush (v := (-100)) C dJ6_getChars_ba4f3_23 (by decide) ?_
      refine v_icmp_gt C 72 dJ6_getChars_ba4f3_25 (by decide) (fun c25 => ?_) (fun c25 => ?_)
      · refine v_aload_n C dJ6_getChars_ba4f3_72 rfl ?_
        refine v_iinc (v := nI (T.length)) C (lo2 := [some _, some _, some _, some _, some _, some _, some _]) dJ6_getChars_ba4f3_73 rfl (nI_prd (T.length)) rfl rfl ?_
        refine v_iload C dJ6_getChars_ba4f3_76 rfl ?_
        refine v_getsO C (TT_t 474 (by decide +kernel) (by decide +kernel)) rfl dJ6_getChars_ba4f3_78 ?_
        refine v_iload_n C dJ6_getChars_ba4f3_81 rfl ?_
        refine v_ineg C dJ6_getChars_ba4f3_82 ?_
        rw [gc_neg _ (by omega)]
        refine v_tO C (by omega) dJ6_getChars_ba4f3_83 ?_
        refine v_sB (K := fun w => w) C Cxt.id (y := nI (48 + x / 100 % 10)) 0 rfl (by omega) (T.length) ?_ rfl (ch_nb _ (by omega)) rfl dJ6_getChars_ba4f3_84 ?_
        · first | decide | omega
        refine V.stt (g2 := [cB (xK X) v N (upd (upd (upd (tf T) (T.length + 2) (nI (48 + x % 100 % 10))) (T.length + 1) (nI (48 + x % 100 / 10))) (T.length) (nI (48 + x / 100 % 10)))]) (rfl) ?_
        refine v_iload_n C dJ6_getChars_ba4f3_85 rfl ?_
        refine v_bipush (v := (-9)) C dJ6_getChars_ba4f3_86 (by decide) ?_
        refine v_icmp_ge C 104 dJ6_getChars_ba4f3_88 (by decide) (fun c88 => ?_) (fun c88 => ?_)
        · refine v_iload C dJ6_getChars_ba4f3_104 rfl ?_
          refine v_if_eq C 118 dJ6_getChars_ba4f3_106 (by decide) (fun c106 => ?_) (fun c => absurd c (by decide))
          refine v_iload C dJ6_getChars_ba4f3_118 rfl ?_
          refine v_iretG C F (by first | rfl | exact bI_nar _) dJ6_getChars_ba4f3_120 (by first | omega | exact Nat.le_of_ble_eq_true rfl) (by first | omega | exact Nat.le_of_ble_eq_true rfl) rfl (List.Perm.refl _) ?_
          exact ⟨rfl, by rw [← tf_three T (48 + x / 100 % 10) (48 + x % 100 / 10) (48 + x % 100 % 10)]⟩
        · exact absurd c88 (by rw [nI_neg (by omega), e9]; omega)
      · exact absurd c25 (by rw [nI_neg (by omega), e100]; omega)
  · exact absurd (show 0 ≤ (nI x).toInt by rw [nI_toInt (by omega)]; omega) c4
theorem c_J6_getChars_ba4f3 {l : Launch} (hl : l.stackTraces = false) {κ : Kp} {v N x : Nat} {T : List Nat} (hN : T.length + dig x ≤ N) (hN2 : N ≤ 1000) (hx : x < 1000) : CtG SS MM l κ yJ6_getChars_ba4f3 cJ6_getChars_ba4f3 7 (some FieldType.int) 0 0 0 [.int (nI x), .int (nI (T.length + dig x)), .ref v] [cB κ v N (tf T)] ri (fun r w => r = nI T.length ∧ w = [cB κ v N (tf (T ++ digs x))]) (fun _ _ => False) := by
  by_cases h10 : x < 10
  · have e1 : dig x = 1 := if_pos h10
    have e2 : digs x = [48 + x % 10] := if_pos h10
    rw [e1, e2]
    exact c_getChars1 hl (by rw [e1] at hN; exact hN) hN2 (Nat.zero_le x) h10
  · by_cases h100 : x < 100
    · have e1 : dig x = 2 := by unfold dig; rw [if_neg h10, if_pos h100]
      have e2 : digs x = [48 + x / 10, 48 + x % 10] := by unfold digs; rw [if_neg h10, if_pos h100]
      rw [e1, e2]
      exact c_getChars2 hl (by rw [e1] at hN; exact hN) hN2 (Nat.le_of_not_lt h10) h100
    · have e1 : dig x = 3 := by unfold dig; rw [if_neg h10, if_neg h100]
      have e2 : digs x = [48 + x / 100 % 10, 48 + x % 100 / 10, 48 + x % 100 % 10] := by unfold digs; rw [if_neg h10, if_neg h100]
      rw [e1, e2]
      exact c_getChars3 hl (by rw [e1] at hN; exact hN) hN2 (Nat.le_of_not_lt h100) hx
set_option maxHeartbeats 16000000 in
theorem c_J5_length_8abf5 {l : Launch} (hl : l.stackTraces = false) {κ : Kp} {a v N : Nat} {T : List Nat}  : CtG SS MM l κ yJ5_length_8abf5 cJ5_length_8abf5 1 (some FieldType.int) 0 0 0 [.ref a] (sbW κ a v N T) ri (fun r w => r = nI T.length ∧ w = sbW κ a v N T) (fun _ _ => False) := by
  refine CtG.of (own := RJ5) (by decide) rfl hl (by intro v hv; simp only [List.mem_cons, List.not_mem_nil, or_false] at hv; first | (rcases hv with rfl | rfl | rfl | rfl | rfl | rfl <;> rfl) | (rcases hv with rfl | rfl | rfl | rfl | rfl <;> rfl) | (rcases hv with rfl | rfl | rfl | rfl <;> rfl) | (rcases hv with rfl | rfl | rfl <;> rfl) | (rcases hv with rfl | rfl <;> rfl) | (subst hv; rfl) | exact hv.elim) (Nat.le_of_ble_eq_true rfl) (fun X hxl hxk C F NH hnm => ?_)
  subst hxl hxk
  show V X iW 0 [some (.ref a)] [] (sbW (xK X) a v N T) 0 0
  refine v_aload_n C dJ5_length_8abf5_0 rfl ?_
  refine v_gF (K := fun w => w) C Cxt.id (v := .int (nI (T.length))) 0 fl_J5_79 rfl rfl dJ5_length_8abf5_1 ?_
  refine v_iretG C F (by first | rfl | exact bI_nar _) dJ5_length_8abf5_4 (by first | omega | exact Nat.le_of_ble_eq_true rfl) (by first | omega | exact Nat.le_of_ble_eq_true rfl) rfl (List.Perm.refl _) ?_
  first | exact rfl | exact ⟨rfl, rfl⟩
set_option maxHeartbeats 16000000 in
theorem c_J4_length_8abf5 {l : Launch} (hl : l.stackTraces = false) {κ : Kp} {a v N : Nat} {T : List Nat}  : CtG SS MM l κ yJ4_length_8abf5 cJ4_length_8abf5 1 (some FieldType.int) 1 0 0 [.ref a] (sbW κ a v N T) ri (fun r w => r = nI T.length ∧ w = sbW κ a v N T) (fun _ _ => False) := by
  refine CtG.of (own := RJ4) (by decide) rfl hl (by intro v hv; simp only [List.mem_cons, List.not_mem_nil, or_false] at hv; first | (rcases hv with rfl | rfl | rfl | rfl | rfl | rfl <;> rfl) | (rcases hv with rfl | rfl | rfl | rfl | rfl <;> rfl) | (rcases hv with rfl | rfl | rfl | rfl <;> rfl) | (rcases hv with rfl | rfl | rfl <;> rfl) | (rcases hv with rfl | rfl <;> rfl) | (subst hv; rfl) | exact hv.elim) (Nat.le_of_ble_eq_true rfl) (fun X hxl hxk C F NH hnm => ?_)
  subst hxl hxk
  show V X iW 0 [some (.ref a)] [] (sbW (xK X) a v N T) 0 0
  refine v_aload_n C dJ4_length_8abf5_0 rfl ?_
  refine v_gWi (K := fun w => w) C Cxt.id 0 (c_J5_length_8abf5 hl) yw_J5_length_8abf5 ml_J4_343 rfl rfl rfl rfl dJ4_length_8abf5_1 (by first | omega | exact Nat.le_of_ble_eq_true rfl) (by first | omega | exact Nat.le_of_ble_eq_true rfl) (by first | omega | exact Nat.le_of_ble_eq_true rfl) (Nat.le_of_ble_eq_true rfl) (fun _ _ hu => hu.elim) (fun r u hu => ?_)
  obtain ⟨rfl, rfl⟩ := hu
  refine v_iretG C F (by first | rfl | exact bI_nar _) dJ4_length_8abf5_4 (by first | omega | exact Nat.le_of_ble_eq_true rfl) (by first | omega | exact Nat.le_of_ble_eq_true rfl) rfl (List.Perm.refl _) ?_
  first | exact rfl | exact ⟨rfl, rfl⟩
set_option maxHeartbeats 16000000 in
theorem c_J5_isLatin1_aae02 {l : Launch} (hl : l.stackTraces = false) {κ : Kp} {a v N : Nat} {T : List Nat}  : CtG SS MM l κ yJ5_isLatin1_aae02 cJ5_isLatin1_aae02 1 (some FieldType.boolean) 0 0 0 [.ref a] (sbW κ a v N T) ri (fun r w => r = nI 1 ∧ w = sbW κ a v N T) (fun _ _ => False) := by
  refine CtG.of (own := RJ5) (by decide) rfl hl (by intro v hv; simp only [List.mem_cons, List.not_mem_nil, or_false] at hv; first | (rcases hv with rfl | rfl | rfl | rfl | rfl | rfl <;> rfl) | (rcases hv with rfl | rfl | rfl | rfl | rfl <;> rfl) | (rcases hv with rfl | rfl | rfl | rfl <;> rfl) | (rcases hv with rfl | rfl | rfl <;> rfl) | (rcases hv with rfl | rfl <;> rfl) | (subst hv; rfl) | exact hv.elim) (Nat.le_of_ble_eq_true rfl) (fun X hxl hxk C F NH hnm => ?_)
  subst hxl hxk
  show V X iW 0 [some (.ref a)] [] (sbW (xK X) a v N T) 0 0
  refine v_getsC C (TT_t 353 (by decide +kernel) (by decide +kernel)) dJ5_isLatin1_aae02_0 ?_
  refine v_if_eq C 17 dJ5_isLatin1_aae02_3 (by decide) (fun c => absurd c (by decide)) (fun c3 => ?_)
  refine v_aload_n C dJ5_isLatin1_aae02_6 rfl ?_
  refine v_gF (K := fun w => w) C Cxt.id (v := .int (nI 0)) 0 fl_J5_22 rfl rfl dJ5_isLatin1_aae02_7 ?_
  refine v_if_ne C 17 dJ5_isLatin1_aae02_10 (by decide) (fun c => absurd c (by decide)) (fun c10 => ?_)
  refine v_iconst (v := nI 1) C dJ5_isLatin1_aae02_13 (by decide) ?_
  refine v_goto C 18 dJ5_isLatin1_aae02_14 (by decide) ?_
  refine v_iretG C F (by first | rfl | exact bI_nar _) dJ5_isLatin1_aae02_18 (by first | omega | exact Nat.le_of_ble_eq_true rfl) (by first | omega | exact Nat.le_of_ble_eq_true rfl) rfl (List.Perm.refl _) ?_
  first | exact rfl | exact ⟨rfl, rfl⟩
set_option maxHeartbeats 16000000 in
theorem c_J5_getValue_6d5f1 {l : Launch} (hl : l.stackTraces = false) {κ : Kp} {a v N : Nat} {T : List Nat}  : CtG SS MM l κ yJ5_getValue_6d5f1 cJ5_getValue_6d5f1 1 (some (FieldType.array FieldType.byte)) 0 0 0 [.ref a] (sbW κ a v N T) rr (fun r w => r = v ∧ w = sbW κ a v N T) (fun _ _ => False) := by
  refine CtG.of (own := RJ5) (by decide) rfl hl (by intro v hv; simp only [List.mem_cons, List.not_mem_nil, or_false] at hv; first | (rcases hv with rfl | rfl | rfl | rfl | rfl | rfl <;> rfl) | (rcases hv with rfl | rfl | rfl | rfl | rfl <;> rfl) | (rcases hv with rfl | rfl | rfl | rfl <;> rfl) | (rcases hv with rfl | rfl | rfl <;> rfl) | (rcases hv with rfl | rfl <;> rfl) | (subst hv; rfl) | exact hv.elim) (Nat.le_of_ble_eq_true rfl) (fun X hxl hxk C F NH hnm => ?_)
  subst hxl hxk
  show V X iW 0 [some (.ref a)] [] (sbW (xK X) a v N T) 0 0
  refine v_aload_n C dJ5_getValue_6d5f1_0 rfl ?_
  refine v_gF (K := fun w => w) C Cxt.id (v := .ref v) 0 fl_J5_15 rfl rfl dJ5_getValue_6d5f1_1 ?_
  refine v_aretG C (x := (some v)) F (Or.inr ⟨_, rfl⟩) dJ5_getValue_6d5f1_4 (by first | omega | exact Nat.le_of_ble_eq_true rfl) (by first | omega | exact Nat.le_of_ble_eq_true rfl) rfl (List.Perm.refl _) ?_
  first | exact rfl | exact ⟨rfl, rfl⟩
set_option maxHeartbeats 16000000 in
theorem c_J5_newCapacity_0f7a4 {l : Launch} (hl : l.stackTraces = false) {κ : Kp} {a v N : Nat} {T : List Nat} {q : Nat} (h1 : N < q) (h2 : q ≤ 500) : CtG SS MM l κ yJ5_newCapacity_0f7a4 cJ5_newCapacity_0f7a4 6 (some FieldType.int) 1 0 0 [.ref a, .int (nI q)] (sbW κ a v N T) ri (fun r w => r = nI (capN q N) ∧ w = sbW κ a v N T) (fun _ _ => False) := by
  refine CtG.of (own := RJ5) (by decide) rfl hl (by intro v hv; simp only [List.mem_cons, List.not_mem_nil, or_false] at hv; first | (rcases hv with rfl | rfl | rfl | rfl | rfl | rfl <;> rfl) | (rcases hv with rfl | rfl | rfl | rfl | rfl <;> rfl) | (rcases hv with rfl | rfl | rfl | rfl <;> rfl) | (rcases hv with rfl | rfl | rfl <;> rfl) | (rcases hv with rfl | rfl <;> rfl) | (subst hv; rfl) | exact hv.elim) (Nat.le_of_ble_eq_true rfl) (fun X hxl hxk C F NH hnm => ?_)
  subst hxl hxk
  show V X iW 0 [some (.ref a), some (.int (nI q)), none, none, none, none] [] (sbW (xK X) a v N T) 0 0
  have hcp := capN_le h1
  refine v_aload_n C dJ5_newCapacity_0f7a4_0 rfl ?_
  refine v_gF (K := fun w => w) C Cxt.id (v := .ref v) 0 fl_J5_15 rfl rfl dJ5_newCapacity_0f7a4_1 ?_
  refine v_lenA (K := fun w => w) C Cxt.id (N := N) 2 1 rfl rfl rfl dJ5_newCapacity_0f7a4_4 ?_
  refine v_istore_n C (lo2 := [some _, some _, some _, none, none, none]) dJ5_newCapacity_0f7a4_5 rfl (Nat.le_of_ble_eq_true rfl) rfl ?_
  refine v_iload_n C dJ5_newCapacity_0f7a4_6 rfl ?_
  refine v_aload_n C dJ5_newCapacity_0f7a4_7 rfl ?_
  refine v_gF (K := fun w => w) C Cxt.id (v := .int (nI 0)) 0 fl_J5_22 rfl rfl dJ5_newCapacity_0f7a4_8 ?_
  refine v_ishl C dJ5_newCapacity_0f7a4_11 ?_
  rw [shl_0]
  refine v_istore_n C (lo2 := [some _, some _, some _, some _, none, none]) dJ5_newCapacity_0f7a4_12 rfl (Nat.le_of_ble_eq_true rfl) rfl ?_
  refine v_iload_n C dJ5_newCapacity_0f7a4_13 rfl ?_
  refine v_iload_n C dJ5_newCapacity_0f7a4_14 rfl ?_
  first | refine v_isubN C dJ5_newCapacity_0f7a4_15 (by omega) ?_ | refine v_isub C dJ5_newCapacity_0f7a4_15 ?_
  refine v_istore C (lo2 := [some _, some _, some _, some _, some _, none]) dJ5_newCapacity_0f7a4_16 rfl (Nat.le_of_ble_eq_true rfl) rfl ?_
  refine v_iload_n C dJ5_newCapacity_0f7a4_18 rfl ?_
  refine v_iload C dJ5_newCapacity_0f7a4_19 rfl ?_
  refine v_iload_n C dJ5_newCapacity_0f7a4_21 rfl ?_
  refine v_iconst (v := nI 2) C dJ5_newCapacity_0f7a4_22 (by decide) ?_
  refine v_aload_n C dJ5_newCapacity_0f7a4_23 rfl ?_
  refine v_gF (K := fun w => w) C Cxt.id (v := .int (nI 0)) 0 fl_J5_22 rfl rfl dJ5_newCapacity_0f7a4_24 ?_
  refine v_ishl C dJ5_newCapacity_0f7a4_27 ?_
  rw [shl_0]
  first | refine v_iaddN C dJ5_newCapacity_0f7a4_28 ?_ | refine v_iadd C dJ5_newCapacity_0f7a4_28 ?_
  refine v_gSi (K := fun w => w) C Cxt.id (c_J8_newLength_cabcc hl (M := if q - N < N + 2 then N + 2 else q - N) rfl (by split <;> omega) (by omega) (by omega) (by omega) (by split <;> omega)) ys_J8_newLength_cabcc ml_J5_114 rfl rfl dJ5_newCapacity_0f7a4_29 (by first | omega | exact Nat.le_of_ble_eq_true rfl) (by first | omega | exact Nat.le_of_ble_eq_true rfl) (by first | omega | exact Nat.le_of_ble_eq_true rfl) (Nat.le_of_ble_eq_true rfl) (fun _ _ hu => hu.elim) (fun r u hu => ?_)
  obtain ⟨rfl, rfl⟩ := hu
  refine V_stk (st2 := [.int (nI (capN q N))]) (by unfold capN; split <;> rfl) ?_
  refine v_istore C (lo2 := [some _, some _, some _, some _, some _, some _]) dJ5_newCapacity_0f7a4_32 rfl (Nat.le_of_ble_eq_true rfl) rfl ?_
  refine v_iload C dJ5_newCapacity_0f7a4_34 rfl ?_
  refine v_ldcI (v := 2147483647) C (TT_t 288 (by decide +kernel) (by decide +kernel)) dJ5_newCapacity_0f7a4_36 ?_
  refine v_icmp_ne C 51 dJ5_newCapacity_0f7a4_38 (by decide) (fun c38 => ?_) (fun c38 => ?_)
  · refine v_iload C dJ5_newCapacity_0f7a4_51 rfl ?_
    refine v_aload_n C dJ5_newCapacity_0f7a4_53 rfl ?_
    refine v_gF (K := fun w => w) C Cxt.id (v := .int (nI 0)) 0 fl_J5_22 rfl rfl dJ5_newCapacity_0f7a4_54 ?_
    refine v_ishr C dJ5_newCapacity_0f7a4_57 ?_
    rw [shr_0]
    refine v_iretG C F (by first | rfl | exact bI_nar _) dJ5_newCapacity_0f7a4_58 (by first | omega | exact Nat.le_of_ble_eq_true rfl) (by first | omega | exact Nat.le_of_ble_eq_true rfl) rfl (List.Perm.refl _) ?_
    first | exact rfl | exact ⟨rfl, rfl⟩
  · exact absurd (congrArg Int32.toInt c38) (by rw [nI_toInt (by omega)]; rw [i_647]; omega)
set_option maxHeartbeats 16000000 in
theorem c_J7_copyOf_9075b {l : Launch} (hl : l.stackTraces = false) {κ : Kp} {v N M ci : Nat} {T : List Nat} {ws : va_W} (he : ws[ci]? = some (cB κ v N (tf T))) (hT : Lat T) (h0 : T.length ≤ N) (h1 : N < M) (h2 : M ≤ 1000) : CtG SS MM l κ yJ7_copyOf_9075b cJ7_copyOf_9075b 3 (some (FieldType.array FieldType.byte)) 0 1 1000 [.ref v, .int (nI M)] (ws) rr (fun r w => w = cB κ r M (tf T) :: ws) (fun _ _ => False) := by
  refine CtG.of (own := RJ7) (by decide) rfl hl (by intro v hv; simp only [List.mem_cons, List.not_mem_nil, or_false] at hv; first | (rcases hv with rfl | rfl | rfl | rfl | rfl | rfl <;> rfl) | (rcases hv with rfl | rfl | rfl | rfl | rfl <;> rfl) | (rcases hv with rfl | rfl | rfl | rfl <;> rfl) | (rcases hv with rfl | rfl | rfl <;> rfl) | (rcases hv with rfl | rfl <;> rfl) | (subst hv; rfl) | exact hv.elim) (Nat.le_of_ble_eq_true rfl) (fun X hxl hxk C F NH hnm => ?_)
  subst hxl hxk
  show V X iW 0 [some (.ref v), some (.int (nI M)), none] [] (ws) 0 0
  refine v_iload_n C dJ7_copyOf_9075b_0 rfl ?_
  refine v_aload_n C dJ7_copyOf_9075b_1 rfl ?_
  refine v_lenA (K := fun w => w) C Cxt.id (N := N) 2 ci rfl he rfl dJ7_copyOf_9075b_2 ?_
  first | refine v_icmp_neN C 14 dJ7_copyOf_9075b_3 (by decide) (by omega) (by omega) (fun c3 => ?_) (fun c3 => ?_) | refine v_icmp_ne C 14 dJ7_copyOf_9075b_3 (by decide) (fun c3 => ?_) (fun c3 => ?_)
  · refine v_iload_n C dJ7_copyOf_9075b_14 rfl ?_
    refine v_newB C (M) rfl (by omega) dJ7_copyOf_9075b_15 (by first | omega | exact Nat.le_of_ble_eq_true rfl) (by first | omega | exact Nat.le_of_ble_eq_true rfl) (fun q => ?_)
    refine v_astore_n C (lo2 := [some _, some _, some _]) dJ7_copyOf_9075b_17 rfl (Nat.le_of_ble_eq_true rfl) rfl ?_
    refine v_aload_n C dJ7_copyOf_9075b_18 rfl ?_
    refine v_iconst (v := nI 0) C dJ7_copyOf_9075b_19 (by decide) ?_
    refine v_aload_n C dJ7_copyOf_9075b_20 rfl ?_
    refine v_iconst (v := nI 0) C dJ7_copyOf_9075b_21 (by decide) ?_
    refine v_aload_n C dJ7_copyOf_9075b_22 rfl ?_
    refine v_lenA (K := fun w => w) C Cxt.id (N := N) 2 (ci + 1) rfl (show (_ :: ws)[ci + 1]? = _ from he) rfl dJ7_copyOf_9075b_23 ?_
    refine v_iload_n C dJ7_copyOf_9075b_24 rfl ?_
    refine v_mmin (z := nI N) C ml_J7_304 w_minS w_mI w_minC rfl (Nat.le_of_ble_eq_true rfl) dJ7_copyOf_9075b_25 (by first | omega | exact Nat.le_of_ble_eq_true rfl) (by first | omega | exact Nat.le_of_ble_eq_true rfl) ?_ ?_
    · rw [mn_n (by omega) (by omega), if_neg (by omega)]
    refine v_copyB (K := fun w => w) C Cxt.id (ci + 1) 0 0 0 N ml_J7_150 (show (_ :: ws)[ci + 1]? = _ from he) rfl rfl rfl rfl (by omega) (by omega) (by omega) (by omega) (fun i _ => hT.fit _) rfl (Nat.le_of_ble_eq_true rfl) rfl dJ7_copyOf_9075b_28 ?_
    refine v_aload_n C dJ7_copyOf_9075b_31 rfl ?_
    refine v_aretG C (x := (some q)) F (Or.inr ⟨_, rfl⟩) dJ7_copyOf_9075b_32 (by first | omega | exact Nat.le_of_ble_eq_true rfl) (by first | omega | exact Nat.le_of_ble_eq_true rfl) rfl (List.Perm.refl _) ?_
    show cB (xK X) q M (va_cpy (tf T) (fun _ => 0) 0 0 N) :: ws = _
    rw [tf_cpy0 T h0]
  · exact absurd c3 (by omega)
set_option maxHeartbeats 16000000 in
theorem c_J5_ensureCapacityInternal_d00df {l : Launch} (hl : l.stackTraces = false) {κ : Kp} {a v N : Nat} {T : List Nat} {q : Nat} (hS : SbOK N T) (h2 : q ≤ 500) : CtG SS MM l κ yJ5_ensureCapacityInternal_d00df cJ5_ensureCapacityInternal_d00df 3 none 2 1 1000 [.ref a, .int (nI q)] (sbW κ a v N T) rv (fun _ w => ∃ v' N', q ≤ N' ∧ SbOK N' T ∧ w = sbW κ a v' N' T) (fun _ _ => False) := by
  refine CtG.of (own := RJ5) (by decide) rfl hl (by intro v hv; simp only [List.mem_cons, List.not_mem_nil, or_false] at hv; first | (rcases hv with rfl | rfl | rfl | rfl | rfl | rfl <;> rfl) | (rcases hv with rfl | rfl | rfl | rfl | rfl <;> rfl) | (rcases hv with rfl | rfl | rfl | rfl <;> rfl) | (rcases hv with rfl | rfl | rfl <;> rfl) | (rcases hv with rfl | rfl <;> rfl) | (subst hv; rfl) | exact hv.elim) (Nat.le_of_ble_eq_true rfl) (fun X hxl hxk C F NH hnm => ?_)
  subst hxl hxk
  show V X iW 0 [some (.ref a), some (.int (nI q)), none] [] (sbW (xK X) a v N T) 0 0
  obtain ⟨s1, s2, s3⟩ := hS
  have e13 : (nI q - nI N).toInt = (q : Int) - N := nI_sub_toInt (by omega) (by omega)
  refine v_aload_n C dJ5_ensureCapacityInternal_d00df_0 rfl ?_
  refine v_gF (K := fun w => w) C Cxt.id (v := .ref v) 0 fl_J5_15 rfl rfl dJ5_ensureCapacityInternal_d00df_1 ?_
  refine v_lenA (K := fun w => w) C Cxt.id (N := N) 2 1 rfl rfl rfl dJ5_ensureCapacityInternal_d00df_4 ?_
  refine v_aload_n C dJ5_ensureCapacityInternal_d00df_5 rfl ?_
  refine v_gF (K := fun w => w) C Cxt.id (v := .int (nI 0)) 0 fl_J5_22 rfl rfl dJ5_ensureCapacityInternal_d00df_6 ?_
  refine v_ishr C dJ5_ensureCapacityInternal_d00df_9 ?_
  rw [shr_0]
  refine v_istore_n C (lo2 := [some _, some _, some _]) dJ5_ensureCapacityInternal_d00df_10 rfl (Nat.le_of_ble_eq_true rfl) rfl ?_
  refine v_iload_n C dJ5_ensureCapacityInternal_d00df_11 rfl ?_
  refine v_iload_n C dJ5_ensureCapacityInternal_d00df_12 rfl ?_
  refine v_isub C dJ5_ensureCapacityInternal_d00df_13 ?_
  refine v_if_le C 38 dJ5_ensureCapacityInternal_d00df_14 (by decide) (fun c14 => ?_) (fun c14 => ?_)
  · rw [e13] at c14
    refine v_vretG C (r := ()) F dJ5_ensureCapacityInternal_d00df_38 (by first | omega | exact Nat.le_of_ble_eq_true rfl) (by first | omega | exact Nat.le_of_ble_eq_true rfl) rfl (List.Perm.refl _) ?_
    exact ⟨v, N, by omega, ⟨s1, s2, s3⟩, rfl⟩
  · rw [e13] at c14
    have hNq : N < q := by omega
    have hcp := capN_le hNq
    refine v_aload_n C dJ5_ensureCapacityInternal_d00df_17 rfl ?_
    refine v_aload_n C dJ5_ensureCapacityInternal_d00df_18 rfl ?_
    refine v_gF (K := fun w => w) C Cxt.id (v := .ref v) 0 fl_J5_15 rfl rfl dJ5_ensureCapacityInternal_d00df_19 ?_
    refine v_aload_n C dJ5_ensureCapacityInternal_d00df_22 rfl ?_
    refine v_iload_n C dJ5_ensureCapacityInternal_d00df_23 rfl ?_
    refine v_gUi (K := fun w => w) C Cxt.id 0 (c_J5_newCapacity_0f7a4 hl hNq h2) yu_J5_newCapacity_0f7a4 ml_J5_104 rfl rfl rfl rfl dJ5_ensureCapacityInternal_d00df_24 (by first | omega | exact Nat.le_of_ble_eq_true rfl) (by first | omega | exact Nat.le_of_ble_eq_true rfl) (by first | omega | exact Nat.le_of_ble_eq_true rfl) (Nat.le_of_ble_eq_true rfl) (fun _ _ hu => hu.elim) (fun r u hu => ?_)
    obtain ⟨rfl, rfl⟩ := hu
    refine v_aload_n C dJ5_ensureCapacityInternal_d00df_27 rfl ?_
    refine v_gF (K := fun w => w) C Cxt.id (v := .int (nI 0)) 0 fl_J5_22 rfl rfl dJ5_ensureCapacityInternal_d00df_28 ?_
    refine v_ishl C dJ5_ensureCapacityInternal_d00df_31 ?_
    rw [shl_0]
    refine v_gSr (K := fun w => w) C Cxt.id (c_J7_copyOf_9075b hl (ci := 1) rfl s3 s1 hcp.2.1 (by omega)) ys_J7_copyOf_9075b ml_J5_108 rfl rfl dJ5_ensureCapacityInternal_d00df_32 (by first | omega | exact Nat.le_of_ble_eq_true rfl) (by first | omega | exact Nat.le_of_ble_eq_true rfl) (by first | omega | exact Nat.le_of_ble_eq_true rfl) (Nat.le_of_ble_eq_true rfl) (fun _ _ hu => hu.elim) (fun r u hu => ?_)
    subst hu
    refine V.perm (List.Perm.swap _ _ _) ?_
    refine v_pF (K := fun w => w) (ws := [(a, .inr (10, [.ref v, .int (nI 0), .int 0, .int (nI T.length)])), cB (xK X) r (capN q N) (tf T), cB (xK X) v N (tf T)]) C Cxt.id 0 fl_J5_15 fw_J4_0 rfl rfl rfl (Nat.le_of_ble_eq_true rfl) rfl dJ5_ensureCapacityInternal_d00df_35 ?_
    refine V.drop (ws' := sbW (xK X) a r (capN q N) T) (List.Sublist.cons₂ _ (List.Sublist.cons₂ _ (List.nil_sublist _))) ?_
    refine v_vretG C (r := ()) F dJ5_ensureCapacityInternal_d00df_38 (by first | omega | exact Nat.le_of_ble_eq_true rfl) (by first | omega | exact Nat.le_of_ble_eq_true rfl) rfl (List.Perm.refl _) ?_
    exact ⟨r, capN q N, hcp.1, ⟨by omega, by omega, s3⟩, rfl⟩
set_option maxHeartbeats 16000000 in
theorem c_J5_inflateIfNeededFor_a7421 {l : Launch} (hl : l.stackTraces = false) {κ : Kp} {a v N : Nat} {T : List Nat} {i : Nat} {q : SQ} (hq : SS[i]? = some q) : CtG SS MM l κ yJ5_inflateIfNeededFor_a7421 cJ5_inflateIfNeededFor_a7421 2 none 1 0 0 [.ref a, .ref (κ.2.2.1 i)] (sbW κ a v N T) rv (fun _ w => w = sbW κ a v N T) (fun _ _ => False) := by
  refine CtG.of (own := RJ5) (by decide) rfl hl (by intro v hv; simp only [List.mem_cons, List.not_mem_nil, or_false] at hv; first | (rcases hv with rfl | rfl | rfl | rfl | rfl | rfl <;> rfl) | (rcases hv with rfl | rfl | rfl | rfl | rfl <;> rfl) | (rcases hv with rfl | rfl | rfl | rfl <;> rfl) | (rcases hv with rfl | rfl | rfl <;> rfl) | (rcases hv with rfl | rfl <;> rfl) | (subst hv; rfl) | exact hv.elim) (Nat.le_of_ble_eq_true rfl) (fun X hxl hxk C F NH hnm => ?_)
  subst hxl hxk
  show V X iW 0 [some (.ref a), some (.ref ((xK X).2.2.1 i))] [] (sbW (xK X) a v N T) 0 0
  refine v_getsC C (TT_t 353 (by decide +kernel) (by decide +kernel)) dJ5_inflateIfNeededFor_a7421_0 ?_
  refine v_if_eq C 21 dJ5_inflateIfNeededFor_a7421_3 (by decide) (fun c => absurd c (by decide)) (fun c3 => ?_)
  refine v_aload_n C dJ5_inflateIfNeededFor_a7421_6 rfl ?_
  refine v_gF (K := fun w => w) C Cxt.id (v := .int (nI 0)) 0 fl_J5_22 rfl rfl dJ5_inflateIfNeededFor_a7421_7 ?_
  refine v_aload_n C dJ5_inflateIfNeededFor_a7421_10 rfl ?_
  refine v_kKi C hq (c_J0_coder hl hq) ym_J0_coder_7d493 ml_J5_40 rfl rfl dJ5_inflateIfNeededFor_a7421_11 (by first | omega | exact Nat.le_of_ble_eq_true rfl) (by first | omega | exact Nat.le_of_ble_eq_true rfl) (by first | omega | exact Nat.le_of_ble_eq_true rfl) (Nat.le_of_ble_eq_true rfl) (fun _ _ hu => hu.elim) (fun r u hu => ?_)
  subst r
  refine v_icmp_eq C 21 dJ5_inflateIfNeededFor_a7421_14 (by decide) (fun c14 => ?_) (fun c => absurd c (by decide))
  refine v_vretG C (r := ()) F dJ5_inflateIfNeededFor_a7421_21 (by first | omega | exact Nat.le_of_ble_eq_true rfl) (by first | omega | exact Nat.le_of_ble_eq_true rfl) rfl (List.Perm.refl _) ?_
  first | exact rfl | exact ⟨rfl, rfl⟩
set_option maxHeartbeats 16000000 in
theorem c_getBytesC {l : Launch} (hl : l.stackTraces = false) {κ : Kp} {v N : Nat} {T : List Nat} {i : Nat} {q : SQ} (hq : SS[i]? = some q) (h1 : T.length + q.2.2.2.length ≤ N) (h2 : N ≤ 1000) : CtG SS MM l κ yJ0_getBytes_840e7 cJ0_getBytes_840e7 4 none 1 0 0 [.ref (κ.2.2.1 i), .ref v, .int (nI T.length), .int (nI 0)] ([cB κ v N (tf T)]) rv (fun _ w => w = [cB κ v N (tf (T ++ q.2.2.2))]) (fun _ _ => False) := by
  refine CtG.of (own := RJ0) (by decide) rfl hl (by intro v hv; simp only [List.mem_cons, List.not_mem_nil, or_false] at hv; first | (rcases hv with rfl | rfl | rfl | rfl | rfl | rfl <;> rfl) | (rcases hv with rfl | rfl | rfl | rfl | rfl <;> rfl) | (rcases hv with rfl | rfl | rfl | rfl <;> rfl) | (rcases hv with rfl | rfl | rfl <;> rfl) | (rcases hv with rfl | rfl <;> rfl) | (subst hv; rfl) | exact hv.elim) (Nat.le_of_ble_eq_true rfl) (fun X hxl hxk C F NH hnm => ?_)
  subst hxl hxk
  show V X iW 0 [some (.ref ((xK X).2.2.1 i)), some (.ref v), some (.int (nI T.length)), some (.int (nI 0))] [] ([cB (xK X) v N (tf T)]) 0 0
  have hok := SS_ok hq
  refine v_aload_n C dJ0_getBytes_840e7_0 rfl ?_
  refine v_kKi C hq (c_J0_coder hl hq) ym_J0_coder_7d493 ml_J0_335 rfl rfl dJ0_getBytes_840e7_1 (by first | omega | exact Nat.le_of_ble_eq_true rfl) (by first | omega | exact Nat.le_of_ble_eq_true rfl) (by first | omega | exact Nat.le_of_ble_eq_true rfl) (Nat.le_of_ble_eq_true rfl) (fun _ _ hu => hu.elim) (fun r u hu => ?_)
  subst r
  refine v_iload_n C dJ0_getBytes_840e7_4 rfl ?_
  refine v_icmp_ne C 28 dJ0_getBytes_840e7_5 (by decide) (fun c => absurd c (by decide)) (fun c5 => ?_)
  refine v_aload_n C dJ0_getBytes_840e7_8 rfl ?_
  refine v_getSV C hq fl_sv dJ0_getBytes_840e7_9 ?_
  refine v_iconst (v := nI 0) C dJ0_getBytes_840e7_12 (by decide) ?_
  refine v_aload_n C dJ0_getBytes_840e7_13 rfl ?_
  refine v_iload_n C dJ0_getBytes_840e7_14 rfl ?_
  refine v_iload_n C dJ0_getBytes_840e7_15 rfl ?_
  refine v_ishl C dJ0_getBytes_840e7_16 ?_
  rw [shl_0]
  refine v_aload_n C dJ0_getBytes_840e7_17 rfl ?_
  refine v_getSV C hq fl_sv dJ0_getBytes_840e7_18 ?_
  refine v_tlen C hq dJ0_getBytes_840e7_21 ?_
  refine v_copyT (K := fun w => w) C Cxt.id hq 0 0 T.length q.2.2.2.length ml_J0_212 rfl rfl rfl rfl (by omega) (by omega) (by omega) (by omega) (fun j _ => fit_b _ (Lat.get hok.2 _)) rfl (Nat.le_of_ble_eq_true rfl) rfl dJ0_getBytes_840e7_22 ?_
  refine v_goto C 43 dJ0_getBytes_840e7_25 (by decide) ?_
  refine v_vretG C (r := ()) F dJ0_getBytes_840e7_43 (by first | omega | exact Nat.le_of_ble_eq_true rfl) (by first | omega | exact Nat.le_of_ble_eq_true rfl) rfl (List.Perm.refl _) ?_
  show [cB (xK X) v N (va_cpy (tf q.2.2.2) (tf T) 0 T.length q.2.2.2.length)] = _
  rw [tf_cpy]
set_option maxHeartbeats 16000000 in
theorem c_J5_putStringAt_47b60 {l : Launch} (hl : l.stackTraces = false) {κ : Kp} {a v N : Nat} {T : List Nat} {i : Nat} {q : SQ} (hq : SS[i]? = some q) (h1 : T.length + q.2.2.2.length ≤ N) (h2 : N ≤ 1000) : CtG SS MM l κ yJ5_putStringAt_47b60 cJ5_putStringAt_47b60 3 none 2 0 0 [.ref a, .int (nI T.length), .ref (κ.2.2.1 i)] (sbW κ a v N T) rv (fun _ w => w = sbC κ a v N (T ++ q.2.2.2) T.length) (fun _ _ => False) := by
  refine CtG.of (own := RJ5) (by decide) rfl hl (by intro v hv; simp only [List.mem_cons, List.not_mem_nil, or_false] at hv; first | (rcases hv with rfl | rfl | rfl | rfl | rfl | rfl <;> rfl) | (rcases hv with rfl | rfl | rfl | rfl | rfl <;> rfl) | (rcases hv with rfl | rfl | rfl | rfl <;> rfl) | (rcases hv with rfl | rfl | rfl <;> rfl) | (rcases hv with rfl | rfl <;> rfl) | (subst hv; rfl) | exact hv.elim) (Nat.le_of_ble_eq_true rfl) (fun X hxl hxk C F NH hnm => ?_)
  subst hxl hxk
  show V X iW 0 [some (.ref a), some (.int (nI T.length)), some (.ref ((xK X).2.2.1 i))] [] (sbW (xK X) a v N T) 0 0
  refine v_aload_n C dJ5_putStringAt_47b60_0 rfl ?_
  refine v_aload_n C dJ5_putStringAt_47b60_1 rfl ?_
  refine v_gUv (K := fun w => w) C Cxt.id 0 (c_J5_inflateIfNeededFor_a7421 hl hq) yu_J5_inflateIfNeededFor_a7421 ml_J5_397 rfl rfl rfl rfl dJ5_putStringAt_47b60_2 (by first | omega | exact Nat.le_of_ble_eq_true rfl) (by first | omega | exact Nat.le_of_ble_eq_true rfl) (by first | omega | exact Nat.le_of_ble_eq_true rfl) (Nat.le_of_ble_eq_true rfl) (fun _ _ hu => hu.elim) (fun r u hu => ?_)
  obtain rfl := hu
  refine v_aload_n C dJ5_putStringAt_47b60_5 rfl ?_
  refine v_aload_n C dJ5_putStringAt_47b60_6 rfl ?_
  refine v_gF (K := fun w => w) C Cxt.id (v := .ref v) 0 fl_J5_15 rfl rfl dJ5_putStringAt_47b60_7 ?_
  refine v_iload_n C dJ5_putStringAt_47b60_10 rfl ?_
  refine v_aload_n C dJ5_putStringAt_47b60_11 rfl ?_
  refine v_gF (K := fun w => w) C Cxt.id (v := .int (nI 0)) 0 fl_J5_22 rfl rfl dJ5_putStringAt_47b60_12 ?_
  refine v_gCv (K := fun w => (a, .inr (10, [.ref v, .int (nI 0), .int 0, .int (nI T.length)])) :: w) C (Cxt.c _ Cxt.id) hq (c_getBytesC hl hq h1 h2) ym_J0_getBytes_840e7 ml_J5_399 rfl rfl dJ5_putStringAt_47b60_15 (by first | omega | exact Nat.le_of_ble_eq_true rfl) (by first | omega | exact Nat.le_of_ble_eq_true rfl) (by first | omega | exact Nat.le_of_ble_eq_true rfl) (Nat.le_of_ble_eq_true rfl) (fun _ _ hu => hu.elim) (fun r u hu => ?_)
  obtain rfl := hu
  refine v_vretG C (r := ()) F dJ5_putStringAt_47b60_18 (by first | omega | exact Nat.le_of_ble_eq_true rfl) (by first | omega | exact Nat.le_of_ble_eq_true rfl) rfl (List.Perm.refl _) ?_
  first | exact rfl | exact ⟨rfl, rfl⟩
set_option maxHeartbeats 16000000 in
theorem c_J5_append_cf1ce {l : Launch} (hl : l.stackTraces = false) {κ : Kp} {a v N : Nat} {T : List Nat} {i : Nat} {q : SQ} (hq : SS[i]? = some q) (hS : SbOK N T) (h2 : T.length + q.2.2.2.length ≤ 500) : CtG SS MM l κ yJ5_append_cf1ce cJ5_append_cf1ce 3 (some (FieldType.object "java/lang/AbstractStringBuilder")) 3 1 1000 [.ref a, .ref (κ.2.2.1 i)] (sbW κ a v N T) rr (fun r w => r = a ∧ ∃ v' N', SbOK N' (T ++ q.2.2.2) ∧ w = sbW κ a v' N' (T ++ q.2.2.2)) (fun _ _ => False) := by
  refine CtG.of (own := RJ5) (by decide) rfl hl (by intro v hv; simp only [List.mem_cons, List.not_mem_nil, or_false] at hv; first | (rcases hv with rfl | rfl | rfl | rfl | rfl | rfl <;> rfl) | (rcases hv with rfl | rfl | rfl | rfl | rfl <;> rfl) | (rcases hv with rfl | rfl | rfl | rfl <;> rfl) | (rcases hv with rfl | rfl | rfl <;> rfl) | (rcases hv with rfl | rfl <;> rfl) | (subst hv; rfl) | exact hv.elim) (Nat.le_of_ble_eq_true rfl) (fun X hxl hxk C F NH hnm => ?_)
  subst hxl hxk
  show V X iW 0 [some (.ref a), some (.ref ((xK X).2.2.1 i)), none] [] (sbW (xK X) a v N T) 0 0
  have hok := SS_ok hq
  refine v_aload_n C dJ5_append_cf1ce_0 rfl ?_
  refine v_ifnonnull C (x := some ((xK X).2.2.1 i)) 9 dJ5_append_cf1ce_1 (by decide) (fun _ _ => ?_) (fun c => by cases c)
  refine v_aload_n C dJ5_append_cf1ce_9 rfl ?_
  refine v_kKi C hq (c_J0_length hl hq) ym_J0_length_8abf5 ml_J5_32 rfl rfl dJ5_append_cf1ce_10 (by first | omega | exact Nat.le_of_ble_eq_true rfl) (by first | omega | exact Nat.le_of_ble_eq_true rfl) (by first | omega | exact Nat.le_of_ble_eq_true rfl) (Nat.le_of_ble_eq_true rfl) (fun _ _ hu => hu.elim) (fun r u hu => ?_)
  subst r
  refine v_istore_n C (lo2 := [some _, some _, some _]) dJ5_append_cf1ce_13 rfl (Nat.le_of_ble_eq_true rfl) rfl ?_
  refine v_aload_n C dJ5_append_cf1ce_14 rfl ?_
  refine v_aload_n C dJ5_append_cf1ce_15 rfl ?_
  refine v_gF (K := fun w => w) C Cxt.id (v := .int (nI (T.length))) 0 fl_J5_79 rfl rfl dJ5_append_cf1ce_16 ?_
  refine v_iload_n C dJ5_append_cf1ce_19 rfl ?_
  first | refine v_iaddN C dJ5_append_cf1ce_20 ?_ | refine v_iadd C dJ5_append_cf1ce_20 ?_
  refine v_gUv (K := fun w => w) C Cxt.id 0 (c_J5_ensureCapacityInternal_d00df hl hS h2) yu_J5_ensureCapacityInternal_d00df ml_J5_100 rfl rfl rfl rfl dJ5_append_cf1ce_21 (by first | omega | exact Nat.le_of_ble_eq_true rfl) (by first | omega | exact Nat.le_of_ble_eq_true rfl) (by first | omega | exact Nat.le_of_ble_eq_true rfl) (Nat.le_of_ble_eq_true rfl) (fun _ _ hu => hu.elim) (fun r u hu => ?_)
  obtain ⟨v2, N2, hq2, hS2, rfl⟩ := hu
  refine v_aload_n C dJ5_append_cf1ce_24 rfl ?_
  refine v_aload_n C dJ5_append_cf1ce_25 rfl ?_
  refine v_gF (K := fun w => w) C Cxt.id (v := .int (nI (T.length))) 0 fl_J5_79 rfl rfl dJ5_append_cf1ce_26 ?_
  refine v_aload_n C dJ5_append_cf1ce_29 rfl ?_
  refine v_gUv (K := fun w => w) C Cxt.id 0 (c_J5_putStringAt_47b60 hl hq (by omega) hS2.2.1) yu_J5_putStringAt_47b60 ml_J5_208 rfl rfl rfl rfl dJ5_append_cf1ce_30 (by first | omega | exact Nat.le_of_ble_eq_true rfl) (by first | omega | exact Nat.le_of_ble_eq_true rfl) (by first | omega | exact Nat.le_of_ble_eq_true rfl) (Nat.le_of_ble_eq_true rfl) (fun _ _ hu => hu.elim) (fun r u hu => ?_)
  obtain rfl := hu
  refine v_aload_n C dJ5_append_cf1ce_33 rfl ?_
  refine v_dup C dJ5_append_cf1ce_34 rfl ?_
  refine v_gF (K := fun w => w) (ws := sbC (xK X) a v2 N2 (T ++ q.2.2.2) T.length) C Cxt.id (v := .int (nI (T.length))) 0 fl_J5_79 rfl rfl dJ5_append_cf1ce_35 ?_
  refine v_iload_n C dJ5_append_cf1ce_38 rfl ?_
  first | refine v_iaddN C dJ5_append_cf1ce_39 ?_ | refine v_iadd C dJ5_append_cf1ce_39 ?_
  refine v_pF (K := fun w => w) (ws := sbC (xK X) a v2 N2 (T ++ q.2.2.2) T.length) C Cxt.id 0 fl_J5_79 fw_J4_3 rfl rfl rfl (Nat.le_of_ble_eq_true rfl) rfl dJ5_append_cf1ce_40 ?_
  refine v_aload_n C dJ5_append_cf1ce_43 rfl ?_
  refine v_aretG C (x := (some a)) F (Or.inl ⟨_, rfl⟩) dJ5_append_cf1ce_44 (by first | omega | exact Nat.le_of_ble_eq_true rfl) (by first | omega | exact Nat.le_of_ble_eq_true rfl) rfl (List.Perm.refl _) ?_
  exact ⟨rfl, v2, N2, ⟨by rw [List.length_append]; exact hq2, hS2.2.1, hS2.2.2.app hok.2⟩, by rw [← List.length_append]; rfl⟩
set_option maxHeartbeats 16000000 in
theorem c_J4_append_15ec4 {l : Launch} (hl : l.stackTraces = false) {κ : Kp} {a v N : Nat} {T : List Nat} {i : Nat} {q : SQ} (hq : SS[i]? = some q) (hS : SbOK N T) (h2 : T.length + q.2.2.2.length ≤ 500) : CtG SS MM l κ yJ4_append_15ec4 cJ4_append_15ec4 2 (some (FieldType.object "java/lang/StringBuilder")) 4 1 1000 [.ref a, .ref (κ.2.2.1 i)] (sbW κ a v N T) rr (fun r w => r = a ∧ ∃ v' N', SbOK N' (T ++ q.2.2.2) ∧ w = sbW κ a v' N' (T ++ q.2.2.2)) (fun _ _ => False) := by
  refine CtG.of (own := RJ4) (by decide) rfl hl (by intro v hv; simp only [List.mem_cons, List.not_mem_nil, or_false] at hv; first | (rcases hv with rfl | rfl | rfl | rfl | rfl | rfl <;> rfl) | (rcases hv with rfl | rfl | rfl | rfl | rfl <;> rfl) | (rcases hv with rfl | rfl | rfl | rfl <;> rfl) | (rcases hv with rfl | rfl | rfl <;> rfl) | (rcases hv with rfl | rfl <;> rfl) | (subst hv; rfl) | exact hv.elim) (Nat.le_of_ble_eq_true rfl) (fun X hxl hxk C F NH hnm => ?_)
  subst hxl hxk
  show V X iW 0 [some (.ref a), some (.ref ((xK X).2.2.1 i))] [] (sbW (xK X) a v N T) 0 0
  refine v_aload_n C dJ4_append_15ec4_0 rfl ?_
  refine v_aload_n C dJ4_append_15ec4_1 rfl ?_
  refine v_gWr (K := fun w => w) C Cxt.id 0 (c_J5_append_cf1ce hl hq hS h2) yw_J5_append_cf1ce ml_J4_29 rfl rfl rfl rfl dJ4_append_15ec4_2 (by first | omega | exact Nat.le_of_ble_eq_true rfl) (by first | omega | exact Nat.le_of_ble_eq_true rfl) (by first | omega | exact Nat.le_of_ble_eq_true rfl) (Nat.le_of_ble_eq_true rfl) (fun _ _ hu => hu.elim) (fun r u hu => ?_)
  obtain ⟨e9, v2, N2, hS2, rfl⟩ := hu
  subst r
  refine v_pop C dJ4_append_15ec4_5 rfl ?_
  refine v_aload_n C dJ4_append_15ec4_6 rfl ?_
  refine v_aretG C (x := (some a)) F (Or.inl ⟨_, rfl⟩) dJ4_append_15ec4_7 (by first | omega | exact Nat.le_of_ble_eq_true rfl) (by first | omega | exact Nat.le_of_ble_eq_true rfl) rfl (List.Perm.refl _) ?_
  exact ⟨rfl, v2, N2, hS2, rfl⟩
set_option maxHeartbeats 16000000 in
theorem c_J4_append_cf1ce {l : Launch} (hl : l.stackTraces = false) {κ : Kp} {a v N : Nat} {T : List Nat} {i : Nat} {q : SQ} (hq : SS[i]? = some q) (hS : SbOK N T) (h2 : T.length + q.2.2.2.length ≤ 500) : CtG SS MM l κ yJ4_append_cf1ce cJ4_append_cf1ce 2 (some (FieldType.object "java/lang/AbstractStringBuilder")) 5 1 1000 [.ref a, .ref (κ.2.2.1 i)] (sbW κ a v N T) rr (fun r w => r = a ∧ ∃ v' N', SbOK N' (T ++ q.2.2.2) ∧ w = sbW κ a v' N' (T ++ q.2.2.2)) (fun _ _ => False) := by
  refine CtG.of (own := RJ4) (by decide) rfl hl (by intro v hv; simp only [List.mem_cons, List.not_mem_nil, or_false] at hv; first | (rcases hv with rfl | rfl | rfl | rfl | rfl | rfl <;> rfl) | (rcases hv with rfl | rfl | rfl | rfl | rfl <;> rfl) | (rcases hv with rfl | rfl | rfl | rfl <;> rfl) | (rcases hv with rfl | rfl | rfl <;> rfl) | (rcases hv with rfl | rfl <;> rfl) | (subst hv; rfl) | exact hv.elim) (Nat.le_of_ble_eq_true rfl) (fun X hxl hxk C F NH hnm => ?_)
  subst hxl hxk
  show V X iW 0 [some (.ref a), some (.ref ((xK X).2.2.1 i))] [] (sbW (xK X) a v N T) 0 0
  refine v_aload_n C dJ4_append_cf1ce_0 rfl ?_
  refine v_aload_n C dJ4_append_cf1ce_1 rfl ?_
  refine v_gVr (K := fun w => w) C Cxt.id 0 (c_J4_append_15ec4 hl hq hS h2) ym_J4_append_15ec4 ml_J4_23 rfl rfl rfl rfl dJ4_append_cf1ce_2 (by first | omega | exact Nat.le_of_ble_eq_true rfl) (by first | omega | exact Nat.le_of_ble_eq_true rfl) (by first | omega | exact Nat.le_of_ble_eq_true rfl) (Nat.le_of_ble_eq_true rfl) (fun _ _ hu => hu.elim) (fun r u hu => ?_)
  obtain ⟨e9, v2, N2, hS2, rfl⟩ := hu
  subst r
  refine v_aretG C (x := (some a)) F (Or.inl ⟨_, rfl⟩) dJ4_append_cf1ce_5 (by first | omega | exact Nat.le_of_ble_eq_true rfl) (by first | omega | exact Nat.le_of_ble_eq_true rfl) rfl (List.Perm.refl _) ?_
  exact ⟨rfl, v2, N2, hS2, rfl⟩
set_option maxHeartbeats 16000000 in
theorem c_J5_append_3fe6f {l : Launch} (hl : l.stackTraces = false) {κ : Kp} {a v N : Nat} {T : List Nat} {c : Nat} (hc : c < 128) (hS : SbOK N T) (h2 : T.length + 1 ≤ 500) : CtG SS MM l κ yJ5_append_3fe6f cJ5_append_3fe6f 2 (some (FieldType.object "java/lang/AbstractStringBuilder")) 3 1 1000 [.ref a, .int (nI c)] (sbW κ a v N T) rr (fun r w => r = a ∧ ∃ v' N', SbOK N' (T ++ [c]) ∧ w = sbW κ a v' N' (T ++ [c])) (fun _ _ => False) := by
  refine CtG.of (own := RJ5) (by decide) rfl hl (by intro v hv; simp only [List.mem_cons, List.not_mem_nil, or_false] at hv; first | (rcases hv with rfl | rfl | rfl | rfl | rfl | rfl <;> rfl) | (rcases hv with rfl | rfl | rfl | rfl | rfl <;> rfl) | (rcases hv with rfl | rfl | rfl | rfl <;> rfl) | (rcases hv with rfl | rfl | rfl <;> rfl) | (rcases hv with rfl | rfl <;> rfl) | (subst hv; rfl) | exact hv.elim) (Nat.le_of_ble_eq_true rfl) (fun X hxl hxk C F NH hnm => ?_)
  subst hxl hxk
  show V X iW 0 [some (.ref a), some (.int (nI c))] [] (sbW (xK X) a v N T) 0 0
  refine v_aload_n C dJ5_append_3fe6f_0 rfl ?_
  refine v_aload_n C dJ5_append_3fe6f_1 rfl ?_
  refine v_gF (K := fun w => w) C Cxt.id (v := .int (nI (T.length))) 0 fl_J5_79 rfl rfl dJ5_append_3fe6f_2 ?_
  refine v_iconst (v := nI 1) C dJ5_append_3fe6f_5 (by decide) ?_
  first | refine v_iaddN C dJ5_append_3fe6f_6 ?_ | refine v_iadd C dJ5_append_3fe6f_6 ?_
  refine v_gUv (K := fun w => w) C Cxt.id 0 (c_J5_ensureCapacityInternal_d00df hl hS h2) yu_J5_ensureCapacityInternal_d00df ml_J5_100 rfl rfl rfl rfl dJ5_append_3fe6f_7 (by first | omega | exact Nat.le_of_ble_eq_true rfl) (by first | omega | exact Nat.le_of_ble_eq_true rfl) (by first | omega | exact Nat.le_of_ble_eq_true rfl) (Nat.le_of_ble_eq_true rfl) (fun _ _ hu => hu.elim) (fun r u hu => ?_)
  obtain ⟨v2, N2, hq2, hS2, rfl⟩ := hu
  refine v_aload_n C dJ5_append_3fe6f_10 rfl ?_
  refine v_gUi (K := fun w => w) C Cxt.id 0 (c_J5_isLatin1_aae02 hl) yu_J5_isLatin1_aae02 ml_J5_83 rfl rfl rfl rfl dJ5_append_3fe6f_11 (by first | omega | exact Nat.le_of_ble_eq_true rfl) (by first | omega | exact Nat.le_of_ble_eq_true rfl) (by first | omega | exact Nat.le_of_ble_eq_true rfl) (Nat.le_of_ble_eq_true rfl) (fun _ _ hu => hu.elim) (fun r u hu => ?_)
  obtain ⟨rfl, rfl⟩ := hu
  refine v_if_eq C 45 dJ5_append_3fe6f_14 (by decide) (fun c => absurd c (by decide)) (fun c14 => ?_)
  refine v_iload_n C dJ5_append_3fe6f_17 rfl ?_
  refine v_gSi (K := fun w => w) C Cxt.id (c_J1_canEncode_fc78d hl ?_) ys_J1_canEncode_fc78d ml_J5_191 rfl rfl dJ5_append_3fe6f_18 (by first | omega | exact Nat.le_of_ble_eq_true rfl) (by first | omega | exact Nat.le_of_ble_eq_true rfl) (by first | omega | exact Nat.le_of_ble_eq_true rfl) (Nat.le_of_ble_eq_true rfl) (fun _ _ hu => hu.elim) (fun r u hu => ?_)
  · first | assumption | omega
  obtain ⟨rfl, rfl⟩ := hu
  refine v_if_eq C 45 dJ5_append_3fe6f_21 (by decide) (fun c => absurd c (by decide)) (fun c21 => ?_)
  refine v_aload_n C dJ5_append_3fe6f_24 rfl ?_
  refine v_gF (K := fun w => w) C Cxt.id (v := .ref v2) 0 fl_J5_15 rfl rfl dJ5_append_3fe6f_25 ?_
  refine v_aload_n C dJ5_append_3fe6f_28 rfl ?_
  refine v_dup C dJ5_append_3fe6f_29 rfl ?_
  refine v_gF (K := fun w => w) C Cxt.id (v := .int (nI (T.length))) 0 fl_J5_79 rfl rfl dJ5_append_3fe6f_30 ?_
  refine v_dup_x1 C dJ5_append_3fe6f_33 rfl rfl ?_
  refine v_iconst (v := nI 1) C dJ5_append_3fe6f_34 (by decide) ?_
  first | refine v_iaddN C dJ5_append_3fe6f_35 ?_ | refine v_iadd C dJ5_append_3fe6f_35 ?_
  refine v_pF (K := fun w => w) C Cxt.id 0 fl_J5_79 fw_J4_3 rfl rfl rfl (Nat.le_of_ble_eq_true rfl) rfl dJ5_append_3fe6f_36 ?_
  refine v_iload_n C dJ5_append_3fe6f_39 rfl ?_
  refine v_i2b C (v := nI c) dJ5_append_3fe6f_40 (ch_i2b _ hc) ?_
  refine v_sB (K := fun w => w) C Cxt.id (y := nI c) 1 rfl (by have := hS2.2.1; omega) T.length ?_ rfl (ch_nb _ hc) rfl dJ5_append_3fe6f_41 ?_
  · first | decide | omega
  refine v_goto C 75 dJ5_append_3fe6f_42 (by decide) ?_
  refine v_aload_n C dJ5_append_3fe6f_75 rfl ?_
  refine v_aretG C (x := (some a)) F (Or.inl ⟨_, rfl⟩) dJ5_append_3fe6f_76 (by first | omega | exact Nat.le_of_ble_eq_true rfl) (by first | omega | exact Nat.le_of_ble_eq_true rfl) rfl (List.Perm.refl _) ?_
  refine ⟨rfl, v2, N2, ⟨by rw [List.length_append]; exact hq2, hS2.2.1, hS2.2.2.app (by intro b hb; rw [List.mem_singleton] at hb; omega)⟩, ?_⟩
  show [_, cB (xK X) v2 N2 (upd (tf T) T.length (nI c))] = _
  rw [tf_one, show T.length + 1 = (T ++ [c]).length by rw [List.length_append]; rfl]
  rfl
set_option maxHeartbeats 16000000 in
theorem c_J4_append_cf468 {l : Launch} (hl : l.stackTraces = false) {κ : Kp} {a v N : Nat} {T : List Nat} {c : Nat} (hc : c < 128) (hS : SbOK N T) (h2 : T.length + 1 ≤ 500) : CtG SS MM l κ yJ4_append_cf468 cJ4_append_cf468 2 (some (FieldType.object "java/lang/StringBuilder")) 4 1 1000 [.ref a, .int (nI c)] (sbW κ a v N T) rr (fun r w => r = a ∧ ∃ v' N', SbOK N' (T ++ [c]) ∧ w = sbW κ a v' N' (T ++ [c])) (fun _ _ => False) := by
  refine CtG.of (own := RJ4) (by decide) rfl hl (by intro v hv; simp only [List.mem_cons, List.not_mem_nil, or_false] at hv; first | (rcases hv with rfl | rfl | rfl | rfl | rfl | rfl <;> rfl) | (rcases hv with rfl | rfl | rfl | rfl | rfl <;> rfl) | (rcases hv with rfl | rfl | rfl | rfl <;> rfl) | (rcases hv with rfl | rfl | rfl <;> rfl) | (rcases hv with rfl | rfl <;> rfl) | (subst hv; rfl) | exact hv.elim) (Nat.le_of_ble_eq_true rfl) (fun X hxl hxk C F NH hnm => ?_)
  subst hxl hxk
  show V X iW 0 [some (.ref a), some (.int (nI c))] [] (sbW (xK X) a v N T) 0 0
  refine v_aload_n C dJ4_append_cf468_0 rfl ?_
  refine v_iload_n C dJ4_append_cf468_1 rfl ?_
  refine v_gWr (K := fun w => w) C Cxt.id 0 (c_J5_append_3fe6f hl hc hS h2) yw_J5_append_3fe6f ml_J4_50 rfl rfl rfl rfl dJ4_append_cf468_2 (by first | omega | exact Nat.le_of_ble_eq_true rfl) (by first | omega | exact Nat.le_of_ble_eq_true rfl) (by first | omega | exact Nat.le_of_ble_eq_true rfl) (Nat.le_of_ble_eq_true rfl) (fun _ _ hu => hu.elim) (fun r u hu => ?_)
  obtain ⟨e9, v2, N2, hS2, rfl⟩ := hu
  subst r
  refine v_pop C dJ4_append_cf468_5 rfl ?_
  refine v_aload_n C dJ4_append_cf468_6 rfl ?_
  refine v_aretG C (x := (some a)) F (Or.inl ⟨_, rfl⟩) dJ4_append_cf468_7 (by first | omega | exact Nat.le_of_ble_eq_true rfl) (by first | omega | exact Nat.le_of_ble_eq_true rfl) rfl (List.Perm.refl _) ?_
  exact ⟨rfl, v2, N2, hS2, rfl⟩
set_option maxHeartbeats 16000000 in
theorem c_J5_append_c97b9 {l : Launch} (hl : l.stackTraces = false) {κ : Kp} {a v N : Nat} {T : List Nat} {x : Nat} (hx : x < 1000) (hS : SbOK N T) (h2 : T.length + 3 ≤ 500) : CtG SS MM l κ yJ5_append_c97b9 cJ5_append_c97b9 4 (some (FieldType.object "java/lang/AbstractStringBuilder")) 3 1 1000 [.ref a, .int (nI x)] (sbW κ a v N T) rr (fun r w => r = a ∧ ∃ v' N', SbOK N' (T ++ digs x) ∧ w = sbW κ a v' N' (T ++ digs x)) (fun _ _ => False) := by
  refine CtG.of (own := RJ5) (by decide) rfl hl (by intro v hv; simp only [List.mem_cons, List.not_mem_nil, or_false] at hv; first | (rcases hv with rfl | rfl | rfl | rfl | rfl | rfl <;> rfl) | (rcases hv with rfl | rfl | rfl | rfl | rfl <;> rfl) | (rcases hv with rfl | rfl | rfl | rfl <;> rfl) | (rcases hv with rfl | rfl | rfl <;> rfl) | (rcases hv with rfl | rfl <;> rfl) | (subst hv; rfl) | exact hv.elim) (Nat.le_of_ble_eq_true rfl) (fun X hxl hxk C F NH hnm => ?_)
  subst hxl hxk
  show V X iW 0 [some (.ref a), some (.int (nI x)), none, none] [] (sbW (xK X) a v N T) 0 0
  have hdl := dig_le x
  refine v_aload_n C dJ5_append_c97b9_0 rfl ?_
  refine v_gF (K := fun w => w) C Cxt.id (v := .int (nI (T.length))) 0 fl_J5_79 rfl rfl dJ5_append_c97b9_1 ?_
  refine v_istore_n C (lo2 := [some _, some _, some _, none]) dJ5_append_c97b9_4 rfl (Nat.le_of_ble_eq_true rfl) rfl ?_
  refine v_iload_n C dJ5_append_c97b9_5 rfl ?_
  refine v_iload_n C dJ5_append_c97b9_6 rfl ?_
  refine v_gSi (K := fun w => w) C Cxt.id (c_J6_stringSize_0f7a4 hl hx) ys_J6_stringSize_0f7a4 ml_J5_245 rfl rfl dJ5_append_c97b9_7 (by first | omega | exact Nat.le_of_ble_eq_true rfl) (by first | omega | exact Nat.le_of_ble_eq_true rfl) (by first | omega | exact Nat.le_of_ble_eq_true rfl) (Nat.le_of_ble_eq_true rfl) (fun _ _ hu => hu.elim) (fun r u hu => ?_)
  obtain ⟨rfl, rfl⟩ := hu
  first | refine v_iaddN C dJ5_append_c97b9_10 ?_ | refine v_iadd C dJ5_append_c97b9_10 ?_
  refine v_istore_n C (lo2 := [some _, some _, some _, some _]) dJ5_append_c97b9_11 rfl (Nat.le_of_ble_eq_true rfl) rfl ?_
  refine v_aload_n C dJ5_append_c97b9_12 rfl ?_
  refine v_iload_n C dJ5_append_c97b9_13 rfl ?_
  refine v_gUv (K := fun w => w) C Cxt.id 0 (c_J5_ensureCapacityInternal_d00df hl hS (by omega)) yu_J5_ensureCapacityInternal_d00df ml_J5_100 rfl rfl rfl rfl dJ5_append_c97b9_14 (by first | omega | exact Nat.le_of_ble_eq_true rfl) (by first | omega | exact Nat.le_of_ble_eq_true rfl) (by first | omega | exact Nat.le_of_ble_eq_true rfl) (Nat.le_of_ble_eq_true rfl) (fun _ _ hu => hu.elim) (fun r u hu => ?_)
  obtain ⟨v2, N2, hq2, hS2, rfl⟩ := hu
  refine v_aload_n C dJ5_append_c97b9_17 rfl ?_
  refine v_gUi (K := fun w => w) C Cxt.id 0 (c_J5_isLatin1_aae02 hl) yu_J5_isLatin1_aae02 ml_J5_83 rfl rfl rfl rfl dJ5_append_c97b9_18 (by first | omega | exact Nat.le_of_ble_eq_true rfl) (by first | omega | exact Nat.le_of_ble_eq_true rfl) (by first | omega | exact Nat.le_of_ble_eq_true rfl) (Nat.le_of_ble_eq_true rfl) (fun _ _ hu => hu.elim) (fun r u hu => ?_)
  obtain ⟨rfl, rfl⟩ := hu
  refine v_if_eq C 37 dJ5_append_c97b9_21 (by decide) (fun c => absurd c (by decide)) (fun c21 => ?_)
  refine v_iload_n C dJ5_append_c97b9_24 rfl ?_
  refine v_iload_n C dJ5_append_c97b9_25 rfl ?_
  refine v_aload_n C dJ5_append_c97b9_26 rfl ?_
  refine v_gF (K := fun w => w) C Cxt.id (v := .ref v2) 0 fl_J5_15 rfl rfl dJ5_append_c97b9_27 ?_
  refine v_gSi (K := fun w => (a, .inr (10, [.ref v2, .int (nI 0), .int 0, .int (nI T.length)])) :: w) C (Cxt.c _ Cxt.id) (c_J6_getChars_ba4f3 hl hq2 hS2.2.1 hx) ys_J6_getChars_ba4f3 ml_J5_248 rfl rfl dJ5_append_c97b9_30 (by first | omega | exact Nat.le_of_ble_eq_true rfl) (by first | omega | exact Nat.le_of_ble_eq_true rfl) (by first | omega | exact Nat.le_of_ble_eq_true rfl) (Nat.le_of_ble_eq_true rfl) (fun _ _ hu => hu.elim) (fun r u hu => ?_)
  obtain ⟨rfl, rfl⟩ := hu
  refine v_pop C dJ5_append_c97b9_33 rfl ?_
  refine v_goto C 48 dJ5_append_c97b9_34 (by decide) ?_
  refine v_aload_n C dJ5_append_c97b9_48 rfl ?_
  refine v_iload_n C dJ5_append_c97b9_49 rfl ?_
  refine v_pF (K := fun w => w) (ws := sbC (xK X) a v2 N2 (T ++ digs x) T.length) C Cxt.id 0 fl_J5_79 fw_J4_3 rfl rfl rfl (Nat.le_of_ble_eq_true rfl) rfl dJ5_append_c97b9_50 ?_
  refine v_aload_n C dJ5_append_c97b9_53 rfl ?_
  refine v_aretG C (x := (some a)) F (Or.inl ⟨_, rfl⟩) dJ5_append_c97b9_54 (by first | omega | exact Nat.le_of_ble_eq_true rfl) (by first | omega | exact Nat.le_of_ble_eq_true rfl) rfl (List.Perm.refl _) ?_
  exact ⟨rfl, v2, N2, ⟨by rw [List.length_append, digs_len]; exact hq2, hS2.2.1, hS2.2.2.app (digs_lat hx)⟩, by rw [← digs_len, ← List.length_append]; rfl⟩
set_option maxHeartbeats 16000000 in
theorem c_J4_append_bf812 {l : Launch} (hl : l.stackTraces = false) {κ : Kp} {a v N : Nat} {T : List Nat} {x : Nat} (hx : x < 1000) (hS : SbOK N T) (h2 : T.length + 3 ≤ 500) : CtG SS MM l κ yJ4_append_bf812 cJ4_append_bf812 2 (some (FieldType.object "java/lang/StringBuilder")) 4 1 1000 [.ref a, .int (nI x)] (sbW κ a v N T) rr (fun r w => r = a ∧ ∃ v' N', SbOK N' (T ++ digs x) ∧ w = sbW κ a v' N' (T ++ digs x)) (fun _ _ => False) := by
  refine CtG.of (own := RJ4) (by decide) rfl hl (by intro v hv; simp only [List.mem_cons, List.not_mem_nil, or_false] at hv; first | (rcases hv with rfl | rfl | rfl | rfl | rfl | rfl <;> rfl) | (rcases hv with rfl | rfl | rfl | rfl | rfl <;> rfl) | (rcases hv with rfl | rfl | rfl | rfl <;> rfl) | (rcases hv with rfl | rfl | rfl <;> rfl) | (rcases hv with rfl | rfl <;> rfl) | (subst hv; rfl) | exact hv.elim) (Nat.le_of_ble_eq_true rfl) (fun X hxl hxk C F NH hnm => ?_)
  subst hxl hxk
  show V X iW 0 [some (.ref a), some (.int (nI x))] [] (sbW (xK X) a v N T) 0 0
  refine v_aload_n C dJ4_append_bf812_0 rfl ?_
  refine v_iload_n C dJ4_append_bf812_1 rfl ?_
  refine v_gWr (K := fun w => w) C Cxt.id 0 (c_J5_append_c97b9 hl hx hS h2) yw_J5_append_c97b9 ml_J4_53 rfl rfl rfl rfl dJ4_append_bf812_2 (by first | omega | exact Nat.le_of_ble_eq_true rfl) (by first | omega | exact Nat.le_of_ble_eq_true rfl) (by first | omega | exact Nat.le_of_ble_eq_true rfl) (Nat.le_of_ble_eq_true rfl) (fun _ _ hu => hu.elim) (fun r u hu => ?_)
  obtain ⟨e9, v2, N2, hS2, rfl⟩ := hu
  subst r
  refine v_pop C dJ4_append_bf812_5 rfl ?_
  refine v_aload_n C dJ4_append_bf812_6 rfl ?_
  refine v_aretG C (x := (some a)) F (Or.inl ⟨_, rfl⟩) dJ4_append_bf812_7 (by first | omega | exact Nat.le_of_ble_eq_true rfl) (by first | omega | exact Nat.le_of_ble_eq_true rfl) rfl (List.Perm.refl _) ?_
  exact ⟨rfl, v2, N2, hS2, rfl⟩
set_option maxHeartbeats 16000000 in
theorem c_J5_init_d00df {l : Launch} (hl : l.stackTraces = false) {κ : Kp} {a : Nat}  : CtG SS MM l κ yJ5_init_d00df cJ5_init_d00df 2 none 0 1 16 [.ref a, .int (nI 16)] ([(a, .inr (10, [.null, .int 0, .int 0, .int 0]))]) rv (fun _ w => ∃ v, w = sbW κ a v 16 []) (fun _ _ => False) := by
  refine CtG.of (own := RJ5) (by decide) rfl hl (by intro v hv; simp only [List.mem_cons, List.not_mem_nil, or_false] at hv; first | (rcases hv with rfl | rfl | rfl | rfl | rfl | rfl <;> rfl) | (rcases hv with rfl | rfl | rfl | rfl | rfl <;> rfl) | (rcases hv with rfl | rfl | rfl | rfl <;> rfl) | (rcases hv with rfl | rfl | rfl <;> rfl) | (rcases hv with rfl | rfl <;> rfl) | (subst hv; rfl) | exact hv.elim) (Nat.le_of_ble_eq_true rfl) (fun X hxl hxk C F NH hnm => ?_)
  subst hxl hxk
  show V X iW 0 [some (.ref a), some (.int (nI 16))] [] ([(a, .inr (10, [.null, .int 0, .int 0, .int 0]))]) 0 0
  refine v_aload_n C dJ5_init_d00df_0 rfl ?_
  refine v_objInit C ml_J5_3 rfl dJ5_init_d00df_1 (by decide) ?_
  refine v_getsC C (TT_t 353 (by decide +kernel) (by decide +kernel)) dJ5_init_d00df_4 ?_
  refine v_if_eq C 25 dJ5_init_d00df_7 (by decide) (fun c => absurd c (by decide)) (fun c7 => ?_)
  refine v_aload_n C dJ5_init_d00df_10 rfl ?_
  refine v_iload_n C dJ5_init_d00df_11 rfl ?_
  refine v_newB C (16) rfl (by omega) dJ5_init_d00df_12 (by first | omega | exact Nat.le_of_ble_eq_true rfl) (by first | omega | exact Nat.le_of_ble_eq_true rfl) (fun q => ?_)
  refine v_pF (K := fun w => w) (ws := [cB (xK X) q 16 (fun _ => 0), (a, .inr (10, [.null, .int 0, .int 0, .int 0]))]) C Cxt.id 1 fl_J5_15 fw_J4_0 rfl rfl rfl (Nat.le_of_ble_eq_true rfl) rfl dJ5_init_d00df_14 ?_
  refine v_aload_n C dJ5_init_d00df_17 rfl ?_
  refine v_iconst (v := nI 0) C dJ5_init_d00df_18 (by decide) ?_
  refine v_pF (K := fun w => w) (ws := [cB (xK X) q 16 (fun _ => 0), (a, .inr (10, [.ref q, .int 0, .int 0, .int 0]))]) C Cxt.id 1 fl_J5_22 fw_J4_1 rfl rfl rfl (Nat.le_of_ble_eq_true rfl) rfl dJ5_init_d00df_19 ?_
  refine v_goto C 38 dJ5_init_d00df_22 (by decide) ?_
  refine v_vretG C (r := ()) F dJ5_init_d00df_38 (by first | omega | exact Nat.le_of_ble_eq_true rfl) (by first | omega | exact Nat.le_of_ble_eq_true rfl) rfl (List.Perm.swap _ _ _) ?_
  exact ⟨q, rfl⟩
set_option maxHeartbeats 16000000 in
theorem c_J4_init_da8c8 {l : Launch} (hl : l.stackTraces = false) {κ : Kp} {a : Nat}  : CtG SS MM l κ yJ4_init_da8c8 cJ4_init_da8c8 1 none 1 1 16 [.ref a] ([(a, .inr (10, [.null, .int 0, .int 0, .int 0]))]) rv (fun _ w => ∃ v, w = sbW κ a v 16 []) (fun _ _ => False) := by
  refine CtG.of (own := RJ4) (by decide) rfl hl (by intro v hv; simp only [List.mem_cons, List.not_mem_nil, or_false] at hv; first | (rcases hv with rfl | rfl | rfl | rfl | rfl | rfl <;> rfl) | (rcases hv with rfl | rfl | rfl | rfl | rfl <;> rfl) | (rcases hv with rfl | rfl | rfl | rfl <;> rfl) | (rcases hv with rfl | rfl | rfl <;> rfl) | (rcases hv with rfl | rfl <;> rfl) | (subst hv; rfl) | exact hv.elim) (Nat.le_of_ble_eq_true rfl) (fun X hxl hxk C F NH hnm => ?_)
  subst hxl hxk
  show V X iW 0 [some (.ref a)] [] ([(a, .inr (10, [.null, .int 0, .int 0, .int 0]))]) 0 0
  refine v_aload_n C dJ4_init_da8c8_0 rfl ?_
  refine v_bipush (v := nI 16) C dJ4_init_da8c8_1 (by decide) ?_
  refine v_gNv (K := fun w => w) C Cxt.id (c_J5_init_d00df hl) yc_J5_init_d00df ml_J4_1 rfl rfl dJ4_init_da8c8_3 (by first | omega | exact Nat.le_of_ble_eq_true rfl) (by first | omega | exact Nat.le_of_ble_eq_true rfl) (by first | omega | exact Nat.le_of_ble_eq_true rfl) (Nat.le_of_ble_eq_true rfl) (fun _ _ hu => hu.elim) (fun r u hu => ?_)
  obtain ⟨v, rfl⟩ := hu
  refine v_vretG C (r := ()) F dJ4_init_da8c8_6 (by first | omega | exact Nat.le_of_ble_eq_true rfl) (by first | omega | exact Nat.le_of_ble_eq_true rfl) rfl (List.Perm.refl _) ?_
  exact ⟨v, rfl⟩
set_option maxHeartbeats 16000000 in
theorem c_J5_init_a7421 {l : Launch} (hl : l.stackTraces = false) {κ : Kp} {a : Nat} {i : Nat} {q : SQ} (hq : SS[i]? = some q) : CtG SS MM l κ yJ5_init_a7421 cJ5_init_a7421 5 none 6 2 1024 [.ref a, .ref (κ.2.2.1 i)] ([(a, .inr (10, [.null, .int 0, .int 0, .int 0]))]) rv (fun _ w => ∃ v N, SbOK N q.2.2.2 ∧ w = sbW κ a v N q.2.2.2) (fun _ _ => False) := by
  refine CtG.of (own := RJ5) (by decide) rfl hl (by intro v hv; simp only [List.mem_cons, List.not_mem_nil, or_false] at hv; first | (rcases hv with rfl | rfl | rfl | rfl | rfl | rfl <;> rfl) | (rcases hv with rfl | rfl | rfl | rfl | rfl <;> rfl) | (rcases hv with rfl | rfl | rfl | rfl <;> rfl) | (rcases hv with rfl | rfl | rfl <;> rfl) | (rcases hv with rfl | rfl <;> rfl) | (subst hv; rfl) | exact hv.elim) (Nat.le_of_ble_eq_true rfl) (fun X hxl hxk C F NH hnm => ?_)
  subst hxl hxk
  show V X iW 0 [some (.ref a), some (.ref ((xK X).2.2.1 i)), none, none, none] [] ([(a, .inr (10, [.null, .int 0, .int 0, .int 0]))]) 0 0
  have hok := SS_ok hq
  refine v_aload_n C dJ5_init_a7421_0 rfl ?_
  refine v_objInit C ml_J5_3 rfl dJ5_init_a7421_1 (by decide) ?_
  refine v_aload_n C dJ5_init_a7421_4 rfl ?_
  refine v_kKi C hq (c_J0_length hl hq) ym_J0_length_8abf5 ml_J5_32 rfl rfl dJ5_init_a7421_5 (by first | omega | exact Nat.le_of_ble_eq_true rfl) (by first | omega | exact Nat.le_of_ble_eq_true rfl) (by first | omega | exact Nat.le_of_ble_eq_true rfl) (Nat.le_of_ble_eq_true rfl) (fun _ _ hu => hu.elim) (fun r u hu => ?_)
  subst r
  refine v_istore_n C (lo2 := [some _, some _, some _, none, none]) dJ5_init_a7421_8 rfl (Nat.le_of_ble_eq_true rfl) rfl ?_
  refine v_iload_n C dJ5_init_a7421_9 rfl ?_
  refine v_ldcI (v := 2147483631) C (TT_t 287 (by decide +kernel) (by decide +kernel)) dJ5_init_a7421_10 ?_
  refine v_icmp_ge C 22 dJ5_init_a7421_12 (by decide) (fun c12 => ?_) (fun c12 => ?_)
  · exact absurd c12 (by rw [nI_toInt (by omega)]; rw [i_631]; omega)
  · refine v_iload_n C dJ5_init_a7421_15 rfl ?_
    refine v_bipush (v := nI 16) C dJ5_init_a7421_16 (by decide) ?_
    first | refine v_iaddN C dJ5_init_a7421_18 ?_ | refine v_iadd C dJ5_init_a7421_18 ?_
    refine v_goto C 24 dJ5_init_a7421_19 (by decide) ?_
    refine v_istore_n C (lo2 := [some _, some _, some _, some _, none]) dJ5_init_a7421_24 rfl (Nat.le_of_ble_eq_true rfl) rfl ?_
    refine v_aload_n C dJ5_init_a7421_25 rfl ?_
    refine v_kKi C hq (c_J0_coder hl hq) ym_J0_coder_7d493 ml_J5_40 rfl rfl dJ5_init_a7421_26 (by first | omega | exact Nat.le_of_ble_eq_true rfl) (by first | omega | exact Nat.le_of_ble_eq_true rfl) (by first | omega | exact Nat.le_of_ble_eq_true rfl) (Nat.le_of_ble_eq_true rfl) (fun _ _ hu => hu.elim) (fun r u hu => ?_)
    subst r
    refine v_istore C (lo2 := [some _, some _, some _, some _, some _]) dJ5_init_a7421_29 rfl (Nat.le_of_ble_eq_true rfl) rfl ?_
    refine v_aload_n C dJ5_init_a7421_31 rfl ?_
    refine v_iload C dJ5_init_a7421_32 rfl ?_
    refine v_pF (K := fun w => w) (ws := [(a, .inr (10, [.null, .int 0, .int 0, .int 0]))]) C Cxt.id 0 fl_J5_22 fw_J4_1 rfl rfl rfl (Nat.le_of_ble_eq_true rfl) rfl dJ5_init_a7421_34 ?_
    refine v_aload_n C dJ5_init_a7421_37 rfl ?_
    refine v_iload C dJ5_init_a7421_38 rfl ?_
    refine v_if_ne C 49 dJ5_init_a7421_40 (by decide) (fun c => absurd c (by decide)) (fun c40 => ?_)
    refine v_iload_n C dJ5_init_a7421_43 rfl ?_
    refine v_newB C ((q.2.2.2.length + 16)) rfl (by omega) dJ5_init_a7421_44 (by first | omega | exact Nat.le_of_ble_eq_true rfl) (by first | omega | exact Nat.le_of_ble_eq_true rfl) (fun b => ?_)
    refine v_goto C 53 dJ5_init_a7421_46 (by decide) ?_
    refine v_pF (K := fun w => w) (ws := [cB (xK X) b (q.2.2.2.length + 16) (fun _ => 0), (a, .inr (10, [.null, .int (nI 0), .int 0, .int 0]))]) C Cxt.id 1 fl_J5_15 fw_J4_0 rfl rfl rfl (Nat.le_of_ble_eq_true rfl) rfl dJ5_init_a7421_53 ?_
    refine V.perm (ws' := sbW (xK X) a b (q.2.2.2.length + 16) []) (List.Perm.swap _ _ _) ?_
    refine v_aload_n C dJ5_init_a7421_56 rfl ?_
    refine v_aload_n C dJ5_init_a7421_57 rfl ?_
    refine v_gUr (K := fun w => w) C Cxt.id 0 (c_J4_append_cf1ce hl (T := []) hq ⟨Nat.zero_le _, by omega, by intro b hb; cases hb⟩ (by show 0 + q.2.2.2.length ≤ 500; omega)) yu_J5_append_cf1ce ml_J5_43 rfl rfl rfl rfl dJ5_init_a7421_58 (by first | omega | exact Nat.le_of_ble_eq_true rfl) (by first | omega | exact Nat.le_of_ble_eq_true rfl) (by first | omega | exact Nat.le_of_ble_eq_true rfl) (Nat.le_of_ble_eq_true rfl) (fun _ _ hu => hu.elim) (fun r u hu => ?_)
    obtain ⟨e9, v2, N2, hS2, rfl⟩ := hu
    subst r
    refine v_pop C dJ5_init_a7421_61 rfl ?_
    refine v_vretG C (r := ()) F dJ5_init_a7421_62 (by first | omega | exact Nat.le_of_ble_eq_true rfl) (by first | omega | exact Nat.le_of_ble_eq_true rfl) rfl (List.Perm.refl _) ?_
    exact ⟨v2, N2, hS2, rfl⟩
set_option maxHeartbeats 16000000 in
theorem c_J4_init_a7421 {l : Launch} (hl : l.stackTraces = false) {κ : Kp} {a : Nat} {i : Nat} {q : SQ} (hq : SS[i]? = some q) : CtG SS MM l κ yJ4_init_a7421 cJ4_init_a7421 2 none 7 2 1024 [.ref a, .ref (κ.2.2.1 i)] ([(a, .inr (10, [.null, .int 0, .int 0, .int 0]))]) rv (fun _ w => ∃ v N, SbOK N q.2.2.2 ∧ w = sbW κ a v N q.2.2.2) (fun _ _ => False) := by
  refine CtG.of (own := RJ4) (by decide) rfl hl (by intro v hv; simp only [List.mem_cons, List.not_mem_nil, or_false] at hv; first | (rcases hv with rfl | rfl | rfl | rfl | rfl | rfl <;> rfl) | (rcases hv with rfl | rfl | rfl | rfl | rfl <;> rfl) | (rcases hv with rfl | rfl | rfl | rfl <;> rfl) | (rcases hv with rfl | rfl | rfl <;> rfl) | (rcases hv with rfl | rfl <;> rfl) | (subst hv; rfl) | exact hv.elim) (Nat.le_of_ble_eq_true rfl) (fun X hxl hxk C F NH hnm => ?_)
  subst hxl hxk
  show V X iW 0 [some (.ref a), some (.ref ((xK X).2.2.1 i))] [] ([(a, .inr (10, [.null, .int 0, .int 0, .int 0]))]) 0 0
  refine v_aload_n C dJ4_init_a7421_0 rfl ?_
  refine v_aload_n C dJ4_init_a7421_1 rfl ?_
  refine v_gNv (K := fun w => w) C Cxt.id (c_J5_init_a7421 hl hq) yc_J5_init_a7421 ml_J4_7 rfl rfl dJ4_init_a7421_2 (by first | omega | exact Nat.le_of_ble_eq_true rfl) (by first | omega | exact Nat.le_of_ble_eq_true rfl) (by first | omega | exact Nat.le_of_ble_eq_true rfl) (Nat.le_of_ble_eq_true rfl) (fun _ _ hu => hu.elim) (fun r u hu => ?_)
  obtain ⟨v2, N2, hS2, rfl⟩ := hu
  refine v_vretG C (r := ()) F dJ4_init_a7421_5 (by first | omega | exact Nat.le_of_ble_eq_true rfl) (by first | omega | exact Nat.le_of_ble_eq_true rfl) rfl (List.Perm.refl _) ?_
  exact ⟨v2, N2, hS2, rfl⟩
set_option maxHeartbeats 16000000 in
theorem c_J5_charAt_5068e {l : Launch} (hl : l.stackTraces = false) {κ : Kp} {a v N : Nat} {T : List Nat} {j : Nat} (hS : SbOK N T) (hj : j < T.length) : CtG SS MM l κ yJ5_charAt_5068e cJ5_charAt_5068e 5 (some FieldType.char) 2 0 0 [.ref a, .int (nI j)] (sbW κ a v N T) ri (fun r w => r = nI (T.getD j 0) ∧ w = sbW κ a v N T) (fun _ _ => False) := by
  refine CtG.of (own := RJ5) (by decide) rfl hl (by intro v hv; simp only [List.mem_cons, List.not_mem_nil, or_false] at hv; first | (rcases hv with rfl | rfl | rfl | rfl | rfl | rfl <;> rfl) | (rcases hv with rfl | rfl | rfl | rfl | rfl <;> rfl) | (rcases hv with rfl | rfl | rfl | rfl <;> rfl) | (rcases hv with rfl | rfl | rfl <;> rfl) | (rcases hv with rfl | rfl <;> rfl) | (subst hv; rfl) | exact hv.elim) (Nat.le_of_ble_eq_true rfl) (fun X hxl hxk C F NH hnm => ?_)
  subst hxl hxk
  show V X iW 0 [some (.ref a), some (.int (nI j)), none, none, none] [] (sbW (xK X) a v N T) 0 0
  obtain ⟨s1, s2, s3⟩ := hS
  have hb := s3.get j
  refine v_aload_n C dJ5_charAt_5068e_0 rfl ?_
  refine v_gF (K := fun w => w) C Cxt.id (v := .int (nI 0)) 0 fl_J5_22 rfl rfl dJ5_charAt_5068e_1 ?_
  refine v_istore_n C (lo2 := [some _, some _, some _, none, none]) dJ5_charAt_5068e_4 rfl (Nat.le_of_ble_eq_true rfl) rfl ?_
  refine v_aload_n C dJ5_charAt_5068e_5 rfl ?_
  refine v_gF (K := fun w => w) C Cxt.id (v := .ref v) 0 fl_J5_15 rfl rfl dJ5_charAt_5068e_6 ?_
  refine v_astore_n C (lo2 := [some _, some _, some _, some _, none]) dJ5_charAt_5068e_9 rfl (Nat.le_of_ble_eq_true rfl) rfl ?_
  refine v_aload_n C dJ5_charAt_5068e_10 rfl ?_
  refine v_gF (K := fun w => w) C Cxt.id (v := .int (nI (T.length))) 0 fl_J5_79 rfl rfl dJ5_charAt_5068e_11 ?_
  refine v_aload_n C dJ5_charAt_5068e_14 rfl ?_
  refine v_lenA (K := fun w => w) C Cxt.id (N := N) 2 1 rfl rfl rfl dJ5_charAt_5068e_15 ?_
  refine v_iload_n C dJ5_charAt_5068e_16 rfl ?_
  refine v_ishr C dJ5_charAt_5068e_17 ?_
  rw [shr_0]
  refine v_mmin (z := nI T.length) C ml_J5_138 w_minS w_mI w_minC rfl (Nat.le_of_ble_eq_true rfl) dJ5_charAt_5068e_18 (by first | omega | exact Nat.le_of_ble_eq_true rfl) (by first | omega | exact Nat.le_of_ble_eq_true rfl) ?_ ?_
  · rw [mn_n (by omega) (by omega), if_neg (by omega)]
  refine v_istore C (lo2 := [some _, some _, some _, some _, some _]) dJ5_charAt_5068e_21 rfl (Nat.le_of_ble_eq_true rfl) rfl ?_
  refine v_iload_n C dJ5_charAt_5068e_23 rfl ?_
  refine v_iload C dJ5_charAt_5068e_24 rfl ?_
  refine v_kOv C (c_J0_checkIndex hl hj (by omega)) ys_J0_checkIndex_df160 ml_J5_144 rfl rfl dJ5_charAt_5068e_26 (by first | omega | exact Nat.le_of_ble_eq_true rfl) (by first | omega | exact Nat.le_of_ble_eq_true rfl) (by first | omega | exact Nat.le_of_ble_eq_true rfl) (Nat.le_of_ble_eq_true rfl) (fun _ _ hu => hu.elim) (fun r u hu => ?_)
  skip
  refine v_iload_n C dJ5_charAt_5068e_29 rfl ?_
  refine v_if_ne C 42 dJ5_charAt_5068e_30 (by decide) (fun c => absurd c (by decide)) (fun c30 => ?_)
  refine v_aload_n C dJ5_charAt_5068e_33 rfl ?_
  refine v_iload_n C dJ5_charAt_5068e_34 rfl ?_
  refine v_gB (K := fun w => w) C Cxt.id (x := (nI (T.getD j 0))) 1 rfl (by omega) j (rfl) ?_ rfl dJ5_charAt_5068e_35 ?_
  · omega
  refine v_sipush (v := nI 255) C dJ5_charAt_5068e_36 (by decide) ?_
  refine v_iand C dJ5_charAt_5068e_39 ?_
  rw [ch_and _ hb]
  refine v_i2c C (v := nI (T.getD j 0)) dJ5_charAt_5068e_40 (ch_i2c _ hb) ?_
  refine v_iretG C F (ch_nar _ hb) dJ5_charAt_5068e_41 (by first | omega | exact Nat.le_of_ble_eq_true rfl) (by first | omega | exact Nat.le_of_ble_eq_true rfl) rfl (List.Perm.refl _) ?_
  first | exact rfl | exact ⟨rfl, rfl⟩
set_option maxHeartbeats 16000000 in
theorem c_J4_charAt_5068e {l : Launch} (hl : l.stackTraces = false) {κ : Kp} {a v N : Nat} {T : List Nat} {j : Nat} (hS : SbOK N T) (hj : j < T.length) : CtG SS MM l κ yJ4_charAt_5068e cJ4_charAt_5068e 2 (some FieldType.char) 3 0 0 [.ref a, .int (nI j)] (sbW κ a v N T) ri (fun r w => r = nI (T.getD j 0) ∧ w = sbW κ a v N T) (fun _ _ => False) := by
  refine CtG.of (own := RJ4) (by decide) rfl hl (by intro v hv; simp only [List.mem_cons, List.not_mem_nil, or_false] at hv; first | (rcases hv with rfl | rfl | rfl | rfl | rfl | rfl <;> rfl) | (rcases hv with rfl | rfl | rfl | rfl | rfl <;> rfl) | (rcases hv with rfl | rfl | rfl | rfl <;> rfl) | (rcases hv with rfl | rfl | rfl <;> rfl) | (rcases hv with rfl | rfl <;> rfl) | (subst hv; rfl) | exact hv.elim) (Nat.le_of_ble_eq_true rfl) (fun X hxl hxk C F NH hnm => ?_)
  subst hxl hxk
  show V X iW 0 [some (.ref a), some (.int (nI j))] [] (sbW (xK X) a v N T) 0 0
  refine v_aload_n C dJ4_charAt_5068e_0 rfl ?_
  refine v_iload_n C dJ4_charAt_5068e_1 rfl ?_
  refine v_gWi (K := fun w => w) C Cxt.id 0 (c_J5_charAt_5068e hl hS hj) yw_J5_charAt_5068e ml_J4_329 rfl rfl rfl rfl dJ4_charAt_5068e_2 (by first | omega | exact Nat.le_of_ble_eq_true rfl) (by first | omega | exact Nat.le_of_ble_eq_true rfl) (by first | omega | exact Nat.le_of_ble_eq_true rfl) (Nat.le_of_ble_eq_true rfl) (fun _ _ hu => hu.elim) (fun r u hu => ?_)
  obtain ⟨rfl, rfl⟩ := hu
  refine v_iretG C F (ch_nar _ (hS.2.2.get j)) dJ4_charAt_5068e_5 (by first | omega | exact Nat.le_of_ble_eq_true rfl) (by first | omega | exact Nat.le_of_ble_eq_true rfl) rfl (List.Perm.refl _) ?_
  first | exact rfl | exact ⟨rfl, rfl⟩
set_option maxHeartbeats 16000000 in
theorem c_J7_copyOfRangeByte_39247 {l : Launch} (hl : l.stackTraces = false) {κ : Kp} {v N ci : Nat} {T : List Nat} {ws : va_W} (he : ws[ci]? = some (cB κ v N (tf T))) (hT : Lat T) (h0 : T.length ≤ N) (h2 : N ≤ 1000) : CtG SS MM l κ yJ7_copyOfRangeByte_39247 cJ7_copyOfRangeByte_39247 5 (some (FieldType.array FieldType.byte)) 1 1 1000 [.ref v, .int (nI 0), .int (nI T.length)] (ws) rr (fun r w => w = cB κ r T.length (tf T) :: ws) (fun _ _ => False) := by
  refine CtG.of (own := RJ7) (by decide) rfl hl (by intro v hv; simp only [List.mem_cons, List.not_mem_nil, or_false] at hv; first | (rcases hv with rfl | rfl | rfl | rfl | rfl | rfl <;> rfl) | (rcases hv with rfl | rfl | rfl | rfl | rfl <;> rfl) | (rcases hv with rfl | rfl | rfl | rfl <;> rfl) | (rcases hv with rfl | rfl | rfl <;> rfl) | (rcases hv with rfl | rfl <;> rfl) | (subst hv; rfl) | exact hv.elim) (Nat.le_of_ble_eq_true rfl) (fun X hxl hxk C F NH hnm => ?_)
  subst hxl hxk
  show V X iW 0 [some (.ref v), some (.int (nI 0)), some (.int (nI T.length)), none, none] [] (ws) 0 0
  refine v_iload_n C dJ7_copyOfRangeByte_39247_0 rfl ?_
  refine v_iload_n C dJ7_copyOfRangeByte_39247_1 rfl ?_
  refine v_gSv (K := fun w => w) C Cxt.id (c_J7_checkLength_df160 hl (Nat.zero_le _) (by omega)) ys_J7_checkLength_df160 ml_J7_343 rfl rfl dJ7_copyOfRangeByte_39247_2 (by first | omega | exact Nat.le_of_ble_eq_true rfl) (by first | omega | exact Nat.le_of_ble_eq_true rfl) (by first | omega | exact Nat.le_of_ble_eq_true rfl) (Nat.le_of_ble_eq_true rfl) (fun _ _ hu => hu.elim) (fun r u hu => ?_)
  subst u
  refine v_iload_n C dJ7_copyOfRangeByte_39247_5 rfl ?_
  refine v_iload_n C dJ7_copyOfRangeByte_39247_6 rfl ?_
  first | refine v_isubN C dJ7_copyOfRangeByte_39247_7 (by omega) ?_ | refine v_isub C dJ7_copyOfRangeByte_39247_7 ?_
  refine v_istore_n C (lo2 := [some _, some _, some _, some _, none]) dJ7_copyOfRangeByte_39247_8 rfl (Nat.le_of_ble_eq_true rfl) rfl ?_
  refine v_iload_n C dJ7_copyOfRangeByte_39247_9 rfl ?_
  refine v_newB C (T.length) rfl (by omega) dJ7_copyOfRangeByte_39247_10 (by first | omega | exact Nat.le_of_ble_eq_true rfl) (by first | omega | exact Nat.le_of_ble_eq_true rfl) (fun q => ?_)
  refine v_astore C (lo2 := [some _, some _, some _, some _, some _]) dJ7_copyOfRangeByte_39247_12 rfl (Nat.le_of_ble_eq_true rfl) rfl ?_
  refine v_aload_n C dJ7_copyOfRangeByte_39247_14 rfl ?_
  refine v_iload_n C dJ7_copyOfRangeByte_39247_15 rfl ?_
  refine v_aload C dJ7_copyOfRangeByte_39247_16 rfl ?_
  refine v_iconst (v := nI 0) C dJ7_copyOfRangeByte_39247_18 (by decide) ?_
  refine v_aload_n C dJ7_copyOfRangeByte_39247_19 rfl ?_
  refine v_lenA (K := fun w => w) C Cxt.id (N := N) 2 (ci + 1) rfl (show (_ :: ws)[ci + 1]? = _ from he) rfl dJ7_copyOfRangeByte_39247_20 ?_
  refine v_iload_n C dJ7_copyOfRangeByte_39247_21 rfl ?_
  first | refine v_isubN C dJ7_copyOfRangeByte_39247_22 (by omega) ?_ | refine v_isub C dJ7_copyOfRangeByte_39247_22 ?_
  refine v_iload_n C dJ7_copyOfRangeByte_39247_23 rfl ?_
  refine v_mmin (z := nI T.length) C ml_J7_304 w_minS w_mI w_minC rfl (Nat.le_of_ble_eq_true rfl) dJ7_copyOfRangeByte_39247_24 (by first | omega | exact Nat.le_of_ble_eq_true rfl) (by first | omega | exact Nat.le_of_ble_eq_true rfl) ?_ ?_
  · show (if nI T.length < nI N then nI T.length else nI N) = _
    rw [mn_n (by omega) (by omega)]
    by_cases e : T.length < N
    · rw [if_pos e]
    · rw [if_neg e, show N = T.length by omega]
  refine v_copyB (K := fun w => w) C Cxt.id (ci + 1) 0 0 0 T.length ml_J7_150 (show (_ :: ws)[ci + 1]? = _ from he) rfl rfl rfl rfl (by omega) (by omega) (by omega) (by omega) (fun i _ => hT.fit _) rfl (Nat.le_of_ble_eq_true rfl) rfl dJ7_copyOfRangeByte_39247_27 ?_
  refine v_aload C dJ7_copyOfRangeByte_39247_30 rfl ?_
  refine v_aretG C (x := (some q)) F (Or.inr ⟨_, rfl⟩) dJ7_copyOfRangeByte_39247_32 (by first | omega | exact Nat.le_of_ble_eq_true rfl) (by first | omega | exact Nat.le_of_ble_eq_true rfl) rfl (List.Perm.refl _) ?_
  show cB (xK X) q T.length (va_cpy (tf T) (fun _ => 0) 0 0 T.length) :: ws = _
  rw [tf_cpyL]
set_option maxHeartbeats 16000000 in
theorem c_J7_copyOfRange_39247 {l : Launch} (hl : l.stackTraces = false) {κ : Kp} {v N ci : Nat} {T : List Nat} {ws : va_W} (he : ws[ci]? = some (cB κ v N (tf T))) (hT : Lat T) (h0 : T.length ≤ N) (h2 : N ≤ 1000) : CtG SS MM l κ yJ7_copyOfRange_39247 cJ7_copyOfRange_39247 3 (some (FieldType.array FieldType.byte)) 2 1 1000 [.ref v, .int (nI 0), .int (nI T.length)] (ws) rr (fun r w => w = cB κ r T.length (tf T) :: ws) (fun _ _ => False) := by
  refine CtG.of (own := RJ7) (by decide) rfl hl (by intro v hv; simp only [List.mem_cons, List.not_mem_nil, or_false] at hv; first | (rcases hv with rfl | rfl | rfl | rfl | rfl | rfl <;> rfl) | (rcases hv with rfl | rfl | rfl | rfl | rfl <;> rfl) | (rcases hv with rfl | rfl | rfl | rfl <;> rfl) | (rcases hv with rfl | rfl | rfl <;> rfl) | (rcases hv with rfl | rfl <;> rfl) | (subst hv; rfl) | exact hv.elim) (Nat.le_of_ble_eq_true rfl) (fun X hxl hxk C F NH hnm => ?_)
  subst hxl hxk
  show V X iW 0 [some (.ref v), some (.int (nI 0)), some (.int (nI T.length))] [] (ws) 0 0
  refine v_iload_n C dJ7_copyOfRange_39247_0 rfl ?_
  refine v_if_ne C 10 dJ7_copyOfRange_39247_1 (by decide) (fun c => absurd c (by decide)) (fun c1 => ?_)
  refine v_iload_n C dJ7_copyOfRange_39247_4 rfl ?_
  refine v_aload_n C dJ7_copyOfRange_39247_5 rfl ?_
  refine v_lenA (K := fun w => w) C Cxt.id (N := N) 2 ci rfl he rfl dJ7_copyOfRange_39247_6 ?_
  first | refine v_icmp_eqN C 17 dJ7_copyOfRange_39247_7 (by decide) (by omega) (by omega) (fun c7 => ?_) (fun c7 => ?_) | refine v_icmp_eq C 17 dJ7_copyOfRange_39247_7 (by decide) (fun c7 => ?_) (fun c7 => ?_)
  · subst c7
    refine v_aload_n C dJ7_copyOfRange_39247_17 rfl ?_
    refine v_cloneB (K := fun w => w) C Cxt.id ci rfl he (fun i _ => hT.fit i) rfl (Nat.le_of_ble_eq_true rfl) dJ7_copyOfRange_39247_18 dJ7_copyOfRange_39247_21 (by first | omega | exact Nat.le_of_ble_eq_true rfl) (by first | omega | exact Nat.le_of_ble_eq_true rfl) (fun q => ?_)
    refine v_aretG C (x := (some q)) F (Or.inr ⟨_, rfl⟩) dJ7_copyOfRange_39247_24 (by first | omega | exact Nat.le_of_ble_eq_true rfl) (by first | omega | exact Nat.le_of_ble_eq_true rfl) rfl (List.Perm.refl _) ?_
    first | exact rfl | exact ⟨rfl, rfl⟩
  · refine v_aload_n C dJ7_copyOfRange_39247_10 rfl ?_
    refine v_iload_n C dJ7_copyOfRange_39247_11 rfl ?_
    refine v_iload_n C dJ7_copyOfRange_39247_12 rfl ?_
    refine v_gSr (K := fun w => w) C Cxt.id (c_J7_copyOfRangeByte_39247 hl he hT h0 h2) ys_J7_copyOfRangeByte_39247 ml_J7_339 rfl rfl dJ7_copyOfRange_39247_13 (by first | omega | exact Nat.le_of_ble_eq_true rfl) (by first | omega | exact Nat.le_of_ble_eq_true rfl) (by first | omega | exact Nat.le_of_ble_eq_true rfl) (Nat.le_of_ble_eq_true rfl) (fun _ _ hu => hu.elim) (fun r u hu => ?_)
    subst hu
    refine v_aretG C (x := (some r)) F (Or.inr ⟨_, rfl⟩) dJ7_copyOfRange_39247_16 (by first | omega | exact Nat.le_of_ble_eq_true rfl) (by first | omega | exact Nat.le_of_ble_eq_true rfl) rfl (List.Perm.refl _) ?_
    first | exact rfl | exact ⟨rfl, rfl⟩
set_option maxHeartbeats 16000000 in
theorem c_J0_init_db425 {l : Launch} (hl : l.stackTraces = false) {κ : Kp} {s a v N : Nat} {T : List Nat} (hS : SbOK N T) : CtG SS MM l κ yJ0_init_db425 cJ0_init_db425 5 none 3 1 1000 [.ref s, .ref a, .null] ((s, .inr (9, [.null, .int 0, .int 0, .int 0])) :: sbW κ a v N T) rv (fun _ w => ∃ v2, w = cB κ v2 T.length (tf T) :: (s, .inr (9, [.ref v2, .int (nI 0), .int 0, .int 0])) :: sbW κ a v N T) (fun _ _ => False) := by
  refine CtG.of (own := RJ0) (by decide) rfl hl (by intro v hv; simp only [List.mem_cons, List.not_mem_nil, or_false] at hv; first | (rcases hv with rfl | rfl | rfl | rfl | rfl | rfl <;> rfl) | (rcases hv with rfl | rfl | rfl | rfl | rfl <;> rfl) | (rcases hv with rfl | rfl | rfl | rfl <;> rfl) | (rcases hv with rfl | rfl | rfl <;> rfl) | (rcases hv with rfl | rfl <;> rfl) | (subst hv; rfl) | exact hv.elim) (Nat.le_of_ble_eq_true rfl) (fun X hxl hxk C F NH hnm => ?_)
  subst hxl hxk
  show V X iW 0 [some (.ref s), some (.ref a), some (.null), none, none] [] ((s, .inr (9, [.null, .int 0, .int 0, .int 0])) :: sbW (xK X) a v N T) 0 0
  refine v_aload_n C dJ0_init_db425_0 rfl ?_
  refine v_objInit C ml_J0_1 rfl dJ0_init_db425_1 (by decide) ?_
  refine v_aload_n C dJ0_init_db425_4 rfl ?_
  refine v_gUr (K := fun w => _ :: w) C (Cxt.c _ Cxt.id) 0 (c_J5_getValue_6d5f1 hl) yu_J5_getValue_6d5f1 ml_J0_552 rfl rfl rfl rfl dJ0_init_db425_5 (by first | omega | exact Nat.le_of_ble_eq_true rfl) (by first | omega | exact Nat.le_of_ble_eq_true rfl) (by first | omega | exact Nat.le_of_ble_eq_true rfl) (Nat.le_of_ble_eq_true rfl) (fun _ _ hu => hu.elim) (fun r u hu => ?_)
  obtain ⟨e9, rfl⟩ := hu
  subst r
  refine v_astore_n C (lo2 := [some _, some _, some _, some _, none]) dJ0_init_db425_8 rfl (Nat.le_of_ble_eq_true rfl) rfl ?_
  refine v_aload_n C dJ0_init_db425_9 rfl ?_
  refine v_gUi (K := fun w => _ :: w) C (Cxt.c _ Cxt.id) 0 (c_J4_length_8abf5 hl) yu_J5_length_8abf5 ml_J0_549 rfl rfl rfl rfl dJ0_init_db425_10 (by first | omega | exact Nat.le_of_ble_eq_true rfl) (by first | omega | exact Nat.le_of_ble_eq_true rfl) (by first | omega | exact Nat.le_of_ble_eq_true rfl) (Nat.le_of_ble_eq_true rfl) (fun _ _ hu => hu.elim) (fun r u hu => ?_)
  obtain ⟨rfl, rfl⟩ := hu
  refine v_istore C (lo2 := [some _, some _, some _, some _, some _]) dJ0_init_db425_13 rfl (Nat.le_of_ble_eq_true rfl) rfl ?_
  refine v_aload_n C dJ0_init_db425_15 rfl ?_
  refine v_gUi (K := fun w => _ :: w) C (Cxt.c _ Cxt.id) 0 (c_J5_isLatin1_aae02 hl) yu_J5_isLatin1_aae02 ml_J0_1047 rfl rfl rfl rfl dJ0_init_db425_16 (by first | omega | exact Nat.le_of_ble_eq_true rfl) (by first | omega | exact Nat.le_of_ble_eq_true rfl) (by first | omega | exact Nat.le_of_ble_eq_true rfl) (Nat.le_of_ble_eq_true rfl) (fun _ _ hu => hu.elim) (fun r u hu => ?_)
  obtain ⟨rfl, rfl⟩ := hu
  refine v_if_eq C 41 dJ0_init_db425_19 (by decide) (fun c => absurd c (by decide)) (fun c19 => ?_)
  refine v_aload_n C dJ0_init_db425_22 rfl ?_
  refine v_iconst (v := nI 0) C dJ0_init_db425_23 (by decide) ?_
  refine v_pFF (K := fun w => w) (ws := (s, .inr (9, [.null, .int 0, .int 0, .int 0])) :: sbW (xK X) a v N T) C hnm Cxt.id 0 fl_J0_15 fwf_J0_1 rfl rfl rfl (Nat.le_of_ble_eq_true rfl) rfl dJ0_init_db425_24 ?_
  refine v_aload_n C dJ0_init_db425_27 rfl ?_
  refine v_aload_n C dJ0_init_db425_28 rfl ?_
  refine v_iconst (v := nI 0) C dJ0_init_db425_29 (by decide) ?_
  refine v_iload C dJ0_init_db425_30 rfl ?_
  refine v_gSr (K := fun w => w) C Cxt.id (c_J7_copyOfRange_39247 hl (ci := 2) rfl hS.2.2 hS.1 hS.2.1) ys_J7_copyOfRange_39247 ml_J0_54 rfl rfl dJ0_init_db425_32 (by first | omega | exact Nat.le_of_ble_eq_true rfl) (by first | omega | exact Nat.le_of_ble_eq_true rfl) (by first | omega | exact Nat.le_of_ble_eq_true rfl) (Nat.le_of_ble_eq_true rfl) (fun _ _ hu => hu.elim) (fun r u hu => ?_)
  subst hu
  refine v_pFF (K := fun w => w) (ws := cB (xK X) r T.length (tf T) :: (s, .inr (9, [.null, .int (nI 0), .int 0, .int 0])) :: sbW (xK X) a v N T) C hnm Cxt.id 1 fl_J0_9 fwf_J0_0 rfl rfl rfl (Nat.le_of_ble_eq_true rfl) rfl dJ0_init_db425_35 ?_
  refine v_goto C 97 dJ0_init_db425_38 (by decide) ?_
  refine v_vretG C (r := ()) F dJ0_init_db425_97 (by first | omega | exact Nat.le_of_ble_eq_true rfl) (by first | omega | exact Nat.le_of_ble_eq_true rfl) rfl (List.Perm.refl _) ?_
  exact ⟨r, rfl⟩
set_option maxHeartbeats 16000000 in
theorem c_J0_init_81219 {l : Launch} (hl : l.stackTraces = false) {κ : Kp} {s a v N : Nat} {T : List Nat} (hS : SbOK N T) : CtG SS MM l κ yJ0_init_81219 cJ0_init_81219 2 none 4 1 1000 [.ref s, .ref a] ((s, .inr (9, [.null, .int 0, .int 0, .int 0])) :: sbW κ a v N T) rv (fun _ w => ∃ v2, w = cB κ v2 T.length (tf T) :: (s, .inr (9, [.ref v2, .int (nI 0), .int 0, .int 0])) :: sbW κ a v N T) (fun _ _ => False) := by
  refine CtG.of (own := RJ0) (by decide) rfl hl (by intro v hv; simp only [List.mem_cons, List.not_mem_nil, or_false] at hv; first | (rcases hv with rfl | rfl | rfl | rfl | rfl | rfl <;> rfl) | (rcases hv with rfl | rfl | rfl | rfl | rfl <;> rfl) | (rcases hv with rfl | rfl | rfl | rfl <;> rfl) | (rcases hv with rfl | rfl | rfl <;> rfl) | (rcases hv with rfl | rfl <;> rfl) | (subst hv; rfl) | exact hv.elim) (Nat.le_of_ble_eq_true rfl) (fun X hxl hxk C F NH hnm => ?_)
  subst hxl hxk
  show V X iW 0 [some (.ref s), some (.ref a)] [] ((s, .inr (9, [.null, .int 0, .int 0, .int 0])) :: sbW (xK X) a v N T) 0 0
  refine v_aload_n C dJ0_init_81219_0 rfl ?_
  refine v_aload_n C dJ0_init_81219_1 rfl ?_
  refine v_null C dJ0_init_81219_2 ?_
  refine v_gNv (K := fun w => w) C Cxt.id (c_J0_init_db425 hl hS) yc_J0_init_db425 ml_J0_489 rfl rfl dJ0_init_81219_3 (by first | omega | exact Nat.le_of_ble_eq_true rfl) (by first | omega | exact Nat.le_of_ble_eq_true rfl) (by first | omega | exact Nat.le_of_ble_eq_true rfl) (Nat.le_of_ble_eq_true rfl) (fun _ _ hu => hu.elim) (fun r u hu => ?_)
  obtain ⟨v2, rfl⟩ := hu
  refine v_vretG C (r := ()) F dJ0_init_81219_6 (by first | omega | exact Nat.le_of_ble_eq_true rfl) (by first | omega | exact Nat.le_of_ble_eq_true rfl) rfl (List.Perm.refl _) ?_
  exact ⟨v2, rfl⟩
/-- a String of its own: its bytes at v -/
def strW (κ : Kp) (s v : Nat) (T : List Nat) : va_W := [(s, .inr (9, [.ref v, .int (nI 0), .int 0, .int 0])), cB κ v T.length (tf T)]
set_option maxHeartbeats 16000000 in
theorem c_J4_toString_0e30d {l : Launch} (hl : l.stackTraces = false) {κ : Kp} {a v N : Nat} {T : List Nat} (hS : SbOK N T) : CtG SS MM l κ yJ4_toString_0e30d cJ4_toString_0e30d 1 (some (FieldType.object "java/lang/String")) 5 2 1004 [.ref a] (sbW κ a v N T) rr (fun r w => ∃ v2, w = strW κ r v2 T ++ sbW κ a v N T) (fun _ _ => False) := by
  refine CtG.of (own := RJ4) (by decide) rfl hl (by intro v hv; simp only [List.mem_cons, List.not_mem_nil, or_false] at hv; first | (rcases hv with rfl | rfl | rfl | rfl | rfl | rfl <;> rfl) | (rcases hv with rfl | rfl | rfl | rfl | rfl <;> rfl) | (rcases hv with rfl | rfl | rfl | rfl <;> rfl) | (rcases hv with rfl | rfl | rfl <;> rfl) | (rcases hv with rfl | rfl <;> rfl) | (subst hv; rfl) | exact hv.elim) (Nat.le_of_ble_eq_true rfl) (fun X hxl hxk C F NH hnm => ?_)
  subst hxl hxk
  show V X iW 0 [some (.ref a)] [] (sbW (xK X) a v N T) 0 0
  refine v_new C nw_J4_18 dJ4_toString_0e30d_0 (by first | omega | exact Nat.le_of_ble_eq_true rfl) (by first | omega | exact Nat.le_of_ble_eq_true rfl) (fun s => ?_)
  refine v_dup C dJ4_toString_0e30d_3 rfl ?_
  refine v_aload_n C dJ4_toString_0e30d_4 rfl ?_
  refine v_gNv (K := fun w => w) C Cxt.id (c_J0_init_81219 hl hS) yc_J0_init_81219 ml_J4_137 rfl rfl dJ4_toString_0e30d_5 (by first | omega | exact Nat.le_of_ble_eq_true rfl) (by first | omega | exact Nat.le_of_ble_eq_true rfl) (by first | omega | exact Nat.le_of_ble_eq_true rfl) (Nat.le_of_ble_eq_true rfl) (fun _ _ hu => hu.elim) (fun r u hu => ?_)
  obtain ⟨v2, rfl⟩ := hu
  refine v_aretG C (x := (some s)) F (Or.inl ⟨_, rfl⟩) dJ4_toString_0e30d_8 (by first | omega | exact Nat.le_of_ble_eq_true rfl) (by first | omega | exact Nat.le_of_ble_eq_true rfl) rfl (List.Perm.swap _ _ _) ?_
  exact ⟨v2, rfl⟩
set_option maxHeartbeats 16000000 in
theorem c_str_coder {l : Launch} (hl : l.stackTraces = false) {κ : Kp} {s v : Nat} {T : List Nat}  : CtG SS MM l κ yJ0_coder_7d493 cJ0_coder_7d493 1 (some FieldType.byte) 0 0 0 [.ref s] (strW κ s v T) ri (fun r w => r = nI 0 ∧ w = strW κ s v T) (fun _ _ => False) := by
  refine CtG.of (own := RJ0) (by decide) rfl hl (by intro v hv; simp only [List.mem_cons, List.not_mem_nil, or_false] at hv; first | (rcases hv with rfl | rfl | rfl | rfl | rfl | rfl <;> rfl) | (rcases hv with rfl | rfl | rfl | rfl | rfl <;> rfl) | (rcases hv with rfl | rfl | rfl | rfl <;> rfl) | (rcases hv with rfl | rfl | rfl <;> rfl) | (rcases hv with rfl | rfl <;> rfl) | (subst hv; rfl) | exact hv.elim) (Nat.le_of_ble_eq_true rfl) (fun X hxl hxk C F NH hnm => ?_)
  subst hxl hxk
  show V X iW 0 [some (.ref s)] [] (strW (xK X) s v T) 0 0
  refine v_getsC C (fl_cs) dJ0_coder_7d493_0 ?_
  refine v_if_eq C 13 dJ0_coder_7d493_3 (by decide) (fun c => absurd c (by decide)) (fun c3 => ?_)
  refine v_aload_n C dJ0_coder_7d493_6 rfl ?_
  refine v_gF (K := fun w => w) C Cxt.id (v := .int (nI 0)) 0 fl_J0_15 rfl rfl dJ0_coder_7d493_7 ?_
  refine v_goto C 14 dJ0_coder_7d493_10 (by decide) ?_
  refine v_iretG C F (by first | rfl | exact bI_nar _) dJ0_coder_7d493_14 (by first | omega | exact Nat.le_of_ble_eq_true rfl) (by first | omega | exact Nat.le_of_ble_eq_true rfl) rfl (List.Perm.refl _) ?_
  first | exact rfl | exact ⟨rfl, rfl⟩
set_option maxHeartbeats 16000000 in
theorem c_str_isLatin1 {l : Launch} (hl : l.stackTraces = false) {κ : Kp} {s v : Nat} {T : List Nat}  : CtG SS MM l κ yJ0_isLatin1_aae02 cJ0_isLatin1_aae02 1 (some FieldType.boolean) 0 0 0 [.ref s] (strW κ s v T) ri (fun r w => r = nI 1 ∧ w = strW κ s v T) (fun _ _ => False) := by
  refine CtG.of (own := RJ0) (by decide) rfl hl (by intro v hv; simp only [List.mem_cons, List.not_mem_nil, or_false] at hv; first | (rcases hv with rfl | rfl | rfl | rfl | rfl | rfl <;> rfl) | (rcases hv with rfl | rfl | rfl | rfl | rfl <;> rfl) | (rcases hv with rfl | rfl | rfl | rfl <;> rfl) | (rcases hv with rfl | rfl | rfl <;> rfl) | (rcases hv with rfl | rfl <;> rfl) | (subst hv; rfl) | exact hv.elim) (Nat.le_of_ble_eq_true rfl) (fun X hxl hxk C F NH hnm => ?_)
  subst hxl hxk
  show V X iW 0 [some (.ref s)] [] (strW (xK X) s v T) 0 0
  refine v_getsC C (fl_cs) dJ0_isLatin1_aae02_0 ?_
  refine v_if_eq C 17 dJ0_isLatin1_aae02_3 (by decide) (fun c => absurd c (by decide)) (fun c3 => ?_)
  refine v_aload_n C dJ0_isLatin1_aae02_6 rfl ?_
  refine v_gF (K := fun w => w) C Cxt.id (v := .int (nI 0)) 0 fl_J0_15 rfl rfl dJ0_isLatin1_aae02_7 ?_
  refine v_if_ne C 17 dJ0_isLatin1_aae02_10 (by decide) (fun c => absurd c (by decide)) (fun c10 => ?_)
  refine v_iconst (v := nI 1) C dJ0_isLatin1_aae02_13 (by decide) ?_
  refine v_goto C 18 dJ0_isLatin1_aae02_14 (by decide) ?_
  refine v_iretG C F (by first | rfl | exact bI_nar _) dJ0_isLatin1_aae02_18 (by first | omega | exact Nat.le_of_ble_eq_true rfl) (by first | omega | exact Nat.le_of_ble_eq_true rfl) rfl (List.Perm.refl _) ?_
  first | exact rfl | exact ⟨rfl, rfl⟩
set_option maxHeartbeats 16000000 in
theorem c_str_length {l : Launch} (hl : l.stackTraces = false) {κ : Kp} {s v : Nat} {T : List Nat}  : CtG SS MM l κ yJ0_length_8abf5 cJ0_length_8abf5 1 (some FieldType.int) 1 0 0 [.ref s] (strW κ s v T) ri (fun r w => r = nI T.length ∧ w = strW κ s v T) (fun _ _ => False) := by
  refine CtG.of (own := RJ0) (by decide) rfl hl (by intro v hv; simp only [List.mem_cons, List.not_mem_nil, or_false] at hv; first | (rcases hv with rfl | rfl | rfl | rfl | rfl | rfl <;> rfl) | (rcases hv with rfl | rfl | rfl | rfl | rfl <;> rfl) | (rcases hv with rfl | rfl | rfl | rfl <;> rfl) | (rcases hv with rfl | rfl | rfl <;> rfl) | (rcases hv with rfl | rfl <;> rfl) | (subst hv; rfl) | exact hv.elim) (Nat.le_of_ble_eq_true rfl) (fun X hxl hxk C F NH hnm => ?_)
  subst hxl hxk
  show V X iW 0 [some (.ref s)] [] (strW (xK X) s v T) 0 0
  refine v_aload_n C dJ0_length_8abf5_0 rfl ?_
  refine v_gF (K := fun w => w) C Cxt.id (v := .ref v) 0 fl_J0_9 rfl rfl dJ0_length_8abf5_1 ?_
  refine v_lenA (K := fun w => w) C Cxt.id (N := T.length) 2 1 rfl rfl rfl dJ0_length_8abf5_4 ?_
  refine v_aload_n C dJ0_length_8abf5_5 rfl ?_
  refine v_gVi (K := fun w => w) C Cxt.id 0 (c_str_coder hl) ym_J0_coder_7d493 ml_J0_335 rfl rfl rfl rfl dJ0_length_8abf5_6 (by first | omega | exact Nat.le_of_ble_eq_true rfl) (by first | omega | exact Nat.le_of_ble_eq_true rfl) (by first | omega | exact Nat.le_of_ble_eq_true rfl) (Nat.le_of_ble_eq_true rfl) (fun _ _ hu => hu.elim) (fun r u hu => ?_)
  obtain ⟨rfl, rfl⟩ := hu
  refine v_ishr C dJ0_length_8abf5_9 ?_
  rw [shr_0]
  refine v_iretG C F (by first | rfl | exact bI_nar _) dJ0_length_8abf5_10 (by first | omega | exact Nat.le_of_ble_eq_true rfl) (by first | omega | exact Nat.le_of_ble_eq_true rfl) rfl (List.Perm.refl _) ?_
  first | exact rfl | exact ⟨rfl, rfl⟩
set_option maxHeartbeats 16000000 in
theorem c_str_charAt1 {l : Launch} (hl : l.stackTraces = false) {κ : Kp} {v : Nat} {T : List Nat} {j : Nat} (hT : Lat T) (hj : j < T.length) (h9 : T.length ≤ 1000) : CtG SS MM l κ yJ1_charAt_3b067 cJ1_charAt_3b067 2 (some FieldType.char) 2 0 0 [.ref v, .int (nI j)] ([cB κ v T.length (tf T)]) ri (fun r w => r = nI (T.getD j 0) ∧ w = [cB κ v T.length (tf T)]) (fun _ _ => False) := by
  refine CtG.of (own := RJ1) (by decide) rfl hl (by intro v hv; simp only [List.mem_cons, List.not_mem_nil, or_false] at hv; first | (rcases hv with rfl | rfl | rfl | rfl | rfl | rfl <;> rfl) | (rcases hv with rfl | rfl | rfl | rfl | rfl <;> rfl) | (rcases hv with rfl | rfl | rfl | rfl <;> rfl) | (rcases hv with rfl | rfl | rfl <;> rfl) | (rcases hv with rfl | rfl <;> rfl) | (subst hv; rfl) | exact hv.elim) (Nat.le_of_ble_eq_true rfl) (fun X hxl hxk C F NH hnm => ?_)
  subst hxl hxk
  show V X iW 0 [some (.ref v), some (.int (nI j))] [] ([cB (xK X) v T.length (tf T)]) 0 0
  have hb := hT.get j
  refine v_iload_n C dJ1_charAt_3b067_0 rfl ?_
  refine v_aload_n C dJ1_charAt_3b067_1 rfl ?_
  refine v_lenA (K := fun w => w) C Cxt.id (N := T.length) 2 0 rfl rfl rfl dJ1_charAt_3b067_2 ?_
  refine v_kOv C (c_J0_checkIndex hl hj (by omega)) ys_J0_checkIndex_df160 ml_J1_9 rfl rfl dJ1_charAt_3b067_3 (by first | omega | exact Nat.le_of_ble_eq_true rfl) (by first | omega | exact Nat.le_of_ble_eq_true rfl) (by first | omega | exact Nat.le_of_ble_eq_true rfl) (Nat.le_of_ble_eq_true rfl) (fun _ _ hu => hu.elim) (fun r u hu => ?_)
  skip
  refine v_aload_n C dJ1_charAt_3b067_6 rfl ?_
  refine v_iload_n C dJ1_charAt_3b067_7 rfl ?_
  refine v_gB (K := fun w => w) C Cxt.id (x := (nI (T.getD j 0))) 0 rfl (by omega) j (rfl) ?_ rfl dJ1_charAt_3b067_8 ?_
  · omega
  refine v_sipush (v := nI 255) C dJ1_charAt_3b067_9 (by decide) ?_
  refine v_iand C dJ1_charAt_3b067_12 ?_
  rw [ch_and _ hb]
  refine v_i2c C (v := nI (T.getD j 0)) dJ1_charAt_3b067_13 (ch_i2c _ hb) ?_
  refine v_iretG C F (ch_nar _ hb) dJ1_charAt_3b067_14 (by first | omega | exact Nat.le_of_ble_eq_true rfl) (by first | omega | exact Nat.le_of_ble_eq_true rfl) rfl (List.Perm.refl _) ?_
  first | exact rfl | exact ⟨rfl, rfl⟩
set_option maxHeartbeats 16000000 in
theorem c_str_charAt {l : Launch} (hl : l.stackTraces = false) {κ : Kp} {s v : Nat} {T : List Nat} {j : Nat} (hT : Lat T) (hj : j < T.length) (h9 : T.length ≤ 1000) : CtG SS MM l κ yJ0_charAt_5068e cJ0_charAt_5068e 2 (some FieldType.char) 3 0 0 [.ref s, .int (nI j)] (strW κ s v T) ri (fun r w => r = nI (T.getD j 0) ∧ w = strW κ s v T) (fun _ _ => False) := by
  refine CtG.of (own := RJ0) (by decide) rfl hl (by intro v hv; simp only [List.mem_cons, List.not_mem_nil, or_false] at hv; first | (rcases hv with rfl | rfl | rfl | rfl | rfl | rfl <;> rfl) | (rcases hv with rfl | rfl | rfl | rfl | rfl <;> rfl) | (rcases hv with rfl | rfl | rfl | rfl <;> rfl) | (rcases hv with rfl | rfl | rfl <;> rfl) | (rcases hv with rfl | rfl <;> rfl) | (subst hv; rfl) | exact hv.elim) (Nat.le_of_ble_eq_true rfl) (fun X hxl hxk C F NH hnm => ?_)
  subst hxl hxk
  show V X iW 0 [some (.ref s), some (.int (nI j))] [] (strW (xK X) s v T) 0 0
  refine v_aload_n C dJ0_charAt_5068e_0 rfl ?_
  refine v_gVi (K := fun w => w) C Cxt.id 0 (c_str_isLatin1 hl) ym_J0_isLatin1_aae02 ml_J0_492 rfl rfl rfl rfl dJ0_charAt_5068e_1 (by first | omega | exact Nat.le_of_ble_eq_true rfl) (by first | omega | exact Nat.le_of_ble_eq_true rfl) (by first | omega | exact Nat.le_of_ble_eq_true rfl) (Nat.le_of_ble_eq_true rfl) (fun _ _ hu => hu.elim) (fun r u hu => ?_)
  obtain ⟨rfl, rfl⟩ := hu
  refine v_if_eq C 16 dJ0_charAt_5068e_4 (by decide) (fun c => absurd c (by decide)) (fun c4 => ?_)
  refine v_aload_n C dJ0_charAt_5068e_7 rfl ?_
  refine v_gF (K := fun w => w) C Cxt.id (v := .ref v) 0 fl_J0_9 rfl rfl dJ0_charAt_5068e_8 ?_
  refine v_iload_n C dJ0_charAt_5068e_11 rfl ?_
  refine v_gSi (K := fun w => _ :: w) C (Cxt.c _ Cxt.id) (c_str_charAt1 hl hT hj h9) ys_J1_charAt_3b067 ml_J0_495 rfl rfl dJ0_charAt_5068e_12 (by first | omega | exact Nat.le_of_ble_eq_true rfl) (by first | omega | exact Nat.le_of_ble_eq_true rfl) (by first | omega | exact Nat.le_of_ble_eq_true rfl) (Nat.le_of_ble_eq_true rfl) (fun _ _ hu => hu.elim) (fun r u hu => ?_)
  obtain ⟨rfl, rfl⟩ := hu
  refine v_iretG C F (ch_nar _ (hT.get j)) dJ0_charAt_5068e_15 (by first | omega | exact Nat.le_of_ble_eq_true rfl) (by first | omega | exact Nat.le_of_ble_eq_true rfl) rfl (List.Perm.refl _) ?_
  first | exact rfl | exact ⟨rfl, rfl⟩
