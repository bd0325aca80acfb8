abbrev NW1 : List Cond := flatC (Jvm.Cond.and given_1 narrow_1)
def strWd (own : String) (k : Nat) (bs : List Nat) : List Cond := .exactly (.string own k) "java/lang/String" :: .eq (.field (.string own k) "java/lang/String" "coder" "B") (.int 0) :: .arrayOf (.field (.string own k) "java/lang/String" "value" "[B") .byte :: .eq (.length (.field (.string own k) "java/lang/String" "value" "[B")) (.int (Int32.ofNat bs.length)) :: (List.range bs.length).map (fun j => .eq (.elem (.field (.string own k) "java/lang/String" "value" "[B") (.int (Int32.ofNat j))) (.int (nI (bs.getD j 0))))
/-- the digits of a number below 100: the words of one of the two rows -/
def dgW (nm : String) (f : Nat → Nat) : List Cond := .arrayOf (.static "java/lang/Integer" nm "[B") .byte :: .eq (.length (.static "java/lang/Integer" nm "[B")) (.int (Int32.ofNat 100)) :: (List.range 100).map (fun j => .eq (.elem (.static "java/lang/Integer" nm "[B") (.int (Int32.ofNat j))) (.int (nI (f j))))
theorem NW1_at {w : Cond} (i : Nat) (h : NW1[i]? = some w) : w ∈ NW1 := List.mem_of_getElem? h
theorem tbl_at {w : Cond} (i : Nat) (h : tables_1[i]? = some w) : w ∈ lw_tbl := List.mem_append_right _ (List.mem_of_getElem? h)
theorem strW_in {own : String} {k : Nat} {bs : List Nat} (p : Nat) (h : (NW1.drop p).take (4 + bs.length) = strWd own k bs) : ∀ w ∈ strWd own k bs, w ∈ NW1 := by
  intro w hw
  rw [← h] at hw
  exact List.mem_of_mem_drop (List.mem_of_mem_take hw)
theorem dgW_in {nm : String} {f : Nat → Nat} (p : Nat) (h : (NW1.drop p).take 102 = dgW nm f) : ∀ w ∈ dgW nm f, w ∈ NW1 := by
  intro w hw
  rw [← h] at hw
  exact List.mem_of_mem_drop (List.mem_of_mem_take hw)
theorem dw_DigitOnes : ∀ w ∈ dgW "DigitOnes" (fun j => 48 + j % 10), w ∈ NW1 := dgW_in 10 (by decide +kernel)
theorem dw_DigitTens : ∀ w ∈ dgW "DigitTens" (fun j => 48 + j / 10), w ∈ NW1 := dgW_in 113 (by decide +kernel)
theorem sw_0 : ∀ w ∈ strWd RX3 116 [109, 101, 109, 111, 114, 121], w ∈ NW1 := strW_in 425 (by decide +kernel)
theorem sr_0 : Cond.stringRef RX3 116 "memory" ∈ lw_tbl := tbl_at 740 (by decide +kernel)
theorem sw_1 : ∀ w ∈ strWd RX3 127 [98, 97, 110, 100], w ∈ NW1 := strW_in 435 (by decide +kernel)
theorem sr_1 : Cond.stringRef RX3 127 "band" ∈ lw_tbl := tbl_at 771 (by decide +kernel)
theorem sw_2 : ∀ w ∈ strWd RX3 129 [108, 105, 109, 105, 116], w ∈ NW1 := strW_in 443 (by decide +kernel)
theorem sr_2 : Cond.stringRef RX3 129 "limit" ∈ lw_tbl := tbl_at 772 (by decide +kernel)
theorem sw_3 : ∀ w ∈ strWd RX3 131 [112, 111, 108, 105, 99, 121], w ∈ NW1 := strW_in 452 (by decide +kernel)
theorem sr_3 : Cond.stringRef RX3 131 "policy" ∈ lw_tbl := tbl_at 773 (by decide +kernel)
theorem sw_4 : ∀ w ∈ strWd RX3 52 [112, 117, 116], w ∈ NW1 := strW_in 462 (by decide +kernel)
theorem sr_4 : Cond.stringRef RX3 52 "put" ∈ lw_tbl := tbl_at 774 (by decide +kernel)
theorem sw_5 : ∀ w ∈ strWd RX3 61 [108, 111, 99, 107], w ∈ NW1 := strW_in 469 (by decide +kernel)
theorem sr_5 : Cond.stringRef RX3 61 "lock" ∈ lw_tbl := tbl_at 791 (by decide +kernel)
theorem sw_6 : ∀ w ∈ strWd RX3 66 [99, 111, 112, 121], w ∈ NW1 := strW_in 477 (by decide +kernel)
theorem sr_6 : Cond.stringRef RX3 66 "copy" ∈ lw_tbl := tbl_at 832 (by decide +kernel)
theorem sw_7 : ∀ w ∈ strWd RX3 71 [102, 105, 108, 108], w ∈ NW1 := strW_in 485 (by decide +kernel)
theorem sr_7 : Cond.stringRef RX3 71 "fill" ∈ lw_tbl := tbl_at 896 (by decide +kernel)
theorem sw_8 : ∀ w ∈ strWd RX3 76 [115, 104, 111, 114, 116], w ∈ NW1 := strW_in 493 (by decide +kernel)
theorem sr_8 : Cond.stringRef RX3 76 "short" ∈ lw_tbl := tbl_at 906 (by decide +kernel)
theorem sw_9 : ∀ w ∈ strWd RX3 81 [115, 101, 116, 116, 108, 101], w ∈ NW1 := strW_in 502 (by decide +kernel)
theorem sr_9 : Cond.stringRef RX3 81 "settle" ∈ lw_tbl := tbl_at 911 (by decide +kernel)
theorem sw_10 : ∀ w ∈ strWd RX7 9 [109, 101, 109, 111, 114, 121, 32], w ∈ NW1 := strW_in 284 (by decide +kernel)
theorem sr_10 : Cond.stringRef RX7 9 "memory " ∈ lw_tbl := tbl_at 269 (by decide +kernel)
theorem sw_11 : ∀ w ∈ strWd RX7 51 [32, 98, 97, 110, 100, 32], w ∈ NW1 := strW_in 295 (by decide +kernel)
theorem sr_11 : Cond.stringRef RX7 51 " band " ∈ lw_tbl := tbl_at 486 (by decide +kernel)
theorem sw_12 : ∀ w ∈ strWd RX7 56 [32, 108, 105, 109, 105, 116, 32], w ∈ NW1 := strW_in 305 (by decide +kernel)
theorem sr_12 : Cond.stringRef RX7 56 " limit " ∈ lw_tbl := tbl_at 488 (by decide +kernel)
theorem sw_13 : ∀ w ∈ strWd RX7 58 [32, 112, 111, 108, 105, 99, 121, 32], w ∈ NW1 := strW_in 316 (by decide +kernel)
theorem sr_13 : Cond.stringRef RX7 58 " policy " ∈ lw_tbl := tbl_at 489 (by decide +kernel)
theorem sw_14 : ∀ w ∈ strWd RX7 60 [59, 112, 117, 116, 32], w ∈ NW1 := strW_in 328 (by decide +kernel)
theorem sr_14 : Cond.stringRef RX7 60 ";put " ∈ lw_tbl := tbl_at 490 (by decide +kernel)
theorem sw_15 : ∀ w ∈ strWd RX7 69 [59, 115, 104, 111, 114, 116], w ∈ NW1 := strW_in 337 (by decide +kernel)
theorem sr_15 : Cond.stringRef RX7 69 ";short" ∈ lw_tbl := tbl_at 513 (by decide +kernel)
theorem sw_16 : ∀ w ∈ strWd RX7 71 [59, 115, 101, 116, 116, 108, 101], w ∈ NW1 := strW_in 347 (by decide +kernel)
theorem sr_16 : Cond.stringRef RX7 71 ";settle" ∈ lw_tbl := tbl_at 514 (by decide +kernel)
theorem sw_17 : ∀ w ∈ strWd RX7 78 [59, 108, 111, 99, 107, 32], w ∈ NW1 := strW_in 358 (by decide +kernel)
theorem sr_17 : Cond.stringRef RX7 78 ";lock " ∈ lw_tbl := tbl_at 516 (by decide +kernel)
theorem sw_18 : ∀ w ∈ strWd RX7 88 [59, 99, 111, 112, 121, 32], w ∈ NW1 := strW_in 368 (by decide +kernel)
theorem sr_18 : Cond.stringRef RX7 88 ";copy " ∈ lw_tbl := tbl_at 521 (by decide +kernel)
theorem sw_19 : ∀ w ∈ strWd RX7 98 [59, 102, 105, 108, 108, 32], w ∈ NW1 := strW_in 378 (by decide +kernel)
theorem sr_19 : Cond.stringRef RX7 98 ";fill " ∈ lw_tbl := tbl_at 576 (by decide +kernel)
theorem sw_20 : ∀ w ∈ strWd RX7 100 [32, 55], w ∈ NW1 := strW_in 388 (by decide +kernel)
theorem sr_20 : Cond.stringRef RX7 100 " 7" ∈ lw_tbl := tbl_at 577 (by decide +kernel)
theorem SS_w : ∀ (i : Nat) (q : SQ), SS[i]? = some q → Cond.stringRef q.1 q.2.1 q.2.2.1 ∈ lw_tbl ∧ ∀ w ∈ strWd q.1 q.2.1 q.2.2.2, w ∈ NW1 := by
  intro i q hq
  match i, hq with
  | 0, hq => cases hq; exact ⟨sr_0, sw_0⟩
  | 1, hq => cases hq; exact ⟨sr_1, sw_1⟩
  | 2, hq => cases hq; exact ⟨sr_2, sw_2⟩
  | 3, hq => cases hq; exact ⟨sr_3, sw_3⟩
  | 4, hq => cases hq; exact ⟨sr_4, sw_4⟩
  | 5, hq => cases hq; exact ⟨sr_5, sw_5⟩
  | 6, hq => cases hq; exact ⟨sr_6, sw_6⟩
  | 7, hq => cases hq; exact ⟨sr_7, sw_7⟩
  | 8, hq => cases hq; exact ⟨sr_8, sw_8⟩
  | 9, hq => cases hq; exact ⟨sr_9, sw_9⟩
  | 10, hq => cases hq; exact ⟨sr_10, sw_10⟩
  | 11, hq => cases hq; exact ⟨sr_11, sw_11⟩
  | 12, hq => cases hq; exact ⟨sr_12, sw_12⟩
  | 13, hq => cases hq; exact ⟨sr_13, sw_13⟩
  | 14, hq => cases hq; exact ⟨sr_14, sw_14⟩
  | 15, hq => cases hq; exact ⟨sr_15, sw_15⟩
  | 16, hq => cases hq; exact ⟨sr_16, sw_16⟩
  | 17, hq => cases hq; exact ⟨sr_17, sw_17⟩
  | 18, hq => cases hq; exact ⟨sr_18, sw_18⟩
  | 19, hq => cases hq; exact ⟨sr_19, sw_19⟩
  | 20, hq => cases hq; exact ⟨sr_20, sw_20⟩
  | i + 21, hq => exact absurd hq (by simp [SS])
theorem SS_lt : ∀ (i : Nat) (q : SQ), SS[i]? = some q → i < 100 := by
  intro i q hq
  have h := (List.getElem?_eq_some_iff.mp hq).1
  have h2 : SS.length = 21 := rfl
  omega
theorem mw_0 : Cond.stringRef RX5 61 "there are not so many bytes" ∈ lw_tbl ∧ Cond.exactly (.string RX5 61) "java/lang/String" ∈ NW1 := ⟨tbl_at 694 (by decide +kernel), NW1_at 394 (by decide +kernel)⟩
theorem mw_1 : Cond.stringRef RX5 71 "the text has an error" ∈ lw_tbl ∧ Cond.exactly (.string RX5 71) "java/lang/String" ∈ NW1 := ⟨tbl_at 921 (by decide +kernel), NW1_at 512 (by decide +kernel)⟩
theorem mw_2 : Cond.stringRef RX5 310 "there is no memory" ∈ lw_tbl ∧ Cond.exactly (.string RX5 310) "java/lang/String" ∈ NW1 := ⟨tbl_at 964 (by decide +kernel), NW1_at 537 (by decide +kernel)⟩
theorem mw_3 : Cond.stringRef RX5 165 "there is no such part" ∈ lw_tbl ∧ Cond.exactly (.string RX5 165) "java/lang/String" ∈ NW1 := ⟨tbl_at 975 (by decide +kernel), NW1_at 559 (by decide +kernel)⟩
theorem mw_4 : Cond.stringRef RX5 315 "there is no such place" ∈ lw_tbl ∧ Cond.exactly (.string RX5 315) "java/lang/String" ∈ NW1 := ⟨tbl_at 985 (by decide +kernel), NW1_at 584 (by decide +kernel)⟩
theorem mw_5 : Cond.stringRef RX5 160 "there is no such debt" ∈ lw_tbl ∧ Cond.exactly (.string RX5 160) "java/lang/String" ∈ NW1 := ⟨tbl_at 1012 (by decide +kernel), NW1_at 610 (by decide +kernel)⟩
theorem mw_6 : Cond.stringRef RX5 317 "the last place is less than the first" ∈ lw_tbl ∧ Cond.exactly (.string RX5 317) "java/lang/String" ∈ NW1 := ⟨tbl_at 1025 (by decide +kernel), NW1_at 635 (by decide +kernel)⟩
theorem mw_7 : Cond.stringRef RX5 319 "the value is no byte" ∈ lw_tbl ∧ Cond.exactly (.string RX5 319) "java/lang/String" ∈ NW1 := ⟨tbl_at 1034 (by decide +kernel), NW1_at 676 (by decide +kernel)⟩
theorem mw_8 : Cond.stringRef RX5 180 "there is no such row" ∈ lw_tbl ∧ Cond.exactly (.string RX5 180) "java/lang/String" ∈ NW1 := ⟨tbl_at 1040 (by decide +kernel), NW1_at 700 (by decide +kernel)⟩
theorem mw_9 : Cond.stringRef RX5 328 "the copy is impossible" ∈ lw_tbl ∧ Cond.exactly (.string RX5 328) "java/lang/String" ∈ NW1 := ⟨tbl_at 1054 (by decide +kernel), NW1_at 724 (by decide +kernel)⟩
theorem mw_10 : Cond.stringRef RX5 326 "a place is locked" ∈ lw_tbl ∧ Cond.exactly (.string RX5 326) "java/lang/String" ∈ NW1 := ⟨tbl_at 1073 (by decide +kernel), NW1_at 750 (by decide +kernel)⟩
theorem mw_11 : Cond.stringRef RX5 321 "there can not be so many ticks" ∈ lw_tbl ∧ Cond.exactly (.string RX5 321) "java/lang/String" ∈ NW1 := ⟨tbl_at 1083 (by decide +kernel), NW1_at 771 (by decide +kernel)⟩
theorem mw_12 : Cond.stringRef RX5 232 "there is no such event" ∈ lw_tbl ∧ Cond.exactly (.string RX5 232) "java/lang/String" ∈ NW1 := ⟨tbl_at 1106 (by decide +kernel), NW1_at 805 (by decide +kernel)⟩
theorem mw_13 : Cond.stringRef RX5 250 "there is no such byte" ∈ lw_tbl ∧ Cond.exactly (.string RX5 250) "java/lang/String" ∈ NW1 := ⟨tbl_at 1129 (by decide +kernel), NW1_at 831 (by decide +kernel)⟩
theorem mw_14 : Cond.stringRef RX5 289 "the setting can not have this value" ∈ lw_tbl ∧ Cond.exactly (.string RX5 289) "java/lang/String" ∈ NW1 := ⟨tbl_at 1190 (by decide +kernel), NW1_at 856 (by decide +kernel)⟩
theorem mw_15 : Cond.stringRef RX5 299 "there is no change to undo" ∈ lw_tbl ∧ Cond.exactly (.string RX5 299) "java/lang/String" ∈ NW1 := ⟨tbl_at 1196 (by decide +kernel), NW1_at 895 (by decide +kernel)⟩
theorem mw_16 : Cond.stringRef RX5 330 "there is no such slot" ∈ lw_tbl ∧ Cond.exactly (.string RX5 330) "java/lang/String" ∈ NW1 := ⟨tbl_at 1209 (by decide +kernel), NW1_at 925 (by decide +kernel)⟩
theorem mw_17 : Cond.stringRef RX5 308 "nothing is saved there" ∈ lw_tbl ∧ Cond.exactly (.string RX5 308) "java/lang/String" ∈ NW1 := ⟨tbl_at 1214 (by decide +kernel), NW1_at 950 (by decide +kernel)⟩
theorem mw_18 : Cond.stringRef RX5 278 "the place does not owe" ∈ lw_tbl ∧ Cond.exactly (.string RX5 278) "java/lang/String" ∈ NW1 := ⟨tbl_at 1227 (by decide +kernel), NW1_at 976 (by decide +kernel)⟩
theorem mw_19 : Cond.stringRef RX5 264 "both places are the same" ∈ lw_tbl ∧ Cond.exactly (.string RX5 264) "java/lang/String" ∈ NW1 := ⟨tbl_at 1234 (by decide +kernel), NW1_at 1002 (by decide +kernel)⟩
theorem mw_20 : Cond.stringRef RJ7 337 " > " ∈ lw_tbl ∧ Cond.exactly (.string RJ7 337) "java/lang/String" ∈ NW1 := ⟨tbl_at 1456 (by decide +kernel), NW1_at 1030 (by decide +kernel)⟩
theorem MM_w : ∀ q ∈ MM, Cond.stringRef q.1 q.2.1 q.2.2 ∈ lw_tbl ∧ Cond.exactly (.string q.1 q.2.1) "java/lang/String" ∈ NW1 := by
  intro q hq
  obtain ⟨i, hi⟩ := List.mem_iff_getElem?.mp hq
  match i, hi with
  | 0, hi => cases hi; exact mw_0
  | 1, hi => cases hi; exact mw_1
  | 2, hi => cases hi; exact mw_2
  | 3, hi => cases hi; exact mw_3
  | 4, hi => cases hi; exact mw_4
  | 5, hi => cases hi; exact mw_5
  | 6, hi => cases hi; exact mw_6
  | 7, hi => cases hi; exact mw_7
  | 8, hi => cases hi; exact mw_8
  | 9, hi => cases hi; exact mw_9
  | 10, hi => cases hi; exact mw_10
  | 11, hi => cases hi; exact mw_11
  | 12, hi => cases hi; exact mw_12
  | 13, hi => cases hi; exact mw_13
  | 14, hi => cases hi; exact mw_14
  | 15, hi => cases hi; exact mw_15
  | 16, hi => cases hi; exact mw_16
  | 17, hi => cases hi; exact mw_17
  | 18, hi => cases hi; exact mw_18
  | 19, hi => cases hi; exact mw_19
  | 20, hi => cases hi; exact mw_20
  | i + 21, hi => exact absurd hi (by simp [MM])
theorem nc_EIO_EIA : Cond.not (.castable EIO EIA) ∈ NW1 := NW1_at 254 (by decide +kernel)
theorem nc_EIO_EIS : Cond.not (.castable EIO EIS) ∈ NW1 := NW1_at 228 (by decide +kernel)
theorem nc_EIA_EIO : Cond.not (.castable EIA EIO) ∈ NW1 := NW1_at 241 (by decide +kernel)
theorem nc_EIA_EIS : Cond.not (.castable EIA EIS) ∈ NW1 := NW1_at 227 (by decide +kernel)
theorem nc_EIS_EIO : Cond.not (.castable EIS EIO) ∈ NW1 := NW1_at 240 (by decide +kernel)
theorem nc_EIS_EIA : Cond.not (.castable EIS EIA) ∈ NW1 := NW1_at 253 (by decide +kernel)
theorem NC_w : ∀ q ∈ NCs, Cond.not (.castable q.1 q.2) ∈ NW1 := by
  intro q hq
  obtain ⟨i, hi⟩ := List.mem_iff_getElem?.mp hq
  match i, hi with
  | 0, hi => cases hi; exact nc_EIO_EIA
  | 1, hi => cases hi; exact nc_EIO_EIS
  | 2, hi => cases hi; exact nc_EIA_EIO
  | 3, hi => cases hi; exact nc_EIA_EIS
  | 4, hi => cases hi; exact nc_EIS_EIO
  | 5, hi => cases hi; exact nc_EIS_EIA
  | i + 6, hi => exact absurd hi (by simp [NCs])
theorem SS_len : ∀ (i : Nat) (q : SQ), SS[i]? = some q → q.2.2.2.length < 2 ^ 31 := by
  intro i q hq
  match i, hq with
  | 0, hq => cases hq; decide
  | 1, hq => cases hq; decide
  | 2, hq => cases hq; decide
  | 3, hq => cases hq; decide
  | 4, hq => cases hq; decide
  | 5, hq => cases hq; decide
  | 6, hq => cases hq; decide
  | 7, hq => cases hq; decide
  | 8, hq => cases hq; decide
  | 9, hq => cases hq; decide
  | 10, hq => cases hq; decide
  | 11, hq => cases hq; decide
  | 12, hq => cases hq; decide
  | 13, hq => cases hq; decide
  | 14, hq => cases hq; decide
  | 15, hq => cases hq; decide
  | 16, hq => cases hq; decide
  | 17, hq => cases hq; decide
  | 18, hq => cases hq; decide
  | 19, hq => cases hq; decide
  | 20, hq => cases hq; decide
  | i + 21, hq => exact absurd hq (by simp [SS])
theorem SAt_of {b : Nat} {s : State} {q : SQ} {A : Nat → Prop} (hN : q.2.2.2.length < 2 ^ 31) (h0 : (Cond.stringRef q.1 q.2.1 q.2.2.1).before #[Value.ref b] s = true) (hw : ∀ w ∈ strWd q.1 q.2.1 q.2.2.2, w.before #[Value.ref b] s = true) (hA : ∀ a : Nat, a < s.heap.size → ¬ A a) : ∃ p : Nat × Nat, SAt q p.1 p.2 A s s.heap := by
  have hex := hw _ List.mem_cons_self
  have hco := hw _ (List.mem_cons_of_mem _ List.mem_cons_self)
  have har := hw _ (List.mem_cons_of_mem _ (List.mem_cons_of_mem _ List.mem_cons_self))
  have hle := hw _ (List.mem_cons_of_mem _ (List.mem_cons_of_mem _ (List.mem_cons_of_mem _ List.mem_cons_self)))
  have hel : ∀ j : Nat, j < q.2.2.2.length → (Cond.eq (.elem (.field (.string q.1 q.2.1) "java/lang/String" "value" "[B") (.int (Int32.ofNat j))) (.int (nI (q.2.2.2.getD j 0)))).before #[Value.ref b] s = true := fun j hj =>
    hw _ (List.mem_cons_of_mem _ (List.mem_cons_of_mem _ (List.mem_cons_of_mem _ (List.mem_cons_of_mem _ (List.mem_map.mpr ⟨j, List.mem_range.mpr hj, rfl⟩)))))
  obtain ⟨a, c, cA, kA, q1, q2, q3, q4, q5, q6, -⟩ := Cond.exactly_spec (args := #[Value.ref b]) (first := s) (o := none) (s := s) (idx := []) (t := .string q.1 q.2.1) (cls := "java/lang/String") hex
  obtain ⟨t, ht, hT⟩ := va_Tof (f := fun j => .int (nI (q.2.2.2.getD j 0))) (A := A) hN har (va_eqt hle) (fun j hj => va_eqt (hel j hj)) hA
  exact ⟨(a, t), vk_R.of h0 q1, va_Oof hex q1 hA, vk_OFof q1 (va_eqt hco) hA, vk_OFof q1 ht hA, hT⟩
theorem dig_of {b : Nat} {s : State} {nm : String} {f : Nat → Nat} {A : Nat → Prop} (hl : (Cond.laysStatic "java/lang/Integer" nm "[B").before #[Value.ref b] s = true) (hini : (Cond.initialized "java/lang/Integer").before #[Value.ref b] s = true) (hw : ∀ w ∈ dgW nm f, w.before #[Value.ref b] s = true) (hA : ∀ a : Nat, a < s.heap.size → ¬ A a) : ∃ t : Nat, va_Z "java/lang/Integer" nm "[B" (.ref t) A s s.heap ∧ va_T .byte t 100 (fun j => .int (nI (f j))) A s s.heap := by
  have har := hw _ List.mem_cons_self
  have hle := hw _ (List.mem_cons_of_mem _ List.mem_cons_self)
  have hel : ∀ j : Nat, j < 100 → (Cond.eq (.elem (.static "java/lang/Integer" nm "[B") (.int (Int32.ofNat j))) (.int (nI (f j)))).before #[Value.ref b] s = true := fun j hj =>
    hw _ (List.mem_cons_of_mem _ (List.mem_cons_of_mem _ (List.mem_map.mpr ⟨j, List.mem_range.mpr hj, rfl⟩)))
  obtain ⟨t, ht, hT⟩ := va_Tof (f := fun j => .int (nI (f j))) (A := A) (by decide) har (va_eqt hle) (fun j hj => va_eqt (hel j hj)) hA
  exact ⟨t, va_Zof hl hini ht hA, hT⟩
theorem ar_of {A : Array Value} {s : State} {ty : FieldType} (hra : ∀ cA, s.vm.findClass ("[" ++ ty.toString) = some cA → va_RA s cA ty) (h : (Cond.arrayClass ty).before A s = true) : ∃ cA, ArrOfT s cA ty ∧ va_RA s cA ty := by
  obtain ⟨c, k, comp, h1, h2, h3⟩ := Cond.arrayClass_spec h
  exact ⟨c, fun n z => ⟨(fun k h => by cases h), k, h2, comp, h3⟩, hra c h1⟩
theorem ar_ofQ {A : Array Value} {s : State} {C : String} (h : (Cond.arrayOver (.object C)).before A s = true) : ∃ cA, ArrOfT s cA (.object C) ∧ va_RA s cA (.object C) := by
  obtain ⟨comp, c, k, h1, h2, h3, h4, h5⟩ := Cond.arrayOver_spec h
  exact ⟨c, fun n z => ⟨(fun k h => by cases h), k, h3, comp, h4⟩, k, comp, h3, h4, h1, h5⟩
theorem ar_ofA {A : Array Value} {s : State} (h : (Cond.arrayOver (.array .int)).before A s = true) : ∃ cA, ArrOfT s cA (.array .int) ∧ va_RA s cA (.array .int) := by
  obtain ⟨comp, c, k, h1, h2, h3, h4, h5⟩ := arrayOverA_spec h
  exact ⟨c, fun n z => ⟨(fun k h => by cases h), k, h3, comp, h4⟩, h5⟩
theorem sel_priv {C : String} {x y y2 : MethodName} {s : State} {args : Array Value} (hy : y.cls ≠ "java/lang/invoke/MethodHandle" ∧ y.cls ≠ "java/lang/invoke/VarHandle") (hsel : (Cond.selects C x y2).before args s = true) (hcls : y2.cls = y.cls) (hpriv : (Cond.privateMethod y).before args s = true) (hinst : (Cond.instanceMethod y).before args s = true) : (Cond.selects C y y).before args s = true := by
  obtain ⟨c, r, m2, hc, -, hn2, -, k2, hk2, hni⟩ := Cond.selects_spec hsel
  obtain ⟨mk, methM, hnamed, hmethM, -, -⟩ := Cond.instanceMethod_spec hinst
  have hfound : s.methodFound? y.cls y.name y.desc = some mk := State.methodFound?_of_named hnamed hy
  have hcls2 : mk.cls = m2.cls := Option.some.inj ((findClass_of_methodNamed hnamed).symm.trans (by rw [← hcls]; exact findClass_of_methodNamed hn2))
  have hselm : selectMethod {} s.vm c mk = .method mk := selectMethod_private hmethM (Cond.privateMethod_at hpriv mk methM hnamed hmethM)
  simp only [Cond.before, Cond.holds, Cond.value, hc, hfound, hnamed, hselm, hcls2, hk2]
  simp; exact hni
theorem AOA.of {A : Array Value} {U : State} (h : (Cond.arrayOver (.array .int)).before A U = true) : AOA U := h
theorem nI_all (x : Int32) : ∃ k, nI k = x := ⟨x.toBitVec.toNat, by
  apply Int32.toBitVec_inj.mp
  show BitVec.ofNat 32 x.toBitVec.toNat = x.toBitVec
  simp⟩
theorem TSel_w {b : Nat} {s : State} (hts : ∀ w ∈ lw_tbl, w.before #[Value.ref b] s = true) : ∀ w ∈ TSel, va_Nw w s := by
  intro w hw
  have h0 := hts _ (tbl_at (w := .selects "java/lang/StringBuilder" yJ5_isLatin1_aae02 yJ5_isLatin1_aae02) 351 (by decide +kernel))
  simp only [TSel, List.mem_cons, List.not_mem_nil, or_false] at hw
  rcases hw with rfl | rfl | rfl | rfl
  · exact va_Nw.of rfl (sel_priv (by decide) h0 rfl (hts _ (tbl_at 315 (by decide +kernel))) (hts _ (tbl_at 316 (by decide +kernel))))
  · exact va_Nw.of rfl (sel_priv (by decide) h0 rfl (hts _ (tbl_at 319 (by decide +kernel))) (hts _ (tbl_at 320 (by decide +kernel))))
  · exact va_Nw.of rfl (sel_priv (by decide) h0 rfl (hts _ (tbl_at 381 (by decide +kernel))) (hts _ (tbl_at 382 (by decide +kernel))))
  · exact va_Nw.of rfl (sel_priv (by decide) h0 rfl (hts _ (tbl_at 385 (by decide +kernel))) (hts _ (tbl_at 386 (by decide +kernel))))
