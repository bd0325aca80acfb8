abbrev NW1 : List Cond := flatC (Jvm.Cond.and given_1 narrow_1)
def strW (own : String) (k : Nat) (bs : List Nat) : List Cond := .exactly (.string own k) "java/lang/String" :: .eq (.field (.string own k) "java/lang/String" "coder" "B") (.int 0) :: .arrayOf (.field (.string own k) "java/lang/String" "value" "[B") .byte :: .eq (.length (.field (.string own k) "java/lang/String" "value" "[B")) (.int (Int32.ofNat bs.length)) :: (List.range bs.length).map (fun j => .eq (.elem (.field (.string own k) "java/lang/String" "value" "[B") (.int (Int32.ofNat j))) (.int (nI (bs.getD j 0))))
theorem NW1_at {w : Cond} (i : Nat) (h : NW1[i]? = some w) : w ∈ NW1 := List.mem_of_getElem? h
theorem tbl_at {w : Cond} (i : Nat) (h : tables_1[i]? = some w) : w ∈ lw_tbl := List.mem_append_right _ (List.mem_of_getElem? h)
theorem strW_in {own : String} {k : Nat} {bs : List Nat} (p : Nat) (h : (NW1.drop p).take (4 + bs.length) = strW own k bs) : ∀ w ∈ strW own k bs, w ∈ NW1 := by
  intro w hw
  rw [← h] at hw
  exact List.mem_of_mem_drop (List.mem_of_mem_take hw)
theorem sw_0 : ∀ w ∈ strW RX3 116 [109, 101, 109, 111, 114, 121], w ∈ NW1 := strW_in 69 (by decide +kernel)
theorem sr_0 : Cond.stringRef RX3 116 "memory" ∈ lw_tbl := tbl_at 352 (by decide +kernel)
theorem sw_1 : ∀ w ∈ strW RX3 127 [98, 97, 110, 100], w ∈ NW1 := strW_in 79 (by decide +kernel)
theorem sr_1 : Cond.stringRef RX3 127 "band" ∈ lw_tbl := tbl_at 429 (by decide +kernel)
theorem sw_2 : ∀ w ∈ strW RX3 129 [108, 105, 109, 105, 116], w ∈ NW1 := strW_in 87 (by decide +kernel)
theorem sr_2 : Cond.stringRef RX3 129 "limit" ∈ lw_tbl := tbl_at 430 (by decide +kernel)
theorem sw_3 : ∀ w ∈ strW RX3 131 [112, 111, 108, 105, 99, 121], w ∈ NW1 := strW_in 96 (by decide +kernel)
theorem sr_3 : Cond.stringRef RX3 131 "policy" ∈ lw_tbl := tbl_at 431 (by decide +kernel)
theorem sw_4 : ∀ w ∈ strW RX3 52 [112, 117, 116], w ∈ NW1 := strW_in 106 (by decide +kernel)
theorem sr_4 : Cond.stringRef RX3 52 "put" ∈ lw_tbl := tbl_at 432 (by decide +kernel)
theorem sw_5 : ∀ w ∈ strW RX3 61 [108, 111, 99, 107], w ∈ NW1 := strW_in 113 (by decide +kernel)
theorem sr_5 : Cond.stringRef RX3 61 "lock" ∈ lw_tbl := tbl_at 449 (by decide +kernel)
theorem sw_6 : ∀ w ∈ strW RX3 66 [99, 111, 112, 121], w ∈ NW1 := strW_in 121 (by decide +kernel)
theorem sr_6 : Cond.stringRef RX3 66 "copy" ∈ lw_tbl := tbl_at 490 (by decide +kernel)
theorem sw_7 : ∀ w ∈ strW RX3 71 [102, 105, 108, 108], w ∈ NW1 := strW_in 129 (by decide +kernel)
theorem sr_7 : Cond.stringRef RX3 71 "fill" ∈ lw_tbl := tbl_at 554 (by decide +kernel)
theorem sw_8 : ∀ w ∈ strW RX3 76 [115, 104, 111, 114, 116], w ∈ NW1 := strW_in 137 (by decide +kernel)
theorem sr_8 : Cond.stringRef RX3 76 "short" ∈ lw_tbl := tbl_at 564 (by decide +kernel)
theorem sw_9 : ∀ w ∈ strW RX3 81 [115, 101, 116, 116, 108, 101], w ∈ NW1 := strW_in 146 (by decide +kernel)
theorem sr_9 : Cond.stringRef RX3 81 "settle" ∈ lw_tbl := tbl_at 569 (by decide +kernel)
theorem sw_10 : ∀ w ∈ strW RX6 180 [109, 101, 109, 111, 114, 121], w ∈ NW1 := strW_in 674 (by decide +kernel)
theorem sr_10 : Cond.stringRef RX6 180 "memory" ∈ lw_tbl := tbl_at 1318 (by decide +kernel)
theorem sw_11 : ∀ w ∈ strW RX6 186 [98, 97, 110, 100], w ∈ NW1 := strW_in 685 (by decide +kernel)
theorem sr_11 : Cond.stringRef RX6 186 "band" ∈ lw_tbl := tbl_at 1349 (by decide +kernel)
theorem sw_12 : ∀ w ∈ strW RX6 188 [108, 105, 109, 105, 116], w ∈ NW1 := strW_in 694 (by decide +kernel)
theorem sr_12 : Cond.stringRef RX6 188 "limit" ∈ lw_tbl := tbl_at 1350 (by decide +kernel)
theorem sw_13 : ∀ w ∈ strW RX6 190 [112, 111, 108, 105, 99, 121], w ∈ NW1 := strW_in 704 (by decide +kernel)
theorem sr_13 : Cond.stringRef RX6 190 "policy" ∈ lw_tbl := tbl_at 1351 (by decide +kernel)
theorem sw_14 : ∀ w ∈ strW RX6 153 [112, 117, 116], w ∈ NW1 := strW_in 715 (by decide +kernel)
theorem sr_14 : Cond.stringRef RX6 153 "put" ∈ lw_tbl := tbl_at 1356 (by decide +kernel)
theorem sw_15 : ∀ w ∈ strW RX6 158 [108, 111, 99, 107], w ∈ NW1 := strW_in 723 (by decide +kernel)
theorem sr_15 : Cond.stringRef RX6 158 "lock" ∈ lw_tbl := tbl_at 1361 (by decide +kernel)
theorem sw_16 : ∀ w ∈ strW RX6 163 [99, 111, 112, 121], w ∈ NW1 := strW_in 732 (by decide +kernel)
theorem sr_16 : Cond.stringRef RX6 163 "copy" ∈ lw_tbl := tbl_at 1401 (by decide +kernel)
theorem sw_17 : ∀ w ∈ strW RX6 168 [102, 105, 108, 108], w ∈ NW1 := strW_in 741 (by decide +kernel)
theorem sr_17 : Cond.stringRef RX6 168 "fill" ∈ lw_tbl := tbl_at 1442 (by decide +kernel)
theorem sw_18 : ∀ w ∈ strW RX6 173 [115, 104, 111, 114, 116], w ∈ NW1 := strW_in 750 (by decide +kernel)
theorem sr_18 : Cond.stringRef RX6 173 "short" ∈ lw_tbl := tbl_at 1455 (by decide +kernel)
theorem sw_19 : ∀ w ∈ strW RX6 178 [115, 101, 116, 116, 108, 101], w ∈ NW1 := strW_in 760 (by decide +kernel)
theorem sr_19 : Cond.stringRef RX6 178 "settle" ∈ lw_tbl := tbl_at 1460 (by decide +kernel)
theorem SS_w : ∀ (i : Nat) (q : SQ), SS[i]? = some q → Cond.stringRef q.1 q.2.1 q.2.2.1 ∈ lw_tbl ∧ ∀ w ∈ strW q.1 q.2.1 q.2.2.2, w ∈ NW1 := by
  intro i q hq
  match i, hq with
  | 0, hq => cases hq; exact ⟨sr_0, sw_0⟩
  | 1, hq => cases hq; exact ⟨sr_1, sw_1⟩
  | 2, hq => cases hq; exact ⟨sr_2, sw_2⟩
  | 3, hq => cases hq; exact ⟨sr_3, sw_3⟩
  | 4, hq => cases hq; exact ⟨sr_4, sw_4⟩
  | 5, hq => cases hq; exact ⟨sr_5, sw_5⟩
  | 6, hq => cases hq; exact ⟨sr_6, sw_6⟩
  | 7, hq => cases hq; exact ⟨sr_7, sw_7⟩
  | 8, hq => cases hq; exact ⟨sr_8, sw_8⟩
  | 9, hq => cases hq; exact ⟨sr_9, sw_9⟩
  | 10, hq => cases hq; exact ⟨sr_10, sw_10⟩
  | 11, hq => cases hq; exact ⟨sr_11, sw_11⟩
  | 12, hq => cases hq; exact ⟨sr_12, sw_12⟩
  | 13, hq => cases hq; exact ⟨sr_13, sw_13⟩
  | 14, hq => cases hq; exact ⟨sr_14, sw_14⟩
  | 15, hq => cases hq; exact ⟨sr_15, sw_15⟩
  | 16, hq => cases hq; exact ⟨sr_16, sw_16⟩
  | 17, hq => cases hq; exact ⟨sr_17, sw_17⟩
  | 18, hq => cases hq; exact ⟨sr_18, sw_18⟩
  | 19, hq => cases hq; exact ⟨sr_19, sw_19⟩
  | i + 20, hq => exact absurd hq (by simp [SS])
theorem mw_0 : Cond.stringRef RX5 61 "there are not so many bytes" ∈ lw_tbl ∧ Cond.exactly (.string RX5 61) "java/lang/String" ∈ NW1 := ⟨tbl_at 303 (by decide +kernel), NW1_at 38 (by decide +kernel)⟩
theorem mw_1 : Cond.stringRef RX5 71 "the text has an error" ∈ lw_tbl ∧ Cond.exactly (.string RX5 71) "java/lang/String" ∈ NW1 := ⟨tbl_at 579 (by decide +kernel), NW1_at 156 (by decide +kernel)⟩
theorem mw_2 : Cond.stringRef RX5 310 "there is no memory" ∈ lw_tbl ∧ Cond.exactly (.string RX5 310) "java/lang/String" ∈ NW1 := ⟨tbl_at 619 (by decide +kernel), NW1_at 181 (by decide +kernel)⟩
theorem mw_3 : Cond.stringRef RX5 165 "there is no such part" ∈ lw_tbl ∧ Cond.exactly (.string RX5 165) "java/lang/String" ∈ NW1 := ⟨tbl_at 630 (by decide +kernel), NW1_at 203 (by decide +kernel)⟩
theorem mw_4 : Cond.stringRef RX5 315 "there is no such place" ∈ lw_tbl ∧ Cond.exactly (.string RX5 315) "java/lang/String" ∈ NW1 := ⟨tbl_at 643 (by decide +kernel), NW1_at 228 (by decide +kernel)⟩
theorem mw_5 : Cond.stringRef RX5 317 "the last place is less than the first" ∈ lw_tbl ∧ Cond.exactly (.string RX5 317) "java/lang/String" ∈ NW1 := ⟨tbl_at 724 (by decide +kernel), NW1_at 254 (by decide +kernel)⟩
theorem mw_6 : Cond.stringRef RX5 160 "there is no such debt" ∈ lw_tbl ∧ Cond.exactly (.string RX5 160) "java/lang/String" ∈ NW1 := ⟨tbl_at 761 (by decide +kernel), NW1_at 295 (by decide +kernel)⟩
theorem mw_7 : Cond.stringRef RX5 319 "the value is no byte" ∈ lw_tbl ∧ Cond.exactly (.string RX5 319) "java/lang/String" ∈ NW1 := ⟨tbl_at 838 (by decide +kernel), NW1_at 320 (by decide +kernel)⟩
theorem mw_8 : Cond.stringRef RX5 180 "there is no such row" ∈ lw_tbl ∧ Cond.exactly (.string RX5 180) "java/lang/String" ∈ NW1 := ⟨tbl_at 847 (by decide +kernel), NW1_at 344 (by decide +kernel)⟩
theorem mw_9 : Cond.stringRef RX5 328 "the copy is impossible" ∈ lw_tbl ∧ Cond.exactly (.string RX5 328) "java/lang/String" ∈ NW1 := ⟨tbl_at 880 (by decide +kernel), NW1_at 368 (by decide +kernel)⟩
theorem mw_10 : Cond.stringRef RX5 326 "a place is locked" ∈ lw_tbl ∧ Cond.exactly (.string RX5 326) "java/lang/String" ∈ NW1 := ⟨tbl_at 916 (by decide +kernel), NW1_at 394 (by decide +kernel)⟩
theorem mw_11 : Cond.stringRef RX5 321 "there can not be so many ticks" ∈ lw_tbl ∧ Cond.exactly (.string RX5 321) "java/lang/String" ∈ NW1 := ⟨tbl_at 947 (by decide +kernel), NW1_at 415 (by decide +kernel)⟩
theorem mw_12 : Cond.stringRef RX5 232 "there is no such event" ∈ lw_tbl ∧ Cond.exactly (.string RX5 232) "java/lang/String" ∈ NW1 := ⟨tbl_at 1006 (by decide +kernel), NW1_at 449 (by decide +kernel)⟩
theorem mw_13 : Cond.stringRef RX5 250 "there is no such byte" ∈ lw_tbl ∧ Cond.exactly (.string RX5 250) "java/lang/String" ∈ NW1 := ⟨tbl_at 1045 (by decide +kernel), NW1_at 475 (by decide +kernel)⟩
theorem mw_14 : Cond.stringRef RX5 264 "both places are the same" ∈ lw_tbl ∧ Cond.exactly (.string RX5 264) "java/lang/String" ∈ NW1 := ⟨tbl_at 1080 (by decide +kernel), NW1_at 500 (by decide +kernel)⟩
theorem mw_15 : Cond.stringRef RX5 278 "the place does not owe" ∈ lw_tbl ∧ Cond.exactly (.string RX5 278) "java/lang/String" ∈ NW1 := ⟨tbl_at 1127 (by decide +kernel), NW1_at 528 (by decide +kernel)⟩
theorem mw_16 : Cond.stringRef RX5 289 "the setting can not have this value" ∈ lw_tbl ∧ Cond.exactly (.string RX5 289) "java/lang/String" ∈ NW1 := ⟨tbl_at 1149 (by decide +kernel), NW1_at 554 (by decide +kernel)⟩
theorem mw_17 : Cond.stringRef RX5 299 "there is no change to undo" ∈ lw_tbl ∧ Cond.exactly (.string RX5 299) "java/lang/String" ∈ NW1 := ⟨tbl_at 1158 (by decide +kernel), NW1_at 593 (by decide +kernel)⟩
theorem mw_18 : Cond.stringRef RX5 330 "there is no such slot" ∈ lw_tbl ∧ Cond.exactly (.string RX5 330) "java/lang/String" ∈ NW1 := ⟨tbl_at 1174 (by decide +kernel), NW1_at 623 (by decide +kernel)⟩
theorem mw_19 : Cond.stringRef RX5 308 "nothing is saved there" ∈ lw_tbl ∧ Cond.exactly (.string RX5 308) "java/lang/String" ∈ NW1 := ⟨tbl_at 1182 (by decide +kernel), NW1_at 648 (by decide +kernel)⟩
theorem MM_w : ∀ q ∈ MM, Cond.stringRef q.1 q.2.1 q.2.2 ∈ lw_tbl ∧ Cond.exactly (.string q.1 q.2.1) "java/lang/String" ∈ NW1 := by
  intro q hq
  obtain ⟨i, hi⟩ := List.mem_iff_getElem?.mp hq
  match i, hi with
  | 0, hi => cases hi; exact mw_0
  | 1, hi => cases hi; exact mw_1
  | 2, hi => cases hi; exact mw_2
  | 3, hi => cases hi; exact mw_3
  | 4, hi => cases hi; exact mw_4
  | 5, hi => cases hi; exact mw_5
  | 6, hi => cases hi; exact mw_6
  | 7, hi => cases hi; exact mw_7
  | 8, hi => cases hi; exact mw_8
  | 9, hi => cases hi; exact mw_9
  | 10, hi => cases hi; exact mw_10
  | 11, hi => cases hi; exact mw_11
  | 12, hi => cases hi; exact mw_12
  | 13, hi => cases hi; exact mw_13
  | 14, hi => cases hi; exact mw_14
  | 15, hi => cases hi; exact mw_15
  | 16, hi => cases hi; exact mw_16
  | 17, hi => cases hi; exact mw_17
  | 18, hi => cases hi; exact mw_18
  | 19, hi => cases hi; exact mw_19
  | i + 20, hi => exact absurd hi (by simp [MM])
theorem nc_EIO_EIA : Cond.not (.castable EIO EIA) ∈ NW1 := NW1_at 27 (by decide +kernel)
theorem nc_EIO_EIS : Cond.not (.castable EIO EIS) ∈ NW1 := NW1_at 36 (by decide +kernel)
theorem nc_EIA_EIO : Cond.not (.castable EIA EIO) ∈ NW1 := NW1_at 18 (by decide +kernel)
theorem nc_EIA_EIS : Cond.not (.castable EIA EIS) ∈ NW1 := NW1_at 37 (by decide +kernel)
theorem nc_EIS_EIO : Cond.not (.castable EIS EIO) ∈ NW1 := NW1_at 19 (by decide +kernel)
theorem nc_EIS_EIA : Cond.not (.castable EIS EIA) ∈ NW1 := NW1_at 28 (by decide +kernel)
theorem NC_w : ∀ q ∈ NCs, Cond.not (.castable q.1 q.2) ∈ NW1 := by
  intro q hq
  obtain ⟨i, hi⟩ := List.mem_iff_getElem?.mp hq
  match i, hi with
  | 0, hi => cases hi; exact nc_EIO_EIA
  | 1, hi => cases hi; exact nc_EIO_EIS
  | 2, hi => cases hi; exact nc_EIA_EIO
  | 3, hi => cases hi; exact nc_EIA_EIS
  | 4, hi => cases hi; exact nc_EIS_EIO
  | 5, hi => cases hi; exact nc_EIS_EIA
  | i + 6, hi => exact absurd hi (by simp [NCs])
theorem SS_len : ∀ (i : Nat) (q : SQ), SS[i]? = some q → q.2.2.2.length < 2 ^ 31 := by
  intro i q hq
  match i, hq with
  | 0, hq => cases hq; decide
  | 1, hq => cases hq; decide
  | 2, hq => cases hq; decide
  | 3, hq => cases hq; decide
  | 4, hq => cases hq; decide
  | 5, hq => cases hq; decide
  | 6, hq => cases hq; decide
  | 7, hq => cases hq; decide
  | 8, hq => cases hq; decide
  | 9, hq => cases hq; decide
  | 10, hq => cases hq; decide
  | 11, hq => cases hq; decide
  | 12, hq => cases hq; decide
  | 13, hq => cases hq; decide
  | 14, hq => cases hq; decide
  | 15, hq => cases hq; decide
  | 16, hq => cases hq; decide
  | 17, hq => cases hq; decide
  | 18, hq => cases hq; decide
  | 19, hq => cases hq; decide
  | i + 20, hq => exact absurd hq (by simp [SS])
theorem SAt_of {b : Nat} {s : State} {q : SQ} {A : Nat → Prop} (hN : q.2.2.2.length < 2 ^ 31) (h0 : (Cond.stringRef q.1 q.2.1 q.2.2.1).before #[Value.ref b] s = true) (hw : ∀ w ∈ strW q.1 q.2.1 q.2.2.2, w.before #[Value.ref b] s = true) (hA : ∀ a : Nat, a < s.heap.size → ¬ A a) : ∃ p : Nat × Nat, SAt q p.1 p.2 A s s.heap := by
  have hex := hw _ List.mem_cons_self
  have hco := hw _ (List.mem_cons_of_mem _ List.mem_cons_self)
  have har := hw _ (List.mem_cons_of_mem _ (List.mem_cons_of_mem _ List.mem_cons_self))
  have hle := hw _ (List.mem_cons_of_mem _ (List.mem_cons_of_mem _ (List.mem_cons_of_mem _ List.mem_cons_self)))
  have hel : ∀ j : Nat, j < q.2.2.2.length → (Cond.eq (.elem (.field (.string q.1 q.2.1) "java/lang/String" "value" "[B") (.int (Int32.ofNat j))) (.int (nI (q.2.2.2.getD j 0)))).before #[Value.ref b] s = true := fun j hj =>
    hw _ (List.mem_cons_of_mem _ (List.mem_cons_of_mem _ (List.mem_cons_of_mem _ (List.mem_cons_of_mem _ (List.mem_map.mpr ⟨j, List.mem_range.mpr hj, rfl⟩)))))
  obtain ⟨a, c, cA, kA, q1, q2, q3, q4, q5, q6, -⟩ := Cond.exactly_spec (args := #[Value.ref b]) (first := s) (o := none) (s := s) (idx := []) (t := .string q.1 q.2.1) (cls := "java/lang/String") hex
  obtain ⟨t, ht, hT⟩ := va_Tof (f := fun j => .int (nI (q.2.2.2.getD j 0))) (A := A) hN har (va_eqt hle) (fun j hj => va_eqt (hel j hj)) hA
  exact ⟨(a, t), vk_R.of h0 q1, va_Oof hex q1 hA, vk_OFof q1 (va_eqt hco) hA, vk_OFof q1 ht hA, hT⟩
theorem ar_of {A : Array Value} {s : State} {ty : FieldType} (hra : ∀ cA, s.vm.findClass ("[" ++ ty.toString) = some cA → va_RA s cA ty) (h : (Cond.arrayClass ty).before A s = true) : ∃ cA, ArrOfT s cA ty ∧ va_RA s cA ty := by
  obtain ⟨c, k, comp, h1, h2, h3⟩ := Cond.arrayClass_spec h
  exact ⟨c, fun n z => ⟨(fun k h => by cases h), k, h2, comp, h3⟩, hra c h1⟩
theorem ar_ofQ {A : Array Value} {s : State} {C : String} (h : (Cond.arrayOver (.object C)).before A s = true) : ∃ cA, ArrOfT s cA (.object C) ∧ va_RA s cA (.object C) := by
  obtain ⟨comp, c, k, h1, h2, h3, h4, h5⟩ := Cond.arrayOver_spec h
  exact ⟨c, fun n z => ⟨(fun k h => by cases h), k, h3, comp, h4⟩, k, comp, h3, h4, h1, h5⟩
theorem start_K {b : Nat} {s : State} (hts : ∀ w ∈ lw_tbl, w.before #[Value.ref b] s = true) (hgv : (Jvm.Cond.and given_1 narrow_1).before #[Value.ref b] s = true) : ∃ κ : Kp, va_K κ.1 vwCl (tysOf κ) s ∧ EV SS MM κ (fun q => s.heap.size ≤ q) s s.heap ∧ EN s := by
  have hN := flat_of_before _ hgv
  have hA : ∀ a : Nat, a < s.heap.size → ¬ (fun q : Nat => s.heap.size ≤ q) a := fun a h => Nat.not_le.mpr h
  have hTT : ∀ w ∈ TT, w.before #[Value.ref b] s = true := fun w hw => hts w (List.mem_filter.mp hw).1
  have h0 : ∀ c : Nat, ∃ p : ClassId × (Nat → Nat), ∀ q : vw_C, vwCl[c]? = some q → u_Kn s q.1 q.2.1 q.2.2 p.1 p.2 := by
    intro c
    match c with
    | 0 => obtain ⟨cC, iS, hK⟩ := u_known (C := RX0) (T := TX0) (N := 4) (n := 4) hTT inTX0 (hts _ (tbl_at 30 (by decide +kernel))); exact ⟨(cC, iS), fun q hq => by cases hq; exact hK⟩
    | 1 => obtain ⟨cC, iS, hK⟩ := u_known (C := RX1) (T := TX1) (N := 3) (n := 3) hTT inTX1 (hts _ (tbl_at 161 (by decide +kernel))); exact ⟨(cC, iS), fun q hq => by cases hq; exact hK⟩
    | 2 => obtain ⟨cC, iS, hK⟩ := u_known (C := RX2) (T := TX2) (N := 9) (n := 9) hTT inTX2 (hts _ (tbl_at 36 (by decide +kernel))); exact ⟨(cC, iS), fun q hq => by cases hq; exact hK⟩
    | 3 => obtain ⟨cC, iS, hK⟩ := u_known (C := RX3) (T := TX3) (N := 14) (n := 14) hTT inTX3 (hts _ (tbl_at 106 (by decide +kernel))); exact ⟨(cC, iS), fun q hq => by cases hq; exact hK⟩
    | 4 => obtain ⟨cC, iS, hK⟩ := u_known (C := RX4) (T := TX4) (N := 2) (n := 2) hTT inTX4 (hts _ (tbl_at 182 (by decide +kernel))); exact ⟨(cC, iS), fun q hq => by cases hq; exact hK⟩
    | 5 => obtain ⟨cC, iS, hK⟩ := u_known (C := RX5) (T := TX5) (N := 6) (n := 6) hTT inTX5 (hts _ (tbl_at 22 (by decide +kernel))); exact ⟨(cC, iS), fun q hq => by cases hq; exact hK⟩
    | 6 => obtain ⟨cC, iS, hK⟩ := u_known (C := RX6) (T := TX6) (N := 25) (n := 25) hTT inTX6 (hts _ (tbl_at 1184 (by decide +kernel))); exact ⟨(cC, iS), fun q hq => by cases hq; exact hK⟩
    | c + 7 => exact ⟨(default, fun _ => 0), fun q hq => absurd hq (by simp [vwCl])⟩
  obtain ⟨p, hp⟩ := Classical.axiomOfChoice h0
  have h1 : ∀ k : Nat, ∃ cA : ClassId, ∀ ty, ([FieldType.int, .boolean, .long, .double, .object "CopyDebts$Memory"] : List FieldType)[k]? = some ty → ArrOfT s cA ty ∧ va_RA s cA ty := by
    intro k
    match k with
    | 0 => obtain ⟨cA, hc⟩ := ar_of (s := s) (ty := .int) (fun _ h => h) (hts _ (tbl_at 88 (by decide +kernel))); exact ⟨cA, fun ty ht => by cases ht; exact hc⟩
    | 1 => obtain ⟨cA, hc⟩ := ar_of (s := s) (ty := .boolean) (fun _ h => h) (hts _ (tbl_at 89 (by decide +kernel))); exact ⟨cA, fun ty ht => by cases ht; exact hc⟩
    | 2 => obtain ⟨cA, hc⟩ := ar_of (s := s) (ty := .long) (fun _ h => h) (hts _ (tbl_at 1782 (by decide +kernel))); exact ⟨cA, fun ty ht => by cases ht; exact hc⟩
    | 3 => obtain ⟨cA, hc⟩ := ar_of (s := s) (ty := .double) (fun _ h => h) (hts _ (tbl_at 1783 (by decide +kernel))); exact ⟨cA, fun ty ht => by cases ht; exact hc⟩
    | 4 => obtain ⟨cA, hc⟩ := ar_ofQ (s := s) (C := "CopyDebts$Memory") (hts _ (tbl_at 167 (by decide +kernel))); exact ⟨cA, fun ty ht => by cases ht; exact hc⟩
    | k + 5 => exact ⟨default, fun ty ht => absurd ht (by simp)⟩
  obtain ⟨ca, hca⟩ := Classical.axiomOfChoice h1
  have h2 : ∀ i : Nat, ∃ a : Nat × Nat, ∀ q : SQ, SS[i]? = some q → SAt q a.1 a.2 (fun q : Nat => s.heap.size ≤ q) s s.heap := by
    intro i
    cases hq : SS[i]? with
    | none => exact ⟨(0, 0), fun q h => by cases h⟩
    | some q =>
      obtain ⟨w1, w2⟩ := SS_w i q hq
      obtain ⟨a, ha⟩ := SAt_of (b := b) (s := s) (q := q) (A := fun q : Nat => s.heap.size ≤ q) (SS_len i q hq) (hts _ w1) (fun w hw => hN w (w2 w hw)) hA
      exact ⟨a, fun q2 h => by cases h; exact ha⟩
  obtain ⟨ad, had⟩ := Classical.axiomOfChoice h2
  refine ⟨((fun c => (p c).1, fun c => (p c).2), ca, fun i => (ad i).1, fun i => (ad i).2), ⟨fun c q hq => hp c q hq, fun k q hq => ?_⟩, ⟨?_, ?_, fun w hw => ?_, fun q hq => ?_, fun q hq => ?_, fun i q hq => had i q hq, ?_, ?_⟩, fun w hw => ?_, ?_⟩
  · match k, hq with
    | 0, hq => cases hq; exact hca 0 _ rfl
    | 1, hq => cases hq; exact hca 1 _ rfl
    | 2, hq => cases hq; exact hca 2 _ rfl
    | 3, hq => cases hq; exact hca 3 _ rfl
    | 4, hq => cases hq; exact hca 4 _ rfl
    | k + 5, hq => exact absurd hq (by simp [tysOf])
  · exact vx_Zqof (hts _ (tbl_at 289 (by decide +kernel))) (hts _ (tbl_at 8 (by decide +kernel))) (hN _ (NW1_at 4 (by decide +kernel))) hA
  · exact vx_Zqof (hts _ (tbl_at 291 (by decide +kernel))) (hts _ (tbl_at 8 (by decide +kernel))) (hN _ (NW1_at 5 (by decide +kernel))) hA
  · exact va_Nw.of (TD_on hw) (hts w (List.mem_filter.mp hw).1)
  · exact va_Nc.of (hN _ (NC_w q hq))
  · obtain ⟨w1, w2⟩ := MM_w q hq
    obtain ⟨a, c, cA, kA, q1, -⟩ := Cond.exactly_spec (args := #[Value.ref b]) (first := s) (o := none) (s := s) (idx := []) (t := .string q.1 q.2.1) (cls := "java/lang/String") (hN _ w2)
    exact ⟨a, vk_R.of (hts _ w1) q1⟩
  · exact va_Zof (hts _ (tbl_at 382 (by decide +kernel))) (hts _ (tbl_at 14 (by decide +kernel))) (va_eqt (hN _ (NW1_at 6 (by decide +kernel)))) hA
  · exact va_Zqof (hts _ (tbl_at 398 (by decide +kernel))) (hts _ (tbl_at 16 (by decide +kernel))) (hN _ (NW1_at 7 (by decide +kernel))) hA
  · have h2 : isN w = true := (List.mem_filter.mp hw).2
    exact va_Nw.of (by cases w <;> first | (cases h2; done) | rfl) (hts w (List.mem_filter.mp hw).1)
  · exact va_AO.of (hts _ (tbl_at 167 (by decide +kernel)))
