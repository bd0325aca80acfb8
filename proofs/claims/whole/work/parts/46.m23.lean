/-- the reference's reader stands at st -/
def QR (b : Nat → Int32) (len : Nat) (st : St) (g : G) : Prop := g 4 = b ∧ g 0 11 = nI len ∧ len ≤ 700 ∧ (st.2.1 ≤ 4 ∧ st.2.2 ≤ 700) ∧ g 0 16 = nI st.2.1 ∧ g 0 17 = (if st.2.1 = 0 then -1 else nI st.2.2) ∧ (st.2.1 = 0 → TTk st.1 g ∧ TB len st.1)
def wE (g : G) (c a : Int32) : G := sG g 0 (upd (upd (g 0) 16 c) 17 a)
theorem wE_FQ {g : G} {c a : Int32} : FQ g (wE g c a) := ⟨fun i hi => if_neg hi, fun k hk => by
  show upd (upd (g 0) 16 c) 17 a k = g 0 k
  rw [upd_o (by omega), upd_o (by omega)]⟩
theorem failS_n {c : Nat} {st : St} (h : ¬ st.2.1 = 0) : failS c st = st := if_neg h
theorem failS_z {c : Nat} {st : St} (h : st.2.1 = 0) : failS c st = (st.1, c, st.1.2.1) := if_pos h
theorem chk_err {lo hi : Nat} {st : St} (h : ¬ st.2.1 = 0) : chkS lo hi st = st := by
  unfold chkS
  split
  · split
    · exact failS_n h
    · rfl
  · exact failS_n h
def chkVl (lo hi : Nat) (st : St) : Nat := if (chkS lo hi st).2.1 = 0 then (chkS lo hi st).1.2.2.2 else lo
theorem chkVl_err {lo hi : Nat} {st : St} (h : ¬ st.2.1 = 0) : chkVl lo hi st = lo := by
  unfold chkVl
  rw [chk_err h, if_neg h]
theorem num_vl {b : Nat → Int32} {len lo hi : Nat} {st : St} : (numS b len lo hi st).2 = chkVl lo hi (advS b len st) := rfl
theorem num_st {b : Nat → Int32} {len lo hi : Nat} {st : St} : (numS b len lo hi st).1 = chkS lo hi (advS b len st) := rfl
theorem wrd_eq {b : Nat → Int32} {len : Nat} {w : List Nat} {st : St} : whenS (!(ok (advS b len st) && isW b w (advS b len st).1)) 1 (advS b len st) = wrdS b len w st := by
  unfold wrdS
  cases h : isW b w (advS b len st).1
  · rw [Bool.and_false, if_neg Bool.false_ne_true]; rfl
  · rw [Bool.and_true, if_pos rfl]
    cases h2 : ok (advS b len st)
    · exact failS_n (fun z => by unfold ok at h2; rw [z] at h2; cases h2)
    · rfl
theorem wrd_k1 {b : Nat → Int32} {len : Nat} {w : List Nat} {st : St} (h : (wrdS b len w st).2.1 = 0) : (wrdS b len w st).1.1 = 1 := by
  unfold wrdS at h ⊢
  cases h2 : isW b w (advS b len st).1
  · rw [h2, if_neg Bool.false_ne_true] at h
    exfalso
    by_cases z : (advS b len st).2.1 = 0
    · rw [failS_z z] at h; cases h
    · rw [failS_n z] at h; exact z h
  · rw [if_pos rfl]
    unfold isW at h2
    simp only [Bool.and_eq_true, decide_eq_true_eq] at h2
    exact h2.1
set_option maxHeartbeats 16000000 in
theorem c_X6_fails {l : Launch} (hl : l.stackTraces = false) {κ : Kp} {h : Nat → Nat} {g : G} {b : Nat → Int32} {len : Nat} {st : St} {cd : Nat} (hR : QR b len st g) (hcd : cd ≤ 4) (hc1 : ¬ cd = 0) : Ct SS MM l κ yX6_fails cX6_fails 2 none 0 0 0 [.ref (h 0), .int (nI cd)] (qS κ h) g rv (fun _ u => QR b len (failS cd st) u ∧ FQ g u) (fun _ _ => False) := by
  refine Ct.of (own := RX6) (by decide) rfl hl (by intro v hv; simp only [List.mem_cons, List.not_mem_nil, or_false] at hv; first | (rcases hv with rfl | rfl | rfl | rfl | rfl | rfl <;> rfl) | (rcases hv with rfl | rfl | rfl | rfl | rfl <;> rfl) | (rcases hv with rfl | rfl | rfl | rfl <;> rfl) | (rcases hv with rfl | rfl | rfl <;> rfl) | (rcases hv with rfl | rfl <;> rfl) | (subst hv; rfl) | exact hv.elim) (Nat.le_of_ble_eq_true rfl) (fun X hxl hxk C F N => ?_)
  subst hxl hxk
  show V X (qS (xK X) h) 0 [some (.ref (h 0)), some (.int (nI cd))] [] g 0 0
  obtain ⟨h4, h11, h7, hl4, h16, h17, hT⟩ := id hR
  refine v_aload_n C dX6_fails_0 rfl ?_
  refine v_getiQ (x := nI st.2.1) C fl_X6_76 oi_qS_0_16 (h16) dX6_fails_1 ?_
  refine v_if_ne C 20 dX6_fails_4 (by decide) (fun c4 => ?_) (fun c4 => ?_)
  · have hz0 : ¬ st.2.1 = 0 := fun z => c4 (by rw [z]; rfl)
    refine v_vret C F dX6_fails_20 (Nat.le_of_ble_eq_true rfl) (Nat.le_of_ble_eq_true rfl) ?_
    first
    | (rw [failS_n hz0]; exact ⟨hR, FQ.rf⟩)
    | (rw [failS_z hz0]; have hB := (hT hz0).2; have q1 := hB.2.1; have q2 := hB.2.2.1; exact ⟨⟨h4, h11, h7, ⟨hcd, by show st.1.2.1 ≤ 700; omega⟩, rfl, (if_neg hc1).symm, fun z => absurd z hc1⟩, wE_FQ⟩)
  · have hz0 : st.2.1 = 0 := nI_inj (b := 0) (by omega) (by omega) c4
    refine v_aload_n C dX6_fails_7 rfl ?_
    refine v_iload_n C dX6_fails_8 rfl ?_
    refine v_puti C fl_X6_76 fw_X6_16 oi_qS_0_16 ⟨rfl, rfl⟩ dX6_fails_9 ?_
    refine v_aload_n C dX6_fails_12 rfl ?_
    refine v_aload_n C dX6_fails_13 rfl ?_
    refine v_getiQ (x := nI st.1.2.1) C fl_X6_60 oi_qS_0_13 ((hT hz0).1.2.1) dX6_fails_14 ?_
    refine v_puti C fl_X6_79 fw_X6_17 oi_qS_0_17 ⟨rfl, rfl⟩ dX6_fails_17 ?_
    refine V.stt (g2 := (wE g (nI cd) (nI st.1.2.1))) (by unfold wE; rw [sG_sG]; rfl) ?_
    refine v_vret C F dX6_fails_20 (Nat.le_of_ble_eq_true rfl) (Nat.le_of_ble_eq_true rfl) ?_
    first
    | (rw [failS_n hz0]; exact ⟨hR, FQ.rf⟩)
    | (rw [failS_z hz0]; have hB := (hT hz0).2; have q1 := hB.2.1; have q2 := hB.2.2.1; exact ⟨⟨h4, h11, h7, ⟨hcd, by show st.1.2.1 ≤ 700; omega⟩, rfl, (if_neg hc1).symm, fun z => absurd z hc1⟩, wE_FQ⟩)
set_option maxHeartbeats 16000000 in
theorem c_X6_failsIf {l : Launch} (hl : l.stackTraces = false) {κ : Kp} {h : Nat → Nat} {g : G} {b : Nat → Int32} {len : Nat} {st : St} {cd : Nat} {p : Bool} (hR : QR b len st g) (hcd : cd ≤ 4) (hc1 : ¬ cd = 0) : Ct SS MM l κ yX6_failsIf cX6_failsIf 3 none 1 0 0 [.ref (h 0), .int (bI p), .int (nI cd)] (qS κ h) g rv (fun _ u => QR b len (whenS p cd st) u ∧ FQ g u) (fun _ _ => False) := by
  refine Ct.of (own := RX6) (by decide) rfl hl (by intro v hv; simp only [List.mem_cons, List.not_mem_nil, or_false] at hv; first | (rcases hv with rfl | rfl | rfl | rfl | rfl | rfl <;> rfl) | (rcases hv with rfl | rfl | rfl | rfl | rfl <;> rfl) | (rcases hv with rfl | rfl | rfl | rfl <;> rfl) | (rcases hv with rfl | rfl | rfl <;> rfl) | (rcases hv with rfl | rfl <;> rfl) | (subst hv; rfl) | exact hv.elim) (Nat.le_of_ble_eq_true rfl) (fun X hxl hxk C F N => ?_)
  subst hxl hxk
  show V X (qS (xK X) h) 0 [some (.ref (h 0)), some (.int (bI p)), some (.int (nI cd))] [] g 0 0
  refine v_iload_n C dX6_failsIf_0 rfl ?_
  refine v_if_eqB C 9 dX6_failsIf_1 (by decide) (fun c1 => ?_) (fun c1 => ?_)
  · refine v_vret C F dX6_failsIf_9 (Nat.le_of_ble_eq_true rfl) (Nat.le_of_ble_eq_true rfl) ?_
    first
    | (rw [whenS_t c1]; exact ⟨hR1, hF1⟩)
    | (rw [whenS_f c1]; exact ⟨hR, FQ.rf⟩)
  · refine v_aload_n C dX6_failsIf_4 rfl ?_
    refine v_iload_n C dX6_failsIf_5 rfl ?_
    refine v_callVv C (c_X6_fails hl hR hcd hc1) ym_X6_fails ml_X6_82 emb_id_qS rfl rfl rfl rfl rfl dX6_failsIf_6 (Nat.le_of_ble_eq_true rfl) (Nat.le_of_ble_eq_true rfl) (Nat.le_of_ble_eq_true rfl) (Nat.le_of_ble_eq_true rfl) (fun _ _ hu => hu.elim) (fun r u hu => ?_)
    obtain ⟨hR1, hF1⟩ := hu
    obtain ⟨g1, eg1⟩ : ∃ x, x = u := ⟨u, rfl⟩
    subst eg1
    refine v_vret C F dX6_failsIf_9 (Nat.le_of_ble_eq_true rfl) (Nat.le_of_ble_eq_true rfl) ?_
    first
    | (rw [whenS_t c1]; exact ⟨hR1, hF1⟩)
    | (rw [whenS_f c1]; exact ⟨hR, FQ.rf⟩)
set_option maxHeartbeats 16000000 in
theorem c_X6_goesOn {l : Launch} (hl : l.stackTraces = false) {κ : Kp} {h : Nat → Nat} {g : G} {b : Nat → Int32} {len : Nat} {st : St} (hR : QR b len st g) (hb : BN0 b) (hk4 : st.2.1 = 0 → ¬ st.1.1 = 4) : Ct SS MM l κ yX6_goesOn cX6_goesOn 1 none 2 0 0 [.ref (h 0)] (qS κ h) g rv (fun _ u => QR b len (advS b len st) u ∧ FQ g u) (fun _ _ => False) := by
  refine Ct.of (own := RX6) (by decide) rfl hl (by intro v hv; simp only [List.mem_cons, List.not_mem_nil, or_false] at hv; first | (rcases hv with rfl | rfl | rfl | rfl | rfl | rfl <;> rfl) | (rcases hv with rfl | rfl | rfl | rfl | rfl <;> rfl) | (rcases hv with rfl | rfl | rfl | rfl <;> rfl) | (rcases hv with rfl | rfl | rfl <;> rfl) | (rcases hv with rfl | rfl <;> rfl) | (subst hv; rfl) | exact hv.elim) (Nat.le_of_ble_eq_true rfl) (fun X hxl hxk C F N => ?_)
  subst hxl hxk
  show V X (qS (xK X) h) 0 [some (.ref (h 0))] [] g 0 0
  obtain ⟨h4, h11, h7, hl4, h16, h17, hT⟩ := id hR
  refine v_aload_n C dX6_goesOn_0 rfl ?_
  refine v_getiQ (x := nI st.2.1) C fl_X6_76 oi_qS_0_16 (h16) dX6_goesOn_1 ?_
  refine v_if_ne C 11 dX6_goesOn_4 (by decide) (fun c4 => ?_) (fun c4 => ?_)
  · have hz0 : ¬ st.2.1 = 0 := fun z => c4 (by rw [z]; rfl)
    refine v_vret C F dX6_goesOn_11 (Nat.le_of_ble_eq_true rfl) (Nat.le_of_ble_eq_true rfl) ?_
    first
    | (rw [show advS b len st = st from if_neg hz0]; exact ⟨hR, FQ.rf⟩)
    | (rw [show advS b len st = (tok b len st.1.2.2.1, st.2) from if_pos hz0]; have hk := tok_ok (b := b) hB.2.2.1; exact ⟨⟨(hFk.1 4 (by decide)).trans h4, (hFk.2 11 (by decide)).trans h11, h7, hl4, (hFk.2 16 (by decide)).trans h16, (hFk.2 17 (by decide)).trans h17, fun _ => ⟨hTk, hk.1, hk.2.2.1, hk.2.2.2.1, hk.2.2.2.2⟩⟩, hFk.fq⟩)
  · have hz0 : st.2.1 = 0 := nI_inj (b := 0) (by omega) (by omega) c4
    have hB := (hT hz0).2
    refine v_aload_n C dX6_goesOn_7 rfl ?_
    refine v_callVv C (c_X6_token hl h4 h11 h7 ((hT hz0).1.2.2.1 (hk4 hz0)) hB.2.2.1 hb) ym_X6_token ml_X6_86 emb_id_qS rfl rfl rfl rfl rfl dX6_goesOn_8 (Nat.le_of_ble_eq_true rfl) (Nat.le_of_ble_eq_true rfl) (Nat.le_of_ble_eq_true rfl) (Nat.le_of_ble_eq_true rfl) (fun _ _ hu => hu.elim) (fun r u hu => ?_)
    obtain ⟨hTk, hFk⟩ := hu
    obtain ⟨g1, eg1⟩ : ∃ x, x = u := ⟨u, rfl⟩
    subst eg1
    refine v_vret C F dX6_goesOn_11 (Nat.le_of_ble_eq_true rfl) (Nat.le_of_ble_eq_true rfl) ?_
    first
    | (rw [show advS b len st = st from if_neg hz0]; exact ⟨hR, FQ.rf⟩)
    | (rw [show advS b len st = (tok b len st.1.2.2.1, st.2) from if_pos hz0]; have hk := tok_ok (b := b) hB.2.2.1; exact ⟨⟨(hFk.1 4 (by decide)).trans h4, (hFk.2 11 (by decide)).trans h11, h7, hl4, (hFk.2 16 (by decide)).trans h16, (hFk.2 17 (by decide)).trans h17, fun _ => ⟨hTk, hk.1, hk.2.2.1, hk.2.2.2.1, hk.2.2.2.2⟩⟩, hFk.fq⟩)
set_option maxHeartbeats 16000000 in
theorem c_X6_isWord {l : Launch} (hl : l.stackTraces = false) {κ : Kp} {h : Nat → Nat} {g : G} {b : Nat → Int32} {len : Nat} {st : St} {i : Nat} {q : SQ} (hq : SS[i]? = some q) (hR : QR b len st g) : Ct SS MM l κ yX6_isWord cX6_isWord 3 (some FieldType.boolean) 4 0 0 [.ref (h 0), .ref (κ.2.2.1 i)] (qS κ h) g ri (fun r2 u => r2 = bI (ok st && isW b q.2.2.2 st.1) ∧ u = g) (fun _ _ => False) := by
  refine Ct.of (own := RX6) (by decide) rfl hl (by intro v hv; simp only [List.mem_cons, List.not_mem_nil, or_false] at hv; first | (rcases hv with rfl | rfl | rfl | rfl | rfl | rfl <;> rfl) | (rcases hv with rfl | rfl | rfl | rfl | rfl <;> rfl) | (rcases hv with rfl | rfl | rfl | rfl <;> rfl) | (rcases hv with rfl | rfl | rfl <;> rfl) | (rcases hv with rfl | rfl <;> rfl) | (subst hv; rfl) | exact hv.elim) (Nat.le_of_ble_eq_true rfl) (fun X hxl hxk C F N => ?_)
  subst hxl hxk
  show V X (qS (xK X) h) 0 [some (.ref (h 0)), some (.ref ((xK X).2.2.1 i)), none] [] g 0 0
  obtain ⟨h4, h11, h7, hl4, h16, h17, hT⟩ := id hR
  have hok := (SS_ok hq).1
  refine v_aload_n C dX6_isWord_0 rfl ?_
  refine v_getiQ (x := nI st.2.1) C fl_X6_76 oi_qS_0_16 (h16) dX6_isWord_1 ?_
  refine v_if_ne C 31 dX6_isWord_4 (by decide) (fun c4 => ?_) (fun c4 => ?_)
  · have hz0 : ¬ st.2.1 = 0 := fun z => c4 (by rw [z]; rfl)
    have hko : ok st = false := by unfold ok; exact beq_eq_false_iff_ne.mpr hz0
    refine v_iconst (v := nI 0) C dX6_isWord_31 (by decide) ?_
    refine v_iret C F (by first | rfl | exact bI_nar _) dX6_isWord_32 (Nat.le_of_ble_eq_true rfl) (Nat.le_of_ble_eq_true rfl) ?_
    refine ⟨bI_f ?_, rfl⟩
    first
    | (rw [hko, Bool.false_and])
    | (unfold isW; rw [decide_eq_false (show ¬ st.1.1 = 1 by omega), Bool.false_and, Bool.and_false])
    | (unfold isW; rw [decide_eq_false (show ¬ st.1.2.2.1 - st.1.2.1 = q.2.2.2.length by omega), Bool.false_and, Bool.and_false, Bool.and_false])
  · have hz0 : st.2.1 = 0 := nI_inj (b := 0) (by omega) (by omega) c4
    have hko : ok st = true := by unfold ok; rw [hz0]; rfl
    obtain ⟨hTT, b1, b2, b3, b4⟩ := hT hz0
    refine v_aload_n C dX6_isWord_7 rfl ?_
    refine v_getiQ (x := nI st.1.1) C fl_X6_63 oi_qS_0_14 (hTT.1) dX6_isWord_8 ?_
    refine v_iconst (v := nI 1) C dX6_isWord_11 (by decide) ?_
    first | refine v_icmp_neN C 31 dX6_isWord_12 (by decide) (by omega) (by omega) (fun c12 => ?_) (fun c12 => ?_) | refine v_icmp_ne C 31 dX6_isWord_12 (by decide) (fun c12 => ?_) (fun c12 => ?_)
    · refine v_iconst (v := nI 0) C dX6_isWord_31 (by decide) ?_
      refine v_iret C F (by first | rfl | exact bI_nar _) dX6_isWord_32 (Nat.le_of_ble_eq_true rfl) (Nat.le_of_ble_eq_true rfl) ?_
      refine ⟨bI_f ?_, rfl⟩
      first
      | (rw [hko, Bool.false_and])
      | (unfold isW; rw [decide_eq_false (show ¬ st.1.1 = 1 by omega), Bool.false_and, Bool.and_false])
      | (unfold isW; rw [decide_eq_false (show ¬ st.1.2.2.1 - st.1.2.1 = q.2.2.2.length by omega), Bool.false_and, Bool.and_false, Bool.and_false])
    · refine v_aload_n C dX6_isWord_15 rfl ?_
      refine v_getiQ (x := nI st.1.2.2.1) C fl_X6_53 oi_qS_0_12 (hTT.2.2.1 (fun z => by rw [z] at c12; revert c12; decide)) dX6_isWord_16 ?_
      refine v_aload_n C dX6_isWord_19 rfl ?_
      refine v_getiQ (x := nI st.1.2.1) C fl_X6_60 oi_qS_0_13 (hTT.2.1) dX6_isWord_20 ?_
      first | refine v_isubN C dX6_isWord_23 (by omega) ?_ | refine v_isub C dX6_isWord_23 ?_
      refine v_aload_n C dX6_isWord_24 rfl ?_
      refine v_callKi C hq (c_J0_length hl hq) ym_J0_length_8abf5 ml_X6_89 (emb_n fix_qS) rfl rfl rfl dX6_isWord_25 (Nat.le_of_ble_eq_true rfl) (Nat.le_of_ble_eq_true rfl) (Nat.le_of_ble_eq_true rfl) (Nat.le_of_ble_eq_true rfl) (fun _ _ hu => hu.elim) (fun r2 u hu => ?_)
      subst r2
      first | refine v_icmp_eqN C 33 dX6_isWord_28 (by decide) (by omega) (by omega) (fun c28 => ?_) (fun c28 => ?_) | refine v_icmp_eq C 33 dX6_isWord_28 (by decide) (fun c28 => ?_) (fun c28 => ?_)
      · refine v_iconst (v := nI 0) C dX6_isWord_33 (by decide) ?_
        refine v_istore_n C (lo2 := [some _, some _, some _]) dX6_isWord_34 rfl (Nat.le_of_ble_eq_true rfl) rfl ?_
        have L35 : ∀ (t : Nat), (fun t => t ≤ q.2.2.2.length ∧ anyG (wrB b st.1.2.1 q.2.2.2) t (q.2.2.2.length - t) = anyG (wrB b st.1.2.1 q.2.2.2) 0 q.2.2.2.length) t → (fun t : Nat => V X (qS (xK X) h) 35 [some (.ref (h 0)), some (.ref ((xK X).2.2.1 i)), some (.int (nI t))] [] g 0 0) t := by
          refine v_ind (fun t : Nat => q.2.2.2.length - t) ?_
          rintro j ih35 hI35
          try dsimp only at hI35 ⊢
          obtain ⟨i1, i3⟩ := hI35
          refine v_iload_n C dX6_isWord_35 rfl ?_
          refine v_aload_n C dX6_isWord_36 rfl ?_
          refine v_callKi C hq (c_J0_length hl hq) ym_J0_length_8abf5 ml_X6_89 (emb_n fix_qS) rfl rfl rfl dX6_isWord_37 (Nat.le_of_ble_eq_true rfl) (Nat.le_of_ble_eq_true rfl) (Nat.le_of_ble_eq_true rfl) (Nat.le_of_ble_eq_true rfl) (fun _ _ hu => hu.elim) (fun r2 u hu => ?_)
          subst r2
          first | refine v_icmp_geN C 69 dX6_isWord_40 (by decide) (by omega) (by omega) (fun c40 => ?_) (fun c40 => ?_) | refine v_icmp_ge C 69 dX6_isWord_40 (by decide) (fun c40 => ?_) (fun c40 => ?_)
          · refine v_iconst (v := nI 1) C dX6_isWord_69 (by decide) ?_
            refine v_iret C F (by first | rfl | exact bI_nar _) dX6_isWord_70 (Nat.le_of_ble_eq_true rfl) (Nat.le_of_ble_eq_true rfl) ?_
            rw [anyG_0 (by omega)] at i3
            refine ⟨bI_t ?_, rfl⟩
            unfold isW
            rw [hko, ← i3, decide_eq_true (show st.1.1 = 1 by omega), decide_eq_true (show st.1.2.2.1 - st.1.2.1 = q.2.2.2.length by omega)]
            rfl
          · refine v_aload_n C dX6_isWord_43 rfl ?_
            refine v_aload_n C dX6_isWord_44 rfl ?_
            refine v_getiQ (x := nI st.1.2.1) C fl_X6_60 oi_qS_0_13 (hTT.2.1) dX6_isWord_45 ?_
            refine v_iload_n C dX6_isWord_48 rfl ?_
            first | refine v_iaddN C dX6_isWord_49 ?_ | refine v_iadd C dX6_isWord_49 ?_
            refine v_callVi C (c_X6_seen hl (g := g) (b := b) (len := len) (k := st.1.2.1 + j) h4 h11 h7 (by omega)) ym_X6_seen ml_X6_56 emb_id_qS rfl rfl rfl rfl rfl dX6_isWord_50 (Nat.le_of_ble_eq_true rfl) (Nat.le_of_ble_eq_true rfl) (Nat.le_of_ble_eq_true rfl) (Nat.le_of_ble_eq_true rfl) (fun _ _ hu => hu.elim) (fun r u hu => ?_)
            obtain ⟨rfl, hu⟩ := hu
            subst u
            rw [seeB_lt (show st.1.2.1 + j < len by omega)]
            refine V.stt (g2 := g) (rfl) ?_
            refine v_aload_n C dX6_isWord_53 rfl ?_
            refine v_iload_n C dX6_isWord_54 rfl ?_
            refine v_callKi C hq (As := [.int (nI _)]) (c_J0_charAt hl hq (show j < q.2.2.2.length by omega)) ym_J0_charAt_5068e ml_X6_94 (emb_n fix_qS) rfl rfl rfl dX6_isWord_55 (Nat.le_of_ble_eq_true rfl) (Nat.le_of_ble_eq_true rfl) (Nat.le_of_ble_eq_true rfl) (Nat.le_of_ble_eq_true rfl) (fun _ _ hu => hu.elim) (fun r2 u hu => ?_)
            subst r2
            refine v_icmp_eq C 63 dX6_isWord_58 (by decide) (fun c58 => ?_) (fun c58 => ?_)
            · first | refine v_iinc1 C (lo2 := [some _, some _, some _]) dX6_isWord_63 rfl rfl rfl ?_ | refine v_iinc C (lo2 := [some _, some _, some _]) dX6_isWord_63 rfl rfl rfl rfl ?_
              refine v_goto C 35 dX6_isWord_66 (by decide) ?_
              rw [anyG_s (by omega), wrB_f c58, Bool.false_or] at i3
              exact ih35 (j + 1) (by show q.2.2.2.length - (j + 1) < q.2.2.2.length - j; omega) ⟨by omega, i3⟩
            · refine v_iconst (v := nI 0) C dX6_isWord_61 (by decide) ?_
              refine v_iret C F (by first | rfl | exact bI_nar _) dX6_isWord_62 (Nat.le_of_ble_eq_true rfl) (Nat.le_of_ble_eq_true rfl) ?_
              rw [anyG_s (by omega), wrB_t c58, Bool.true_or] at i3
              refine ⟨bI_f ?_, rfl⟩
              unfold isW
              rw [← i3]
              simp
        exact L35 0 ⟨Nat.zero_le _, rfl⟩
      · refine v_iconst (v := nI 0) C dX6_isWord_31 (by decide) ?_
        refine v_iret C F (by first | rfl | exact bI_nar _) dX6_isWord_32 (Nat.le_of_ble_eq_true rfl) (Nat.le_of_ble_eq_true rfl) ?_
        refine ⟨bI_f ?_, rfl⟩
        first
        | (rw [hko, Bool.false_and])
        | (unfold isW; rw [decide_eq_false (show ¬ st.1.1 = 1 by omega), Bool.false_and, Bool.and_false])
        | (unfold isW; rw [decide_eq_false (show ¬ st.1.2.2.1 - st.1.2.1 = q.2.2.2.length by omega), Bool.false_and, Bool.and_false, Bool.and_false])
set_option maxHeartbeats 16000000 in
theorem c_X6_numberHere_ok {l : Launch} (hl : l.stackTraces = false) {κ : Kp} {h : Nat → Nat} {g : G} {b : Nat → Int32} {len : Nat} {st : St} {lo hi : Nat} (hR : QR b len st g) (hlo : lo < 1000) (hhi : hi < 1000) (h0 : st.2.1 = 0) : Ct SS MM l κ yX6_numberHere cX6_numberHere 3 (some FieldType.int) 1 0 0 [.ref (h 0), .int (nI lo), .int (nI hi)] (qS κ h) g ri (fun r u => r = nI (chkVl lo hi st) ∧ QR b len (chkS lo hi st) u ∧ FQ g u) (fun _ _ => False) := by
  refine Ct.of (own := RX6) (by decide) rfl hl (by intro v hv; simp only [List.mem_cons, List.not_mem_nil, or_false] at hv; first | (rcases hv with rfl | rfl | rfl | rfl | rfl | rfl <;> rfl) | (rcases hv with rfl | rfl | rfl | rfl | rfl <;> rfl) | (rcases hv with rfl | rfl | rfl | rfl <;> rfl) | (rcases hv with rfl | rfl | rfl <;> rfl) | (rcases hv with rfl | rfl <;> rfl) | (subst hv; rfl) | exact hv.elim) (Nat.le_of_ble_eq_true rfl) (fun X hxl hxk C F N => ?_)
  subst hxl hxk
  show V X (qS (xK X) h) 0 [some (.ref (h 0)), some (.int (nI lo)), some (.int (nI hi))] [] g 0 0
  obtain ⟨h4, h11, h7, hl4, h16, h17, hT⟩ := id hR
  obtain ⟨hTT, b1, b2, b3, b4⟩ := hT h0
  have J33 : ∀ gz : G, QR b len (chkS lo hi st) gz → FQ g gz → ((chkS lo hi st).2.1 = 0 → gz 0 15 = nI (chkS lo hi st).1.2.2.2) → V X (qS (xK X) h) 33 [some (.ref (h 0)), some (.int (nI lo)), some (.int (nI hi))] [] gz 0 0 := by
    intro gz hRz hFz hNz
    refine v_aload_n C dX6_numberHere_33 rfl ?_
    refine v_getiQ (x := nI (chkS lo hi st).2.1) C fl_X6_76 oi_qS_0_16 (hRz.2.2.2.2.1) dX6_numberHere_34 ?_
    refine v_if_eq C 44 dX6_numberHere_37 (by decide) (fun c37 => ?_) (fun c37 => ?_)
    · have hz1 : (chkS lo hi st).2.1 = 0 := nI_inj (b := 0) (by have := hRz.2.2.2.1; omega) (by omega) c37
      refine v_aload_n C dX6_numberHere_44 rfl ?_
      refine v_getiQ (x := nI (chkS lo hi st).1.2.2.2) C fl_X6_73 oi_qS_0_15 (hNz hz1) dX6_numberHere_45 ?_
      refine v_iret C F (by first | rfl | exact bI_nar _) dX6_numberHere_48 (Nat.le_of_ble_eq_true rfl) (Nat.le_of_ble_eq_true rfl) ?_
      first
      | exact ⟨by rw [hvl], hRz, hFz⟩
      | exact ⟨by unfold chkVl; rw [if_pos hz1], hRz, hFz⟩
    · have hz1 : ¬ (chkS lo hi st).2.1 = 0 := fun z => c37 (by rw [z]; rfl)
      have hvl : chkVl lo hi st = lo := if_neg hz1
      refine v_iload_n C dX6_numberHere_40 rfl ?_
      refine v_goto C 48 dX6_numberHere_41 (by decide) ?_
      refine v_iret C F (by first | rfl | exact bI_nar _) dX6_numberHere_48 (Nat.le_of_ble_eq_true rfl) (Nat.le_of_ble_eq_true rfl) ?_
      first
      | exact ⟨by rw [hvl], hRz, hFz⟩
      | exact ⟨by unfold chkVl; rw [if_pos hz1], hRz, hFz⟩
  refine v_aload_n C dX6_numberHere_0 rfl ?_
  refine v_getiQ (x := nI st.1.1) C fl_X6_63 oi_qS_0_14 (hTT.1) dX6_numberHere_1 ?_
  refine v_iconst (v := nI 2) C dX6_numberHere_4 (by decide) ?_
  first | refine v_icmp_eqN C 16 dX6_numberHere_5 (by decide) (by omega) (by omega) (fun c5 => ?_) (fun c5 => ?_) | refine v_icmp_eq C 16 dX6_numberHere_5 (by decide) (fun c5 => ?_) (fun c5 => ?_)
  · have hk2 : st.1.1 = 2 := by omega
    have hv3 := b4 hk2
    refine v_aload_n C dX6_numberHere_16 rfl ?_
    refine v_getiQ (x := nI st.1.2.2.2) C fl_X6_73 oi_qS_0_15 (hTT.2.2.2 hk2) dX6_numberHere_17 ?_
    refine v_iload_n C dX6_numberHere_20 rfl ?_
    refine v_iload_n C dX6_numberHere_21 rfl ?_
    refine v_callSi C (c_X6_in hl (nI_toInt (show lo < 2 ^ 31 by omega)) (nI_toInt (show hi < 2 ^ 31 by omega))) ys_X6_in rfl ml_X6_98 (emb_n fix_qS) rfl rfl rfl dX6_numberHere_22 (Nat.le_of_ble_eq_true rfl) (Nat.le_of_ble_eq_true rfl) (Nat.le_of_ble_eq_true rfl) (Nat.le_of_ble_eq_true rfl) (fun _ _ hu => hu.elim) (fun r u hu => ?_)
    subst r
    refine v_if_neB C 33 dX6_numberHere_25 (by decide) (fun c25 => ?_) (fun c25 => ?_)
    · have hin := inB_t c25
      rw [nI_toInt (by omega)] at hin
      have hck : chkS lo hi st = st := (if_pos hk2).trans (if_neg (by omega))
      have hRz : QR b len (chkS lo hi st) g := by rw [hck]; exact hR
      have hFz := FQ.rf (g := g)
      have hNz : (chkS lo hi st).2.1 = 0 → g 0 15 = nI (chkS lo hi st).1.2.2.2 := fun _ => by rw [hck]; exact hTT.2.2.2 hk2
      exact J33 _ hRz hFz hNz
    · have hin := inB_f c25
      rw [nI_toInt (by omega)] at hin
      have hck : chkS lo hi st = failS 2 st := (if_pos hk2).trans (if_pos (by omega))
      refine v_aload_n C dX6_numberHere_28 rfl ?_
      refine v_iconst (v := nI 2) C dX6_numberHere_29 (by decide) ?_
      refine v_callVv C (c_X6_fails hl (cd := 2) hR (by decide) (by decide)) ym_X6_fails ml_X6_82 emb_id_qS rfl rfl rfl rfl rfl dX6_numberHere_30 (Nat.le_of_ble_eq_true rfl) (Nat.le_of_ble_eq_true rfl) (Nat.le_of_ble_eq_true rfl) (Nat.le_of_ble_eq_true rfl) (fun _ _ hu => hu.elim) (fun r u hu => ?_)
      obtain ⟨hR1, hF1⟩ := hu
      obtain ⟨g1, eg1⟩ : ∃ x, x = u := ⟨u, rfl⟩
      subst eg1
      have hRz : QR b len (chkS lo hi st) g1 := by rw [hck]; exact hR1
      have hFz := hF1
      have hNz : (chkS lo hi st).2.1 = 0 → g1 0 15 = nI (chkS lo hi st).1.2.2.2 := fun z => by rw [hck, failS_z h0] at z; cases z
      exact J33 _ hRz hFz hNz
  · have hk2 : ¬ st.1.1 = 2 := by omega
    have hck : chkS lo hi st = failS 1 st := if_neg hk2
    refine v_aload_n C dX6_numberHere_8 rfl ?_
    refine v_iconst (v := nI 1) C dX6_numberHere_9 (by decide) ?_
    refine v_callVv C (c_X6_fails hl (cd := 1) hR (by decide) (by decide)) ym_X6_fails ml_X6_82 emb_id_qS rfl rfl rfl rfl rfl dX6_numberHere_10 (Nat.le_of_ble_eq_true rfl) (Nat.le_of_ble_eq_true rfl) (Nat.le_of_ble_eq_true rfl) (Nat.le_of_ble_eq_true rfl) (fun _ _ hu => hu.elim) (fun r u hu => ?_)
    obtain ⟨hR1, hF1⟩ := hu
    obtain ⟨g1, eg1⟩ : ∃ x, x = u := ⟨u, rfl⟩
    subst eg1
    have hRz : QR b len (chkS lo hi st) g1 := by rw [hck]; exact hR1
    have hFz := hF1
    have hNz : (chkS lo hi st).2.1 = 0 → g1 0 15 = nI (chkS lo hi st).1.2.2.2 := fun z => by rw [hck, failS_z h0] at z; cases z
    refine v_goto C 33 dX6_numberHere_13 (by decide) ?_
    exact J33 _ hRz hFz hNz
set_option maxHeartbeats 16000000 in
theorem c_X6_numberHere_err {l : Launch} (hl : l.stackTraces = false) {κ : Kp} {h : Nat → Nat} {g : G} {b : Nat → Int32} {len : Nat} {st : St} {lo hi : Nat} (hR : QR b len st g) (hlo : lo < 1000) (hhi : hi < 1000) (h0 : ¬ st.2.1 = 0) : Ct SS MM l κ yX6_numberHere cX6_numberHere 3 (some FieldType.int) 1 0 0 [.ref (h 0), .int (nI lo), .int (nI hi)] (qS κ h) g ri (fun r u => r = nI (chkVl lo hi st) ∧ QR b len (chkS lo hi st) u ∧ FQ g u) (fun _ _ => False) := by
  refine Ct.of (own := RX6) (by decide) rfl hl (by intro v hv; simp only [List.mem_cons, List.not_mem_nil, or_false] at hv; first | (rcases hv with rfl | rfl | rfl | rfl | rfl | rfl <;> rfl) | (rcases hv with rfl | rfl | rfl | rfl | rfl <;> rfl) | (rcases hv with rfl | rfl | rfl | rfl <;> rfl) | (rcases hv with rfl | rfl | rfl <;> rfl) | (rcases hv with rfl | rfl <;> rfl) | (subst hv; rfl) | exact hv.elim) (Nat.le_of_ble_eq_true rfl) (fun X hxl hxk C F N => ?_)
  subst hxl hxk
  show V X (qS (xK X) h) 0 [some (.ref (h 0)), some (.int (nI lo)), some (.int (nI hi))] [] g 0 0
  obtain ⟨h4, h11, h7, hl4, h16, h17, hT⟩ := id hR
  refine v_aload_n C dX6_numberHere_0 rfl ?_
  refine v_geti C fl_X6_63 oi_qS_0_14 dX6_numberHere_1 ?_
  refine v_iconst (v := nI 2) C dX6_numberHere_4 (by decide) ?_
  refine v_icmp_eq C 16 dX6_numberHere_5 (by decide) (fun c5 => ?_) (fun c5 => ?_)
  · refine v_aload_n C dX6_numberHere_16 rfl ?_
    refine v_geti C fl_X6_73 oi_qS_0_15 dX6_numberHere_17 ?_
    refine v_iload_n C dX6_numberHere_20 rfl ?_
    refine v_iload_n C dX6_numberHere_21 rfl ?_
    refine v_callSi C (c_X6_in hl (nI_toInt (show lo < 2 ^ 31 by omega)) (nI_toInt (show hi < 2 ^ 31 by omega))) ys_X6_in rfl ml_X6_98 (emb_n fix_qS) rfl rfl rfl dX6_numberHere_22 (Nat.le_of_ble_eq_true rfl) (Nat.le_of_ble_eq_true rfl) (Nat.le_of_ble_eq_true rfl) (Nat.le_of_ble_eq_true rfl) (fun _ _ hu => hu.elim) (fun r u hu => ?_)
    subst r
    refine v_if_neB C 33 dX6_numberHere_25 (by decide) (fun c25 => ?_) (fun c25 => ?_)
    · have hRz := hR
      have hFz := FQ.rf (g := g)
      refine v_aload_n C dX6_numberHere_33 rfl ?_
      refine v_getiQ (x := nI st.2.1) C fl_X6_76 oi_qS_0_16 (hRz.2.2.2.2.1) dX6_numberHere_34 ?_
      refine v_if_eq C 44 dX6_numberHere_37 (by decide) (fun c37 => ?_) (fun c37 => ?_)
      · exact absurd (nI_inj (b := 0) (by omega) (by omega) c37) h0
      · refine v_iload_n C dX6_numberHere_40 rfl ?_
        refine v_goto C 48 dX6_numberHere_41 (by decide) ?_
        refine v_iret C F (by first | rfl | exact bI_nar _) dX6_numberHere_48 (Nat.le_of_ble_eq_true rfl) (Nat.le_of_ble_eq_true rfl) ?_
        rw [chk_err h0, chkVl_err h0]
        exact ⟨rfl, hRz, hFz⟩
    · refine v_aload_n C dX6_numberHere_28 rfl ?_
      refine v_iconst (v := nI 2) C dX6_numberHere_29 (by decide) ?_
      refine v_callVv C (c_X6_fails hl (cd := 2) hR (by decide) (by decide)) ym_X6_fails ml_X6_82 emb_id_qS rfl rfl rfl rfl rfl dX6_numberHere_30 (Nat.le_of_ble_eq_true rfl) (Nat.le_of_ble_eq_true rfl) (Nat.le_of_ble_eq_true rfl) (Nat.le_of_ble_eq_true rfl) (fun _ _ hu => hu.elim) (fun r u hu => ?_)
      obtain ⟨hR1, hF1⟩ := hu
      obtain ⟨g1, eg1⟩ : ∃ x, x = u := ⟨u, rfl⟩
      subst eg1
      rw [failS_n h0] at hR1
      have hRz := hR1
      have hFz := hF1
      refine v_aload_n C dX6_numberHere_33 rfl ?_
      refine v_getiQ (x := nI st.2.1) C fl_X6_76 oi_qS_0_16 (hRz.2.2.2.2.1) dX6_numberHere_34 ?_
      refine v_if_eq C 44 dX6_numberHere_37 (by decide) (fun c37 => ?_) (fun c37 => ?_)
      · exact absurd (nI_inj (b := 0) (by omega) (by omega) c37) h0
      · refine v_iload_n C dX6_numberHere_40 rfl ?_
        refine v_goto C 48 dX6_numberHere_41 (by decide) ?_
        refine v_iret C F (by first | rfl | exact bI_nar _) dX6_numberHere_48 (Nat.le_of_ble_eq_true rfl) (Nat.le_of_ble_eq_true rfl) ?_
        rw [chk_err h0, chkVl_err h0]
        exact ⟨rfl, hRz, hFz⟩
  · refine v_aload_n C dX6_numberHere_8 rfl ?_
    refine v_iconst (v := nI 1) C dX6_numberHere_9 (by decide) ?_
    refine v_callVv C (c_X6_fails hl (cd := 1) hR (by decide) (by decide)) ym_X6_fails ml_X6_82 emb_id_qS rfl rfl rfl rfl rfl dX6_numberHere_10 (Nat.le_of_ble_eq_true rfl) (Nat.le_of_ble_eq_true rfl) (Nat.le_of_ble_eq_true rfl) (Nat.le_of_ble_eq_true rfl) (fun _ _ hu => hu.elim) (fun r u hu => ?_)
    obtain ⟨hR1, hF1⟩ := hu
    obtain ⟨g1, eg1⟩ : ∃ x, x = u := ⟨u, rfl⟩
    subst eg1
    rw [failS_n h0] at hR1
    have hRz := hR1
    have hFz := hF1
    refine v_goto C 33 dX6_numberHere_13 (by decide) ?_
    refine v_aload_n C dX6_numberHere_33 rfl ?_
    refine v_getiQ (x := nI st.2.1) C fl_X6_76 oi_qS_0_16 (hRz.2.2.2.2.1) dX6_numberHere_34 ?_
    refine v_if_eq C 44 dX6_numberHere_37 (by decide) (fun c37 => ?_) (fun c37 => ?_)
    · exact absurd (nI_inj (b := 0) (by omega) (by omega) c37) h0
    · refine v_iload_n C dX6_numberHere_40 rfl ?_
      refine v_goto C 48 dX6_numberHere_41 (by decide) ?_
      refine v_iret C F (by first | rfl | exact bI_nar _) dX6_numberHere_48 (Nat.le_of_ble_eq_true rfl) (Nat.le_of_ble_eq_true rfl) ?_
      rw [chk_err h0, chkVl_err h0]
      exact ⟨rfl, hRz, hFz⟩
theorem c_X6_numberHere {l : Launch} (hl : l.stackTraces = false) {κ : Kp} {h : Nat → Nat} {g : G} {b : Nat → Int32} {len : Nat} {st : St} {lo hi : Nat} (hR : QR b len st g) (hlo : lo < 1000) (hhi : hi < 1000) : Ct SS MM l κ yX6_numberHere cX6_numberHere 3 (some FieldType.int) 1 0 0 [.ref (h 0), .int (nI lo), .int (nI hi)] (qS κ h) g ri (fun r u => r = nI (chkVl lo hi st) ∧ QR b len (chkS lo hi st) u ∧ FQ g u) (fun _ _ => False) := by
  by_cases h0 : st.2.1 = 0
  · exact c_X6_numberHere_ok hl hR hlo hhi h0
  · exact c_X6_numberHere_err hl hR hlo hhi h0
set_option maxHeartbeats 16000000 in
theorem c_X6_takes {l : Launch} (hl : l.stackTraces = false) {κ : Kp} {h : Nat → Nat} {g : G} {b : Nat → Int32} {len : Nat} {st : St} {lo hi : Nat} (hR : QR b len st g) (hlo : lo < 1000) (hhi : hi < 1000) (hb : BN0 b) : Ct SS MM l κ yX6_takes cX6_takes 4 (some FieldType.int) 3 0 0 [.ref (h 0), .int (nI lo), .int (nI hi)] (qS κ h) g ri (fun r u => r = nI (chkVl lo hi st) ∧ QR b len (advS b len (chkS lo hi st)) u ∧ FQ g u) (fun _ _ => False) := by
  refine Ct.of (own := RX6) (by decide) rfl hl (by intro v hv; simp only [List.mem_cons, List.not_mem_nil, or_false] at hv; first | (rcases hv with rfl | rfl | rfl | rfl | rfl | rfl <;> rfl) | (rcases hv with rfl | rfl | rfl | rfl | rfl <;> rfl) | (rcases hv with rfl | rfl | rfl | rfl <;> rfl) | (rcases hv with rfl | rfl | rfl <;> rfl) | (rcases hv with rfl | rfl <;> rfl) | (subst hv; rfl) | exact hv.elim) (Nat.le_of_ble_eq_true rfl) (fun X hxl hxk C F N => ?_)
  subst hxl hxk
  show V X (qS (xK X) h) 0 [some (.ref (h 0)), some (.int (nI lo)), some (.int (nI hi)), none] [] g 0 0
  refine v_aload_n C dX6_takes_0 rfl ?_
  refine v_iload_n C dX6_takes_1 rfl ?_
  refine v_iload_n C dX6_takes_2 rfl ?_
  refine v_callVi C (c_X6_numberHere hl hR hlo hhi) ym_X6_numberHere ml_X6_102 emb_id_qS rfl rfl rfl rfl rfl dX6_takes_3 (Nat.le_of_ble_eq_true rfl) (Nat.le_of_ble_eq_true rfl) (Nat.le_of_ble_eq_true rfl) (Nat.le_of_ble_eq_true rfl) (fun _ _ hu => hu.elim) (fun r u hu => ?_)
  obtain ⟨rfl, hR1, hF1⟩ := hu
  obtain ⟨g1, eg1⟩ : ∃ x, x = u := ⟨u, rfl⟩
  subst eg1
  refine v_istore_n C (lo2 := [some _, some _, some _, some _]) dX6_takes_6 rfl (Nat.le_of_ble_eq_true rfl) rfl ?_
  refine v_aload_n C dX6_takes_7 rfl ?_
  refine v_callVv C (c_X6_goesOn hl hR1 hb (fun z => by rw [(chk_k2 z).1]; decide)) ym_X6_goesOn ml_X6_106 emb_id_qS rfl rfl rfl rfl rfl dX6_takes_8 (Nat.le_of_ble_eq_true rfl) (Nat.le_of_ble_eq_true rfl) (Nat.le_of_ble_eq_true rfl) (Nat.le_of_ble_eq_true rfl) (fun _ _ hu => hu.elim) (fun r u hu => ?_)
  obtain ⟨hR3, hF3⟩ := hu
  obtain ⟨g3, eg3⟩ : ∃ x, x = u := ⟨u, rfl⟩
  subst eg3
  refine v_iload_n C dX6_takes_11 rfl ?_
  refine v_iret C F (by first | rfl | exact bI_nar _) dX6_takes_12 (Nat.le_of_ble_eq_true rfl) (Nat.le_of_ble_eq_true rfl) ?_
  exact ⟨rfl, hR3, hF1.tr hF3⟩
set_option maxHeartbeats 16000000 in
theorem c_X6_takesAfter {l : Launch} (hl : l.stackTraces = false) {κ : Kp} {h : Nat → Nat} {g : G} {b : Nat → Int32} {len : Nat} {st : St} {lo hi : Nat} {i : Nat} {q : SQ} (hq : SS[i]? = some q) (hR : QR b len (advS b len st) g) (hlo : lo < 1000) (hhi : hi < 1000) (hb : BN0 b) : Ct SS MM l κ yX6_takesAfter cX6_takesAfter 4 (some FieldType.int) 5 0 0 [.ref (h 0), .ref (κ.2.2.1 i), .int (nI lo), .int (nI hi)] (qS κ h) g ri (fun r u => r = nI (namS b len q.2.2.2 lo hi st).2 ∧ QR b len (advS b len (namS b len q.2.2.2 lo hi st).1) u ∧ FQ g u) (fun _ _ => False) := by
  refine Ct.of (own := RX6) (by decide) rfl hl (by intro v hv; simp only [List.mem_cons, List.not_mem_nil, or_false] at hv; first | (rcases hv with rfl | rfl | rfl | rfl | rfl | rfl <;> rfl) | (rcases hv with rfl | rfl | rfl | rfl | rfl <;> rfl) | (rcases hv with rfl | rfl | rfl | rfl <;> rfl) | (rcases hv with rfl | rfl | rfl <;> rfl) | (rcases hv with rfl | rfl <;> rfl) | (subst hv; rfl) | exact hv.elim) (Nat.le_of_ble_eq_true rfl) (fun X hxl hxk C F N => ?_)
  subst hxl hxk
  show V X (qS (xK X) h) 0 [some (.ref (h 0)), some (.ref ((xK X).2.2.1 i)), some (.int (nI lo)), some (.int (nI hi))] [] g 0 0
  refine v_aload_n C dX6_takesAfter_0 rfl ?_
  refine v_aload_n C dX6_takesAfter_1 rfl ?_
  refine v_aload_n C dX6_takesAfter_2 rfl ?_
  refine v_callVi C (c_X6_isWord hl hq hR) ym_X6_isWord ml_X6_109 emb_id_qS rfl rfl rfl rfl rfl dX6_takesAfter_3 (Nat.le_of_ble_eq_true rfl) (Nat.le_of_ble_eq_true rfl) (Nat.le_of_ble_eq_true rfl) (Nat.le_of_ble_eq_true rfl) (fun _ _ hu => hu.elim) (fun r u hu => ?_)
  obtain ⟨rfl, hu⟩ := hu
  subst u
  refine V.stt (g2 := g) (rfl) ?_
  refine v_if_neB C 13 dX6_takesAfter_6 (by decide) (fun c6 => ?_) (fun c6 => ?_)
  · refine v_iconst (v := nI 0) C dX6_takesAfter_13 (by decide) ?_
    refine V.eqs (st2 := [.int (bI (!(ok (advS b len st) && isW b q.2.2.2 (advS b len st).1))), .ref (h 0)]) ?_ (congrArg (fun z => [Value.int z, Value.ref (h 0)]) (by first | exact bI_t (by rw [c6]; rfl) | exact bI_f (by rw [c6]; rfl)))
    refine v_iconst (v := nI 1) C dX6_takesAfter_14 (by decide) ?_
    refine v_callVv C (c_X6_failsIf hl (cd := 1) (p := !(ok (advS b len st) && isW b q.2.2.2 (advS b len st).1)) hR (by decide) (by decide)) ym_X6_failsIf ml_X6_113 emb_id_qS rfl rfl rfl rfl rfl dX6_takesAfter_15 (Nat.le_of_ble_eq_true rfl) (Nat.le_of_ble_eq_true rfl) (Nat.le_of_ble_eq_true rfl) (Nat.le_of_ble_eq_true rfl) (fun _ _ hu => hu.elim) (fun r u hu => ?_)
    rw [wrd_eq] at hu
    obtain ⟨hR1, hF1⟩ := hu
    obtain ⟨g1, eg1⟩ : ∃ x, x = u := ⟨u, rfl⟩
    subst eg1
    refine v_aload_n C dX6_takesAfter_18 rfl ?_
    refine v_callVv C (c_X6_goesOn hl hR1 hb (fun z => by rw [wrd_k1 z]; decide)) ym_X6_goesOn ml_X6_106 emb_id_qS rfl rfl rfl rfl rfl dX6_takesAfter_19 (Nat.le_of_ble_eq_true rfl) (Nat.le_of_ble_eq_true rfl) (Nat.le_of_ble_eq_true rfl) (Nat.le_of_ble_eq_true rfl) (fun _ _ hu => hu.elim) (fun r u hu => ?_)
    obtain ⟨hR3, hF3⟩ := hu
    obtain ⟨g3, eg3⟩ : ∃ x, x = u := ⟨u, rfl⟩
    subst eg3
    refine v_aload_n C dX6_takesAfter_22 rfl ?_
    refine v_iload_n C dX6_takesAfter_23 rfl ?_
    refine v_iload_n C dX6_takesAfter_24 rfl ?_
    refine v_callVi C (c_X6_takes hl hR3 hlo hhi hb) ym_X6_takes ml_X6_117 emb_id_qS rfl rfl rfl rfl rfl dX6_takesAfter_25 (Nat.le_of_ble_eq_true rfl) (Nat.le_of_ble_eq_true rfl) (Nat.le_of_ble_eq_true rfl) (Nat.le_of_ble_eq_true rfl) (fun _ _ hu => hu.elim) (fun r u hu => ?_)
    obtain ⟨rfl, hR4, hF4⟩ := hu
    obtain ⟨g4, eg4⟩ : ∃ x, x = u := ⟨u, rfl⟩
    subst eg4
    refine v_iret C F (by first | rfl | exact bI_nar _) dX6_takesAfter_28 (Nat.le_of_ble_eq_true rfl) (Nat.le_of_ble_eq_true rfl) ?_
    exact ⟨rfl, hR4, (hF1.tr hF3).tr hF4⟩
  · refine v_iconst (v := nI 1) C dX6_takesAfter_9 (by decide) ?_
    refine v_goto C 14 dX6_takesAfter_10 (by decide) ?_
    refine V.eqs (st2 := [.int (bI (!(ok (advS b len st) && isW b q.2.2.2 (advS b len st).1))), .ref (h 0)]) ?_ (congrArg (fun z => [Value.int z, Value.ref (h 0)]) (by first | exact bI_t (by rw [c6]; rfl) | exact bI_f (by rw [c6]; rfl)))
    refine v_iconst (v := nI 1) C dX6_takesAfter_14 (by decide) ?_
    refine v_callVv C (c_X6_failsIf hl (cd := 1) (p := !(ok (advS b len st) && isW b q.2.2.2 (advS b len st).1)) hR (by decide) (by decide)) ym_X6_failsIf ml_X6_113 emb_id_qS rfl rfl rfl rfl rfl dX6_takesAfter_15 (Nat.le_of_ble_eq_true rfl) (Nat.le_of_ble_eq_true rfl) (Nat.le_of_ble_eq_true rfl) (Nat.le_of_ble_eq_true rfl) (fun _ _ hu => hu.elim) (fun r u hu => ?_)
    rw [wrd_eq] at hu
    obtain ⟨hR1, hF1⟩ := hu
    obtain ⟨g1, eg1⟩ : ∃ x, x = u := ⟨u, rfl⟩
    subst eg1
    refine v_aload_n C dX6_takesAfter_18 rfl ?_
    refine v_callVv C (c_X6_goesOn hl hR1 hb (fun z => by rw [wrd_k1 z]; decide)) ym_X6_goesOn ml_X6_106 emb_id_qS rfl rfl rfl rfl rfl dX6_takesAfter_19 (Nat.le_of_ble_eq_true rfl) (Nat.le_of_ble_eq_true rfl) (Nat.le_of_ble_eq_true rfl) (Nat.le_of_ble_eq_true rfl) (fun _ _ hu => hu.elim) (fun r u hu => ?_)
    obtain ⟨hR3, hF3⟩ := hu
    obtain ⟨g3, eg3⟩ : ∃ x, x = u := ⟨u, rfl⟩
    subst eg3
    refine v_aload_n C dX6_takesAfter_22 rfl ?_
    refine v_iload_n C dX6_takesAfter_23 rfl ?_
    refine v_iload_n C dX6_takesAfter_24 rfl ?_
    refine v_callVi C (c_X6_takes hl hR3 hlo hhi hb) ym_X6_takes ml_X6_117 emb_id_qS rfl rfl rfl rfl rfl dX6_takesAfter_25 (Nat.le_of_ble_eq_true rfl) (Nat.le_of_ble_eq_true rfl) (Nat.le_of_ble_eq_true rfl) (Nat.le_of_ble_eq_true rfl) (fun _ _ hu => hu.elim) (fun r u hu => ?_)
    obtain ⟨rfl, hR4, hF4⟩ := hu
    obtain ⟨g4, eg4⟩ : ∃ x, x = u := ⟨u, rfl⟩
    subst eg4
    refine v_iret C F (by first | rfl | exact bI_nar _) dX6_takesAfter_28 (Nat.le_of_ble_eq_true rfl) (Nat.le_of_ble_eq_true rfl) ?_
    exact ⟨rfl, hR4, (hF1.tr hF3).tr hF4⟩
