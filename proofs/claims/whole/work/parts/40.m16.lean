theorem cd2 {a b : Bool} {k1 k2 : Nat} {t : List (Bool × Nat)} (h : nzB (cdL [(a, k1), (b, k2)]) = true) : cdL ((a, k1) :: (b, k2) :: t) = cdL [(a, k1), (b, k2)] := by
  cases a
  · cases b
    · exact absurd h Bool.false_ne_true
    · rfl
  · rfl
theorem cd4 {a b c d : Bool} {k1 k2 k3 k4 : Nat} {t : List (Bool × Nat)} (h : nzB (cdL [(a, k1), (b, k2), (c, k3), (d, k4)]) = true) : cdL ((a, k1) :: (b, k2) :: (c, k3) :: (d, k4) :: t) = cdL [(a, k1), (b, k2), (c, k3), (d, k4)] := by
  cases a
  · cases b
    · cases c
      · cases d
        · exact absurd h Bool.false_ne_true
        · rfl
      · rfl
    · rfl
  · rfl
theorem lt1 {a b c : Nat} (h : a < b) (hb : b ≤ c) : a < c := by omega
set_option maxHeartbeats 16000000 in
theorem c_X6_noRange {l : Launch} (hl : l.stackTraces = false) {κ : Kp} {h : Nat → Nat} {g : G} {m : Mg} {n : Nat} {a b : Int32} (hQ : QMm n m g) : Ct SS MM l κ yX6_noRange cX6_noRange 3 (some FieldType.boolean) 3 0 0 [.ref (h 0), .int a, .int b] (qS κ h) g ri (fun r u => r = bI (nzB (cdL [(decide (n = 0), 1), (!plB n a, 2), (!plB n b, 2), (decide (b.toInt < a.toInt), 3)])) ∧ u = tg g (cdL [(decide (n = 0), 1), (!plB n a, 2), (!plB n b, 2), (decide (b.toInt < a.toInt), 3)])) (fun _ _ => False) := by
  refine Ct.of (own := RX6) (by decide) rfl hl (by intro v hv; simp only [List.mem_cons, List.not_mem_nil, or_false] at hv; first | (rcases hv with rfl | rfl | rfl | rfl | rfl | rfl <;> rfl) | (rcases hv with rfl | rfl | rfl | rfl | rfl <;> rfl) | (rcases hv with rfl | rfl | rfl | rfl <;> rfl) | (rcases hv with rfl | rfl | rfl <;> rfl) | (rcases hv with rfl | rfl <;> rfl) | (subst hv; rfl) | exact hv.elim) (Nat.le_of_ble_eq_true rfl) (fun X hxl hxk C F N => ?_)
  subst hxl hxk
  show V X (qS (xK X) h) 0 [some (.ref (h 0)), some (.int a), some (.int b)] [] g 0 0
  obtain ⟨hm, hs, h96, hRR⟩ := id hQ
  refine v_aload_n C dX6_noRange_0 rfl ?_
  refine v_iload_n C dX6_noRange_1 rfl ?_
  refine v_callVi C (c_X6_noPlace hl (g := g) (m := m) (n := n) hQ) ym_X6_noPlace ml_X6_223 emb_id_qS rfl rfl rfl rfl rfl dX6_noRange_2 (Nat.le_of_ble_eq_true rfl) (Nat.le_of_ble_eq_true rfl) (Nat.le_of_ble_eq_true rfl) (Nat.le_of_ble_eq_true rfl) (fun _ _ hu => hu.elim) (fun r u hu => ?_)
  obtain ⟨rfl, hu⟩ := hu
  subst u
  refine v_if_neB C 47 dX6_noRange_5 (by decide) (fun c5 => ?_) (fun c5 => ?_)
  · refine v_iconst (v := nI 1) C dX6_noRange_47 (by decide) ?_
    refine v_goto C 52 dX6_noRange_48 (by decide) ?_
    refine v_iret C F (by first | rfl | exact bI_nar _) dX6_noRange_52 (Nat.le_of_ble_eq_true rfl) (Nat.le_of_ble_eq_true rfl) ?_
    first
    | (have z := nz_t c5
       have hcz : (cdL [(decide (n = 0), 1), (!plB n a, 2), (!plB n b, 2), (decide (b.toInt < a.toInt), 3)]) = (cdL [(decide (n = 0), 1), (!plB n a, 2)]) := cd2 c5
       rw [hcz]
       exact ⟨bI_t c5, rfl⟩)
    | (have z := c44
       refine ⟨?_, ?_⟩
       · first
         | (refine bI_t ?_; simp [nzB, cdL, hd1, hd2, c26, c44]; done)
         | (refine bI_f ?_; simp [nzB, cdL, hd1, hd2, c26, c44]; done)
       · simp [cdL, hd1, hd2, c26, c44])
    | (refine ⟨bI_t ?_, ?_⟩ <;> simp [nzB, cdL, hd1, hd2, c26])
  · have hcd := nz_f c5
    obtain ⟨hd1, hd2⟩ := cd_0 (by decide) hcd
    obtain ⟨hd2, -⟩ := cd_0 (by decide) hd2
    refine V.stt (g2 := tg g 0) (by rw [hcd]) ?_
    refine v_aload_n C dX6_noRange_8 rfl ?_
    refine v_aload_n C dX6_noRange_9 rfl ?_
    refine v_iload_n C dX6_noRange_10 rfl ?_
    refine v_callVi C (c_X6_isPlace hl (n := n) ?_ ?_) ym_X6_isPlace ml_X6_211 emb_id_qS rfl rfl rfl rfl rfl dX6_noRange_11 (Nat.le_of_ble_eq_true rfl) (Nat.le_of_ble_eq_true rfl) (Nat.le_of_ble_eq_true rfl) (Nat.le_of_ble_eq_true rfl) (fun _ _ hu => hu.elim) (fun r u hu => ?_)
    · first | assumption | omega
    · first | assumption | omega
    obtain ⟨rfl, hu⟩ := hu
    subst u
    refine v_if_neB C 21 dX6_noRange_14 (by decide) (fun c14 => ?_) (fun c14 => ?_)
    · refine v_iconst (v := nI 0) C dX6_noRange_21 (by decide) ?_
      refine V.eqs (st2 := [.int (bI (!plB n b)), .ref (h 0)]) ?_ (congrArg (fun z => [Value.int z, Value.ref (h 0)]) (by first | exact bI_t (by simp [c14]) | exact bI_f (by simp [c14])))
      refine v_iconst (v := nI 2) C dX6_noRange_22 (by decide) ?_
      refine v_callVi C (c_X6_refuse hl (b := !plB n b) (k := 2) (by decide) (by decide)) ym_X6_refuse ml_X6_40 emb_id_qS rfl rfl rfl rfl rfl dX6_noRange_23 (Nat.le_of_ble_eq_true rfl) (Nat.le_of_ble_eq_true rfl) (Nat.le_of_ble_eq_true rfl) (Nat.le_of_ble_eq_true rfl) (fun _ _ hu => hu.elim) (fun r u hu => ?_)
      obtain ⟨rfl, hu⟩ := hu
      subst u
      refine v_if_neB C 47 dX6_noRange_26 (by decide) (fun c26 => ?_) (fun c26 => ?_)
      · refine V.stt (g2 := tg g 2) (by rw [c26]; rfl) ?_
        refine v_iconst (v := nI 1) C dX6_noRange_47 (by decide) ?_
        refine v_goto C 52 dX6_noRange_48 (by decide) ?_
        refine v_iret C F (by first | rfl | exact bI_nar _) dX6_noRange_52 (Nat.le_of_ble_eq_true rfl) (Nat.le_of_ble_eq_true rfl) ?_
        first
        | (have z := nz_t c5
           have hcz : (cdL [(decide (n = 0), 1), (!plB n a, 2), (!plB n b, 2), (decide (b.toInt < a.toInt), 3)]) = (cdL [(decide (n = 0), 1), (!plB n a, 2)]) := cd2 c5
           rw [hcz]
           exact ⟨bI_t c5, rfl⟩)
        | (have z := c44
           refine ⟨?_, ?_⟩
           · first
             | (refine bI_t ?_; simp [nzB, cdL, hd1, hd2, c26, c44]; done)
             | (refine bI_f ?_; simp [nzB, cdL, hd1, hd2, c26, c44]; done)
           · simp [cdL, hd1, hd2, c26, c44])
        | (refine ⟨bI_t ?_, ?_⟩ <;> simp [nzB, cdL, hd1, hd2, c26])
      · refine V.stt (g2 := tg g 0) (by rw [c26]; rfl) ?_
        refine v_aload_n C dX6_noRange_29 rfl ?_
        refine v_iload_n C dX6_noRange_30 rfl ?_
        refine v_iload_n C dX6_noRange_31 rfl ?_
        refine v_icmp_ge C 39 dX6_noRange_32 (by decide) (fun c32 => ?_) (fun c32 => ?_)
        · refine v_iconst (v := nI 0) C dX6_noRange_39 (by decide) ?_
          refine V.eqs (st2 := [.int (bI (decide (b.toInt < a.toInt))), .ref (h 0)]) ?_ (congrArg (fun z => [Value.int z, Value.ref (h 0)]) (by first | exact bI_t (decide_eq_true (by omega)) | exact bI_f (decide_eq_false (by omega))))
          refine v_iconst (v := nI 3) C dX6_noRange_40 (by decide) ?_
          refine v_callVi C (c_X6_refuse hl (b := decide (b.toInt < a.toInt)) (k := 3) (by decide) (by decide)) ym_X6_refuse ml_X6_40 emb_id_qS rfl rfl rfl rfl rfl dX6_noRange_41 (Nat.le_of_ble_eq_true rfl) (Nat.le_of_ble_eq_true rfl) (Nat.le_of_ble_eq_true rfl) (Nat.le_of_ble_eq_true rfl) (fun _ _ hu => hu.elim) (fun r u hu => ?_)
          obtain ⟨rfl, hu⟩ := hu
          subst u
          refine v_if_eqB C 51 dX6_noRange_44 (by decide) (fun c44 => ?_) (fun c44 => ?_)
          · refine v_iconst (v := nI 0) C dX6_noRange_51 (by decide) ?_
            refine v_iret C F (by first | rfl | exact bI_nar _) dX6_noRange_52 (Nat.le_of_ble_eq_true rfl) (Nat.le_of_ble_eq_true rfl) ?_
            first
            | (have z := nz_t c5
               have hcz : (cdL [(decide (n = 0), 1), (!plB n a, 2), (!plB n b, 2), (decide (b.toInt < a.toInt), 3)]) = (cdL [(decide (n = 0), 1), (!plB n a, 2)]) := cd2 c5
               rw [hcz]
               exact ⟨bI_t c5, rfl⟩)
            | (have z := c44
               refine ⟨?_, ?_⟩
               · first
                 | (refine bI_t ?_; simp [nzB, cdL, hd1, hd2, c26, c44]; done)
                 | (refine bI_f ?_; simp [nzB, cdL, hd1, hd2, c26, c44]; done)
               · simp [cdL, hd1, hd2, c26, c44])
            | (refine ⟨bI_t ?_, ?_⟩ <;> simp [nzB, cdL, hd1, hd2, c26])
          · refine v_iconst (v := nI 1) C dX6_noRange_47 (by decide) ?_
            refine v_goto C 52 dX6_noRange_48 (by decide) ?_
            refine v_iret C F (by first | rfl | exact bI_nar _) dX6_noRange_52 (Nat.le_of_ble_eq_true rfl) (Nat.le_of_ble_eq_true rfl) ?_
            first
            | (have z := nz_t c5
               have hcz : (cdL [(decide (n = 0), 1), (!plB n a, 2), (!plB n b, 2), (decide (b.toInt < a.toInt), 3)]) = (cdL [(decide (n = 0), 1), (!plB n a, 2)]) := cd2 c5
               rw [hcz]
               exact ⟨bI_t c5, rfl⟩)
            | (have z := c44
               refine ⟨?_, ?_⟩
               · first
                 | (refine bI_t ?_; simp [nzB, cdL, hd1, hd2, c26, c44]; done)
                 | (refine bI_f ?_; simp [nzB, cdL, hd1, hd2, c26, c44]; done)
               · simp [cdL, hd1, hd2, c26, c44])
            | (refine ⟨bI_t ?_, ?_⟩ <;> simp [nzB, cdL, hd1, hd2, c26])
        · refine v_iconst (v := nI 1) C dX6_noRange_35 (by decide) ?_
          refine v_goto C 40 dX6_noRange_36 (by decide) ?_
          refine V.eqs (st2 := [.int (bI (decide (b.toInt < a.toInt))), .ref (h 0)]) ?_ (congrArg (fun z => [Value.int z, Value.ref (h 0)]) (by first | exact bI_t (decide_eq_true (by omega)) | exact bI_f (decide_eq_false (by omega))))
          refine v_iconst (v := nI 3) C dX6_noRange_40 (by decide) ?_
          refine v_callVi C (c_X6_refuse hl (b := decide (b.toInt < a.toInt)) (k := 3) (by decide) (by decide)) ym_X6_refuse ml_X6_40 emb_id_qS rfl rfl rfl rfl rfl dX6_noRange_41 (Nat.le_of_ble_eq_true rfl) (Nat.le_of_ble_eq_true rfl) (Nat.le_of_ble_eq_true rfl) (Nat.le_of_ble_eq_true rfl) (fun _ _ hu => hu.elim) (fun r u hu => ?_)
          obtain ⟨rfl, hu⟩ := hu
          subst u
          refine v_if_eqB C 51 dX6_noRange_44 (by decide) (fun c44 => ?_) (fun c44 => ?_)
          · refine v_iconst (v := nI 0) C dX6_noRange_51 (by decide) ?_
            refine v_iret C F (by first | rfl | exact bI_nar _) dX6_noRange_52 (Nat.le_of_ble_eq_true rfl) (Nat.le_of_ble_eq_true rfl) ?_
            first
            | (have z := nz_t c5
               have hcz : (cdL [(decide (n = 0), 1), (!plB n a, 2), (!plB n b, 2), (decide (b.toInt < a.toInt), 3)]) = (cdL [(decide (n = 0), 1), (!plB n a, 2)]) := cd2 c5
               rw [hcz]
               exact ⟨bI_t c5, rfl⟩)
            | (have z := c44
               refine ⟨?_, ?_⟩
               · first
                 | (refine bI_t ?_; simp [nzB, cdL, hd1, hd2, c26, c44]; done)
                 | (refine bI_f ?_; simp [nzB, cdL, hd1, hd2, c26, c44]; done)
               · simp [cdL, hd1, hd2, c26, c44])
            | (refine ⟨bI_t ?_, ?_⟩ <;> simp [nzB, cdL, hd1, hd2, c26])
          · refine v_iconst (v := nI 1) C dX6_noRange_47 (by decide) ?_
            refine v_goto C 52 dX6_noRange_48 (by decide) ?_
            refine v_iret C F (by first | rfl | exact bI_nar _) dX6_noRange_52 (Nat.le_of_ble_eq_true rfl) (Nat.le_of_ble_eq_true rfl) ?_
            first
            | (have z := nz_t c5
               have hcz : (cdL [(decide (n = 0), 1), (!plB n a, 2), (!plB n b, 2), (decide (b.toInt < a.toInt), 3)]) = (cdL [(decide (n = 0), 1), (!plB n a, 2)]) := cd2 c5
               rw [hcz]
               exact ⟨bI_t c5, rfl⟩)
            | (have z := c44
               refine ⟨?_, ?_⟩
               · first
                 | (refine bI_t ?_; simp [nzB, cdL, hd1, hd2, c26, c44]; done)
                 | (refine bI_f ?_; simp [nzB, cdL, hd1, hd2, c26, c44]; done)
               · simp [cdL, hd1, hd2, c26, c44])
            | (refine ⟨bI_t ?_, ?_⟩ <;> simp [nzB, cdL, hd1, hd2, c26])
    · refine v_iconst (v := nI 1) C dX6_noRange_17 (by decide) ?_
      refine v_goto C 22 dX6_noRange_18 (by decide) ?_
      refine V.eqs (st2 := [.int (bI (!plB n b)), .ref (h 0)]) ?_ (congrArg (fun z => [Value.int z, Value.ref (h 0)]) (by first | exact bI_t (by simp [c14]) | exact bI_f (by simp [c14])))
      refine v_iconst (v := nI 2) C dX6_noRange_22 (by decide) ?_
      refine v_callVi C (c_X6_refuse hl (b := !plB n b) (k := 2) (by decide) (by decide)) ym_X6_refuse ml_X6_40 emb_id_qS rfl rfl rfl rfl rfl dX6_noRange_23 (Nat.le_of_ble_eq_true rfl) (Nat.le_of_ble_eq_true rfl) (Nat.le_of_ble_eq_true rfl) (Nat.le_of_ble_eq_true rfl) (fun _ _ hu => hu.elim) (fun r u hu => ?_)
      obtain ⟨rfl, hu⟩ := hu
      subst u
      refine v_if_neB C 47 dX6_noRange_26 (by decide) (fun c26 => ?_) (fun c26 => ?_)
      · refine V.stt (g2 := tg g 2) (by rw [c26]; rfl) ?_
        refine v_iconst (v := nI 1) C dX6_noRange_47 (by decide) ?_
        refine v_goto C 52 dX6_noRange_48 (by decide) ?_
        refine v_iret C F (by first | rfl | exact bI_nar _) dX6_noRange_52 (Nat.le_of_ble_eq_true rfl) (Nat.le_of_ble_eq_true rfl) ?_
        first
        | (have z := nz_t c5
           have hcz : (cdL [(decide (n = 0), 1), (!plB n a, 2), (!plB n b, 2), (decide (b.toInt < a.toInt), 3)]) = (cdL [(decide (n = 0), 1), (!plB n a, 2)]) := cd2 c5
           rw [hcz]
           exact ⟨bI_t c5, rfl⟩)
        | (have z := c44
           refine ⟨?_, ?_⟩
           · first
             | (refine bI_t ?_; simp [nzB, cdL, hd1, hd2, c26, c44]; done)
             | (refine bI_f ?_; simp [nzB, cdL, hd1, hd2, c26, c44]; done)
           · simp [cdL, hd1, hd2, c26, c44])
        | (refine ⟨bI_t ?_, ?_⟩ <;> simp [nzB, cdL, hd1, hd2, c26])
      · refine V.stt (g2 := tg g 0) (by rw [c26]; rfl) ?_
        refine v_aload_n C dX6_noRange_29 rfl ?_
        refine v_iload_n C dX6_noRange_30 rfl ?_
        refine v_iload_n C dX6_noRange_31 rfl ?_
        refine v_icmp_ge C 39 dX6_noRange_32 (by decide) (fun c32 => ?_) (fun c32 => ?_)
        · refine v_iconst (v := nI 0) C dX6_noRange_39 (by decide) ?_
          refine V.eqs (st2 := [.int (bI (decide (b.toInt < a.toInt))), .ref (h 0)]) ?_ (congrArg (fun z => [Value.int z, Value.ref (h 0)]) (by first | exact bI_t (decide_eq_true (by omega)) | exact bI_f (decide_eq_false (by omega))))
          refine v_iconst (v := nI 3) C dX6_noRange_40 (by decide) ?_
          refine v_callVi C (c_X6_refuse hl (b := decide (b.toInt < a.toInt)) (k := 3) (by decide) (by decide)) ym_X6_refuse ml_X6_40 emb_id_qS rfl rfl rfl rfl rfl dX6_noRange_41 (Nat.le_of_ble_eq_true rfl) (Nat.le_of_ble_eq_true rfl) (Nat.le_of_ble_eq_true rfl) (Nat.le_of_ble_eq_true rfl) (fun _ _ hu => hu.elim) (fun r u hu => ?_)
          obtain ⟨rfl, hu⟩ := hu
          subst u
          refine v_if_eqB C 51 dX6_noRange_44 (by decide) (fun c44 => ?_) (fun c44 => ?_)
          · refine v_iconst (v := nI 0) C dX6_noRange_51 (by decide) ?_
            refine v_iret C F (by first | rfl | exact bI_nar _) dX6_noRange_52 (Nat.le_of_ble_eq_true rfl) (Nat.le_of_ble_eq_true rfl) ?_
            first
            | (have z := nz_t c5
               have hcz : (cdL [(decide (n = 0), 1), (!plB n a, 2), (!plB n b, 2), (decide (b.toInt < a.toInt), 3)]) = (cdL [(decide (n = 0), 1), (!plB n a, 2)]) := cd2 c5
               rw [hcz]
               exact ⟨bI_t c5, rfl⟩)
            | (have z := c44
               refine ⟨?_, ?_⟩
               · first
                 | (refine bI_t ?_; simp [nzB, cdL, hd1, hd2, c26, c44]; done)
                 | (refine bI_f ?_; simp [nzB, cdL, hd1, hd2, c26, c44]; done)
               · simp [cdL, hd1, hd2, c26, c44])
            | (refine ⟨bI_t ?_, ?_⟩ <;> simp [nzB, cdL, hd1, hd2, c26])
          · refine v_iconst (v := nI 1) C dX6_noRange_47 (by decide) ?_
            refine v_goto C 52 dX6_noRange_48 (by decide) ?_
            refine v_iret C F (by first | rfl | exact bI_nar _) dX6_noRange_52 (Nat.le_of_ble_eq_true rfl) (Nat.le_of_ble_eq_true rfl) ?_
            first
            | (have z := nz_t c5
               have hcz : (cdL [(decide (n = 0), 1), (!plB n a, 2), (!plB n b, 2), (decide (b.toInt < a.toInt), 3)]) = (cdL [(decide (n = 0), 1), (!plB n a, 2)]) := cd2 c5
               rw [hcz]
               exact ⟨bI_t c5, rfl⟩)
            | (have z := c44
               refine ⟨?_, ?_⟩
               · first
                 | (refine bI_t ?_; simp [nzB, cdL, hd1, hd2, c26, c44]; done)
                 | (refine bI_f ?_; simp [nzB, cdL, hd1, hd2, c26, c44]; done)
               · simp [cdL, hd1, hd2, c26, c44])
            | (refine ⟨bI_t ?_, ?_⟩ <;> simp [nzB, cdL, hd1, hd2, c26])
        · refine v_iconst (v := nI 1) C dX6_noRange_35 (by decide) ?_
          refine v_goto C 40 dX6_noRange_36 (by decide) ?_
          refine V.eqs (st2 := [.int (bI (decide (b.toInt < a.toInt))), .ref (h 0)]) ?_ (congrArg (fun z => [Value.int z, Value.ref (h 0)]) (by first | exact bI_t (decide_eq_true (by omega)) | exact bI_f (decide_eq_false (by omega))))
          refine v_iconst (v := nI 3) C dX6_noRange_40 (by decide) ?_
          refine v_callVi C (c_X6_refuse hl (b := decide (b.toInt < a.toInt)) (k := 3) (by decide) (by decide)) ym_X6_refuse ml_X6_40 emb_id_qS rfl rfl rfl rfl rfl dX6_noRange_41 (Nat.le_of_ble_eq_true rfl) (Nat.le_of_ble_eq_true rfl) (Nat.le_of_ble_eq_true rfl) (Nat.le_of_ble_eq_true rfl) (fun _ _ hu => hu.elim) (fun r u hu => ?_)
          obtain ⟨rfl, hu⟩ := hu
          subst u
          refine v_if_eqB C 51 dX6_noRange_44 (by decide) (fun c44 => ?_) (fun c44 => ?_)
          · refine v_iconst (v := nI 0) C dX6_noRange_51 (by decide) ?_
            refine v_iret C F (by first | rfl | exact bI_nar _) dX6_noRange_52 (Nat.le_of_ble_eq_true rfl) (Nat.le_of_ble_eq_true rfl) ?_
            first
            | (have z := nz_t c5
               have hcz : (cdL [(decide (n = 0), 1), (!plB n a, 2), (!plB n b, 2), (decide (b.toInt < a.toInt), 3)]) = (cdL [(decide (n = 0), 1), (!plB n a, 2)]) := cd2 c5
               rw [hcz]
               exact ⟨bI_t c5, rfl⟩)
            | (have z := c44
               refine ⟨?_, ?_⟩
               · first
                 | (refine bI_t ?_; simp [nzB, cdL, hd1, hd2, c26, c44]; done)
                 | (refine bI_f ?_; simp [nzB, cdL, hd1, hd2, c26, c44]; done)
               · simp [cdL, hd1, hd2, c26, c44])
            | (refine ⟨bI_t ?_, ?_⟩ <;> simp [nzB, cdL, hd1, hd2, c26])
          · refine v_iconst (v := nI 1) C dX6_noRange_47 (by decide) ?_
            refine v_goto C 52 dX6_noRange_48 (by decide) ?_
            refine v_iret C F (by first | rfl | exact bI_nar _) dX6_noRange_52 (Nat.le_of_ble_eq_true rfl) (Nat.le_of_ble_eq_true rfl) ?_
            first
            | (have z := nz_t c5
               have hcz : (cdL [(decide (n = 0), 1), (!plB n a, 2), (!plB n b, 2), (decide (b.toInt < a.toInt), 3)]) = (cdL [(decide (n = 0), 1), (!plB n a, 2)]) := cd2 c5
               rw [hcz]
               exact ⟨bI_t c5, rfl⟩)
            | (have z := c44
               refine ⟨?_, ?_⟩
               · first
                 | (refine bI_t ?_; simp [nzB, cdL, hd1, hd2, c26, c44]; done)
                 | (refine bI_f ?_; simp [nzB, cdL, hd1, hd2, c26, c44]; done)
               · simp [cdL, hd1, hd2, c26, c44])
            | (refine ⟨bI_t ?_, ?_⟩ <;> simp [nzB, cdL, hd1, hd2, c26])
set_option maxHeartbeats 16000000 in
theorem c_X6_setting {l : Launch} (hl : l.stackTraces = false) {κ : Kp} {h : Nat → Nat} {g : G} {m : Mg} {n c : Nat} {w : Int32} (hQ : QMm n m g) (hW : WM n c m) : Ct SS MM l κ yX6_setting cX6_setting 2 (some FieldType.int) 2 0 0 [.ref (h 0), .int w] (qS κ h) g ri (fun r u => u = tg g (cdL [(decide (n = 0), 1), (!inB w 0 4, 2)]) ∧ (cdL [(decide (n = 0), 1), (!inB w 0 4, 2)] = 0 → r = m 5 (tN w))) (fun _ _ => False) := by
  refine Ct.of (own := RX6) (by decide) rfl hl (by intro v hv; simp only [List.mem_cons, List.not_mem_nil, or_false] at hv; first | (rcases hv with rfl | rfl | rfl | rfl | rfl | rfl <;> rfl) | (rcases hv with rfl | rfl | rfl | rfl | rfl <;> rfl) | (rcases hv with rfl | rfl | rfl | rfl <;> rfl) | (rcases hv with rfl | rfl | rfl <;> rfl) | (rcases hv with rfl | rfl <;> rfl) | (subst hv; rfl) | exact hv.elim) (Nat.le_of_ble_eq_true rfl) (fun X hxl hxk C F N => ?_)
  subst hxl hxk
  show V X (qS (xK X) h) 0 [some (.ref (h 0)), some (.int w)] [] g 0 0
  obtain ⟨hm, hs, h96, hRR⟩ := id hQ
  obtain ⟨-, hn7, hMf⟩ := id hW
  refine v_aload_n C dX6_setting_0 rfl ?_
  refine v_callVi C (c_X6_noMemory hl (n := n) hm) ym_X6_noMemory ml_X6_207 emb_id_qS rfl rfl rfl rfl rfl dX6_setting_1 (Nat.le_of_ble_eq_true rfl) (Nat.le_of_ble_eq_true rfl) (Nat.le_of_ble_eq_true rfl) (Nat.le_of_ble_eq_true rfl) (fun _ _ hu => hu.elim) (fun r u hu => ?_)
  obtain ⟨rfl, hu⟩ := hu
  subst u
  refine v_if_neB C 29 dX6_setting_4 (by decide) (fun c4 => ?_) (fun c4 => ?_)
  · have hz0 : n = 0 := of_decide_eq_true c4
    refine V.stt (g2 := tg g 1) (by rw [c4]; rfl) ?_
    refine v_iconst (v := nI 0) C dX6_setting_29 (by decide) ?_
    refine v_goto C 43 dX6_setting_30 (by decide) ?_
    refine v_iret C F (by first | rfl | exact bI_nar _) dX6_setting_43 (Nat.le_of_ble_eq_true rfl) (Nat.le_of_ble_eq_true rfl) ?_
    first
    | (refine ⟨?_, fun _ => ?_⟩; simp [cdL, hn0, c26]; rw [t_j])
    | (refine ⟨?_, fun z => absurd z ?_⟩; (simp [cdL, hz0]); (simp [cdL, hz0]); done)
    | (refine ⟨?_, fun z => absurd z ?_⟩; (simp [cdL, hn0, c26]); (simp [cdL, hn0, c26]); done)
  · have hn0 : ¬ n = 0 := of_decide_eq_false c4
    have hR := hRR hn0
    have hMI := hMf hn0
    obtain ⟨hI, hE, hLK, hn1, hSB, hBY, hPR⟩ := id hMI
    have hbd := band_ok hSB
    have hn := hI.1
    refine V.stt (g2 := tg g 0) (by rw [c4]; rfl) ?_
    refine v_aload_n C dX6_setting_7 rfl ?_
    refine v_iload_n C dX6_setting_8 rfl ?_
    refine v_iconst (v := nI 0) C dX6_setting_9 (by decide) ?_
    refine v_iconst (v := nI 4) C dX6_setting_10 (by decide) ?_
    refine v_callSi C (c_X6_in hl (v := w) (a := 0) (b := 4) (by decide) (by decide)) ys_X6_in rfl ml_X6_98 (emb_n fix_qS) rfl rfl rfl dX6_setting_11 (Nat.le_of_ble_eq_true rfl) (Nat.le_of_ble_eq_true rfl) (Nat.le_of_ble_eq_true rfl) (Nat.le_of_ble_eq_true rfl) (fun _ _ hu => hu.elim) (fun r u hu => ?_)
    subst r
    refine v_if_neB C 21 dX6_setting_14 (by decide) (fun c14 => ?_) (fun c14 => ?_)
    · refine v_iconst (v := nI 0) C dX6_setting_21 (by decide) ?_
      refine V.eqs (st2 := [.int (bI (!inB w 0 4)), .ref (h 0)]) ?_ (congrArg (fun z => [Value.int z, Value.ref (h 0)]) (by first | exact bI_t (by simp [c14]) | exact bI_f (by simp [c14])))
      refine v_iconst (v := nI 2) C dX6_setting_22 (by decide) ?_
      refine v_callVi C (c_X6_refuse hl (b := !inB w 0 4) (k := 2) (by decide) (by decide)) ym_X6_refuse ml_X6_40 emb_id_qS rfl rfl rfl rfl rfl dX6_setting_23 (Nat.le_of_ble_eq_true rfl) (Nat.le_of_ble_eq_true rfl) (Nat.le_of_ble_eq_true rfl) (Nat.le_of_ble_eq_true rfl) (fun _ _ hu => hu.elim) (fun r u hu => ?_)
      obtain ⟨rfl, hu⟩ := hu
      subst u
      refine v_if_eqB C 33 dX6_setting_26 (by decide) (fun c26 => ?_) (fun c26 => ?_)
      · refine V.stt (g2 := tg g 0) (by rw [c26]; rfl) ?_
        have hw4 : inB w 0 4 = true := by simpa using c26
        obtain ⟨j, -, hj_j, hk_j, e_j⟩ := in_at (a := 0) hw4
        subst e_j
        have t_j : tN (nI j) = j := tN_nI hk_j
        refine v_aload_n C dX6_setting_33 rfl ?_
        refine v_getr C fl_X6_7 or_qS_0_3 dX6_setting_34 ?_
        refine v_sipush (v := nI 384) C dX6_setting_37 (by decide) ?_
        refine v_iload_n C dX6_setting_40 rfl ?_
        first | refine v_iaddN C dX6_setting_41 ?_ | refine v_iadd C dX6_setting_41 ?_
        refine v_ialdQ (x := m 5 j) C ar_qS_1 (by decide) _ (hR.t (by omega)) ?_ rfl dX6_setting_42 ?_
        · omega
        refine v_iret C F (by first | rfl | exact bI_nar _) dX6_setting_43 (Nat.le_of_ble_eq_true rfl) (Nat.le_of_ble_eq_true rfl) ?_
        first
        | (refine ⟨?_, fun _ => ?_⟩; simp [cdL, hn0, c26]; rw [t_j])
        | (refine ⟨?_, fun z => absurd z ?_⟩; (simp [cdL, hz0]); (simp [cdL, hz0]); done)
        | (refine ⟨?_, fun z => absurd z ?_⟩; (simp [cdL, hn0, c26]); (simp [cdL, hn0, c26]); done)
      · refine V.stt (g2 := tg g 2) (by rw [c26]; rfl) ?_
        refine v_iconst (v := nI 0) C dX6_setting_29 (by decide) ?_
        refine v_goto C 43 dX6_setting_30 (by decide) ?_
        refine v_iret C F (by first | rfl | exact bI_nar _) dX6_setting_43 (Nat.le_of_ble_eq_true rfl) (Nat.le_of_ble_eq_true rfl) ?_
        first
        | (refine ⟨?_, fun _ => ?_⟩; simp [cdL, hn0, c26]; rw [t_j])
        | (refine ⟨?_, fun z => absurd z ?_⟩; (simp [cdL, hz0]); (simp [cdL, hz0]); done)
        | (refine ⟨?_, fun z => absurd z ?_⟩; (simp [cdL, hn0, c26]); (simp [cdL, hn0, c26]); done)
    · refine v_iconst (v := nI 1) C dX6_setting_17 (by decide) ?_
      refine v_goto C 22 dX6_setting_18 (by decide) ?_
      refine V.eqs (st2 := [.int (bI (!inB w 0 4)), .ref (h 0)]) ?_ (congrArg (fun z => [Value.int z, Value.ref (h 0)]) (by first | exact bI_t (by simp [c14]) | exact bI_f (by simp [c14])))
      refine v_iconst (v := nI 2) C dX6_setting_22 (by decide) ?_
      refine v_callVi C (c_X6_refuse hl (b := !inB w 0 4) (k := 2) (by decide) (by decide)) ym_X6_refuse ml_X6_40 emb_id_qS rfl rfl rfl rfl rfl dX6_setting_23 (Nat.le_of_ble_eq_true rfl) (Nat.le_of_ble_eq_true rfl) (Nat.le_of_ble_eq_true rfl) (Nat.le_of_ble_eq_true rfl) (fun _ _ hu => hu.elim) (fun r u hu => ?_)
      obtain ⟨rfl, hu⟩ := hu
      subst u
      refine v_if_eqB C 33 dX6_setting_26 (by decide) (fun c26 => ?_) (fun c26 => ?_)
      · refine V.stt (g2 := tg g 0) (by rw [c26]; rfl) ?_
        have hw4 : inB w 0 4 = true := by simpa using c26
        obtain ⟨j, -, hj_j, hk_j, e_j⟩ := in_at (a := 0) hw4
        subst e_j
        have t_j : tN (nI j) = j := tN_nI hk_j
        refine v_aload_n C dX6_setting_33 rfl ?_
        refine v_getr C fl_X6_7 or_qS_0_3 dX6_setting_34 ?_
        refine v_sipush (v := nI 384) C dX6_setting_37 (by decide) ?_
        refine v_iload_n C dX6_setting_40 rfl ?_
        first | refine v_iaddN C dX6_setting_41 ?_ | refine v_iadd C dX6_setting_41 ?_
        refine v_ialdQ (x := m 5 j) C ar_qS_1 (by decide) _ (hR.t (by omega)) ?_ rfl dX6_setting_42 ?_
        · omega
        refine v_iret C F (by first | rfl | exact bI_nar _) dX6_setting_43 (Nat.le_of_ble_eq_true rfl) (Nat.le_of_ble_eq_true rfl) ?_
        first
        | (refine ⟨?_, fun _ => ?_⟩; simp [cdL, hn0, c26]; rw [t_j])
        | (refine ⟨?_, fun z => absurd z ?_⟩; (simp [cdL, hz0]); (simp [cdL, hz0]); done)
        | (refine ⟨?_, fun z => absurd z ?_⟩; (simp [cdL, hn0, c26]); (simp [cdL, hn0, c26]); done)
      · refine V.stt (g2 := tg g 2) (by rw [c26]; rfl) ?_
        refine v_iconst (v := nI 0) C dX6_setting_29 (by decide) ?_
        refine v_goto C 43 dX6_setting_30 (by decide) ?_
        refine v_iret C F (by first | rfl | exact bI_nar _) dX6_setting_43 (Nat.le_of_ble_eq_true rfl) (Nat.le_of_ble_eq_true rfl) ?_
        first
        | (refine ⟨?_, fun _ => ?_⟩; simp [cdL, hn0, c26]; rw [t_j])
        | (refine ⟨?_, fun z => absurd z ?_⟩; (simp [cdL, hz0]); (simp [cdL, hz0]); done)
        | (refine ⟨?_, fun z => absurd z ?_⟩; (simp [cdL, hn0, c26]); (simp [cdL, hn0, c26]); done)
set_option maxHeartbeats 16000000 in
theorem c_X6_account {l : Launch} (hl : l.stackTraces = false) {κ : Kp} {h : Nat → Nat} {g : G} {m : Mg} {n c : Nat} {w : Int32} (hQ : QMm n m g) (hW : WM n c m) : Ct SS MM l κ yX6_account cX6_account 2 (some FieldType.int) 2 0 0 [.ref (h 0), .int w] (qS κ h) g ri (fun r u => u = tg g (cdL [(decide (n = 0), 1), (!inB w 0 8, 2)]) ∧ (cdL [(decide (n = 0), 1), (!inB w 0 8, 2)] = 0 → r = m 6 (tN w))) (fun _ _ => False) := by
  refine Ct.of (own := RX6) (by decide) rfl hl (by intro v hv; simp only [List.mem_cons, List.not_mem_nil, or_false] at hv; first | (rcases hv with rfl | rfl | rfl | rfl | rfl | rfl <;> rfl) | (rcases hv with rfl | rfl | rfl | rfl | rfl <;> rfl) | (rcases hv with rfl | rfl | rfl | rfl <;> rfl) | (rcases hv with rfl | rfl | rfl <;> rfl) | (rcases hv with rfl | rfl <;> rfl) | (subst hv; rfl) | exact hv.elim) (Nat.le_of_ble_eq_true rfl) (fun X hxl hxk C F N => ?_)
  subst hxl hxk
  show V X (qS (xK X) h) 0 [some (.ref (h 0)), some (.int w)] [] g 0 0
  obtain ⟨hm, hs, h96, hRR⟩ := id hQ
  obtain ⟨-, hn7, hMf⟩ := id hW
  refine v_aload_n C dX6_account_0 rfl ?_
  refine v_callVi C (c_X6_noMemory hl (n := n) hm) ym_X6_noMemory ml_X6_207 emb_id_qS rfl rfl rfl rfl rfl dX6_account_1 (Nat.le_of_ble_eq_true rfl) (Nat.le_of_ble_eq_true rfl) (Nat.le_of_ble_eq_true rfl) (Nat.le_of_ble_eq_true rfl) (fun _ _ hu => hu.elim) (fun r u hu => ?_)
  obtain ⟨rfl, hu⟩ := hu
  subst u
  refine v_if_neB C 30 dX6_account_4 (by decide) (fun c4 => ?_) (fun c4 => ?_)
  · have hz0 : n = 0 := of_decide_eq_true c4
    refine V.stt (g2 := tg g 1) (by rw [c4]; rfl) ?_
    refine v_iconst (v := nI 0) C dX6_account_30 (by decide) ?_
    refine v_goto C 44 dX6_account_31 (by decide) ?_
    refine v_iret C F (by first | rfl | exact bI_nar _) dX6_account_44 (Nat.le_of_ble_eq_true rfl) (Nat.le_of_ble_eq_true rfl) ?_
    first
    | (refine ⟨?_, fun _ => ?_⟩; simp [cdL, hn0, c27]; rw [t_j])
    | (refine ⟨?_, fun z => absurd z ?_⟩; (simp [cdL, hz0]); (simp [cdL, hz0]); done)
    | (refine ⟨?_, fun z => absurd z ?_⟩; (simp [cdL, hn0, c27]); (simp [cdL, hn0, c27]); done)
  · have hn0 : ¬ n = 0 := of_decide_eq_false c4
    have hR := hRR hn0
    have hMI := hMf hn0
    obtain ⟨hI, hE, hLK, hn1, hSB, hBY, hPR⟩ := id hMI
    have hbd := band_ok hSB
    have hn := hI.1
    refine V.stt (g2 := tg g 0) (by rw [c4]; rfl) ?_
    refine v_aload_n C dX6_account_7 rfl ?_
    refine v_iload_n C dX6_account_8 rfl ?_
    refine v_iconst (v := nI 0) C dX6_account_9 (by decide) ?_
    refine v_bipush (v := nI 8) C dX6_account_10 (by decide) ?_
    refine v_callSi C (c_X6_in hl (v := w) (a := 0) (b := 8) (by decide) (by decide)) ys_X6_in rfl ml_X6_98 (emb_n fix_qS) rfl rfl rfl dX6_account_12 (Nat.le_of_ble_eq_true rfl) (Nat.le_of_ble_eq_true rfl) (Nat.le_of_ble_eq_true rfl) (Nat.le_of_ble_eq_true rfl) (fun _ _ hu => hu.elim) (fun r u hu => ?_)
    subst r
    refine v_if_neB C 22 dX6_account_15 (by decide) (fun c15 => ?_) (fun c15 => ?_)
    · refine v_iconst (v := nI 0) C dX6_account_22 (by decide) ?_
      refine V.eqs (st2 := [.int (bI (!inB w 0 8)), .ref (h 0)]) ?_ (congrArg (fun z => [Value.int z, Value.ref (h 0)]) (by first | exact bI_t (by simp [c15]) | exact bI_f (by simp [c15])))
      refine v_iconst (v := nI 2) C dX6_account_23 (by decide) ?_
      refine v_callVi C (c_X6_refuse hl (b := !inB w 0 8) (k := 2) (by decide) (by decide)) ym_X6_refuse ml_X6_40 emb_id_qS rfl rfl rfl rfl rfl dX6_account_24 (Nat.le_of_ble_eq_true rfl) (Nat.le_of_ble_eq_true rfl) (Nat.le_of_ble_eq_true rfl) (Nat.le_of_ble_eq_true rfl) (fun _ _ hu => hu.elim) (fun r u hu => ?_)
      obtain ⟨rfl, hu⟩ := hu
      subst u
      refine v_if_eqB C 34 dX6_account_27 (by decide) (fun c27 => ?_) (fun c27 => ?_)
      · refine V.stt (g2 := tg g 0) (by rw [c27]; rfl) ?_
        have hw4 : inB w 0 8 = true := by simpa using c27
        obtain ⟨j, -, hj_j, hk_j, e_j⟩ := in_at (a := 0) hw4
        subst e_j
        have t_j : tN (nI j) = j := tN_nI hk_j
        refine v_aload_n C dX6_account_34 rfl ?_
        refine v_getr C fl_X6_7 or_qS_0_3 dX6_account_35 ?_
        refine v_sipush (v := nI 390) C dX6_account_38 (by decide) ?_
        refine v_iload_n C dX6_account_41 rfl ?_
        first | refine v_iaddN C dX6_account_42 ?_ | refine v_iadd C dX6_account_42 ?_
        refine v_ialdQ (x := m 6 j) C ar_qS_1 (by decide) _ (hR.a (by omega)) ?_ rfl dX6_account_43 ?_
        · omega
        refine v_iret C F (by first | rfl | exact bI_nar _) dX6_account_44 (Nat.le_of_ble_eq_true rfl) (Nat.le_of_ble_eq_true rfl) ?_
        first
        | (refine ⟨?_, fun _ => ?_⟩; simp [cdL, hn0, c27]; rw [t_j])
        | (refine ⟨?_, fun z => absurd z ?_⟩; (simp [cdL, hz0]); (simp [cdL, hz0]); done)
        | (refine ⟨?_, fun z => absurd z ?_⟩; (simp [cdL, hn0, c27]); (simp [cdL, hn0, c27]); done)
      · refine V.stt (g2 := tg g 2) (by rw [c27]; rfl) ?_
        refine v_iconst (v := nI 0) C dX6_account_30 (by decide) ?_
        refine v_goto C 44 dX6_account_31 (by decide) ?_
        refine v_iret C F (by first | rfl | exact bI_nar _) dX6_account_44 (Nat.le_of_ble_eq_true rfl) (Nat.le_of_ble_eq_true rfl) ?_
        first
        | (refine ⟨?_, fun _ => ?_⟩; simp [cdL, hn0, c27]; rw [t_j])
        | (refine ⟨?_, fun z => absurd z ?_⟩; (simp [cdL, hz0]); (simp [cdL, hz0]); done)
        | (refine ⟨?_, fun z => absurd z ?_⟩; (simp [cdL, hn0, c27]); (simp [cdL, hn0, c27]); done)
    · refine v_iconst (v := nI 1) C dX6_account_18 (by decide) ?_
      refine v_goto C 23 dX6_account_19 (by decide) ?_
      refine V.eqs (st2 := [.int (bI (!inB w 0 8)), .ref (h 0)]) ?_ (congrArg (fun z => [Value.int z, Value.ref (h 0)]) (by first | exact bI_t (by simp [c15]) | exact bI_f (by simp [c15])))
      refine v_iconst (v := nI 2) C dX6_account_23 (by decide) ?_
      refine v_callVi C (c_X6_refuse hl (b := !inB w 0 8) (k := 2) (by decide) (by decide)) ym_X6_refuse ml_X6_40 emb_id_qS rfl rfl rfl rfl rfl dX6_account_24 (Nat.le_of_ble_eq_true rfl) (Nat.le_of_ble_eq_true rfl) (Nat.le_of_ble_eq_true rfl) (Nat.le_of_ble_eq_true rfl) (fun _ _ hu => hu.elim) (fun r u hu => ?_)
      obtain ⟨rfl, hu⟩ := hu
      subst u
      refine v_if_eqB C 34 dX6_account_27 (by decide) (fun c27 => ?_) (fun c27 => ?_)
      · refine V.stt (g2 := tg g 0) (by rw [c27]; rfl) ?_
        have hw4 : inB w 0 8 = true := by simpa using c27
        obtain ⟨j, -, hj_j, hk_j, e_j⟩ := in_at (a := 0) hw4
        subst e_j
        have t_j : tN (nI j) = j := tN_nI hk_j
        refine v_aload_n C dX6_account_34 rfl ?_
        refine v_getr C fl_X6_7 or_qS_0_3 dX6_account_35 ?_
        refine v_sipush (v := nI 390) C dX6_account_38 (by decide) ?_
        refine v_iload_n C dX6_account_41 rfl ?_
        first | refine v_iaddN C dX6_account_42 ?_ | refine v_iadd C dX6_account_42 ?_
        refine v_ialdQ (x := m 6 j) C ar_qS_1 (by decide) _ (hR.a (by omega)) ?_ rfl dX6_account_43 ?_
        · omega
        refine v_iret C F (by first | rfl | exact bI_nar _) dX6_account_44 (Nat.le_of_ble_eq_true rfl) (Nat.le_of_ble_eq_true rfl) ?_
        first
        | (refine ⟨?_, fun _ => ?_⟩; simp [cdL, hn0, c27]; rw [t_j])
        | (refine ⟨?_, fun z => absurd z ?_⟩; (simp [cdL, hz0]); (simp [cdL, hz0]); done)
        | (refine ⟨?_, fun z => absurd z ?_⟩; (simp [cdL, hn0, c27]); (simp [cdL, hn0, c27]); done)
      · refine V.stt (g2 := tg g 2) (by rw [c27]; rfl) ?_
        refine v_iconst (v := nI 0) C dX6_account_30 (by decide) ?_
        refine v_goto C 44 dX6_account_31 (by decide) ?_
        refine v_iret C F (by first | rfl | exact bI_nar _) dX6_account_44 (Nat.le_of_ble_eq_true rfl) (Nat.le_of_ble_eq_true rfl) ?_
        first
        | (refine ⟨?_, fun _ => ?_⟩; simp [cdL, hn0, c27]; rw [t_j])
        | (refine ⟨?_, fun z => absurd z ?_⟩; (simp [cdL, hz0]); (simp [cdL, hz0]); done)
        | (refine ⟨?_, fun z => absurd z ?_⟩; (simp [cdL, hn0, c27]); (simp [cdL, hn0, c27]); done)
set_option maxHeartbeats 16000000 in
theorem c_X6_stored {l : Launch} (hl : l.stackTraces = false) {κ : Kp} {h : Nat → Nat} {g : G} {m : Mg} {n c : Nat} {p : Int32} (hQ : QMm n m g) (hW : WM n c m) : Ct SS MM l κ yX6_stored cX6_stored 2 (some FieldType.int) 3 0 0 [.ref (h 0), .int p] (qS κ h) g ri (fun r u => u = tg g (cdL [(decide (n = 0), 1), (!plB n p, 2)]) ∧ (cdL [(decide (n = 0), 1), (!plB n p, 2)] = 0 → r = m 1 (tN p))) (fun _ _ => False) := by
  refine Ct.of (own := RX6) (by decide) rfl hl (by intro v hv; simp only [List.mem_cons, List.not_mem_nil, or_false] at hv; first | (rcases hv with rfl | rfl | rfl | rfl | rfl | rfl <;> rfl) | (rcases hv with rfl | rfl | rfl | rfl | rfl <;> rfl) | (rcases hv with rfl | rfl | rfl | rfl <;> rfl) | (rcases hv with rfl | rfl | rfl <;> rfl) | (rcases hv with rfl | rfl <;> rfl) | (subst hv; rfl) | exact hv.elim) (Nat.le_of_ble_eq_true rfl) (fun X hxl hxk C F N => ?_)
  subst hxl hxk
  show V X (qS (xK X) h) 0 [some (.ref (h 0)), some (.int p)] [] g 0 0
  obtain ⟨hm, hs, h96, hRR⟩ := id hQ
  obtain ⟨-, hn7, hMf⟩ := id hW
  refine v_aload_n C dX6_stored_0 rfl ?_
  refine v_iload_n C dX6_stored_1 rfl ?_
  refine v_callVi C (c_X6_noPlace hl (g := g) (m := m) (n := n) hQ) ym_X6_noPlace ml_X6_223 emb_id_qS rfl rfl rfl rfl rfl dX6_stored_2 (Nat.le_of_ble_eq_true rfl) (Nat.le_of_ble_eq_true rfl) (Nat.le_of_ble_eq_true rfl) (Nat.le_of_ble_eq_true rfl) (fun _ _ hu => hu.elim) (fun r u hu => ?_)
  obtain ⟨rfl, hu⟩ := hu
  subst u
  refine v_if_eqB C 12 dX6_stored_5 (by decide) (fun c5 => ?_) (fun c5 => ?_)
  · have hcd := nz_f c5
    obtain ⟨hd1, hd2⟩ := cd_0 (by decide) hcd
    obtain ⟨hd2, -⟩ := cd_0 (by decide) hd2
    have hn0 : ¬ n = 0 := of_decide_eq_false hd1
    have hp_p : plB n p = true := by simpa using hd2
    have hR := hRR hn0
    have hMI := hMf hn0
    obtain ⟨hI, hE, hLK, hn1, hSB, hBY, hPR⟩ := id hMI
    have hbd := band_ok hSB
    have hn := hI.1
    refine V.stt (g2 := tg g 0) (by rw [hcd]) ?_
    clear hcd hd2 hd1 c5
    obtain ⟨j, hj_j, e_j⟩ := pl_at hp_p
    subst e_j
    have t_j : tN (nI j) = j := tN_nI (by omega)
    refine v_aload_n C dX6_stored_12 rfl ?_
    refine v_getr C fl_X6_7 or_qS_0_3 dX6_stored_13 ?_
    refine v_iconst (v := nI 0) C dX6_stored_16 (by decide) ?_
    refine v_iload_n C dX6_stored_17 rfl ?_
    first | refine v_iaddN C dX6_stored_18 ?_ | refine v_iadd C dX6_stored_18 ?_
    refine v_ialdQ (x := m 1 j) C ar_qS_1 (by decide) _ (hR.b0 (by omega)) ?_ rfl dX6_stored_19 ?_
    · omega
    refine v_iret C F (by first | rfl | exact bI_nar _) dX6_stored_20 (Nat.le_of_ble_eq_true rfl) (Nat.le_of_ble_eq_true rfl) ?_
    first
    | (refine ⟨?_, fun _ => ?_⟩; simp [cdL, hn0, hp_p]; rw [t_j])
    | (refine ⟨?_, fun z => absurd z ?_⟩; (exact congrArg (tg g) (cd2 c5).symm); (exact fun z => absurd ((cd2 c5).symm.trans z) (nz_t c5)); done)
  · skip
    refine v_iconst (v := nI 0) C dX6_stored_8 (by decide) ?_
    refine v_goto C 20 dX6_stored_9 (by decide) ?_
    refine v_iret C F (by first | rfl | exact bI_nar _) dX6_stored_20 (Nat.le_of_ble_eq_true rfl) (Nat.le_of_ble_eq_true rfl) ?_
    first
    | (refine ⟨?_, fun _ => ?_⟩; simp [cdL, hn0, hp_p]; rw [t_j])
    | (refine ⟨?_, fun z => absurd z ?_⟩; (exact congrArg (tg g) (cd2 c5).symm); (exact fun z => absurd ((cd2 c5).symm.trans z) (nz_t c5)); done)
set_option maxHeartbeats 16000000 in
theorem c_X6_source {l : Launch} (hl : l.stackTraces = false) {κ : Kp} {h : Nat → Nat} {g : G} {m : Mg} {n c : Nat} {p : Int32} (hQ : QMm n m g) (hW : WM n c m) : Ct SS MM l κ yX6_source cX6_source 2 (some FieldType.int) 3 0 0 [.ref (h 0), .int p] (qS κ h) g ri (fun r u => u = tg g (cdL [(decide (n = 0), 1), (!plB n p, 2)]) ∧ (cdL [(decide (n = 0), 1), (!plB n p, 2)] = 0 → r = m 2 (tN p))) (fun _ _ => False) := by
  refine Ct.of (own := RX6) (by decide) rfl hl (by intro v hv; simp only [List.mem_cons, List.not_mem_nil, or_false] at hv; first | (rcases hv with rfl | rfl | rfl | rfl | rfl | rfl <;> rfl) | (rcases hv with rfl | rfl | rfl | rfl | rfl <;> rfl) | (rcases hv with rfl | rfl | rfl | rfl <;> rfl) | (rcases hv with rfl | rfl | rfl <;> rfl) | (rcases hv with rfl | rfl <;> rfl) | (subst hv; rfl) | exact hv.elim) (Nat.le_of_ble_eq_true rfl) (fun X hxl hxk C F N => ?_)
  subst hxl hxk
  show V X (qS (xK X) h) 0 [some (.ref (h 0)), some (.int p)] [] g 0 0
  obtain ⟨hm, hs, h96, hRR⟩ := id hQ
  obtain ⟨-, hn7, hMf⟩ := id hW
  refine v_aload_n C dX6_source_0 rfl ?_
  refine v_iload_n C dX6_source_1 rfl ?_
  refine v_callVi C (c_X6_noPlace hl (g := g) (m := m) (n := n) hQ) ym_X6_noPlace ml_X6_223 emb_id_qS rfl rfl rfl rfl rfl dX6_source_2 (Nat.le_of_ble_eq_true rfl) (Nat.le_of_ble_eq_true rfl) (Nat.le_of_ble_eq_true rfl) (Nat.le_of_ble_eq_true rfl) (fun _ _ hu => hu.elim) (fun r u hu => ?_)
  obtain ⟨rfl, hu⟩ := hu
  subst u
  refine v_if_eqB C 12 dX6_source_5 (by decide) (fun c5 => ?_) (fun c5 => ?_)
  · have hcd := nz_f c5
    obtain ⟨hd1, hd2⟩ := cd_0 (by decide) hcd
    obtain ⟨hd2, -⟩ := cd_0 (by decide) hd2
    have hn0 : ¬ n = 0 := of_decide_eq_false hd1
    have hp_p : plB n p = true := by simpa using hd2
    have hR := hRR hn0
    have hMI := hMf hn0
    obtain ⟨hI, hE, hLK, hn1, hSB, hBY, hPR⟩ := id hMI
    have hbd := band_ok hSB
    have hn := hI.1
    refine V.stt (g2 := tg g 0) (by rw [hcd]) ?_
    clear hcd hd2 hd1 c5
    obtain ⟨j, hj_j, e_j⟩ := pl_at hp_p
    subst e_j
    have t_j : tN (nI j) = j := tN_nI (by omega)
    refine v_aload_n C dX6_source_12 rfl ?_
    refine v_getr C fl_X6_7 or_qS_0_3 dX6_source_13 ?_
    refine v_bipush (v := nI 96) C dX6_source_16 (by decide) ?_
    refine v_iload_n C dX6_source_18 rfl ?_
    first | refine v_iaddN C dX6_source_19 ?_ | refine v_iadd C dX6_source_19 ?_
    refine v_ialdQ (x := m 2 j) C ar_qS_1 (by decide) _ (hR.s (by omega)) ?_ rfl dX6_source_20 ?_
    · omega
    refine v_iret C F (by first | rfl | exact bI_nar _) dX6_source_21 (Nat.le_of_ble_eq_true rfl) (Nat.le_of_ble_eq_true rfl) ?_
    first
    | (refine ⟨?_, fun _ => ?_⟩; simp [cdL, hn0, hp_p]; rw [t_j])
    | (refine ⟨?_, fun z => absurd z ?_⟩; (exact congrArg (tg g) (cd2 c5).symm); (exact fun z => absurd ((cd2 c5).symm.trans z) (nz_t c5)); done)
  · skip
    refine v_iconst (v := nI 0) C dX6_source_8 (by decide) ?_
    refine v_goto C 21 dX6_source_9 (by decide) ?_
    refine v_iret C F (by first | rfl | exact bI_nar _) dX6_source_21 (Nat.le_of_ble_eq_true rfl) (Nat.le_of_ble_eq_true rfl) ?_
    first
    | (refine ⟨?_, fun _ => ?_⟩; simp [cdL, hn0, hp_p]; rw [t_j])
    | (refine ⟨?_, fun z => absurd z ?_⟩; (exact congrArg (tg g) (cd2 c5).symm); (exact fun z => absurd ((cd2 c5).symm.trans z) (nz_t c5)); done)
set_option maxHeartbeats 16000000 in
theorem c_X6_promise {l : Launch} (hl : l.stackTraces = false) {κ : Kp} {h : Nat → Nat} {g : G} {m : Mg} {n c : Nat} {p : Int32} (hQ : QMm n m g) (hW : WM n c m) : Ct SS MM l κ yX6_promise cX6_promise 2 (some FieldType.int) 3 0 0 [.ref (h 0), .int p] (qS κ h) g ri (fun r u => u = tg g (cdL [(decide (n = 0), 1), (!plB n p, 2)]) ∧ (cdL [(decide (n = 0), 1), (!plB n p, 2)] = 0 → r = m 3 (tN p))) (fun _ _ => False) := by
  refine Ct.of (own := RX6) (by decide) rfl hl (by intro v hv; simp only [List.mem_cons, List.not_mem_nil, or_false] at hv; first | (rcases hv with rfl | rfl | rfl | rfl | rfl | rfl <;> rfl) | (rcases hv with rfl | rfl | rfl | rfl | rfl <;> rfl) | (rcases hv with rfl | rfl | rfl | rfl <;> rfl) | (rcases hv with rfl | rfl | rfl <;> rfl) | (rcases hv with rfl | rfl <;> rfl) | (subst hv; rfl) | exact hv.elim) (Nat.le_of_ble_eq_true rfl) (fun X hxl hxk C F N => ?_)
  subst hxl hxk
  show V X (qS (xK X) h) 0 [some (.ref (h 0)), some (.int p)] [] g 0 0
  obtain ⟨hm, hs, h96, hRR⟩ := id hQ
  obtain ⟨-, hn7, hMf⟩ := id hW
  refine v_aload_n C dX6_promise_0 rfl ?_
  refine v_iload_n C dX6_promise_1 rfl ?_
  refine v_callVi C (c_X6_noPlace hl (g := g) (m := m) (n := n) hQ) ym_X6_noPlace ml_X6_223 emb_id_qS rfl rfl rfl rfl rfl dX6_promise_2 (Nat.le_of_ble_eq_true rfl) (Nat.le_of_ble_eq_true rfl) (Nat.le_of_ble_eq_true rfl) (Nat.le_of_ble_eq_true rfl) (fun _ _ hu => hu.elim) (fun r u hu => ?_)
  obtain ⟨rfl, hu⟩ := hu
  subst u
  refine v_if_eqB C 12 dX6_promise_5 (by decide) (fun c5 => ?_) (fun c5 => ?_)
  · have hcd := nz_f c5
    obtain ⟨hd1, hd2⟩ := cd_0 (by decide) hcd
    obtain ⟨hd2, -⟩ := cd_0 (by decide) hd2
    have hn0 : ¬ n = 0 := of_decide_eq_false hd1
    have hp_p : plB n p = true := by simpa using hd2
    have hR := hRR hn0
    have hMI := hMf hn0
    obtain ⟨hI, hE, hLK, hn1, hSB, hBY, hPR⟩ := id hMI
    have hbd := band_ok hSB
    have hn := hI.1
    refine V.stt (g2 := tg g 0) (by rw [hcd]) ?_
    clear hcd hd2 hd1 c5
    obtain ⟨j, hj_j, e_j⟩ := pl_at hp_p
    subst e_j
    have t_j : tN (nI j) = j := tN_nI (by omega)
    refine v_aload_n C dX6_promise_12 rfl ?_
    refine v_getr C fl_X6_7 or_qS_0_3 dX6_promise_13 ?_
    refine v_sipush (v := nI 192) C dX6_promise_16 (by decide) ?_
    refine v_iload_n C dX6_promise_19 rfl ?_
    first | refine v_iaddN C dX6_promise_20 ?_ | refine v_iadd C dX6_promise_20 ?_
    refine v_ialdQ (x := m 3 j) C ar_qS_1 (by decide) _ (hR.r (by omega)) ?_ rfl dX6_promise_21 ?_
    · omega
    refine v_iret C F (by first | rfl | exact bI_nar _) dX6_promise_22 (Nat.le_of_ble_eq_true rfl) (Nat.le_of_ble_eq_true rfl) ?_
    first
    | (refine ⟨?_, fun _ => ?_⟩; simp [cdL, hn0, hp_p]; rw [t_j])
    | (refine ⟨?_, fun z => absurd z ?_⟩; (exact congrArg (tg g) (cd2 c5).symm); (exact fun z => absurd ((cd2 c5).symm.trans z) (nz_t c5)); done)
  · skip
    refine v_iconst (v := nI 0) C dX6_promise_8 (by decide) ?_
    refine v_goto C 22 dX6_promise_9 (by decide) ?_
    refine v_iret C F (by first | rfl | exact bI_nar _) dX6_promise_22 (Nat.le_of_ble_eq_true rfl) (Nat.le_of_ble_eq_true rfl) ?_
    first
    | (refine ⟨?_, fun _ => ?_⟩; simp [cdL, hn0, hp_p]; rw [t_j])
    | (refine ⟨?_, fun z => absurd z ?_⟩; (exact congrArg (tg g) (cd2 c5).symm); (exact fun z => absurd ((cd2 c5).symm.trans z) (nz_t c5)); done)
set_option maxHeartbeats 16000000 in
theorem c_X6_value {l : Launch} (hl : l.stackTraces = false) {κ : Kp} {h : Nat → Nat} {g : G} {m : Mg} {n c : Nat} {p : Int32} (hQ : QMm n m g) (hW : WM n c m) : Ct SS MM l κ yX6_value cX6_value 2 (some FieldType.int) 3 0 0 [.ref (h 0), .int p] (qS κ h) g ri (fun r u => u = tg g (cdL [(decide (n = 0), 1), (!plB n p, 2)]) ∧ (cdL [(decide (n = 0), 1), (!plB n p, 2)] = 0 → r = valM m (tN p))) (fun _ _ => False) := by
  refine Ct.of (own := RX6) (by decide) rfl hl (by intro v hv; simp only [List.mem_cons, List.not_mem_nil, or_false] at hv; first | (rcases hv with rfl | rfl | rfl | rfl | rfl | rfl <;> rfl) | (rcases hv with rfl | rfl | rfl | rfl | rfl <;> rfl) | (rcases hv with rfl | rfl | rfl | rfl <;> rfl) | (rcases hv with rfl | rfl | rfl <;> rfl) | (rcases hv with rfl | rfl <;> rfl) | (subst hv; rfl) | exact hv.elim) (Nat.le_of_ble_eq_true rfl) (fun X hxl hxk C F N => ?_)
  subst hxl hxk
  show V X (qS (xK X) h) 0 [some (.ref (h 0)), some (.int p)] [] g 0 0
  obtain ⟨hm, hs, h96, hRR⟩ := id hQ
  obtain ⟨-, hn7, hMf⟩ := id hW
  refine v_aload_n C dX6_value_0 rfl ?_
  refine v_iload_n C dX6_value_1 rfl ?_
  refine v_callVi C (c_X6_noPlace hl (g := g) (m := m) (n := n) hQ) ym_X6_noPlace ml_X6_223 emb_id_qS rfl rfl rfl rfl rfl dX6_value_2 (Nat.le_of_ble_eq_true rfl) (Nat.le_of_ble_eq_true rfl) (Nat.le_of_ble_eq_true rfl) (Nat.le_of_ble_eq_true rfl) (fun _ _ hu => hu.elim) (fun r u hu => ?_)
  obtain ⟨rfl, hu⟩ := hu
  subst u
  refine v_if_eqB C 12 dX6_value_5 (by decide) (fun c5 => ?_) (fun c5 => ?_)
  · have hcd := nz_f c5
    obtain ⟨hd1, hd2⟩ := cd_0 (by decide) hcd
    obtain ⟨hd2, -⟩ := cd_0 (by decide) hd2
    have hn0 : ¬ n = 0 := of_decide_eq_false hd1
    have hp_p : plB n p = true := by simpa using hd2
    have hR := hRR hn0
    have hMI := hMf hn0
    obtain ⟨hI, hE, hLK, hn1, hSB, hBY, hPR⟩ := id hMI
    have hbd := band_ok hSB
    have hn := hI.1
    refine V.stt (g2 := tg g 0) (by rw [hcd]) ?_
    clear hcd hd2 hd1 c5
    obtain ⟨j, hj_j, e_j⟩ := pl_at hp_p
    subst e_j
    have t_j : tN (nI j) = j := tN_nI (by omega)
    refine v_aload_n C dX6_value_12 rfl ?_
    refine v_iload_n C dX6_value_13 rfl ?_
    refine v_callVi C (c_X6_valueOf hl (g := tg g 0) (m := m) (n := n) hR hI hj_j) ym_X6_valueOf ml_X6_226 emb_id_qS rfl rfl rfl rfl rfl dX6_value_14 (Nat.le_of_ble_eq_true rfl) (Nat.le_of_ble_eq_true rfl) (Nat.le_of_ble_eq_true rfl) (Nat.le_of_ble_eq_true rfl) (fun _ _ hu => hu.elim) (fun r u hu => ?_)
    obtain ⟨rfl, hu⟩ := hu
    subst u
    refine V.stt (g2 := (tg g 0)) (rfl) ?_
    refine v_iret C F (by first | rfl | exact bI_nar _) dX6_value_17 (Nat.le_of_ble_eq_true rfl) (Nat.le_of_ble_eq_true rfl) ?_
    first
    | (refine ⟨?_, fun _ => ?_⟩; simp [cdL, hn0, hp_p]; rw [t_j])
    | (refine ⟨?_, fun z => absurd z ?_⟩; (exact congrArg (tg g) (cd2 c5).symm); (exact fun z => absurd ((cd2 c5).symm.trans z) (nz_t c5)); done)
  · skip
    refine v_iconst (v := nI 0) C dX6_value_8 (by decide) ?_
    refine v_goto C 17 dX6_value_9 (by decide) ?_
    refine v_iret C F (by first | rfl | exact bI_nar _) dX6_value_17 (Nat.le_of_ble_eq_true rfl) (Nat.le_of_ble_eq_true rfl) ?_
    first
    | (refine ⟨?_, fun _ => ?_⟩; simp [cdL, hn0, hp_p]; rw [t_j])
    | (refine ⟨?_, fun z => absurd z ?_⟩; (exact congrArg (tg g) (cd2 c5).symm); (exact fun z => absurd ((cd2 c5).symm.trans z) (nz_t c5)); done)
set_option maxHeartbeats 16000000 in
theorem c_X6_hops {l : Launch} (hl : l.stackTraces = false) {κ : Kp} {h : Nat → Nat} {g : G} {m : Mg} {n c : Nat} {p : Int32} (hQ : QMm n m g) (hW : WM n c m) : Ct SS MM l κ yX6_hops cX6_hops 2 (some FieldType.int) 3 0 0 [.ref (h 0), .int p] (qS κ h) g ri (fun r u => u = tg g (cdL [(decide (n = 0), 1), (!plB n p, 2)]) ∧ (cdL [(decide (n = 0), 1), (!plB n p, 2)] = 0 → r = nI (hopsM m (tN p)))) (fun _ _ => False) := by
  refine Ct.of (own := RX6) (by decide) rfl hl (by intro v hv; simp only [List.mem_cons, List.not_mem_nil, or_false] at hv; first | (rcases hv with rfl | rfl | rfl | rfl | rfl | rfl <;> rfl) | (rcases hv with rfl | rfl | rfl | rfl | rfl <;> rfl) | (rcases hv with rfl | rfl | rfl | rfl <;> rfl) | (rcases hv with rfl | rfl | rfl <;> rfl) | (rcases hv with rfl | rfl <;> rfl) | (subst hv; rfl) | exact hv.elim) (Nat.le_of_ble_eq_true rfl) (fun X hxl hxk C F N => ?_)
  subst hxl hxk
  show V X (qS (xK X) h) 0 [some (.ref (h 0)), some (.int p)] [] g 0 0
  obtain ⟨hm, hs, h96, hRR⟩ := id hQ
  obtain ⟨-, hn7, hMf⟩ := id hW
  refine v_aload_n C dX6_hops_0 rfl ?_
  refine v_iload_n C dX6_hops_1 rfl ?_
  refine v_callVi C (c_X6_noPlace hl (g := g) (m := m) (n := n) hQ) ym_X6_noPlace ml_X6_223 emb_id_qS rfl rfl rfl rfl rfl dX6_hops_2 (Nat.le_of_ble_eq_true rfl) (Nat.le_of_ble_eq_true rfl) (Nat.le_of_ble_eq_true rfl) (Nat.le_of_ble_eq_true rfl) (fun _ _ hu => hu.elim) (fun r u hu => ?_)
  obtain ⟨rfl, hu⟩ := hu
  subst u
  refine v_if_eqB C 12 dX6_hops_5 (by decide) (fun c5 => ?_) (fun c5 => ?_)
  · have hcd := nz_f c5
    obtain ⟨hd1, hd2⟩ := cd_0 (by decide) hcd
    obtain ⟨hd2, -⟩ := cd_0 (by decide) hd2
    have hn0 : ¬ n = 0 := of_decide_eq_false hd1
    have hp_p : plB n p = true := by simpa using hd2
    have hR := hRR hn0
    have hMI := hMf hn0
    obtain ⟨hI, hE, hLK, hn1, hSB, hBY, hPR⟩ := id hMI
    have hbd := band_ok hSB
    have hn := hI.1
    refine V.stt (g2 := tg g 0) (by rw [hcd]) ?_
    clear hcd hd2 hd1 c5
    obtain ⟨j, hj_j, e_j⟩ := pl_at hp_p
    subst e_j
    have t_j : tN (nI j) = j := tN_nI (by omega)
    refine v_aload_n C dX6_hops_12 rfl ?_
    refine v_iload_n C dX6_hops_13 rfl ?_
    refine v_callVi C (c_X6_hopsOf hl (g := tg g 0) (m := m) (n := n) hR hI hj_j) ym_X6_hopsOf ml_X6_229 emb_id_qS rfl rfl rfl rfl rfl dX6_hops_14 (Nat.le_of_ble_eq_true rfl) (Nat.le_of_ble_eq_true rfl) (Nat.le_of_ble_eq_true rfl) (Nat.le_of_ble_eq_true rfl) (fun _ _ hu => hu.elim) (fun r u hu => ?_)
    obtain ⟨rfl, hu⟩ := hu
    subst u
    refine V.stt (g2 := (tg g 0)) (rfl) ?_
    refine v_iret C F (by first | rfl | exact bI_nar _) dX6_hops_17 (Nat.le_of_ble_eq_true rfl) (Nat.le_of_ble_eq_true rfl) ?_
    first
    | (refine ⟨?_, fun _ => ?_⟩; simp [cdL, hn0, hp_p]; rw [t_j])
    | (refine ⟨?_, fun z => absurd z ?_⟩; (exact congrArg (tg g) (cd2 c5).symm); (exact fun z => absurd ((cd2 c5).symm.trans z) (nz_t c5)); done)
  · skip
    refine v_iconst (v := nI 0) C dX6_hops_8 (by decide) ?_
    refine v_goto C 17 dX6_hops_9 (by decide) ?_
    refine v_iret C F (by first | rfl | exact bI_nar _) dX6_hops_17 (Nat.le_of_ble_eq_true rfl) (Nat.le_of_ble_eq_true rfl) ?_
    first
    | (refine ⟨?_, fun _ => ?_⟩; simp [cdL, hn0, hp_p]; rw [t_j])
    | (refine ⟨?_, fun z => absurd z ?_⟩; (exact congrArg (tg g) (cd2 c5).symm); (exact fun z => absurd ((cd2 c5).symm.trans z) (nz_t c5)); done)
set_option maxHeartbeats 16000000 in
theorem c_X6_root {l : Launch} (hl : l.stackTraces = false) {κ : Kp} {h : Nat → Nat} {g : G} {m : Mg} {n c : Nat} {p : Int32} (hQ : QMm n m g) (hW : WM n c m) : Ct SS MM l κ yX6_root cX6_root 2 (some FieldType.int) 3 0 0 [.ref (h 0), .int p] (qS κ h) g ri (fun r u => u = tg g (cdL [(decide (n = 0), 1), (!plB n p, 2)]) ∧ (cdL [(decide (n = 0), 1), (!plB n p, 2)] = 0 → r = nI (rootM m (tN p)))) (fun _ _ => False) := by
  refine Ct.of (own := RX6) (by decide) rfl hl (by intro v hv; simp only [List.mem_cons, List.not_mem_nil, or_false] at hv; first | (rcases hv with rfl | rfl | rfl | rfl | rfl | rfl <;> rfl) | (rcases hv with rfl | rfl | rfl | rfl | rfl <;> rfl) | (rcases hv with rfl | rfl | rfl | rfl <;> rfl) | (rcases hv with rfl | rfl | rfl <;> rfl) | (rcases hv with rfl | rfl <;> rfl) | (subst hv; rfl) | exact hv.elim) (Nat.le_of_ble_eq_true rfl) (fun X hxl hxk C F N => ?_)
  subst hxl hxk
  show V X (qS (xK X) h) 0 [some (.ref (h 0)), some (.int p)] [] g 0 0
  obtain ⟨hm, hs, h96, hRR⟩ := id hQ
  obtain ⟨-, hn7, hMf⟩ := id hW
  refine v_aload_n C dX6_root_0 rfl ?_
  refine v_iload_n C dX6_root_1 rfl ?_
  refine v_callVi C (c_X6_noPlace hl (g := g) (m := m) (n := n) hQ) ym_X6_noPlace ml_X6_223 emb_id_qS rfl rfl rfl rfl rfl dX6_root_2 (Nat.le_of_ble_eq_true rfl) (Nat.le_of_ble_eq_true rfl) (Nat.le_of_ble_eq_true rfl) (Nat.le_of_ble_eq_true rfl) (fun _ _ hu => hu.elim) (fun r u hu => ?_)
  obtain ⟨rfl, hu⟩ := hu
  subst u
  refine v_if_eqB C 12 dX6_root_5 (by decide) (fun c5 => ?_) (fun c5 => ?_)
  · have hcd := nz_f c5
    obtain ⟨hd1, hd2⟩ := cd_0 (by decide) hcd
    obtain ⟨hd2, -⟩ := cd_0 (by decide) hd2
    have hn0 : ¬ n = 0 := of_decide_eq_false hd1
    have hp_p : plB n p = true := by simpa using hd2
    have hR := hRR hn0
    have hMI := hMf hn0
    obtain ⟨hI, hE, hLK, hn1, hSB, hBY, hPR⟩ := id hMI
    have hbd := band_ok hSB
    have hn := hI.1
    refine V.stt (g2 := tg g 0) (by rw [hcd]) ?_
    clear hcd hd2 hd1 c5
    obtain ⟨j, hj_j, e_j⟩ := pl_at hp_p
    subst e_j
    have t_j : tN (nI j) = j := tN_nI (by omega)
    refine v_aload_n C dX6_root_12 rfl ?_
    refine v_iload_n C dX6_root_13 rfl ?_
    refine v_callVi C (c_X6_rootOf hl (g := tg g 0) (m := m) (n := n) hR hI hj_j) ym_X6_rootOf ml_X6_220 emb_id_qS rfl rfl rfl rfl rfl dX6_root_14 (Nat.le_of_ble_eq_true rfl) (Nat.le_of_ble_eq_true rfl) (Nat.le_of_ble_eq_true rfl) (Nat.le_of_ble_eq_true rfl) (fun _ _ hu => hu.elim) (fun r u hu => ?_)
    obtain ⟨rfl, hu⟩ := hu
    subst u
    refine V.stt (g2 := (tg g 0)) (rfl) ?_
    refine v_iret C F (by first | rfl | exact bI_nar _) dX6_root_17 (Nat.le_of_ble_eq_true rfl) (Nat.le_of_ble_eq_true rfl) ?_
    first
    | (refine ⟨?_, fun _ => ?_⟩; simp [cdL, hn0, hp_p]; rw [t_j])
    | (refine ⟨?_, fun z => absurd z ?_⟩; (exact congrArg (tg g) (cd2 c5).symm); (exact fun z => absurd ((cd2 c5).symm.trans z) (nz_t c5)); done)
  · skip
    refine v_iconst (v := nI 0) C dX6_root_8 (by decide) ?_
    refine v_goto C 17 dX6_root_9 (by decide) ?_
    refine v_iret C F (by first | rfl | exact bI_nar _) dX6_root_17 (Nat.le_of_ble_eq_true rfl) (Nat.le_of_ble_eq_true rfl) ?_
    first
    | (refine ⟨?_, fun _ => ?_⟩; simp [cdL, hn0, hp_p]; rw [t_j])
    | (refine ⟨?_, fun z => absurd z ?_⟩; (exact congrArg (tg g) (cd2 c5).symm); (exact fun z => absurd ((cd2 c5).symm.trans z) (nz_t c5)); done)
set_option maxHeartbeats 16000000 in
theorem c_X6_isLocked {l : Launch} (hl : l.stackTraces = false) {κ : Kp} {h : Nat → Nat} {g : G} {m : Mg} {n c : Nat} {p : Int32} (hQ : QMm n m g) (hW : WM n c m) : Ct SS MM l κ yX6_isLocked cX6_isLocked 2 (some FieldType.boolean) 3 0 0 [.ref (h 0), .int p] (qS κ h) g ri (fun r u => u = tg g (cdL [(decide (n = 0), 1), (!plB n p, 2)]) ∧ (cdL [(decide (n = 0), 1), (!plB n p, 2)] = 0 → r = bI (lockB m (tN p)))) (fun _ _ => False) := by
  refine Ct.of (own := RX6) (by decide) rfl hl (by intro v hv; simp only [List.mem_cons, List.not_mem_nil, or_false] at hv; first | (rcases hv with rfl | rfl | rfl | rfl | rfl | rfl <;> rfl) | (rcases hv with rfl | rfl | rfl | rfl | rfl <;> rfl) | (rcases hv with rfl | rfl | rfl | rfl <;> rfl) | (rcases hv with rfl | rfl | rfl <;> rfl) | (rcases hv with rfl | rfl <;> rfl) | (subst hv; rfl) | exact hv.elim) (Nat.le_of_ble_eq_true rfl) (fun X hxl hxk C F N => ?_)
  subst hxl hxk
  show V X (qS (xK X) h) 0 [some (.ref (h 0)), some (.int p)] [] g 0 0
  obtain ⟨hm, hs, h96, hRR⟩ := id hQ
  obtain ⟨-, hn7, hMf⟩ := id hW
  refine v_aload_n C dX6_isLocked_0 rfl ?_
  refine v_iload_n C dX6_isLocked_1 rfl ?_
  refine v_callVi C (c_X6_noPlace hl (g := g) (m := m) (n := n) hQ) ym_X6_noPlace ml_X6_223 emb_id_qS rfl rfl rfl rfl rfl dX6_isLocked_2 (Nat.le_of_ble_eq_true rfl) (Nat.le_of_ble_eq_true rfl) (Nat.le_of_ble_eq_true rfl) (Nat.le_of_ble_eq_true rfl) (fun _ _ hu => hu.elim) (fun r u hu => ?_)
  obtain ⟨rfl, hu⟩ := hu
  subst u
  refine v_if_neB C 26 dX6_isLocked_5 (by decide) (fun c5 => ?_) (fun c5 => ?_)
  · skip
    refine v_iconst (v := nI 0) C dX6_isLocked_26 (by decide) ?_
    refine v_iret C F (by first | rfl | exact bI_nar _) dX6_isLocked_27 (Nat.le_of_ble_eq_true rfl) (Nat.le_of_ble_eq_true rfl) ?_
    first
    | (refine ⟨?_, fun _ => ?_⟩
       simp [cdL, hn0, hp_p]
       rw [t_j]
       first
       | (refine bI_t ?_; cases hq : lockB m j; · rw [hq] at c19; exact absurd c19 (by decide)
          · rfl)
       | (refine bI_f ?_; cases hq : lockB m j; · rfl
          · exact absurd (by rw [hq]; rfl) c19))
    | (refine ⟨?_, fun z => absurd z ?_⟩; (exact congrArg (tg g) (cd2 c5).symm); (exact fun z => absurd ((cd2 c5).symm.trans z) (nz_t c5)); done)
  · have hcd := nz_f c5
    obtain ⟨hd1, hd2⟩ := cd_0 (by decide) hcd
    obtain ⟨hd2, -⟩ := cd_0 (by decide) hd2
    have hn0 : ¬ n = 0 := of_decide_eq_false hd1
    have hp_p : plB n p = true := by simpa using hd2
    have hR := hRR hn0
    have hMI := hMf hn0
    obtain ⟨hI, hE, hLK, hn1, hSB, hBY, hPR⟩ := id hMI
    have hbd := band_ok hSB
    have hn := hI.1
    refine V.stt (g2 := tg g 0) (by rw [hcd]) ?_
    clear hcd hd2 hd1 c5
    obtain ⟨j, hj_j, e_j⟩ := pl_at hp_p
    subst e_j
    have t_j : tN (nI j) = j := tN_nI (by omega)
    refine v_aload_n C dX6_isLocked_8 rfl ?_
    refine v_getr C fl_X6_7 or_qS_0_3 dX6_isLocked_9 ?_
    refine v_sipush (v := nI 288) C dX6_isLocked_12 (by decide) ?_
    refine v_iload_n C dX6_isLocked_15 rfl ?_
    first | refine v_iaddN C dX6_isLocked_16 ?_ | refine v_iadd C dX6_isLocked_16 ?_
    refine v_ialdQ (x := bI (lockB m j)) C ar_qS_1 (by decide) _ ((hR.l (by omega)).trans (LK_at hLK (by omega))) ?_ rfl dX6_isLocked_17 ?_
    · omega
    refine v_iconst (v := nI 1) C dX6_isLocked_18 (by decide) ?_
    refine v_icmp_ne C 26 dX6_isLocked_19 (by decide) (fun c19 => ?_) (fun c19 => ?_)
    · refine v_iconst (v := nI 0) C dX6_isLocked_26 (by decide) ?_
      refine v_iret C F (by first | rfl | exact bI_nar _) dX6_isLocked_27 (Nat.le_of_ble_eq_true rfl) (Nat.le_of_ble_eq_true rfl) ?_
      first
      | (refine ⟨?_, fun _ => ?_⟩
         simp [cdL, hn0, hp_p]
         rw [t_j]
         first
         | (refine bI_t ?_; cases hq : lockB m j; · rw [hq] at c19; exact absurd c19 (by decide)
            · rfl)
         | (refine bI_f ?_; cases hq : lockB m j; · rfl
            · exact absurd (by rw [hq]; rfl) c19))
      | (refine ⟨?_, fun z => absurd z ?_⟩; (exact congrArg (tg g) (cd2 c5).symm); (exact fun z => absurd ((cd2 c5).symm.trans z) (nz_t c5)); done)
    · refine v_iconst (v := nI 1) C dX6_isLocked_22 (by decide) ?_
      refine v_goto C 27 dX6_isLocked_23 (by decide) ?_
      refine v_iret C F (by first | rfl | exact bI_nar _) dX6_isLocked_27 (Nat.le_of_ble_eq_true rfl) (Nat.le_of_ble_eq_true rfl) ?_
      first
      | (refine ⟨?_, fun _ => ?_⟩
         simp [cdL, hn0, hp_p]
         rw [t_j]
         first
         | (refine bI_t ?_; cases hq : lockB m j; · rw [hq] at c19; exact absurd c19 (by decide)
            · rfl)
         | (refine bI_f ?_; cases hq : lockB m j; · rfl
            · exact absurd (by rw [hq]; rfl) c19))
      | (refine ⟨?_, fun z => absurd z ?_⟩; (exact congrArg (tg g) (cd2 c5).symm); (exact fun z => absurd ((cd2 c5).symm.trans z) (nz_t c5)); done)
set_option maxHeartbeats 16000000 in
theorem c_X6_owed {l : Launch} (hl : l.stackTraces = false) {κ : Kp} {h : Nat → Nat} {g : G} {m : Mg} {n c : Nat} (hQ : QMm n m g) (hW : WM n c m) : Ct SS MM l κ yX6_owed cX6_owed 1 (some FieldType.int) 2 0 0 [.ref (h 0)] (qS κ h) g ri (fun r u => u = tg g (cdL [(decide (n = 0), 1)]) ∧ (cdL [(decide (n = 0), 1)] = 0 → r = nI (cntG (owb m) 0 n))) (fun _ _ => False) := by
  refine Ct.of (own := RX6) (by decide) rfl hl (by intro v hv; simp only [List.mem_cons, List.not_mem_nil, or_false] at hv; first | (rcases hv with rfl | rfl | rfl | rfl | rfl | rfl <;> rfl) | (rcases hv with rfl | rfl | rfl | rfl | rfl <;> rfl) | (rcases hv with rfl | rfl | rfl | rfl <;> rfl) | (rcases hv with rfl | rfl | rfl <;> rfl) | (rcases hv with rfl | rfl <;> rfl) | (subst hv; rfl) | exact hv.elim) (Nat.le_of_ble_eq_true rfl) (fun X hxl hxk C F N => ?_)
  subst hxl hxk
  show V X (qS (xK X) h) 0 [some (.ref (h 0))] [] g 0 0
  obtain ⟨hm, hs, h96, hRR⟩ := id hQ
  obtain ⟨-, hn7, hMf⟩ := id hW
  refine v_aload_n C dX6_owed_0 rfl ?_
  refine v_callVi C (c_X6_noMemory hl (n := n) hm) ym_X6_noMemory ml_X6_207 emb_id_qS rfl rfl rfl rfl rfl dX6_owed_1 (Nat.le_of_ble_eq_true rfl) (Nat.le_of_ble_eq_true rfl) (Nat.le_of_ble_eq_true rfl) (Nat.le_of_ble_eq_true rfl) (fun _ _ hu => hu.elim) (fun r u hu => ?_)
  obtain ⟨rfl, hu⟩ := hu
  subst u
  refine v_if_eqB C 11 dX6_owed_4 (by decide) (fun c4 => ?_) (fun c4 => ?_)
  · have hn0 : ¬ n = 0 := of_decide_eq_false c4
    have hR := hRR hn0
    have hMI := hMf hn0
    obtain ⟨hI, hE, hLK, hn1, hSB, hBY, hPR⟩ := id hMI
    have hbd := band_ok hSB
    have hn := hI.1
    refine V.stt (g2 := tg g 0) (by rw [c4]; rfl) ?_
    refine v_aload_n C dX6_owed_11 rfl ?_
    refine v_callVi C (c_X6_owedNow hl (g := tg g 0) (m := m) (n := n) hR hs h96) ym_X6_owedNow ml_X6_236 emb_id_qS rfl rfl rfl rfl rfl dX6_owed_12 (Nat.le_of_ble_eq_true rfl) (Nat.le_of_ble_eq_true rfl) (Nat.le_of_ble_eq_true rfl) (Nat.le_of_ble_eq_true rfl) (fun _ _ hu => hu.elim) (fun r u hu => ?_)
    obtain ⟨rfl, hu⟩ := hu
    subst u
    refine V.stt (g2 := (tg g 0)) (rfl) ?_
    refine v_iret C F (by first | rfl | exact bI_nar _) dX6_owed_15 (Nat.le_of_ble_eq_true rfl) (Nat.le_of_ble_eq_true rfl) ?_
    first
    | (refine ⟨?_, fun _ => ?_⟩; simp [cdL, hn0]; rfl)
    | (refine ⟨?_, fun z => absurd z ?_⟩; (simp [cdL, hz0]); (simp [cdL, hz0]); done)
  · have hz0 : n = 0 := of_decide_eq_true c4
    refine V.stt (g2 := tg g 1) (by rw [c4]; rfl) ?_
    refine v_iconst (v := nI 0) C dX6_owed_7 (by decide) ?_
    refine v_goto C 15 dX6_owed_8 (by decide) ?_
    refine v_iret C F (by first | rfl | exact bI_nar _) dX6_owed_15 (Nat.le_of_ble_eq_true rfl) (Nat.le_of_ble_eq_true rfl) ?_
    first
    | (refine ⟨?_, fun _ => ?_⟩; simp [cdL, hn0]; rfl)
    | (refine ⟨?_, fun z => absurd z ?_⟩; (simp [cdL, hz0]); (simp [cdL, hz0]); done)
set_option maxHeartbeats 16000000 in
theorem c_X6_debts {l : Launch} (hl : l.stackTraces = false) {κ : Kp} {h : Nat → Nat} {g : G} {m : Mg} {n c : Nat} (hQ : QMm n m g) (hW : WM n c m) : Ct SS MM l κ yX6_debts cX6_debts 1 (some FieldType.int) 4 0 0 [.ref (h 0)] (qS κ h) g ri (fun r u => u = tg g (cdL [(decide (n = 0), 1)]) ∧ (cdL [(decide (n = 0), 1)] = 0 → r = nI (cntG (startM m) 0 n))) (fun _ _ => False) := by
  refine Ct.of (own := RX6) (by decide) rfl hl (by intro v hv; simp only [List.mem_cons, List.not_mem_nil, or_false] at hv; first | (rcases hv with rfl | rfl | rfl | rfl | rfl | rfl <;> rfl) | (rcases hv with rfl | rfl | rfl | rfl | rfl <;> rfl) | (rcases hv with rfl | rfl | rfl | rfl <;> rfl) | (rcases hv with rfl | rfl | rfl <;> rfl) | (rcases hv with rfl | rfl <;> rfl) | (subst hv; rfl) | exact hv.elim) (Nat.le_of_ble_eq_true rfl) (fun X hxl hxk C F N => ?_)
  subst hxl hxk
  show V X (qS (xK X) h) 0 [some (.ref (h 0))] [] g 0 0
  obtain ⟨hm, hs, h96, hRR⟩ := id hQ
  obtain ⟨-, hn7, hMf⟩ := id hW
  refine v_aload_n C dX6_debts_0 rfl ?_
  refine v_callVi C (c_X6_noMemory hl (n := n) hm) ym_X6_noMemory ml_X6_207 emb_id_qS rfl rfl rfl rfl rfl dX6_debts_1 (Nat.le_of_ble_eq_true rfl) (Nat.le_of_ble_eq_true rfl) (Nat.le_of_ble_eq_true rfl) (Nat.le_of_ble_eq_true rfl) (fun _ _ hu => hu.elim) (fun r u hu => ?_)
  obtain ⟨rfl, hu⟩ := hu
  subst u
  refine v_if_eqB C 11 dX6_debts_4 (by decide) (fun c4 => ?_) (fun c4 => ?_)
  · have hn0 : ¬ n = 0 := of_decide_eq_false c4
    have hR := hRR hn0
    have hMI := hMf hn0
    obtain ⟨hI, hE, hLK, hn1, hSB, hBY, hPR⟩ := id hMI
    have hbd := band_ok hSB
    have hn := hI.1
    refine V.stt (g2 := tg g 0) (by rw [c4]; rfl) ?_
    refine v_aload_n C dX6_debts_11 rfl ?_
    refine v_callVi C (c_X6_debtsNow hl (g := tg g 0) (m := m) (n := n) hR hs h96) ym_X6_debtsNow ml_X6_245 emb_id_qS rfl rfl rfl rfl rfl dX6_debts_12 (Nat.le_of_ble_eq_true rfl) (Nat.le_of_ble_eq_true rfl) (Nat.le_of_ble_eq_true rfl) (Nat.le_of_ble_eq_true rfl) (fun _ _ hu => hu.elim) (fun r u hu => ?_)
    obtain ⟨rfl, hu⟩ := hu
    subst u
    refine V.stt (g2 := (tg g 0)) (rfl) ?_
    refine v_iret C F (by first | rfl | exact bI_nar _) dX6_debts_15 (Nat.le_of_ble_eq_true rfl) (Nat.le_of_ble_eq_true rfl) ?_
    first
    | (refine ⟨?_, fun _ => ?_⟩; simp [cdL, hn0]; rfl)
    | (refine ⟨?_, fun z => absurd z ?_⟩; (simp [cdL, hz0]); (simp [cdL, hz0]); done)
  · have hz0 : n = 0 := of_decide_eq_true c4
    refine V.stt (g2 := tg g 1) (by rw [c4]; rfl) ?_
    refine v_iconst (v := nI 0) C dX6_debts_7 (by decide) ?_
    refine v_goto C 15 dX6_debts_8 (by decide) ?_
    refine v_iret C F (by first | rfl | exact bI_nar _) dX6_debts_15 (Nat.le_of_ble_eq_true rfl) (Nat.le_of_ble_eq_true rfl) ?_
    first
    | (refine ⟨?_, fun _ => ?_⟩; simp [cdL, hn0]; rfl)
    | (refine ⟨?_, fun z => absurd z ?_⟩; (simp [cdL, hz0]); (simp [cdL, hz0]); done)
set_option maxHeartbeats 16000000 in
theorem c_X6_owedIn {l : Launch} (hl : l.stackTraces = false) {κ : Kp} {h : Nat → Nat} {g : G} {m : Mg} {n c : Nat} {a b : Int32} (hQ : QMm n m g) (hW : WM n c m) : Ct SS MM l κ yX6_owedIn cX6_owedIn 5 (some FieldType.int) 4 0 0 [.ref (h 0), .int a, .int b] (qS κ h) g ri (fun r u => u = tg g (cdL [(decide (n = 0), 1), (!plB n a, 2), (!plB n b, 2), (decide (b.toInt < a.toInt), 3)]) ∧ (cdL [(decide (n = 0), 1), (!plB n a, 2), (!plB n b, 2), (decide (b.toInt < a.toInt), 3)] = 0 → r = nI (cntG (owb m) (tN a) (tN b + 1 - tN a)))) (fun _ _ => False) := by
  refine Ct.of (own := RX6) (by decide) rfl hl (by intro v hv; simp only [List.mem_cons, List.not_mem_nil, or_false] at hv; first | (rcases hv with rfl | rfl | rfl | rfl | rfl | rfl <;> rfl) | (rcases hv with rfl | rfl | rfl | rfl | rfl <;> rfl) | (rcases hv with rfl | rfl | rfl | rfl <;> rfl) | (rcases hv with rfl | rfl | rfl <;> rfl) | (rcases hv with rfl | rfl <;> rfl) | (subst hv; rfl) | exact hv.elim) (Nat.le_of_ble_eq_true rfl) (fun X hxl hxk C F N => ?_)
  subst hxl hxk
  show V X (qS (xK X) h) 0 [some (.ref (h 0)), some (.int a), some (.int b), none, none] [] g 0 0
  obtain ⟨hm, hs, h96, hRR⟩ := id hQ
  obtain ⟨-, hn7, hMf⟩ := id hW
  refine v_aload_n C dX6_owedIn_0 rfl ?_
  refine v_iload_n C dX6_owedIn_1 rfl ?_
  refine v_iload_n C dX6_owedIn_2 rfl ?_
  refine v_callVi C (c_X6_noRange hl (g := g) (m := m) (n := n) hQ) ym_X6_noRange ml_X6_251 emb_id_qS rfl rfl rfl rfl rfl dX6_owedIn_3 (Nat.le_of_ble_eq_true rfl) (Nat.le_of_ble_eq_true rfl) (Nat.le_of_ble_eq_true rfl) (Nat.le_of_ble_eq_true rfl) (fun _ _ hu => hu.elim) (fun r u hu => ?_)
  obtain ⟨rfl, hu⟩ := hu
  subst u
  refine v_if_eqB C 11 dX6_owedIn_6 (by decide) (fun c6 => ?_) (fun c6 => ?_)
  · have hcd := nz_f c6
    obtain ⟨hd1, hd2⟩ := cd_0 (by decide) hcd
    obtain ⟨hd2, hd3⟩ := cd_0 (by decide) hd2
    obtain ⟨hd3, hd4⟩ := cd_0 (by decide) hd3
    obtain ⟨hd4, -⟩ := cd_0 (by decide) hd4
    have hn0 : ¬ n = 0 := of_decide_eq_false hd1
    have hp_a : plB n a = true := by simpa using hd2
    have hp_b : plB n b = true := by simpa using hd3
    have hlt : ¬ b.toInt < a.toInt := of_decide_eq_false hd4
    have hR := hRR hn0
    have hMI := hMf hn0
    obtain ⟨hI, hE, hLK, hn1, hSB, hBY, hPR⟩ := id hMI
    have hbd := band_ok hSB
    have hn := hI.1
    refine V.stt (g2 := tg g 0) (by rw [hcd]) ?_
    clear hcd hd4 hd3 hd2 hd1 c6
    obtain ⟨ja, hj_ja, e_ja⟩ := pl_at hp_a
    subst e_ja
    obtain ⟨jb, hj_jb, e_jb⟩ := pl_at hp_b
    subst e_jb
    have t_ja : tN (nI ja) = ja := tN_nI (by omega)
    have t_jb : tN (nI jb) = jb := tN_nI (by omega)
    have hle := hlt
    rw [nI_toInt (by omega), nI_toInt (by omega)] at hle
    have hle : ja ≤ jb := by omega
    refine v_iconst (v := nI 0) C dX6_owedIn_11 (by decide) ?_
    refine v_istore_n C (lo2 := [some _, some _, some _, some _, none]) dX6_owedIn_12 rfl (Nat.le_of_ble_eq_true rfl) rfl ?_
    refine v_iload_n C dX6_owedIn_13 rfl ?_
    refine v_istore C (lo2 := [some _, some _, some _, some _, some _]) dX6_owedIn_14 rfl (Nat.le_of_ble_eq_true rfl) rfl ?_
    have L16 : ∀ (t : Nat × Nat), (fun t => ja ≤ t.1 ∧ t.1 ≤ 200 ∧ t.2 ≤ t.1 ∧ t.2 + cntG (owb m) t.1 ((jb + 1) - t.1) = cntG (owb m) ja ((jb + 1) - ja)) t → (fun t : Nat × Nat => V X (qS (xK X) h) 16 [some (.ref (h 0)), some (.int (nI ja)), some (.int (nI jb)), some (.int (nI t.2)), some (.int (nI t.1))] [] (tg g 0) 0 0) t := by
      refine v_ind (fun t : Nat × Nat => (jb + 1) - t.1) ?_
      rintro ⟨i, c⟩ ih16 hI16
      try dsimp only at hI16 ⊢
      obtain ⟨i1, i2, i4, i3⟩ := hI16
      refine v_iload C dX6_owedIn_16 rfl ?_
      refine v_iload_n C dX6_owedIn_18 rfl ?_
      first | refine v_icmp_gtN C 40 dX6_owedIn_19 (by decide) (by omega) (by omega) (fun c19 => ?_) (fun c19 => ?_) | refine v_icmp_gt C 40 dX6_owedIn_19 (by decide) (fun c19 => ?_) (fun c19 => ?_)
      · refine v_iload_n C dX6_owedIn_40 rfl ?_
        refine v_iret C F (by first | rfl | exact bI_nar _) dX6_owedIn_41 (Nat.le_of_ble_eq_true rfl) (Nat.le_of_ble_eq_true rfl) ?_
        first
        | (rw [cntG_0 (by omega), Nat.add_zero] at i3
           refine ⟨?_, fun _ => ?_⟩
           · simp [cdL, hn0, hp_a, hp_b, hlt]
           · rw [t_ja, t_jb, ← i3])
        | (refine ⟨?_, fun z => absurd z ?_⟩; (exact congrArg (tg g) (cd4 c6).symm); (exact fun z => absurd ((cd4 c6).symm.trans z) (nz_t c6)); done)
      · refine v_iload_n C dX6_owedIn_22 rfl ?_
        refine v_aload_n C dX6_owedIn_23 rfl ?_
        refine v_iload C dX6_owedIn_24 rfl ?_
        refine v_callVi C (c_X6_owes hl (g := tg g 0) hR (by omega)) ym_X6_owes ml_X6_217 emb_id_qS rfl rfl rfl rfl rfl dX6_owedIn_26 (Nat.le_of_ble_eq_true rfl) (Nat.le_of_ble_eq_true rfl) (Nat.le_of_ble_eq_true rfl) (Nat.le_of_ble_eq_true rfl) (fun _ _ hu => hu.elim) (fun r u hu => ?_)
        obtain ⟨rfl, hu⟩ := hu
        subst u
        refine V.stt (g2 := (tg g 0)) (rfl) ?_
        refine v_callSi C (c_X6_flag hl (b := owb m i)) ys_X6_flag rfl ml_X6_232 (emb_n fix_qS) rfl rfl rfl dX6_owedIn_29 (Nat.le_of_ble_eq_true rfl) (Nat.le_of_ble_eq_true rfl) (Nat.le_of_ble_eq_true rfl) (Nat.le_of_ble_eq_true rfl) (fun _ _ hu => hu.elim) (fun r u hu => ?_)
        subst r
        first | refine v_iaddN C dX6_owedIn_32 ?_ | refine v_iadd C dX6_owedIn_32 ?_
        refine v_istore_n C (lo2 := [some _, some _, some _, some _, some _]) dX6_owedIn_33 rfl (Nat.le_of_ble_eq_true rfl) rfl ?_
        first | refine v_iinc1 C (lo2 := [some _, some _, some _, some _, some _]) dX6_owedIn_34 rfl rfl rfl ?_ | refine v_iinc C (lo2 := [some _, some _, some _, some _, some _]) dX6_owedIn_34 rfl rfl rfl rfl ?_
        refine v_goto C 16 dX6_owedIn_37 (by decide) ?_
        have hib : i < (jb + 1) := by omega
        rw [cntG_s hib] at i3
        have hfl : fl ((owb m) i) = (if (owb m) i = true then 1 else 0) := rfl
        have hf1 : fl ((owb m) i) ≤ 1 := by rw [hfl]; split <;> omega
        rw [← hfl] at i3
        exact ih16 (i + 1, c + fl ((owb m) i)) (by show (jb + 1) - (i + 1) < (jb + 1) - i; omega) ⟨by show ja ≤ i + 1; omega, by show i + 1 ≤ 200; omega, by show c + fl ((owb m) i) ≤ i + 1; omega, by show c + fl ((owb m) i) + cntG (owb m) (i + 1) ((jb + 1) - (i + 1)) = _; omega⟩
    exact L16 (ja, 0) ⟨Nat.le_refl _, by show ja ≤ 200; omega, by show 0 ≤ ja; omega, Nat.zero_add _⟩
  · skip
    refine v_iconst (v := nI 0) C dX6_owedIn_9 (by decide) ?_
    refine v_iret C F (by first | rfl | exact bI_nar _) dX6_owedIn_10 (Nat.le_of_ble_eq_true rfl) (Nat.le_of_ble_eq_true rfl) ?_
    first
    | (rw [cntG_0 (by omega), Nat.add_zero] at i3
       refine ⟨?_, fun _ => ?_⟩
       · simp [cdL, hn0, hp_a, hp_b, hlt]
       · rw [t_ja, t_jb, ← i3])
    | (refine ⟨?_, fun z => absurd z ?_⟩; (exact congrArg (tg g) (cd4 c6).symm); (exact fun z => absurd ((cd4 c6).symm.trans z) (nz_t c6)); done)
set_option maxHeartbeats 16000000 in
theorem c_X6_firstOwed {l : Launch} (hl : l.stackTraces = false) {κ : Kp} {h : Nat → Nat} {g : G} {m : Mg} {n c : Nat} {p : Int32} (hQ : QMm n m g) (hW : WM n c m) : Ct SS MM l κ yX6_firstOwed cX6_firstOwed 3 (some FieldType.int) 3 0 0 [.ref (h 0), .int p] (qS κ h) g ri (fun r u => u = tg g (cdL [(decide (n = 0), 1), (!plB n p, 2)]) ∧ (cdL [(decide (n = 0), 1), (!plB n p, 2)] = 0 → r = oN (fstG (owb m) (tN p) (n - tN p)))) (fun _ _ => False) := by
  refine Ct.of (own := RX6) (by decide) rfl hl (by intro v hv; simp only [List.mem_cons, List.not_mem_nil, or_false] at hv; first | (rcases hv with rfl | rfl | rfl | rfl | rfl | rfl <;> rfl) | (rcases hv with rfl | rfl | rfl | rfl | rfl <;> rfl) | (rcases hv with rfl | rfl | rfl | rfl <;> rfl) | (rcases hv with rfl | rfl | rfl <;> rfl) | (rcases hv with rfl | rfl <;> rfl) | (subst hv; rfl) | exact hv.elim) (Nat.le_of_ble_eq_true rfl) (fun X hxl hxk C F N => ?_)
  subst hxl hxk
  show V X (qS (xK X) h) 0 [some (.ref (h 0)), some (.int p), none] [] g 0 0
  obtain ⟨hm, hs, h96, hRR⟩ := id hQ
  obtain ⟨-, hn7, hMf⟩ := id hW
  refine v_aload_n C dX6_firstOwed_0 rfl ?_
  refine v_iload_n C dX6_firstOwed_1 rfl ?_
  refine v_callVi C (c_X6_noPlace hl (g := g) (m := m) (n := n) hQ) ym_X6_noPlace ml_X6_223 emb_id_qS rfl rfl rfl rfl rfl dX6_firstOwed_2 (Nat.le_of_ble_eq_true rfl) (Nat.le_of_ble_eq_true rfl) (Nat.le_of_ble_eq_true rfl) (Nat.le_of_ble_eq_true rfl) (fun _ _ hu => hu.elim) (fun r u hu => ?_)
  obtain ⟨rfl, hu⟩ := hu
  subst u
  refine v_if_eqB C 10 dX6_firstOwed_5 (by decide) (fun c5 => ?_) (fun c5 => ?_)
  · have hcd := nz_f c5
    obtain ⟨hd1, hd2⟩ := cd_0 (by decide) hcd
    obtain ⟨hd2, -⟩ := cd_0 (by decide) hd2
    have hn0 : ¬ n = 0 := of_decide_eq_false hd1
    have hp_p : plB n p = true := by simpa using hd2
    have hR := hRR hn0
    have hMI := hMf hn0
    obtain ⟨hI, hE, hLK, hn1, hSB, hBY, hPR⟩ := id hMI
    have hbd := band_ok hSB
    have hn := hI.1
    refine V.stt (g2 := tg g 0) (by rw [hcd]) ?_
    clear hcd hd2 hd1 c5
    obtain ⟨j, hj_j, e_j⟩ := pl_at hp_p
    subst e_j
    have t_j : tN (nI j) = j := tN_nI (by omega)
    refine v_iload_n C dX6_firstOwed_10 rfl ?_
    refine v_istore_n C (lo2 := [some _, some _, some _]) dX6_firstOwed_11 rfl (Nat.le_of_ble_eq_true rfl) rfl ?_
    have L12 : ∀ (t : Nat), (fun t => j ≤ t ∧ t ≤ n ∧ fstG (owb m) t (n - t) = fstG (owb m) j (n - j)) t → (fun t : Nat => V X (qS (xK X) h) 12 [some (.ref (h 0)), some (.int (nI j)), some (.int (nI t))] [] (tg g 0) 0 0) t := by
      refine v_ind (fun t : Nat => n - t) ?_
      rintro i ih12 hI12
      try dsimp only at hI12 ⊢
      obtain ⟨i1, i2, i3⟩ := hI12
      refine v_iload_n C dX6_firstOwed_12 rfl ?_
      refine v_aload_n C dX6_firstOwed_13 rfl ?_
      refine v_getiQ (x := nI n) C fl_X6_126 oi_qS_0_2 (hs) dX6_firstOwed_14 ?_
      first | refine v_icmp_geN C 34 dX6_firstOwed_17 (by decide) (by omega) (by omega) (fun c17 => ?_) (fun c17 => ?_) | refine v_icmp_ge C 34 dX6_firstOwed_17 (by decide) (fun c17 => ?_) (fun c17 => ?_)
      · refine v_iload_n C dX6_firstOwed_34 rfl ?_
        refine v_aload_n C dX6_firstOwed_35 rfl ?_
        refine v_getiQ (x := nI n) C fl_X6_126 oi_qS_0_2 (hs) dX6_firstOwed_36 ?_
        first | refine v_icmp_neN C 46 dX6_firstOwed_39 (by decide) (by omega) (by omega) (fun c39 => ?_) (fun c39 => ?_) | refine v_icmp_ne C 46 dX6_firstOwed_39 (by decide) (fun c39 => ?_) (fun c39 => ?_)
        · refine v_iload_n C dX6_firstOwed_46 rfl ?_
          refine v_iret C F (by first | rfl | exact bI_nar _) dX6_firstOwed_47 (Nat.le_of_ble_eq_true rfl) (Nat.le_of_ble_eq_true rfl) ?_
          first
          | (refine ⟨?_, fun _ => ?_⟩
             simp [cdL, hn0, hp_p]
             rw [t_j]
             first
             | (exfalso; omega)
             | (have hib : i < n := by omega
                have hf : (owb m) i = true := by
                  exact c25
                rw [fstG_s hib, hf, if_pos rfl] at i3
                rw [← i3]; rfl)
             | (rw [fstG_0 (by omega)] at i3
                rw [← i3]; rfl))
          | (refine ⟨?_, fun z => absurd z ?_⟩; (exact congrArg (tg g) (cd2 c5).symm); (exact fun z => absurd ((cd2 c5).symm.trans z) (nz_t c5)); done)
        · refine v_iconst (v := (-1)) C dX6_firstOwed_42 (by decide) ?_
          refine v_goto C 47 dX6_firstOwed_43 (by decide) ?_
          refine v_iret C F (by first | rfl | exact bI_nar _) dX6_firstOwed_47 (Nat.le_of_ble_eq_true rfl) (Nat.le_of_ble_eq_true rfl) ?_
          first
          | (refine ⟨?_, fun _ => ?_⟩
             simp [cdL, hn0, hp_p]
             rw [t_j]
             first
             | (exfalso; omega)
             | (have hib : i < n := by omega
                have hf : (owb m) i = true := by
                  exact c25
                rw [fstG_s hib, hf, if_pos rfl] at i3
                rw [← i3]; rfl)
             | (rw [fstG_0 (by omega)] at i3
                rw [← i3]; rfl))
          | (refine ⟨?_, fun z => absurd z ?_⟩; (exact congrArg (tg g) (cd2 c5).symm); (exact fun z => absurd ((cd2 c5).symm.trans z) (nz_t c5)); done)
      · refine v_aload_n C dX6_firstOwed_20 rfl ?_
        refine v_iload_n C dX6_firstOwed_21 rfl ?_
        refine v_callVi C (c_X6_owes hl (g := tg g 0) hR (by omega)) ym_X6_owes ml_X6_217 emb_id_qS rfl rfl rfl rfl rfl dX6_firstOwed_22 (Nat.le_of_ble_eq_true rfl) (Nat.le_of_ble_eq_true rfl) (Nat.le_of_ble_eq_true rfl) (Nat.le_of_ble_eq_true rfl) (fun _ _ hu => hu.elim) (fun r u hu => ?_)
        obtain ⟨rfl, hu⟩ := hu
        subst u
        refine V.stt (g2 := (tg g 0)) (rfl) ?_
        refine v_if_neB C 34 dX6_firstOwed_25 (by decide) (fun c25 => ?_) (fun c25 => ?_)
        · refine v_iload_n C dX6_firstOwed_34 rfl ?_
          refine v_aload_n C dX6_firstOwed_35 rfl ?_
          refine v_getiQ (x := nI n) C fl_X6_126 oi_qS_0_2 (hs) dX6_firstOwed_36 ?_
          first | refine v_icmp_neN C 46 dX6_firstOwed_39 (by decide) (by omega) (by omega) (fun c39 => ?_) (fun c39 => ?_) | refine v_icmp_ne C 46 dX6_firstOwed_39 (by decide) (fun c39 => ?_) (fun c39 => ?_)
          · refine v_iload_n C dX6_firstOwed_46 rfl ?_
            refine v_iret C F (by first | rfl | exact bI_nar _) dX6_firstOwed_47 (Nat.le_of_ble_eq_true rfl) (Nat.le_of_ble_eq_true rfl) ?_
            first
            | (refine ⟨?_, fun _ => ?_⟩
               simp [cdL, hn0, hp_p]
               rw [t_j]
               first
               | (exfalso; omega)
               | (have hib : i < n := by omega
                  have hf : (owb m) i = true := by
                    exact c25
                  rw [fstG_s hib, hf, if_pos rfl] at i3
                  rw [← i3]; rfl)
               | (rw [fstG_0 (by omega)] at i3
                  rw [← i3]; rfl))
            | (refine ⟨?_, fun z => absurd z ?_⟩; (exact congrArg (tg g) (cd2 c5).symm); (exact fun z => absurd ((cd2 c5).symm.trans z) (nz_t c5)); done)
          · refine v_iconst (v := (-1)) C dX6_firstOwed_42 (by decide) ?_
            refine v_goto C 47 dX6_firstOwed_43 (by decide) ?_
            refine v_iret C F (by first | rfl | exact bI_nar _) dX6_firstOwed_47 (Nat.le_of_ble_eq_true rfl) (Nat.le_of_ble_eq_true rfl) ?_
            first
            | (refine ⟨?_, fun _ => ?_⟩
               simp [cdL, hn0, hp_p]
               rw [t_j]
               first
               | (exfalso; omega)
               | (have hib : i < n := by omega
                  have hf : (owb m) i = true := by
                    exact c25
                  rw [fstG_s hib, hf, if_pos rfl] at i3
                  rw [← i3]; rfl)
               | (rw [fstG_0 (by omega)] at i3
                  rw [← i3]; rfl))
            | (refine ⟨?_, fun z => absurd z ?_⟩; (exact congrArg (tg g) (cd2 c5).symm); (exact fun z => absurd ((cd2 c5).symm.trans z) (nz_t c5)); done)
        · first | refine v_iinc1 C (lo2 := [some _, some _, some _]) dX6_firstOwed_28 rfl rfl rfl ?_ | refine v_iinc C (lo2 := [some _, some _, some _]) dX6_firstOwed_28 rfl rfl rfl rfl ?_
          refine v_goto C 12 dX6_firstOwed_31 (by decide) ?_
          have hib : i < n := by omega
          have hf : (owb m) i = false := by
            exact c25
          rw [fstG_s hib, hf, if_neg Bool.false_ne_true] at i3
          exact ih12 (i + 1) (by show n - (i + 1) < n - i; omega) ⟨by omega, by omega, i3⟩
    exact L12 (j) ⟨Nat.le_refl _, by omega, rfl⟩
  · skip
    refine v_iconst (v := nI 0) C dX6_firstOwed_8 (by decide) ?_
    refine v_iret C F (by first | rfl | exact bI_nar _) dX6_firstOwed_9 (Nat.le_of_ble_eq_true rfl) (Nat.le_of_ble_eq_true rfl) ?_
    first
    | (refine ⟨?_, fun _ => ?_⟩
       simp [cdL, hn0, hp_p]
       rw [t_j]
       first
       | (exfalso; omega)
       | (have hib : i < n := by omega
          have hf : (owb m) i = true := by
            exact c25
          rw [fstG_s hib, hf, if_pos rfl] at i3
          rw [← i3]; rfl)
       | (rw [fstG_0 (by omega)] at i3
          rw [← i3]; rfl))
    | (refine ⟨?_, fun z => absurd z ?_⟩; (exact congrArg (tg g) (cd2 c5).symm); (exact fun z => absurd ((cd2 c5).symm.trans z) (nz_t c5)); done)
set_option maxHeartbeats 16000000 in
theorem c_X6_deepest {l : Launch} (hl : l.stackTraces = false) {κ : Kp} {h : Nat → Nat} {g : G} {m : Mg} {n c : Nat} (hQ : QMm n m g) (hW : WM n c m) : Ct SS MM l κ yX6_deepest cX6_deepest 1 (some FieldType.int) 3 0 0 [.ref (h 0)] (qS κ h) g ri (fun r u => u = tg g (cdL [(decide (n = 0), 1)]) ∧ (cdL [(decide (n = 0), 1)] = 0 → r = oN (nextM m n (nI 2)))) (fun _ _ => False) := by
  refine Ct.of (own := RX6) (by decide) rfl hl (by intro v hv; simp only [List.mem_cons, List.not_mem_nil, or_false] at hv; first | (rcases hv with rfl | rfl | rfl | rfl | rfl | rfl <;> rfl) | (rcases hv with rfl | rfl | rfl | rfl | rfl <;> rfl) | (rcases hv with rfl | rfl | rfl | rfl <;> rfl) | (rcases hv with rfl | rfl | rfl <;> rfl) | (rcases hv with rfl | rfl <;> rfl) | (subst hv; rfl) | exact hv.elim) (Nat.le_of_ble_eq_true rfl) (fun X hxl hxk C F N => ?_)
  subst hxl hxk
  show V X (qS (xK X) h) 0 [some (.ref (h 0))] [] g 0 0
  obtain ⟨hm, hs, h96, hRR⟩ := id hQ
  obtain ⟨-, hn7, hMf⟩ := id hW
  refine v_aload_n C dX6_deepest_0 rfl ?_
  refine v_callVi C (c_X6_noMemory hl (n := n) hm) ym_X6_noMemory ml_X6_207 emb_id_qS rfl rfl rfl rfl rfl dX6_deepest_1 (Nat.le_of_ble_eq_true rfl) (Nat.le_of_ble_eq_true rfl) (Nat.le_of_ble_eq_true rfl) (Nat.le_of_ble_eq_true rfl) (fun _ _ hu => hu.elim) (fun r u hu => ?_)
  obtain ⟨rfl, hu⟩ := hu
  subst u
  refine v_if_eqB C 11 dX6_deepest_4 (by decide) (fun c4 => ?_) (fun c4 => ?_)
  · have hn0 : ¬ n = 0 := of_decide_eq_false c4
    have hR := hRR hn0
    have hMI := hMf hn0
    obtain ⟨hI, hE, hLK, hn1, hSB, hBY, hPR⟩ := id hMI
    have hbd := band_ok hSB
    have hn := hI.1
    refine V.stt (g2 := tg g 0) (by rw [c4]; rfl) ?_
    refine v_aload_n C dX6_deepest_11 rfl ?_
    refine v_callVi C (c_X6_deepestNow hl (g := tg g 0) (m := m) (n := n) hR hs hI) ym_X6_deepestNow ml_X6_254 emb_id_qS rfl rfl rfl rfl rfl dX6_deepest_12 (Nat.le_of_ble_eq_true rfl) (Nat.le_of_ble_eq_true rfl) (Nat.le_of_ble_eq_true rfl) (Nat.le_of_ble_eq_true rfl) (fun _ _ hu => hu.elim) (fun r u hu => ?_)
    obtain ⟨rfl, hu⟩ := hu
    subst u
    refine V.stt (g2 := (tg g 0)) (rfl) ?_
    refine v_iret C F (by first | rfl | exact bI_nar _) dX6_deepest_15 (Nat.le_of_ble_eq_true rfl) (Nat.le_of_ble_eq_true rfl) ?_
    first
    | (refine ⟨?_, fun _ => ?_⟩; simp [cdL, hn0]; rfl)
    | (refine ⟨?_, fun z => absurd z ?_⟩; (simp [cdL, hz0]); (simp [cdL, hz0]); done)
  · have hz0 : n = 0 := of_decide_eq_true c4
    refine V.stt (g2 := tg g 1) (by rw [c4]; rfl) ?_
    refine v_iconst (v := nI 0) C dX6_deepest_7 (by decide) ?_
    refine v_goto C 15 dX6_deepest_8 (by decide) ?_
    refine v_iret C F (by first | rfl | exact bI_nar _) dX6_deepest_15 (Nat.le_of_ble_eq_true rfl) (Nat.le_of_ble_eq_true rfl) ?_
    first
    | (refine ⟨?_, fun _ => ?_⟩; simp [cdL, hn0]; rfl)
    | (refine ⟨?_, fun z => absurd z ?_⟩; (simp [cdL, hz0]); (simp [cdL, hz0]); done)
set_option maxHeartbeats 16000000 in
theorem c_X6_next {l : Launch} (hl : l.stackTraces = false) {κ : Kp} {h : Nat → Nat} {g : G} {m : Mg} {n c : Nat} (hQ : QMm n m g) (hW : WM n c m) : Ct SS MM l κ yX6_next cX6_next 1 (some FieldType.int) 4 0 0 [.ref (h 0)] (qS κ h) g ri (fun r u => u = tg g (cdL [(decide (n = 0), 1)]) ∧ (cdL [(decide (n = 0), 1)] = 0 → r = oN (nextM m n (m 5 2)))) (fun _ _ => False) := by
  refine Ct.of (own := RX6) (by decide) rfl hl (by intro v hv; simp only [List.mem_cons, List.not_mem_nil, or_false] at hv; first | (rcases hv with rfl | rfl | rfl | rfl | rfl | rfl <;> rfl) | (rcases hv with rfl | rfl | rfl | rfl | rfl <;> rfl) | (rcases hv with rfl | rfl | rfl | rfl <;> rfl) | (rcases hv with rfl | rfl | rfl <;> rfl) | (rcases hv with rfl | rfl <;> rfl) | (subst hv; rfl) | exact hv.elim) (Nat.le_of_ble_eq_true rfl) (fun X hxl hxk C F N => ?_)
  subst hxl hxk
  show V X (qS (xK X) h) 0 [some (.ref (h 0))] [] g 0 0
  obtain ⟨hm, hs, h96, hRR⟩ := id hQ
  obtain ⟨-, hn7, hMf⟩ := id hW
  refine v_aload_n C dX6_next_0 rfl ?_
  refine v_callVi C (c_X6_noMemory hl (n := n) hm) ym_X6_noMemory ml_X6_207 emb_id_qS rfl rfl rfl rfl rfl dX6_next_1 (Nat.le_of_ble_eq_true rfl) (Nat.le_of_ble_eq_true rfl) (Nat.le_of_ble_eq_true rfl) (Nat.le_of_ble_eq_true rfl) (fun _ _ hu => hu.elim) (fun r u hu => ?_)
  obtain ⟨rfl, hu⟩ := hu
  subst u
  refine v_if_eqB C 11 dX6_next_4 (by decide) (fun c4 => ?_) (fun c4 => ?_)
  · have hn0 : ¬ n = 0 := of_decide_eq_false c4
    have hR := hRR hn0
    have hMI := hMf hn0
    obtain ⟨hI, hE, hLK, hn1, hSB, hBY, hPR⟩ := id hMI
    have hbd := band_ok hSB
    have hn := hI.1
    refine V.stt (g2 := tg g 0) (by rw [c4]; rfl) ?_
    refine v_aload_n C dX6_next_11 rfl ?_
    refine v_callVi C (c_X6_nextNow hl (g := tg g 0) (m := m) (n := n) hR hs hI) ym_X6_nextNow ml_X6_260 emb_id_qS rfl rfl rfl rfl rfl dX6_next_12 (Nat.le_of_ble_eq_true rfl) (Nat.le_of_ble_eq_true rfl) (Nat.le_of_ble_eq_true rfl) (Nat.le_of_ble_eq_true rfl) (fun _ _ hu => hu.elim) (fun r u hu => ?_)
    obtain ⟨rfl, hu⟩ := hu
    subst u
    refine V.stt (g2 := (tg g 0)) (rfl) ?_
    refine v_iret C F (by first | rfl | exact bI_nar _) dX6_next_15 (Nat.le_of_ble_eq_true rfl) (Nat.le_of_ble_eq_true rfl) ?_
    first
    | (refine ⟨?_, fun _ => ?_⟩; simp [cdL, hn0]; rfl)
    | (refine ⟨?_, fun z => absurd z ?_⟩; (simp [cdL, hz0]); (simp [cdL, hz0]); done)
  · have hz0 : n = 0 := of_decide_eq_true c4
    refine V.stt (g2 := tg g 1) (by rw [c4]; rfl) ?_
    refine v_iconst (v := nI 0) C dX6_next_7 (by decide) ?_
    refine v_goto C 15 dX6_next_8 (by decide) ?_
    refine v_iret C F (by first | rfl | exact bI_nar _) dX6_next_15 (Nat.le_of_ble_eq_true rfl) (Nat.le_of_ble_eq_true rfl) ?_
    first
    | (refine ⟨?_, fun _ => ?_⟩; simp [cdL, hn0]; rfl)
    | (refine ⟨?_, fun z => absurd z ?_⟩; (simp [cdL, hz0]); (simp [cdL, hz0]); done)
set_option maxHeartbeats 16000000 in
theorem c_X6_most {l : Launch} (hl : l.stackTraces = false) {κ : Kp} {h : Nat → Nat} {g : G} {m : Mg} {n c : Nat} (hQ : QMm n m g) (hW : WM n c m) : Ct SS MM l κ yX6_most cX6_most 2 (some FieldType.int) 3 0 0 [.ref (h 0)] (qS κ h) g ri (fun r u => u = tg g (cdL [(decide (n = 0), 1)]) ∧ (cdL [(decide (n = 0), 1)] = 0 → r = oV (nextM m n (nI 2)) (nI 0) (fun q => nI (hopsM m q)))) (fun _ _ => False) := by
  refine Ct.of (own := RX6) (by decide) rfl hl (by intro v hv; simp only [List.mem_cons, List.not_mem_nil, or_false] at hv; first | (rcases hv with rfl | rfl | rfl | rfl | rfl | rfl <;> rfl) | (rcases hv with rfl | rfl | rfl | rfl | rfl <;> rfl) | (rcases hv with rfl | rfl | rfl | rfl <;> rfl) | (rcases hv with rfl | rfl | rfl <;> rfl) | (rcases hv with rfl | rfl <;> rfl) | (subst hv; rfl) | exact hv.elim) (Nat.le_of_ble_eq_true rfl) (fun X hxl hxk C F N => ?_)
  subst hxl hxk
  show V X (qS (xK X) h) 0 [some (.ref (h 0)), none] [] g 0 0
  obtain ⟨hm, hs, h96, hRR⟩ := id hQ
  obtain ⟨-, hn7, hMf⟩ := id hW
  refine v_aload_n C dX6_most_0 rfl ?_
  refine v_callVi C (c_X6_noMemory hl (n := n) hm) ym_X6_noMemory ml_X6_207 emb_id_qS rfl rfl rfl rfl rfl dX6_most_1 (Nat.le_of_ble_eq_true rfl) (Nat.le_of_ble_eq_true rfl) (Nat.le_of_ble_eq_true rfl) (Nat.le_of_ble_eq_true rfl) (fun _ _ hu => hu.elim) (fun r u hu => ?_)
  obtain ⟨rfl, hu⟩ := hu
  subst u
  refine v_if_eqB C 9 dX6_most_4 (by decide) (fun c4 => ?_) (fun c4 => ?_)
  · have hn0 : ¬ n = 0 := of_decide_eq_false c4
    have hR := hRR hn0
    have hMI := hMf hn0
    obtain ⟨hI, hE, hLK, hn1, hSB, hBY, hPR⟩ := id hMI
    have hbd := band_ok hSB
    have hn := hI.1
    refine V.stt (g2 := tg g 0) (by rw [c4]; rfl) ?_
    refine v_aload_n C dX6_most_9 rfl ?_
    refine v_callVi C (c_X6_deepestNow hl (g := tg g 0) (m := m) (n := n) hR hs hI) ym_X6_deepestNow ml_X6_254 emb_id_qS rfl rfl rfl rfl rfl dX6_most_10 (Nat.le_of_ble_eq_true rfl) (Nat.le_of_ble_eq_true rfl) (Nat.le_of_ble_eq_true rfl) (Nat.le_of_ble_eq_true rfl) (fun _ _ hu => hu.elim) (fun r u hu => ?_)
    obtain ⟨rfl, hu⟩ := hu
    subst u
    refine V.stt (g2 := (tg g 0)) (rfl) ?_
    refine v_istore_n C (lo2 := [some _, some _]) dX6_most_13 rfl (Nat.le_of_ble_eq_true rfl) rfl ?_
    refine v_iload_n C dX6_most_14 rfl ?_
    refine v_iconst (v := (-1)) C dX6_most_15 (by decide) ?_
    refine v_icmp_ne C 23 dX6_most_16 (by decide) (fun c16 => ?_) (fun c16 => ?_)
    · obtain ⟨q, hq⟩ := oN_some c16
      have hqb := (next_inv n).1 q hq
      have eo : oN (nextM m n (nI 2)) = nI q := by rw [hq]; rfl
      rw [eo]
      refine v_aload_n C dX6_most_23 rfl ?_
      refine v_iload_n C dX6_most_24 rfl ?_
      refine v_callVi C (c_X6_hopsOf hl (g := tg g 0) (m := m) (n := n) hR hI hqb.1) ym_X6_hopsOf ml_X6_229 emb_id_qS rfl rfl rfl rfl rfl dX6_most_25 (Nat.le_of_ble_eq_true rfl) (Nat.le_of_ble_eq_true rfl) (Nat.le_of_ble_eq_true rfl) (Nat.le_of_ble_eq_true rfl) (fun _ _ hu => hu.elim) (fun r u hu => ?_)
      obtain ⟨rfl, hu⟩ := hu
      subst u
      refine V.stt (g2 := (tg g 0)) (rfl) ?_
      refine v_iret C F (by first | rfl | exact bI_nar _) dX6_most_28 (Nat.le_of_ble_eq_true rfl) (Nat.le_of_ble_eq_true rfl) ?_
      first
      | (refine ⟨?_, fun _ => ?_⟩; simp [cdL, hn0]; rw [hq]; rfl)
      | (refine ⟨?_, fun z => absurd z ?_⟩; (simp [cdL, hz0]); (simp [cdL, hz0]); done)
    · have hq : nextM m n (nI 2) = none := oN_none c16 (fun q hq => by have := ((next_inv n).1 q hq).1; omega)
      refine v_iconst (v := nI 0) C dX6_most_19 (by decide) ?_
      refine v_goto C 28 dX6_most_20 (by decide) ?_
      refine v_iret C F (by first | rfl | exact bI_nar _) dX6_most_28 (Nat.le_of_ble_eq_true rfl) (Nat.le_of_ble_eq_true rfl) ?_
      first
      | (refine ⟨?_, fun _ => ?_⟩; simp [cdL, hn0]; rw [hq]; rfl)
      | (refine ⟨?_, fun z => absurd z ?_⟩; (simp [cdL, hz0]); (simp [cdL, hz0]); done)
  · have hz0 : n = 0 := of_decide_eq_true c4
    refine V.stt (g2 := tg g 1) (by rw [c4]; rfl) ?_
    refine v_iconst (v := nI 0) C dX6_most_7 (by decide) ?_
    refine v_iret C F (by first | rfl | exact bI_nar _) dX6_most_8 (Nat.le_of_ble_eq_true rfl) (Nat.le_of_ble_eq_true rfl) ?_
    first
    | (refine ⟨?_, fun _ => ?_⟩; simp [cdL, hn0]; rw [hq]; rfl)
    | (refine ⟨?_, fun z => absurd z ?_⟩; (simp [cdL, hz0]); (simp [cdL, hz0]); done)
theorem old_step {m : Mg} {n c i : Nat} {b : Option Nat} (hP : PRo n c m) (hi : i < n) (hb : ∀ q, b = some q → q < n ∧ owb m q = true) (hc : c < 2 ^ 31) : oV (nstep m (nI 0) i b) (-1) (m 3) = if owb m i = true ∧ (oV b (-1) (m 3) = -1 ∨ (m 3 i).toInt < (oV b (-1) (m 3)).toInt) then m 3 i else oV b (-1) (m 3) := by
  have r0 : ∀ j, rkM m (nI 0) j = (m 3 j).toInt := fun j => if_pos rfl
  unfold nstep
  cases ho : owb m i with
  | false => rw [if_neg Bool.false_ne_true, if_neg (fun z => Bool.false_ne_true z.1)]
  | true =>
    rw [if_pos rfl]
    cases b with
    | none => rw [if_pos ⟨rfl, Or.inl rfl⟩]; rfl
    | some q =>
      obtain ⟨h1, h2⟩ := hb q rfl
      obtain ⟨v, hv, ev⟩ := hP.2 q h1 h2
      have hne : ¬ oV (some q) (-1) (m 3) = -1 := by
        show ¬ m 3 q = -1
        rw [ev]
        exact nI_nm1 (by omega)
      dsimp only
      rw [r0, r0]
      by_cases z : (m 3 i).toInt < (m 3 q).toInt
      · rw [if_pos z, if_pos ⟨rfl, Or.inr z⟩]; rfl
      · rw [if_neg z, if_neg (fun w => w.2.elim hne z)]
set_option maxHeartbeats 16000000 in
theorem c_X6_oldest {l : Launch} (hl : l.stackTraces = false) {κ : Kp} {h : Nat → Nat} {g : G} {m : Mg} {n c : Nat} (hQ : QMm n m g) (hW : WM n c m) (hcb : c < 2 ^ 31) : Ct SS MM l κ yX6_oldest cX6_oldest 3 (some FieldType.int) 2 0 0 [.ref (h 0)] (qS κ h) g ri (fun r u => u = tg g (cdL [(decide (n = 0), 1)]) ∧ (cdL [(decide (n = 0), 1)] = 0 → r = oV (nextM m n (nI 0)) (-1) (fun q => m 3 q))) (fun _ _ => False) := by
  refine Ct.of (own := RX6) (by decide) rfl hl (by intro v hv; simp only [List.mem_cons, List.not_mem_nil, or_false] at hv; first | (rcases hv with rfl | rfl | rfl | rfl | rfl | rfl <;> rfl) | (rcases hv with rfl | rfl | rfl | rfl | rfl <;> rfl) | (rcases hv with rfl | rfl | rfl | rfl <;> rfl) | (rcases hv with rfl | rfl | rfl <;> rfl) | (rcases hv with rfl | rfl <;> rfl) | (subst hv; rfl) | exact hv.elim) (Nat.le_of_ble_eq_true rfl) (fun X hxl hxk C F N => ?_)
  subst hxl hxk
  show V X (qS (xK X) h) 0 [some (.ref (h 0)), none, none] [] g 0 0
  obtain ⟨hm, hs, h96, hRR⟩ := id hQ
  obtain ⟨-, hn7, hMf⟩ := id hW
  have hc31 : c < 2 ^ 31 := hcb
  refine v_aload_n C dX6_oldest_0 rfl ?_
  refine v_callVi C (c_X6_noMemory hl (n := n) hm) ym_X6_noMemory ml_X6_207 emb_id_qS rfl rfl rfl rfl rfl dX6_oldest_1 (Nat.le_of_ble_eq_true rfl) (Nat.le_of_ble_eq_true rfl) (Nat.le_of_ble_eq_true rfl) (Nat.le_of_ble_eq_true rfl) (fun _ _ hu => hu.elim) (fun r u hu => ?_)
  obtain ⟨rfl, hu⟩ := hu
  subst u
  refine v_if_eqB C 9 dX6_oldest_4 (by decide) (fun c4 => ?_) (fun c4 => ?_)
  · have hn0 : ¬ n = 0 := of_decide_eq_false c4
    have hR := hRR hn0
    have hMI := hMf hn0
    obtain ⟨hI, hE, hLK, hn1, hSB, hBY, hPR⟩ := id hMI
    have hbd := band_ok hSB
    have hn := hI.1
    refine V.stt (g2 := tg g 0) (by rw [c4]; rfl) ?_
    refine v_iconst (v := (-1)) C dX6_oldest_9 (by decide) ?_
    refine v_istore_n C (lo2 := [some _, some _, none]) dX6_oldest_10 rfl (Nat.le_of_ble_eq_true rfl) rfl ?_
    refine v_iconst (v := nI 0) C dX6_oldest_11 (by decide) ?_
    refine v_istore_n C (lo2 := [some _, some _, some _]) dX6_oldest_12 rfl (Nat.le_of_ble_eq_true rfl) rfl ?_
    have L13 : ∀ (t : Nat), (fun t => t ≤ n) t → (fun t : Nat => V X (qS (xK X) h) 13 [some (.ref (h 0)), some (.int (oV (nextM m t (nI 0)) (-1) (m 3))), some (.int (nI t))] [] (tg g 0) 0 0) t := by
      refine v_ind (fun t : Nat => n - t) ?_
      rintro i ih13 hI13
      try dsimp only at hI13 ⊢
      have hi4 : i ≤ n := hI13
      refine v_iload_n C dX6_oldest_13 rfl ?_
      refine v_aload_n C dX6_oldest_14 rfl ?_
      refine v_getiQ (x := nI n) C fl_X6_126 oi_qS_0_2 (hs) dX6_oldest_15 ?_
      first | refine v_icmp_geN C 69 dX6_oldest_18 (by decide) (by omega) (by omega) (fun c18 => ?_) (fun c18 => ?_) | refine v_icmp_ge C 69 dX6_oldest_18 (by decide) (fun c18 => ?_) (fun c18 => ?_)
      · refine v_iload_n C dX6_oldest_69 rfl ?_
        refine v_iret C F (by first | rfl | exact bI_nar _) dX6_oldest_70 (Nat.le_of_ble_eq_true rfl) (Nat.le_of_ble_eq_true rfl) ?_
        first
        | (refine ⟨?_, fun _ => ?_⟩
           · simp [cdL, hn0]
           · rw [show i = n by omega])
        | (refine ⟨?_, fun z => absurd z ?_⟩; (simp [cdL, hz0]); (simp [cdL, hz0]); done)
      · refine v_aload_n C dX6_oldest_21 rfl ?_
        refine v_iload_n C dX6_oldest_22 rfl ?_
        refine v_callVi C (c_X6_owes hl (g := tg g 0) hR (by omega)) ym_X6_owes ml_X6_217 emb_id_qS rfl rfl rfl rfl rfl dX6_oldest_23 (Nat.le_of_ble_eq_true rfl) (Nat.le_of_ble_eq_true rfl) (Nat.le_of_ble_eq_true rfl) (Nat.le_of_ble_eq_true rfl) (fun _ _ hu => hu.elim) (fun r u hu => ?_)
        obtain ⟨rfl, hu⟩ := hu
        subst u
        refine V.stt (g2 := (tg g 0)) (rfl) ?_
        refine v_if_eqB C 61 dX6_oldest_26 (by decide) (fun c26 => ?_) (fun c26 => ?_)
        · refine v_iload_n C dX6_oldest_61 rfl ?_
          refine v_istore_n C (lo2 := [some _, some _, some _]) dX6_oldest_62 rfl (Nat.le_of_ble_eq_true rfl) rfl ?_
          first | refine v_iinc1 C (lo2 := [some _, some _, some _]) dX6_oldest_63 rfl rfl rfl ?_ | refine v_iinc C (lo2 := [some _, some _, some _]) dX6_oldest_63 rfl rfl rfl rfl ?_
          refine v_goto C 13 dX6_oldest_66 (by decide) ?_
          have hib : i < n := by omega
          have hst := old_step (i := i) (b := nextM m i (nI 0)) hPR hib (fun q hq => by have := (next_inv i).1 q hq; exact ⟨by omega, this.2⟩) hc31
          have hlast : nextM m (i + 1) (nI 0) = nstep m (nI 0) i (nextM m i (nI 0)) := by
            unfold nextM
            rw [forG_last, Nat.zero_add]
          first
          | (rw [if_pos (by first | exact ⟨c26, Or.inl c31⟩ | exact ⟨c26, Or.inr (by omega)⟩), ← hlast] at hst
             rw [← hst]
             exact ih13 (i + 1) (by show n - (i + 1) < n - i; omega) (by show i + 1 ≤ n; omega))
          | (rw [if_neg (by first | (rw [c26]; exact fun z => Bool.false_ne_true z.1) | exact fun z => z.2.elim c31 (by omega)), ← hlast] at hst
             rw [← hst]
             exact ih13 (i + 1) (by show n - (i + 1) < n - i; omega) (by show i + 1 ≤ n; omega))
        · refine v_iload_n C dX6_oldest_29 rfl ?_
          refine v_iconst (v := (-1)) C dX6_oldest_30 (by decide) ?_
          refine v_icmp_eq C 48 dX6_oldest_31 (by decide) (fun c31 => ?_) (fun c31 => ?_)
          · refine v_aload_n C dX6_oldest_48 rfl ?_
            refine v_getr C fl_X6_7 or_qS_0_3 dX6_oldest_49 ?_
            refine v_sipush (v := nI 192) C dX6_oldest_52 (by decide) ?_
            refine v_iload_n C dX6_oldest_55 rfl ?_
            first | refine v_iaddN C dX6_oldest_56 ?_ | refine v_iadd C dX6_oldest_56 ?_
            refine v_ialdQ (x := m 3 i) C ar_qS_1 (by decide) _ (hR.r (by omega)) ?_ rfl dX6_oldest_57 ?_
            · omega
            refine v_goto C 62 dX6_oldest_58 (by decide) ?_
            refine v_istore_n C (lo2 := [some _, some _, some _]) dX6_oldest_62 rfl (Nat.le_of_ble_eq_true rfl) rfl ?_
            first | refine v_iinc1 C (lo2 := [some _, some _, some _]) dX6_oldest_63 rfl rfl rfl ?_ | refine v_iinc C (lo2 := [some _, some _, some _]) dX6_oldest_63 rfl rfl rfl rfl ?_
            refine v_goto C 13 dX6_oldest_66 (by decide) ?_
            have hib : i < n := by omega
            have hst := old_step (i := i) (b := nextM m i (nI 0)) hPR hib (fun q hq => by have := (next_inv i).1 q hq; exact ⟨by omega, this.2⟩) hc31
            have hlast : nextM m (i + 1) (nI 0) = nstep m (nI 0) i (nextM m i (nI 0)) := by
              unfold nextM
              rw [forG_last, Nat.zero_add]
            first
            | (rw [if_pos (by first | exact ⟨c26, Or.inl c31⟩ | exact ⟨c26, Or.inr (by omega)⟩), ← hlast] at hst
               rw [← hst]
               exact ih13 (i + 1) (by show n - (i + 1) < n - i; omega) (by show i + 1 ≤ n; omega))
            | (rw [if_neg (by first | (rw [c26]; exact fun z => Bool.false_ne_true z.1) | exact fun z => z.2.elim c31 (by omega)), ← hlast] at hst
               rw [← hst]
               exact ih13 (i + 1) (by show n - (i + 1) < n - i; omega) (by show i + 1 ≤ n; omega))
          · refine v_aload_n C dX6_oldest_34 rfl ?_
            refine v_getr C fl_X6_7 or_qS_0_3 dX6_oldest_35 ?_
            refine v_sipush (v := nI 192) C dX6_oldest_38 (by decide) ?_
            refine v_iload_n C dX6_oldest_41 rfl ?_
            first | refine v_iaddN C dX6_oldest_42 ?_ | refine v_iadd C dX6_oldest_42 ?_
            refine v_ialdQ (x := m 3 i) C ar_qS_1 (by decide) _ (hR.r (by omega)) ?_ rfl dX6_oldest_43 ?_
            · omega
            refine v_iload_n C dX6_oldest_44 rfl ?_
            refine v_icmp_ge C 61 dX6_oldest_45 (by decide) (fun c45 => ?_) (fun c45 => ?_)
            · refine v_iload_n C dX6_oldest_61 rfl ?_
              refine v_istore_n C (lo2 := [some _, some _, some _]) dX6_oldest_62 rfl (Nat.le_of_ble_eq_true rfl) rfl ?_
              first | refine v_iinc1 C (lo2 := [some _, some _, some _]) dX6_oldest_63 rfl rfl rfl ?_ | refine v_iinc C (lo2 := [some _, some _, some _]) dX6_oldest_63 rfl rfl rfl rfl ?_
              refine v_goto C 13 dX6_oldest_66 (by decide) ?_
              have hib : i < n := by omega
              have hst := old_step (i := i) (b := nextM m i (nI 0)) hPR hib (fun q hq => by have := (next_inv i).1 q hq; exact ⟨by omega, this.2⟩) hc31
              have hlast : nextM m (i + 1) (nI 0) = nstep m (nI 0) i (nextM m i (nI 0)) := by
                unfold nextM
                rw [forG_last, Nat.zero_add]
              first
              | (rw [if_pos (by first | exact ⟨c26, Or.inl c31⟩ | exact ⟨c26, Or.inr (by omega)⟩), ← hlast] at hst
                 rw [← hst]
                 exact ih13 (i + 1) (by show n - (i + 1) < n - i; omega) (by show i + 1 ≤ n; omega))
              | (rw [if_neg (by first | (rw [c26]; exact fun z => Bool.false_ne_true z.1) | exact fun z => z.2.elim c31 (by omega)), ← hlast] at hst
                 rw [← hst]
                 exact ih13 (i + 1) (by show n - (i + 1) < n - i; omega) (by show i + 1 ≤ n; omega))
            · refine v_aload_n C dX6_oldest_48 rfl ?_
              refine v_getr C fl_X6_7 or_qS_0_3 dX6_oldest_49 ?_
              refine v_sipush (v := nI 192) C dX6_oldest_52 (by decide) ?_
              refine v_iload_n C dX6_oldest_55 rfl ?_
              first | refine v_iaddN C dX6_oldest_56 ?_ | refine v_iadd C dX6_oldest_56 ?_
              refine v_ialdQ (x := m 3 i) C ar_qS_1 (by decide) _ (hR.r (by omega)) ?_ rfl dX6_oldest_57 ?_
              · omega
              refine v_goto C 62 dX6_oldest_58 (by decide) ?_
              refine v_istore_n C (lo2 := [some _, some _, some _]) dX6_oldest_62 rfl (Nat.le_of_ble_eq_true rfl) rfl ?_
              first | refine v_iinc1 C (lo2 := [some _, some _, some _]) dX6_oldest_63 rfl rfl rfl ?_ | refine v_iinc C (lo2 := [some _, some _, some _]) dX6_oldest_63 rfl rfl rfl rfl ?_
              refine v_goto C 13 dX6_oldest_66 (by decide) ?_
              have hib : i < n := by omega
              have hst := old_step (i := i) (b := nextM m i (nI 0)) hPR hib (fun q hq => by have := (next_inv i).1 q hq; exact ⟨by omega, this.2⟩) hc31
              have hlast : nextM m (i + 1) (nI 0) = nstep m (nI 0) i (nextM m i (nI 0)) := by
                unfold nextM
                rw [forG_last, Nat.zero_add]
              first
              | (rw [if_pos (by first | exact ⟨c26, Or.inl c31⟩ | exact ⟨c26, Or.inr (by omega)⟩), ← hlast] at hst
                 rw [← hst]
                 exact ih13 (i + 1) (by show n - (i + 1) < n - i; omega) (by show i + 1 ≤ n; omega))
              | (rw [if_neg (by first | (rw [c26]; exact fun z => Bool.false_ne_true z.1) | exact fun z => z.2.elim c31 (by omega)), ← hlast] at hst
                 rw [← hst]
                 exact ih13 (i + 1) (by show n - (i + 1) < n - i; omega) (by show i + 1 ≤ n; omega))
    exact L13 0 (by show 0 ≤ n; omega)
  · have hz0 : n = 0 := of_decide_eq_true c4
    refine V.stt (g2 := tg g 1) (by rw [c4]; rfl) ?_
    refine v_iconst (v := nI 0) C dX6_oldest_7 (by decide) ?_
    refine v_iret C F (by first | rfl | exact bI_nar _) dX6_oldest_8 (Nat.le_of_ble_eq_true rfl) (Nat.le_of_ble_eq_true rfl) ?_
    first
    | (refine ⟨?_, fun _ => ?_⟩
       · simp [cdL, hn0]
       · rw [show i = n by omega])
    | (refine ⟨?_, fun z => absurd z ?_⟩; (simp [cdL, hz0]); (simp [cdL, hz0]); done)
theorem hb_stop {f k : Nat} {m : Mg} {a o : Nat} (h : m 2 a = -1) (h2 : ¬ a = o) : hbF (f + 1) k m a o = -1 := (if_neg h2).trans (if_pos h)
theorem hb_next {f k : Nat} {m : Mg} {a o : Nat} (h : ¬ m 2 a = -1) (h2 : ¬ a = o) : hbF (f + 1) k m a o = hbF f (k + 1) m (src m a) o := (if_neg h2).trans (if_neg h)
theorem hb_here {f k : Nat} {m : Mg} {a : Nat} : hbF (f + 1) k m a a = nI k := if_pos rfl
def sO (m : Mg) (a : Nat) : Option Nat := if m 2 a = -1 then none else some (src m a)
theorem sO_eq {m : Mg} {n a : Nat} (hI : IM m n) (ha : a < n) : m 2 a = oN (sO m a) := by
  unfold sO
  by_cases h : m 2 a = -1
  · rw [if_pos h, h]; rfl
  · rw [if_neg h]; exact (IM_src hI ha h).2
theorem sO_lt {m : Mg} {n a q : Nat} (hI : IM m n) (ha : a < n) (h : sO m a = some q) : q < n ∧ q = src m a ∧ ¬ m 2 a = -1 := by
  unfold sO at h
  by_cases e : m 2 a = -1
  · rw [if_pos e] at h; cases h
  · rw [if_neg e] at h
    cases h
    exact ⟨(IM_src hI ha e).1, rfl, e⟩
def dsV (f k : Nat) (m : Mg) (o : Option Nat) (b : Nat) : Int32 := match o with
  | none => -1
  | some a => hbF f k m a b
theorem ds_next {f k : Nat} {m : Mg} {a b : Nat} (h2 : ¬ a = b) : dsV (f + 1) k m (some a) b = dsV f (k + 1) m (sO m a) b := by
  show hbF (f + 1) k m a b = _
  unfold sO
  by_cases e : m 2 a = -1
  · rw [if_pos e, hb_stop e h2]; rfl
  · rw [if_neg e, hb_next e h2]; rfl
def rkO (rk : Nat → Nat) (o : Option Nat) : Nat := match o with
  | none => 0
  | some a => rk a + 1
theorem rkO_s {m : Mg} {n a : Nat} {rk : Nat → Nat} (hr : Rk m n rk) (ha : a < n) : rkO rk (sO m a) < rk a + 1 := by
  unfold sO
  by_cases e : m 2 a = -1
  · rw [if_pos e]; exact Nat.zero_lt_succ _
  · rw [if_neg e]
    have := hr.2 a ha e
    show rk (src m a) + 1 < rk a + 1
    omega
theorem hb_val {m : Mg} {b : Nat} : ∀ (f k a : Nat), hbF f k m a b = -1 ∨ ∃ x, k ≤ x ∧ x < k + f ∧ hbF f k m a b = nI x
  | 0, k, a => Or.inl rfl
  | f + 1, k, a => by
    by_cases e : a = b
    · subst e; exact Or.inr ⟨k, Nat.le_refl _, by omega, hb_here⟩
    · by_cases e2 : m 2 a = -1
      · exact Or.inl (hb_stop e2 e)
      · rw [hb_next e2 e]
        rcases hb_val f (k + 1) (src m a) with h | ⟨x, h1, h2, h3⟩
        · exact Or.inl h
        · exact Or.inr ⟨x, by omega, by omega, h3⟩
theorem hb_rk {m : Mg} {n b : Nat} {rk : Nat → Nat} (hI : IM m n) (hr : Rk m n rk) : ∀ (f k a : Nat), a < n → ¬ hbF f k m a b = -1 → rk b ≤ rk a
  | 0, k, a, _, h => absurd rfl h
  | f + 1, k, a, ha, h => by
    by_cases e : a = b
    · subst e; exact Nat.le_refl _
    · by_cases e2 : m 2 a = -1
      · exact absurd (hb_stop e2 e) h
      · rw [hb_next e2 e] at h
        have := hb_rk hI hr f (k + 1) (src m a) (IM_src hI ha e2).1 h
        have := hr.2 a ha e2
        omega
theorem hb_iff {m : Mg} {n b : Nat} {rk : Nat → Nat} (hI : IM m n) (hr : Rk m n rk) : ∀ (f f2 k k2 a : Nat), a < n → rk a < f → rk a < f2 → k + f < 1000 → k2 + f2 < 1000 → (hbF f k m a b = -1 ↔ hbF f2 k2 m a b = -1)
  | 0, _, _, _, a, _, h, _, _, _ => absurd h (by omega)
  | f + 1, 0, _, _, a, _, _, h, _, _ => absurd h (by omega)
  | f + 1, f2 + 1, k, k2, a, ha, h1, h2, h3, h4 => by
    by_cases e : a = b
    · subst e
      rw [hb_here, hb_here]
      exact ⟨fun z => absurd z (nI_nm1 (by omega)), fun z => absurd z (nI_nm1 (by omega))⟩
    · by_cases e2 : m 2 a = -1
      · rw [hb_stop e2 e, hb_stop e2 e]
      · rw [hb_next e2 e, hb_next e2 e]
        have := hr.2 a ha e2
        exact hb_iff hI hr f f2 (k + 1) (k2 + 1) (src m a) (IM_src hI ha e2).1 (by omega) (by omega) (by omega) (by omega)
/-- whether a chain comes to j -/
def rB (m : Mg) (j : Nat) (o : Option Nat) : Bool := match o with
  | none => false
  | some a => decide (¬ hbM m a j = -1)
theorem rB_here {m : Mg} {j : Nat} : rB m j (some j) = true := decide_eq_true (fun z => nI_nm1 (by decide) ((show hbM m j j = nI 0 from hb_here (f := 95)).symm.trans z))
theorem rB_next {m : Mg} {n j a : Nat} (hI : IM m n) (ha : a < n) (hj : ¬ a = j) : rB m j (some a) = rB m j (sO m a) := by
  obtain ⟨rk, hr⟩ := IM_rk hI
  have h96 := hI.2.1
  show decide (¬ hbF 96 0 m a j = -1) = _
  unfold sO
  by_cases e : m 2 a = -1
  · rw [if_pos e, hb_stop e hj]; rfl
  · rw [if_neg e, hb_next e hj]
    have hs := IM_src hI ha e
    have h1 := hr.1 _ hs.1
    show decide (¬ hbF 95 1 m (src m a) j = -1) = decide (¬ hbF 96 0 m (src m a) j = -1)
    have h2 := hr.2 a ha e
    have h3 := hr.1 a ha
    have := hb_iff (b := j) hI hr 95 96 1 0 (src m a) hs.1 (by omega) (by omega) (by omega) (by omega)
    by_cases z : hbF 95 1 m (src m a) j = -1
    · rw [decide_eq_false (fun w => w z), decide_eq_false (fun w => w (this.mp z))]
    · rw [decide_eq_true z, decide_eq_true (show ¬ hbF 96 0 m (src m a) j = -1 from fun w => z (this.mpr w))]
theorem dep_rB {m : Mg} {n j q : Nat} (hI : IM m n) (hq : q < n) (hj : j < n) : depB m j true q = rB m j (sO m q) := by
  obtain ⟨rk, hr⟩ := IM_rk hI
  have h96 := hI.2.1
  show decide (0 < (hbF 96 0 m q j).toInt) = _
  by_cases e : q = j
  · subst e
    rw [hb_here, decide_eq_false (by decide)]
    unfold sO
    by_cases e2 : m 2 q = -1
    · rw [if_pos e2]; rfl
    · rw [if_neg e2]
      have hs := IM_src hI hq e2
      have h2 := hr.2 q hq e2
      refine (decide_eq_false (fun z => ?_)).symm
      have := hb_rk hI hr 96 0 (src m q) hs.1 z
      omega
  · rw [← rB_next hI hq e]
    show _ = decide (¬ hbF 96 0 m q j = -1)
    by_cases e2 : m 2 q = -1
    · rw [hb_stop e2 e, decide_eq_false (by decide), decide_eq_false (fun w => w rfl)]
    · rw [hb_next e2 e]
      rcases hb_val (m := m) (b := j) 95 1 (src m q) with h | ⟨x, h1, h2, h3⟩
      · rw [h, decide_eq_false (by decide), decide_eq_false (fun w => w rfl)]
      · rw [h3, nI_toInt (by omega), decide_eq_true (by omega), decide_eq_true (nI_nm1 (by omega))]
set_option maxHeartbeats 16000000 in
theorem c_X6_distance {l : Launch} (hl : l.stackTraces = false) {κ : Kp} {h : Nat → Nat} {g : G} {m : Mg} {n c : Nat} {a b : Int32} (hQ : QMm n m g) (hW : WM n c m) : Ct SS MM l κ yX6_distance cX6_distance 5 (some FieldType.int) 3 0 0 [.ref (h 0), .int a, .int b] (qS κ h) g ri (fun r u => u = tg g (cdL [(decide (n = 0), 1), (!plB n a, 2), (!plB n b, 2)]) ∧ (cdL [(decide (n = 0), 1), (!plB n a, 2), (!plB n b, 2)] = 0 → r = hbM m (tN a) (tN b))) (fun _ _ => False) := by
  refine Ct.of (own := RX6) (by decide) rfl hl (by intro v hv; simp only [List.mem_cons, List.not_mem_nil, or_false] at hv; first | (rcases hv with rfl | rfl | rfl | rfl | rfl | rfl <;> rfl) | (rcases hv with rfl | rfl | rfl | rfl | rfl <;> rfl) | (rcases hv with rfl | rfl | rfl | rfl <;> rfl) | (rcases hv with rfl | rfl | rfl <;> rfl) | (rcases hv with rfl | rfl <;> rfl) | (subst hv; rfl) | exact hv.elim) (Nat.le_of_ble_eq_true rfl) (fun X hxl hxk C F N => ?_)
  subst hxl hxk
  show V X (qS (xK X) h) 0 [some (.ref (h 0)), some (.int a), some (.int b), none, none] [] g 0 0
  obtain ⟨hm, hs, h96, hRR⟩ := id hQ
  obtain ⟨-, hn7, hMf⟩ := id hW
  refine v_aload_n C dX6_distance_0 rfl ?_
  refine v_iload_n C dX6_distance_1 rfl ?_
  refine v_callVi C (c_X6_noPlace hl (g := g) (m := m) (n := n) hQ) ym_X6_noPlace ml_X6_223 emb_id_qS rfl rfl rfl rfl rfl dX6_distance_2 (Nat.le_of_ble_eq_true rfl) (Nat.le_of_ble_eq_true rfl) (Nat.le_of_ble_eq_true rfl) (Nat.le_of_ble_eq_true rfl) (fun _ _ hu => hu.elim) (fun r u hu => ?_)
  obtain ⟨rfl, hu⟩ := hu
  subst u
  refine v_if_neB C 29 dX6_distance_5 (by decide) (fun c5 => ?_) (fun c5 => ?_)
  · skip
    refine v_iconst (v := nI 0) C dX6_distance_29 (by decide) ?_
    refine v_iret C F (by first | rfl | exact bI_nar _) dX6_distance_30 (Nat.le_of_ble_eq_true rfl) (Nat.le_of_ble_eq_true rfl) ?_
    first
    | (refine ⟨?_, fun _ => ?_⟩
       simp [cdL, hn0, hp_a, c26]
       rw [t_ja, t_jb, ← i3]
       cases o with
       | none => first | exact absurd rfl c69 | rfl
       | some a =>
         have ha := (i1 a rfl).1
         have hka := (i1 a rfl).2
         first
         | (exact absurd c69 (nI_nm1 (by omega)))
         | (exact absurd c45 (nI_nm1 (by omega)))
         | (have e4 : a = jb := nI_inj (by omega) (by omega) c39
            subst e4
            show nI k = hbF (96 - k) k m a a
            rw [show 96 - k = (95 - k) + 1 by omega]
            exact hb_here.symm))
    | (refine ⟨?_, fun z => absurd z ?_⟩; (exact congrArg (tg g) (cd2 c5).symm); (exact fun z => absurd ((cd2 c5).symm.trans z) (nz_t c5)); done)
    | (refine ⟨?_, fun z => absurd z ?_⟩; (simp [cdL, hn0, hp_a, c26]); (simp [cdL, hn0, hp_a, c26]); done)
  · have hcd := nz_f c5
    obtain ⟨hd1, hd2⟩ := cd_0 (by decide) hcd
    obtain ⟨hd2, -⟩ := cd_0 (by decide) hd2
    have hn0 : ¬ n = 0 := of_decide_eq_false hd1
    have hp_a : plB n a = true := by simpa using hd2
    have hR := hRR hn0
    have hMI := hMf hn0
    obtain ⟨hI, hE, hLK, hn1, hSB, hBY, hPR⟩ := id hMI
    have hbd := band_ok hSB
    have hn := hI.1
    refine V.stt (g2 := tg g 0) (by rw [hcd]) ?_
    clear hcd hd2 hd1 c5
    obtain ⟨ja, hj_ja, e_ja⟩ := pl_at hp_a
    subst e_ja
    have t_ja : tN (nI ja) = ja := tN_nI (by omega)
    refine v_aload_n C dX6_distance_8 rfl ?_
    refine v_aload_n C dX6_distance_9 rfl ?_
    refine v_iload_n C dX6_distance_10 rfl ?_
    refine v_callVi C (c_X6_isPlace hl (g := tg g 0) hs h96) ym_X6_isPlace ml_X6_211 emb_id_qS rfl rfl rfl rfl rfl dX6_distance_11 (Nat.le_of_ble_eq_true rfl) (Nat.le_of_ble_eq_true rfl) (Nat.le_of_ble_eq_true rfl) (Nat.le_of_ble_eq_true rfl) (fun _ _ hu => hu.elim) (fun r u hu => ?_)
    obtain ⟨rfl, hu⟩ := hu
    subst u
    refine V.stt (g2 := (tg g 0)) (rfl) ?_
    refine v_if_neB C 21 dX6_distance_14 (by decide) (fun c14 => ?_) (fun c14 => ?_)
    · refine v_iconst (v := nI 0) C dX6_distance_21 (by decide) ?_
      refine V.eqs (st2 := [.int (bI (!plB n b)), .ref (h 0)]) ?_ (congrArg (fun z => [Value.int z, Value.ref (h 0)]) (by first | exact bI_t (by simp [c14]) | exact bI_f (by simp [c14])))
      refine v_iconst (v := nI 2) C dX6_distance_22 (by decide) ?_
      refine v_callVi C (c_X6_refuse hl (b := !plB n b) (k := 2) (by decide) (by decide)) ym_X6_refuse ml_X6_40 emb_id_qS rfl rfl rfl rfl rfl dX6_distance_23 (Nat.le_of_ble_eq_true rfl) (Nat.le_of_ble_eq_true rfl) (Nat.le_of_ble_eq_true rfl) (Nat.le_of_ble_eq_true rfl) (fun _ _ hu => hu.elim) (fun r u hu => ?_)
      obtain ⟨rfl, hu⟩ := hu
      subst u
      refine v_if_eqB C 31 dX6_distance_26 (by decide) (fun c26 => ?_) (fun c26 => ?_)
      · refine V.stt (g2 := tg g 0) (by rw [c26]; rfl) ?_
        have hp_b : plB n b = true := by simpa using c26
        obtain ⟨jb, hj_jb, e_jb⟩ := pl_at hp_b
        subst e_jb
        have t_jb : tN (nI jb) = jb := tN_nI (by omega)
        obtain ⟨rk, hrk⟩ := IM_rk hI
        have hrj := hrk.1 ja hj_ja
        refine v_iconst (v := nI 0) C dX6_distance_31 (by decide) ?_
        refine v_istore_n C (lo2 := [some _, some _, some _, some _, none]) dX6_distance_32 rfl (Nat.le_of_ble_eq_true rfl) rfl ?_
        refine v_iload_n C dX6_distance_33 rfl ?_
        refine v_istore C (lo2 := [some _, some _, some _, some _, some _]) dX6_distance_34 rfl (Nat.le_of_ble_eq_true rfl) rfl ?_
        have L36 : ∀ (t : Nat × Option Nat), (fun t => (∀ a, t.2 = some a → a < n ∧ rk a + t.1 ≤ rk ja) ∧ (t.1 ≤ 96) ∧ dsV (96 - t.1) t.1 m t.2 jb = hbM m ja jb) t → (fun t : Nat × Option Nat => V X (qS (xK X) h) 36 [some (.ref (h 0)), some (.int (nI ja)), some (.int (nI jb)), some (.int (nI t.1)), some (.int (oN t.2))] [] (tg g 0) 0 0) t := by
          refine v_ind (fun t : Nat × Option Nat => rkO rk t.2) ?_
          rintro ⟨k, o⟩ ih36 hI36
          try dsimp only at hI36 ⊢
          obtain ⟨i1, i2, i3⟩ := hI36
          have i1 : ∀ a, o = some a → a < n ∧ rk a + k ≤ rk ja := i1
          refine v_iload C dX6_distance_36 rfl ?_
          refine v_iload_n C dX6_distance_38 rfl ?_
          refine v_icmp_eq C 66 dX6_distance_39 (by decide) (fun c39 => ?_) (fun c39 => ?_)
          · refine v_iload C dX6_distance_66 rfl ?_
            refine v_iconst (v := (-1)) C dX6_distance_68 (by decide) ?_
            refine v_icmp_ne C 76 dX6_distance_69 (by decide) (fun c69 => ?_) (fun c69 => ?_)
            · refine v_iload_n C dX6_distance_76 rfl ?_
              refine v_iret C F (by first | rfl | exact bI_nar _) dX6_distance_77 (Nat.le_of_ble_eq_true rfl) (Nat.le_of_ble_eq_true rfl) ?_
              first
              | (refine ⟨?_, fun _ => ?_⟩
                 simp [cdL, hn0, hp_a, c26]
                 rw [t_ja, t_jb, ← i3]
                 cases o with
                 | none => first | exact absurd rfl c69 | rfl
                 | some a =>
                   have ha := (i1 a rfl).1
                   have hka := (i1 a rfl).2
                   first
                   | (exact absurd c69 (nI_nm1 (by omega)))
                   | (exact absurd c45 (nI_nm1 (by omega)))
                   | (have e4 : a = jb := nI_inj (by omega) (by omega) c39
                      subst e4
                      show nI k = hbF (96 - k) k m a a
                      rw [show 96 - k = (95 - k) + 1 by omega]
                      exact hb_here.symm))
              | (refine ⟨?_, fun z => absurd z ?_⟩; (exact congrArg (tg g) (cd2 c5).symm); (exact fun z => absurd ((cd2 c5).symm.trans z) (nz_t c5)); done)
              | (refine ⟨?_, fun z => absurd z ?_⟩; (simp [cdL, hn0, hp_a, c26]); (simp [cdL, hn0, hp_a, c26]); done)
            · refine v_iconst (v := (-1)) C dX6_distance_72 (by decide) ?_
              refine v_goto C 77 dX6_distance_73 (by decide) ?_
              refine v_iret C F (by first | rfl | exact bI_nar _) dX6_distance_77 (Nat.le_of_ble_eq_true rfl) (Nat.le_of_ble_eq_true rfl) ?_
              first
              | (refine ⟨?_, fun _ => ?_⟩
                 simp [cdL, hn0, hp_a, c26]
                 rw [t_ja, t_jb, ← i3]
                 cases o with
                 | none => first | exact absurd rfl c69 | rfl
                 | some a =>
                   have ha := (i1 a rfl).1
                   have hka := (i1 a rfl).2
                   first
                   | (exact absurd c69 (nI_nm1 (by omega)))
                   | (exact absurd c45 (nI_nm1 (by omega)))
                   | (have e4 : a = jb := nI_inj (by omega) (by omega) c39
                      subst e4
                      show nI k = hbF (96 - k) k m a a
                      rw [show 96 - k = (95 - k) + 1 by omega]
                      exact hb_here.symm))
              | (refine ⟨?_, fun z => absurd z ?_⟩; (exact congrArg (tg g) (cd2 c5).symm); (exact fun z => absurd ((cd2 c5).symm.trans z) (nz_t c5)); done)
              | (refine ⟨?_, fun z => absurd z ?_⟩; (simp [cdL, hn0, hp_a, c26]); (simp [cdL, hn0, hp_a, c26]); done)
          · refine v_iload C dX6_distance_42 rfl ?_
            refine v_iconst (v := (-1)) C dX6_distance_44 (by decide) ?_
            refine v_icmp_eq C 66 dX6_distance_45 (by decide) (fun c45 => ?_) (fun c45 => ?_)
            · refine v_iload C dX6_distance_66 rfl ?_
              refine v_iconst (v := (-1)) C dX6_distance_68 (by decide) ?_
              refine v_icmp_ne C 76 dX6_distance_69 (by decide) (fun c69 => ?_) (fun c69 => ?_)
              · refine v_iload_n C dX6_distance_76 rfl ?_
                refine v_iret C F (by first | rfl | exact bI_nar _) dX6_distance_77 (Nat.le_of_ble_eq_true rfl) (Nat.le_of_ble_eq_true rfl) ?_
                first
                | (refine ⟨?_, fun _ => ?_⟩
                   simp [cdL, hn0, hp_a, c26]
                   rw [t_ja, t_jb, ← i3]
                   cases o with
                   | none => first | exact absurd rfl c69 | rfl
                   | some a =>
                     have ha := (i1 a rfl).1
                     have hka := (i1 a rfl).2
                     first
                     | (exact absurd c69 (nI_nm1 (by omega)))
                     | (exact absurd c45 (nI_nm1 (by omega)))
                     | (have e4 : a = jb := nI_inj (by omega) (by omega) c39
                        subst e4
                        show nI k = hbF (96 - k) k m a a
                        rw [show 96 - k = (95 - k) + 1 by omega]
                        exact hb_here.symm))
                | (refine ⟨?_, fun z => absurd z ?_⟩; (exact congrArg (tg g) (cd2 c5).symm); (exact fun z => absurd ((cd2 c5).symm.trans z) (nz_t c5)); done)
                | (refine ⟨?_, fun z => absurd z ?_⟩; (simp [cdL, hn0, hp_a, c26]); (simp [cdL, hn0, hp_a, c26]); done)
              · refine v_iconst (v := (-1)) C dX6_distance_72 (by decide) ?_
                refine v_goto C 77 dX6_distance_73 (by decide) ?_
                refine v_iret C F (by first | rfl | exact bI_nar _) dX6_distance_77 (Nat.le_of_ble_eq_true rfl) (Nat.le_of_ble_eq_true rfl) ?_
                first
                | (refine ⟨?_, fun _ => ?_⟩
                   simp [cdL, hn0, hp_a, c26]
                   rw [t_ja, t_jb, ← i3]
                   cases o with
                   | none => first | exact absurd rfl c69 | rfl
                   | some a =>
                     have ha := (i1 a rfl).1
                     have hka := (i1 a rfl).2
                     first
                     | (exact absurd c69 (nI_nm1 (by omega)))
                     | (exact absurd c45 (nI_nm1 (by omega)))
                     | (have e4 : a = jb := nI_inj (by omega) (by omega) c39
                        subst e4
                        show nI k = hbF (96 - k) k m a a
                        rw [show 96 - k = (95 - k) + 1 by omega]
                        exact hb_here.symm))
                | (refine ⟨?_, fun z => absurd z ?_⟩; (exact congrArg (tg g) (cd2 c5).symm); (exact fun z => absurd ((cd2 c5).symm.trans z) (nz_t c5)); done)
                | (refine ⟨?_, fun z => absurd z ?_⟩; (simp [cdL, hn0, hp_a, c26]); (simp [cdL, hn0, hp_a, c26]); done)
            · obtain ⟨a, ho⟩ := oN_some c45
              have eo : oN o = nI a := by rw [ho]; rfl
              rw [eo]
              have ha := (i1 a ho).1
              have hka := (i1 a ho).2
              have hab : ¬ a = jb := fun z => c39 (by rw [eo, z])
              refine v_aload_n C dX6_distance_48 rfl ?_
              refine v_getr C fl_X6_7 or_qS_0_3 dX6_distance_49 ?_
              refine v_bipush (v := nI 96) C dX6_distance_52 (by decide) ?_
              refine v_iload C dX6_distance_54 rfl ?_
              first | refine v_iaddN C dX6_distance_56 ?_ | refine v_iadd C dX6_distance_56 ?_
              refine v_ialdQ (x := oN (sO m a)) C ar_qS_1 (by decide) _ ((hR.s (by omega)).trans (sO_eq hI ha)) ?_ rfl dX6_distance_57 ?_
              · omega
              refine v_istore C (lo2 := [some _, some _, some _, some _, some _]) dX6_distance_58 rfl (Nat.le_of_ble_eq_true rfl) rfl ?_
              first | refine v_iinc1 C (lo2 := [some _, some _, some _, some _, some _]) dX6_distance_60 rfl rfl rfl ?_ | refine v_iinc C (lo2 := [some _, some _, some _, some _, some _]) dX6_distance_60 rfl rfl rfl rfl ?_
              refine v_goto C 36 dX6_distance_63 (by decide) ?_
              refine ih36 (k + 1, sO m a) (by show rkO rk (sO m a) < rkO rk o; rw [ho]; exact rkO_s hrk ha) ⟨fun x hx => ?_, by show k + 1 ≤ 96; omega, ?_⟩
              · obtain ⟨z1, z2, z3⟩ := sO_lt hI ha hx
                have := hrk.2 a ha z3
                subst z2
                exact ⟨z1, by show rk (src m a) + (k + 1) ≤ rk ja; omega⟩
              · rw [← i3, ho, show 96 - k = (96 - (k + 1)) + 1 by omega]
                exact (ds_next hab).symm
        exact L36 (0, some ja) ⟨fun x hx => by cases hx; exact ⟨hj_ja, Nat.le_refl _⟩, by show 0 ≤ 96; omega, rfl⟩
      · refine V.stt (g2 := tg g 2) (by rw [c26]; rfl) ?_
        refine v_iconst (v := nI 0) C dX6_distance_29 (by decide) ?_
        refine v_iret C F (by first | rfl | exact bI_nar _) dX6_distance_30 (Nat.le_of_ble_eq_true rfl) (Nat.le_of_ble_eq_true rfl) ?_
        first
        | (refine ⟨?_, fun _ => ?_⟩
           simp [cdL, hn0, hp_a, c26]
           rw [t_ja, t_jb, ← i3]
           cases o with
           | none => first | exact absurd rfl c69 | rfl
           | some a =>
             have ha := (i1 a rfl).1
             have hka := (i1 a rfl).2
             first
             | (exact absurd c69 (nI_nm1 (by omega)))
             | (exact absurd c45 (nI_nm1 (by omega)))
             | (have e4 : a = jb := nI_inj (by omega) (by omega) c39
                subst e4
                show nI k = hbF (96 - k) k m a a
                rw [show 96 - k = (95 - k) + 1 by omega]
                exact hb_here.symm))
        | (refine ⟨?_, fun z => absurd z ?_⟩; (exact congrArg (tg g) (cd2 c5).symm); (exact fun z => absurd ((cd2 c5).symm.trans z) (nz_t c5)); done)
        | (refine ⟨?_, fun z => absurd z ?_⟩; (simp [cdL, hn0, hp_a, c26]); (simp [cdL, hn0, hp_a, c26]); done)
    · refine v_iconst (v := nI 1) C dX6_distance_17 (by decide) ?_
      refine v_goto C 22 dX6_distance_18 (by decide) ?_
      refine V.eqs (st2 := [.int (bI (!plB n b)), .ref (h 0)]) ?_ (congrArg (fun z => [Value.int z, Value.ref (h 0)]) (by first | exact bI_t (by simp [c14]) | exact bI_f (by simp [c14])))
      refine v_iconst (v := nI 2) C dX6_distance_22 (by decide) ?_
      refine v_callVi C (c_X6_refuse hl (b := !plB n b) (k := 2) (by decide) (by decide)) ym_X6_refuse ml_X6_40 emb_id_qS rfl rfl rfl rfl rfl dX6_distance_23 (Nat.le_of_ble_eq_true rfl) (Nat.le_of_ble_eq_true rfl) (Nat.le_of_ble_eq_true rfl) (Nat.le_of_ble_eq_true rfl) (fun _ _ hu => hu.elim) (fun r u hu => ?_)
      obtain ⟨rfl, hu⟩ := hu
      subst u
      refine v_if_eqB C 31 dX6_distance_26 (by decide) (fun c26 => ?_) (fun c26 => ?_)
      · refine V.stt (g2 := tg g 0) (by rw [c26]; rfl) ?_
        have hp_b : plB n b = true := by simpa using c26
        obtain ⟨jb, hj_jb, e_jb⟩ := pl_at hp_b
        subst e_jb
        have t_jb : tN (nI jb) = jb := tN_nI (by omega)
        obtain ⟨rk, hrk⟩ := IM_rk hI
        have hrj := hrk.1 ja hj_ja
        refine v_iconst (v := nI 0) C dX6_distance_31 (by decide) ?_
        refine v_istore_n C (lo2 := [some _, some _, some _, some _, none]) dX6_distance_32 rfl (Nat.le_of_ble_eq_true rfl) rfl ?_
        refine v_iload_n C dX6_distance_33 rfl ?_
        refine v_istore C (lo2 := [some _, some _, some _, some _, some _]) dX6_distance_34 rfl (Nat.le_of_ble_eq_true rfl) rfl ?_
        have L36 : ∀ (t : Nat × Option Nat), (fun t => (∀ a, t.2 = some a → a < n ∧ rk a + t.1 ≤ rk ja) ∧ (t.1 ≤ 96) ∧ dsV (96 - t.1) t.1 m t.2 jb = hbM m ja jb) t → (fun t : Nat × Option Nat => V X (qS (xK X) h) 36 [some (.ref (h 0)), some (.int (nI ja)), some (.int (nI jb)), some (.int (nI t.1)), some (.int (oN t.2))] [] (tg g 0) 0 0) t := by
          refine v_ind (fun t : Nat × Option Nat => rkO rk t.2) ?_
          rintro ⟨k, o⟩ ih36 hI36
          try dsimp only at hI36 ⊢
          obtain ⟨i1, i2, i3⟩ := hI36
          have i1 : ∀ a, o = some a → a < n ∧ rk a + k ≤ rk ja := i1
          refine v_iload C dX6_distance_36 rfl ?_
          refine v_iload_n C dX6_distance_38 rfl ?_
          refine v_icmp_eq C 66 dX6_distance_39 (by decide) (fun c39 => ?_) (fun c39 => ?_)
          · refine v_iload C dX6_distance_66 rfl ?_
            refine v_iconst (v := (-1)) C dX6_distance_68 (by decide) ?_
            refine v_icmp_ne C 76 dX6_distance_69 (by decide) (fun c69 => ?_) (fun c69 => ?_)
            · refine v_iload_n C dX6_distance_76 rfl ?_
              refine v_iret C F (by first | rfl | exact bI_nar _) dX6_distance_77 (Nat.le_of_ble_eq_true rfl) (Nat.le_of_ble_eq_true rfl) ?_
              first
              | (refine ⟨?_, fun _ => ?_⟩
                 simp [cdL, hn0, hp_a, c26]
                 rw [t_ja, t_jb, ← i3]
                 cases o with
                 | none => first | exact absurd rfl c69 | rfl
                 | some a =>
                   have ha := (i1 a rfl).1
                   have hka := (i1 a rfl).2
                   first
                   | (exact absurd c69 (nI_nm1 (by omega)))
                   | (exact absurd c45 (nI_nm1 (by omega)))
                   | (have e4 : a = jb := nI_inj (by omega) (by omega) c39
                      subst e4
                      show nI k = hbF (96 - k) k m a a
                      rw [show 96 - k = (95 - k) + 1 by omega]
                      exact hb_here.symm))
              | (refine ⟨?_, fun z => absurd z ?_⟩; (exact congrArg (tg g) (cd2 c5).symm); (exact fun z => absurd ((cd2 c5).symm.trans z) (nz_t c5)); done)
              | (refine ⟨?_, fun z => absurd z ?_⟩; (simp [cdL, hn0, hp_a, c26]); (simp [cdL, hn0, hp_a, c26]); done)
            · refine v_iconst (v := (-1)) C dX6_distance_72 (by decide) ?_
              refine v_goto C 77 dX6_distance_73 (by decide) ?_
              refine v_iret C F (by first | rfl | exact bI_nar _) dX6_distance_77 (Nat.le_of_ble_eq_true rfl) (Nat.le_of_ble_eq_true rfl) ?_
              first
              | (refine ⟨?_, fun _ => ?_⟩
                 simp [cdL, hn0, hp_a, c26]
                 rw [t_ja, t_jb, ← i3]
                 cases o with
                 | none => first | exact absurd rfl c69 | rfl
                 | some a =>
                   have ha := (i1 a rfl).1
                   have hka := (i1 a rfl).2
                   first
                   | (exact absurd c69 (nI_nm1 (by omega)))
                   | (exact absurd c45 (nI_nm1 (by omega)))
                   | (have e4 : a = jb := nI_inj (by omega) (by omega) c39
                      subst e4
                      show nI k = hbF (96 - k) k m a a
                      rw [show 96 - k = (95 - k) + 1 by omega]
                      exact hb_here.symm))
              | (refine ⟨?_, fun z => absurd z ?_⟩; (exact congrArg (tg g) (cd2 c5).symm); (exact fun z => absurd ((cd2 c5).symm.trans z) (nz_t c5)); done)
              | (refine ⟨?_, fun z => absurd z ?_⟩; (simp [cdL, hn0, hp_a, c26]); (simp [cdL, hn0, hp_a, c26]); done)
          · refine v_iload C dX6_distance_42 rfl ?_
            refine v_iconst (v := (-1)) C dX6_distance_44 (by decide) ?_
            refine v_icmp_eq C 66 dX6_distance_45 (by decide) (fun c45 => ?_) (fun c45 => ?_)
            · refine v_iload C dX6_distance_66 rfl ?_
              refine v_iconst (v := (-1)) C dX6_distance_68 (by decide) ?_
              refine v_icmp_ne C 76 dX6_distance_69 (by decide) (fun c69 => ?_) (fun c69 => ?_)
              · refine v_iload_n C dX6_distance_76 rfl ?_
                refine v_iret C F (by first | rfl | exact bI_nar _) dX6_distance_77 (Nat.le_of_ble_eq_true rfl) (Nat.le_of_ble_eq_true rfl) ?_
                first
                | (refine ⟨?_, fun _ => ?_⟩
                   simp [cdL, hn0, hp_a, c26]
                   rw [t_ja, t_jb, ← i3]
                   cases o with
                   | none => first | exact absurd rfl c69 | rfl
                   | some a =>
                     have ha := (i1 a rfl).1
                     have hka := (i1 a rfl).2
                     first
                     | (exact absurd c69 (nI_nm1 (by omega)))
                     | (exact absurd c45 (nI_nm1 (by omega)))
                     | (have e4 : a = jb := nI_inj (by omega) (by omega) c39
                        subst e4
                        show nI k = hbF (96 - k) k m a a
                        rw [show 96 - k = (95 - k) + 1 by omega]
                        exact hb_here.symm))
                | (refine ⟨?_, fun z => absurd z ?_⟩; (exact congrArg (tg g) (cd2 c5).symm); (exact fun z => absurd ((cd2 c5).symm.trans z) (nz_t c5)); done)
                | (refine ⟨?_, fun z => absurd z ?_⟩; (simp [cdL, hn0, hp_a, c26]); (simp [cdL, hn0, hp_a, c26]); done)
              · refine v_iconst (v := (-1)) C dX6_distance_72 (by decide) ?_
                refine v_goto C 77 dX6_distance_73 (by decide) ?_
                refine v_iret C F (by first | rfl | exact bI_nar _) dX6_distance_77 (Nat.le_of_ble_eq_true rfl) (Nat.le_of_ble_eq_true rfl) ?_
                first
                | (refine ⟨?_, fun _ => ?_⟩
                   simp [cdL, hn0, hp_a, c26]
                   rw [t_ja, t_jb, ← i3]
                   cases o with
                   | none => first | exact absurd rfl c69 | rfl
                   | some a =>
                     have ha := (i1 a rfl).1
                     have hka := (i1 a rfl).2
                     first
                     | (exact absurd c69 (nI_nm1 (by omega)))
                     | (exact absurd c45 (nI_nm1 (by omega)))
                     | (have e4 : a = jb := nI_inj (by omega) (by omega) c39
                        subst e4
                        show nI k = hbF (96 - k) k m a a
                        rw [show 96 - k = (95 - k) + 1 by omega]
                        exact hb_here.symm))
                | (refine ⟨?_, fun z => absurd z ?_⟩; (exact congrArg (tg g) (cd2 c5).symm); (exact fun z => absurd ((cd2 c5).symm.trans z) (nz_t c5)); done)
                | (refine ⟨?_, fun z => absurd z ?_⟩; (simp [cdL, hn0, hp_a, c26]); (simp [cdL, hn0, hp_a, c26]); done)
            · obtain ⟨a, ho⟩ := oN_some c45
              have eo : oN o = nI a := by rw [ho]; rfl
              rw [eo]
              have ha := (i1 a ho).1
              have hka := (i1 a ho).2
              have hab : ¬ a = jb := fun z => c39 (by rw [eo, z])
              refine v_aload_n C dX6_distance_48 rfl ?_
              refine v_getr C fl_X6_7 or_qS_0_3 dX6_distance_49 ?_
              refine v_bipush (v := nI 96) C dX6_distance_52 (by decide) ?_
              refine v_iload C dX6_distance_54 rfl ?_
              first | refine v_iaddN C dX6_distance_56 ?_ | refine v_iadd C dX6_distance_56 ?_
              refine v_ialdQ (x := oN (sO m a)) C ar_qS_1 (by decide) _ ((hR.s (by omega)).trans (sO_eq hI ha)) ?_ rfl dX6_distance_57 ?_
              · omega
              refine v_istore C (lo2 := [some _, some _, some _, some _, some _]) dX6_distance_58 rfl (Nat.le_of_ble_eq_true rfl) rfl ?_
              first | refine v_iinc1 C (lo2 := [some _, some _, some _, some _, some _]) dX6_distance_60 rfl rfl rfl ?_ | refine v_iinc C (lo2 := [some _, some _, some _, some _, some _]) dX6_distance_60 rfl rfl rfl rfl ?_
              refine v_goto C 36 dX6_distance_63 (by decide) ?_
              refine ih36 (k + 1, sO m a) (by show rkO rk (sO m a) < rkO rk o; rw [ho]; exact rkO_s hrk ha) ⟨fun x hx => ?_, by show k + 1 ≤ 96; omega, ?_⟩
              · obtain ⟨z1, z2, z3⟩ := sO_lt hI ha hx
                have := hrk.2 a ha z3
                subst z2
                exact ⟨z1, by show rk (src m a) + (k + 1) ≤ rk ja; omega⟩
              · rw [← i3, ho, show 96 - k = (96 - (k + 1)) + 1 by omega]
                exact (ds_next hab).symm
        exact L36 (0, some ja) ⟨fun x hx => by cases hx; exact ⟨hj_ja, Nat.le_refl _⟩, by show 0 ≤ 96; omega, rfl⟩
      · refine V.stt (g2 := tg g 2) (by rw [c26]; rfl) ?_
        refine v_iconst (v := nI 0) C dX6_distance_29 (by decide) ?_
        refine v_iret C F (by first | rfl | exact bI_nar _) dX6_distance_30 (Nat.le_of_ble_eq_true rfl) (Nat.le_of_ble_eq_true rfl) ?_
        first
        | (refine ⟨?_, fun _ => ?_⟩
           simp [cdL, hn0, hp_a, c26]
           rw [t_ja, t_jb, ← i3]
           cases o with
           | none => first | exact absurd rfl c69 | rfl
           | some a =>
             have ha := (i1 a rfl).1
             have hka := (i1 a rfl).2
             first
             | (exact absurd c69 (nI_nm1 (by omega)))
             | (exact absurd c45 (nI_nm1 (by omega)))
             | (have e4 : a = jb := nI_inj (by omega) (by omega) c39
                subst e4
                show nI k = hbF (96 - k) k m a a
                rw [show 96 - k = (95 - k) + 1 by omega]
                exact hb_here.symm))
        | (refine ⟨?_, fun z => absurd z ?_⟩; (exact congrArg (tg g) (cd2 c5).symm); (exact fun z => absurd ((cd2 c5).symm.trans z) (nz_t c5)); done)
        | (refine ⟨?_, fun z => absurd z ?_⟩; (simp [cdL, hn0, hp_a, c26]); (simp [cdL, hn0, hp_a, c26]); done)
set_option maxHeartbeats 16000000 in
theorem c_X6_dependents {l : Launch} (hl : l.stackTraces = false) {κ : Kp} {h : Nat → Nat} {g : G} {m : Mg} {n c : Nat} {p : Int32} {al : Bool} (hQ : QMm n m g) (hW : WM n c m) : Ct SS MM l κ yX6_dependents cX6_dependents 6 (some FieldType.int) 3 0 0 [.ref (h 0), .int p, .int (bI al)] (qS κ h) g ri (fun r u => u = tg g (cdL [(decide (n = 0), 1), (!plB n p, 2)]) ∧ (cdL [(decide (n = 0), 1), (!plB n p, 2)] = 0 → r = nI (cntG (depB m (tN p) al) 0 n))) (fun _ _ => False) := by
  refine Ct.of (own := RX6) (by decide) rfl hl (by intro v hv; simp only [List.mem_cons, List.not_mem_nil, or_false] at hv; first | (rcases hv with rfl | rfl | rfl | rfl | rfl | rfl <;> rfl) | (rcases hv with rfl | rfl | rfl | rfl | rfl <;> rfl) | (rcases hv with rfl | rfl | rfl | rfl <;> rfl) | (rcases hv with rfl | rfl | rfl <;> rfl) | (rcases hv with rfl | rfl <;> rfl) | (subst hv; rfl) | exact hv.elim) (Nat.le_of_ble_eq_true rfl) (fun X hxl hxk C F N => ?_)
  subst hxl hxk
  show V X (qS (xK X) h) 0 [some (.ref (h 0)), some (.int p), some (.int (bI al)), none, none, none] [] g 0 0
  obtain ⟨hm, hs, h96, hRR⟩ := id hQ
  obtain ⟨-, hn7, hMf⟩ := id hW
  refine v_aload_n C dX6_dependents_0 rfl ?_
  refine v_iload_n C dX6_dependents_1 rfl ?_
  refine v_callVi C (c_X6_noPlace hl (g := g) (m := m) (n := n) hQ) ym_X6_noPlace ml_X6_223 emb_id_qS rfl rfl rfl rfl rfl dX6_dependents_2 (Nat.le_of_ble_eq_true rfl) (Nat.le_of_ble_eq_true rfl) (Nat.le_of_ble_eq_true rfl) (Nat.le_of_ble_eq_true rfl) (fun _ _ hu => hu.elim) (fun r u hu => ?_)
  obtain ⟨rfl, hu⟩ := hu
  subst u
  refine v_if_eqB C 10 dX6_dependents_5 (by decide) (fun c5 => ?_) (fun c5 => ?_)
  · have hcd := nz_f c5
    obtain ⟨hd1, hd2⟩ := cd_0 (by decide) hcd
    obtain ⟨hd2, -⟩ := cd_0 (by decide) hd2
    have hn0 : ¬ n = 0 := of_decide_eq_false hd1
    have hp_p : plB n p = true := by simpa using hd2
    have hR := hRR hn0
    have hMI := hMf hn0
    obtain ⟨hI, hE, hLK, hn1, hSB, hBY, hPR⟩ := id hMI
    have hbd := band_ok hSB
    have hn := hI.1
    refine V.stt (g2 := tg g 0) (by rw [hcd]) ?_
    clear hcd hd2 hd1 c5
    obtain ⟨j, hj_j, e_j⟩ := pl_at hp_p
    subst e_j
    have t_j : tN (nI j) = j := tN_nI (by omega)
    refine v_iconst (v := nI 0) C dX6_dependents_10 (by decide) ?_
    refine v_istore_n C (lo2 := [some _, some _, some _, some _, none, none]) dX6_dependents_11 rfl (Nat.le_of_ble_eq_true rfl) rfl ?_
    refine v_iconst (v := nI 0) C dX6_dependents_12 (by decide) ?_
    refine v_istore C (lo2 := [some _, some _, some _, some _, some _, none]) dX6_dependents_13 rfl (Nat.le_of_ble_eq_true rfl) rfl ?_
    have L15 : ∀ (t : Nat × Nat), (fun t => 0 ≤ t.1 ∧ t.1 ≤ 200 ∧ t.2 ≤ t.1 ∧ t.2 + cntG (depB m j al) t.1 (n - t.1) = cntG (depB m j al) 0 (n - 0)) t → (fun t : Nat × Nat => V X (qS (xK X) h) 15 [some (.ref (h 0)), some (.int (nI j)), some (.int (bI al)), some (.int (nI t.2)), some (.int (nI t.1)), none] [] (tg g 0) 0 0) t := by
      refine v_ind (fun t : Nat × Nat => n - t.1) ?_
      rintro ⟨i, c⟩ ih15 hI15
      try dsimp only at hI15 ⊢
      obtain ⟨i1, i2, i4, i3⟩ := hI15
      refine v_iload C dX6_dependents_15 rfl ?_
      refine v_aload_n C dX6_dependents_17 rfl ?_
      refine v_getiQ (x := nI n) C fl_X6_126 oi_qS_0_2 (hs) dX6_dependents_18 ?_
      first | refine v_icmp_geN C 90 dX6_dependents_21 (by decide) (by omega) (by omega) (fun c21 => ?_) (fun c21 => ?_) | refine v_icmp_ge C 90 dX6_dependents_21 (by decide) (fun c21 => ?_) (fun c21 => ?_)
      · refine v_iload_n C dX6_dependents_90 rfl ?_
        refine v_iret C F (by first | rfl | exact bI_nar _) dX6_dependents_91 (Nat.le_of_ble_eq_true rfl) (Nat.le_of_ble_eq_true rfl) ?_
        first
        | (rw [cntG_0 (by omega), Nat.add_zero] at i3
           refine ⟨?_, fun _ => ?_⟩
           · simp [cdL, hn0, hp_p]
           · rw [t_j]
             exact congrArg nI i3)
        | (refine ⟨?_, fun z => absurd z ?_⟩; (exact congrArg (tg g) (cd2 c5).symm); (exact fun z => absurd ((cd2 c5).symm.trans z) (nz_t c5)); done)
      · have hin : i < n := by omega
        refine v_aload_n C dX6_dependents_24 rfl ?_
        refine v_getr C fl_X6_7 or_qS_0_3 dX6_dependents_25 ?_
        refine v_bipush (v := nI 96) C dX6_dependents_28 (by decide) ?_
        refine v_iload C dX6_dependents_30 rfl ?_
        first | refine v_iaddN C dX6_dependents_32 ?_ | refine v_iadd C dX6_dependents_32 ?_
        refine v_ialdQ (x := oN (sO m i)) C ar_qS_1 (by decide) _ ((hR.s (by omega)).trans (sO_eq hI hin)) ?_ rfl dX6_dependents_33 ?_
        · omega
        refine v_istore C (lo2 := [some _, some _, some _, some _, some _, some _]) dX6_dependents_34 rfl (Nat.le_of_ble_eq_true rfl) rfl ?_
        obtain ⟨rk, hrk⟩ := IM_rk hI
        have L36 : ∀ (o : Option Nat), (fun o => (∀ a, o = some a → a < n) ∧ (if al = true then rB m j o else oN o == nI j) = depB m j al i) o → (fun o : Option Nat => V X (qS (xK X) h) 36 [some (.ref (h 0)), some (.int (nI j)), some (.int (bI al)), some (.int (nI c)), some (.int (nI i)), some (.int (oN o))] [] (tg g 0) 0 0) o := by
          refine v_ind (fun o : Option Nat => rkO rk o) ?_
          rintro o ih36 hI36
          try dsimp only at hI36 ⊢
          obtain ⟨i5, i6⟩ := hI36
          refine v_iload_n C dX6_dependents_36 rfl ?_
          refine v_if_eqB C 67 dX6_dependents_37 (by decide) (fun c37 => ?_) (fun c37 => ?_)
          · refine v_iload_n C dX6_dependents_67 rfl ?_
            refine v_iload C dX6_dependents_68 rfl ?_
            refine v_iload_n C dX6_dependents_70 rfl ?_
            refine v_icmp_ne C 78 dX6_dependents_71 (by decide) (fun c71 => ?_) (fun c71 => ?_)
            · refine v_iconst (v := nI 0) C dX6_dependents_78 (by decide) ?_
              refine V.eqs (st2 := [.int (bI (depB m j al i)), .int (nI c)]) ?_ (congrArg (fun z => [Value.int z, Value.int (nI c)]) ?_)
              rotate_left
              · rw [← i6]
                first
                | (refine bI_t ?_; rw [c37]; exact beq_iff_eq.mpr c71)
                | (refine bI_f ?_; rw [c37]; exact beq_eq_false_iff_ne.mpr c71)
                | (refine bI_f ?_; rw [if_pos c37, oN_none c43 (fun q hq => by have := i5 q hq; omega)]; rfl)
                | (refine bI_t ?_; rw [if_pos c37]; cases o with
                   | none => exact absurd c43 (fun z => z rfl)
                   | some a => rw [show a = j from nI_inj (by have := i5 a rfl; omega) (by omega) c71]; exact rB_here)
                | (exfalso; rw [c43] at c71; exact nI_nm1 (by omega) c71.symm)
                | (exfalso; exact c71 c49)
              refine v_callSi C (c_X6_flag hl (b := depB m j al i)) ys_X6_flag rfl ml_X6_232 (emb_n fix_qS) rfl rfl rfl dX6_dependents_79 (Nat.le_of_ble_eq_true rfl) (Nat.le_of_ble_eq_true rfl) (Nat.le_of_ble_eq_true rfl) (Nat.le_of_ble_eq_true rfl) (fun _ _ hu => hu.elim) (fun r u hu => ?_)
              subst r
              first | refine v_iaddN C dX6_dependents_82 ?_ | refine v_iadd C dX6_dependents_82 ?_
              refine v_istore_n C (lo2 := [some _, some _, some _, some _, some _, some _]) dX6_dependents_83 rfl (Nat.le_of_ble_eq_true rfl) rfl ?_
              first | refine v_iinc1 C (lo2 := [some _, some _, some _, some _, some _, some _]) dX6_dependents_84 rfl rfl rfl ?_ | refine v_iinc C (lo2 := [some _, some _, some _, some _, some _, some _]) dX6_dependents_84 rfl rfl rfl rfl ?_
              refine v_goto C 15 dX6_dependents_87 (by decide) ?_
              refine V.sub (lo2 := [some _, some _, some _, some _, some _, none]) ⟨rfl, rfl, rfl, rfl, rfl, trivial⟩ ?_
              have hib : i < n := by omega
              rw [cntG_s hib] at i3
              have hfl : fl ((depB m j al) i) = (if (depB m j al) i = true then 1 else 0) := rfl
              have hf1 : fl ((depB m j al) i) ≤ 1 := by rw [hfl]; split <;> omega
              rw [← hfl] at i3
              exact ih15 (i + 1, c + fl ((depB m j al) i)) (by show n - (i + 1) < n - i; omega) ⟨by show 0 ≤ i + 1; omega, by show i + 1 ≤ 200; omega, by show c + fl ((depB m j al) i) ≤ i + 1; omega, by show c + fl ((depB m j al) i) + cntG (depB m j al) (i + 1) (n - (i + 1)) = _; omega⟩
            · refine v_iconst (v := nI 1) C dX6_dependents_74 (by decide) ?_
              refine v_goto C 79 dX6_dependents_75 (by decide) ?_
              refine V.eqs (st2 := [.int (bI (depB m j al i)), .int (nI c)]) ?_ (congrArg (fun z => [Value.int z, Value.int (nI c)]) ?_)
              rotate_left
              · rw [← i6]
                first
                | (refine bI_t ?_; rw [c37]; exact beq_iff_eq.mpr c71)
                | (refine bI_f ?_; rw [c37]; exact beq_eq_false_iff_ne.mpr c71)
                | (refine bI_f ?_; rw [if_pos c37, oN_none c43 (fun q hq => by have := i5 q hq; omega)]; rfl)
                | (refine bI_t ?_; rw [if_pos c37]; cases o with
                   | none => exact absurd c43 (fun z => z rfl)
                   | some a => rw [show a = j from nI_inj (by have := i5 a rfl; omega) (by omega) c71]; exact rB_here)
                | (exfalso; rw [c43] at c71; exact nI_nm1 (by omega) c71.symm)
                | (exfalso; exact c71 c49)
              refine v_callSi C (c_X6_flag hl (b := depB m j al i)) ys_X6_flag rfl ml_X6_232 (emb_n fix_qS) rfl rfl rfl dX6_dependents_79 (Nat.le_of_ble_eq_true rfl) (Nat.le_of_ble_eq_true rfl) (Nat.le_of_ble_eq_true rfl) (Nat.le_of_ble_eq_true rfl) (fun _ _ hu => hu.elim) (fun r u hu => ?_)
              subst r
              first | refine v_iaddN C dX6_dependents_82 ?_ | refine v_iadd C dX6_dependents_82 ?_
              refine v_istore_n C (lo2 := [some _, some _, some _, some _, some _, some _]) dX6_dependents_83 rfl (Nat.le_of_ble_eq_true rfl) rfl ?_
              first | refine v_iinc1 C (lo2 := [some _, some _, some _, some _, some _, some _]) dX6_dependents_84 rfl rfl rfl ?_ | refine v_iinc C (lo2 := [some _, some _, some _, some _, some _, some _]) dX6_dependents_84 rfl rfl rfl rfl ?_
              refine v_goto C 15 dX6_dependents_87 (by decide) ?_
              refine V.sub (lo2 := [some _, some _, some _, some _, some _, none]) ⟨rfl, rfl, rfl, rfl, rfl, trivial⟩ ?_
              have hib : i < n := by omega
              rw [cntG_s hib] at i3
              have hfl : fl ((depB m j al) i) = (if (depB m j al) i = true then 1 else 0) := rfl
              have hf1 : fl ((depB m j al) i) ≤ 1 := by rw [hfl]; split <;> omega
              rw [← hfl] at i3
              exact ih15 (i + 1, c + fl ((depB m j al) i)) (by show n - (i + 1) < n - i; omega) ⟨by show 0 ≤ i + 1; omega, by show i + 1 ≤ 200; omega, by show c + fl ((depB m j al) i) ≤ i + 1; omega, by show c + fl ((depB m j al) i) + cntG (depB m j al) (i + 1) (n - (i + 1)) = _; omega⟩
          · refine v_iload C dX6_dependents_40 rfl ?_
            refine v_iconst (v := (-1)) C dX6_dependents_42 (by decide) ?_
            refine v_icmp_eq C 67 dX6_dependents_43 (by decide) (fun c43 => ?_) (fun c43 => ?_)
            · refine v_iload_n C dX6_dependents_67 rfl ?_
              refine v_iload C dX6_dependents_68 rfl ?_
              refine v_iload_n C dX6_dependents_70 rfl ?_
              refine v_icmp_ne C 78 dX6_dependents_71 (by decide) (fun c71 => ?_) (fun c71 => ?_)
              · refine v_iconst (v := nI 0) C dX6_dependents_78 (by decide) ?_
                refine V.eqs (st2 := [.int (bI (depB m j al i)), .int (nI c)]) ?_ (congrArg (fun z => [Value.int z, Value.int (nI c)]) ?_)
                rotate_left
                · rw [← i6]
                  first
                  | (refine bI_t ?_; rw [c37]; exact beq_iff_eq.mpr c71)
                  | (refine bI_f ?_; rw [c37]; exact beq_eq_false_iff_ne.mpr c71)
                  | (refine bI_f ?_; rw [if_pos c37, oN_none c43 (fun q hq => by have := i5 q hq; omega)]; rfl)
                  | (refine bI_t ?_; rw [if_pos c37]; cases o with
                     | none => exact absurd c43 (fun z => z rfl)
                     | some a => rw [show a = j from nI_inj (by have := i5 a rfl; omega) (by omega) c71]; exact rB_here)
                  | (exfalso; rw [c43] at c71; exact nI_nm1 (by omega) c71.symm)
                  | (exfalso; exact c71 c49)
                refine v_callSi C (c_X6_flag hl (b := depB m j al i)) ys_X6_flag rfl ml_X6_232 (emb_n fix_qS) rfl rfl rfl dX6_dependents_79 (Nat.le_of_ble_eq_true rfl) (Nat.le_of_ble_eq_true rfl) (Nat.le_of_ble_eq_true rfl) (Nat.le_of_ble_eq_true rfl) (fun _ _ hu => hu.elim) (fun r u hu => ?_)
                subst r
                first | refine v_iaddN C dX6_dependents_82 ?_ | refine v_iadd C dX6_dependents_82 ?_
                refine v_istore_n C (lo2 := [some _, some _, some _, some _, some _, some _]) dX6_dependents_83 rfl (Nat.le_of_ble_eq_true rfl) rfl ?_
                first | refine v_iinc1 C (lo2 := [some _, some _, some _, some _, some _, some _]) dX6_dependents_84 rfl rfl rfl ?_ | refine v_iinc C (lo2 := [some _, some _, some _, some _, some _, some _]) dX6_dependents_84 rfl rfl rfl rfl ?_
                refine v_goto C 15 dX6_dependents_87 (by decide) ?_
                refine V.sub (lo2 := [some _, some _, some _, some _, some _, none]) ⟨rfl, rfl, rfl, rfl, rfl, trivial⟩ ?_
                have hib : i < n := by omega
                rw [cntG_s hib] at i3
                have hfl : fl ((depB m j al) i) = (if (depB m j al) i = true then 1 else 0) := rfl
                have hf1 : fl ((depB m j al) i) ≤ 1 := by rw [hfl]; split <;> omega
                rw [← hfl] at i3
                exact ih15 (i + 1, c + fl ((depB m j al) i)) (by show n - (i + 1) < n - i; omega) ⟨by show 0 ≤ i + 1; omega, by show i + 1 ≤ 200; omega, by show c + fl ((depB m j al) i) ≤ i + 1; omega, by show c + fl ((depB m j al) i) + cntG (depB m j al) (i + 1) (n - (i + 1)) = _; omega⟩
              · refine v_iconst (v := nI 1) C dX6_dependents_74 (by decide) ?_
                refine v_goto C 79 dX6_dependents_75 (by decide) ?_
                refine V.eqs (st2 := [.int (bI (depB m j al i)), .int (nI c)]) ?_ (congrArg (fun z => [Value.int z, Value.int (nI c)]) ?_)
                rotate_left
                · rw [← i6]
                  first
                  | (refine bI_t ?_; rw [c37]; exact beq_iff_eq.mpr c71)
                  | (refine bI_f ?_; rw [c37]; exact beq_eq_false_iff_ne.mpr c71)
                  | (refine bI_f ?_; rw [if_pos c37, oN_none c43 (fun q hq => by have := i5 q hq; omega)]; rfl)
                  | (refine bI_t ?_; rw [if_pos c37]; cases o with
                     | none => exact absurd c43 (fun z => z rfl)
                     | some a => rw [show a = j from nI_inj (by have := i5 a rfl; omega) (by omega) c71]; exact rB_here)
                  | (exfalso; rw [c43] at c71; exact nI_nm1 (by omega) c71.symm)
                  | (exfalso; exact c71 c49)
                refine v_callSi C (c_X6_flag hl (b := depB m j al i)) ys_X6_flag rfl ml_X6_232 (emb_n fix_qS) rfl rfl rfl dX6_dependents_79 (Nat.le_of_ble_eq_true rfl) (Nat.le_of_ble_eq_true rfl) (Nat.le_of_ble_eq_true rfl) (Nat.le_of_ble_eq_true rfl) (fun _ _ hu => hu.elim) (fun r u hu => ?_)
                subst r
                first | refine v_iaddN C dX6_dependents_82 ?_ | refine v_iadd C dX6_dependents_82 ?_
                refine v_istore_n C (lo2 := [some _, some _, some _, some _, some _, some _]) dX6_dependents_83 rfl (Nat.le_of_ble_eq_true rfl) rfl ?_
                first | refine v_iinc1 C (lo2 := [some _, some _, some _, some _, some _, some _]) dX6_dependents_84 rfl rfl rfl ?_ | refine v_iinc C (lo2 := [some _, some _, some _, some _, some _, some _]) dX6_dependents_84 rfl rfl rfl rfl ?_
                refine v_goto C 15 dX6_dependents_87 (by decide) ?_
                refine V.sub (lo2 := [some _, some _, some _, some _, some _, none]) ⟨rfl, rfl, rfl, rfl, rfl, trivial⟩ ?_
                have hib : i < n := by omega
                rw [cntG_s hib] at i3
                have hfl : fl ((depB m j al) i) = (if (depB m j al) i = true then 1 else 0) := rfl
                have hf1 : fl ((depB m j al) i) ≤ 1 := by rw [hfl]; split <;> omega
                rw [← hfl] at i3
                exact ih15 (i + 1, c + fl ((depB m j al) i)) (by show n - (i + 1) < n - i; omega) ⟨by show 0 ≤ i + 1; omega, by show i + 1 ≤ 200; omega, by show c + fl ((depB m j al) i) ≤ i + 1; omega, by show c + fl ((depB m j al) i) + cntG (depB m j al) (i + 1) (n - (i + 1)) = _; omega⟩
            · refine v_iload C dX6_dependents_46 rfl ?_
              refine v_iload_n C dX6_dependents_48 rfl ?_
              refine v_icmp_eq C 67 dX6_dependents_49 (by decide) (fun c49 => ?_) (fun c49 => ?_)
              · refine v_iload_n C dX6_dependents_67 rfl ?_
                refine v_iload C dX6_dependents_68 rfl ?_
                refine v_iload_n C dX6_dependents_70 rfl ?_
                refine v_icmp_ne C 78 dX6_dependents_71 (by decide) (fun c71 => ?_) (fun c71 => ?_)
                · refine v_iconst (v := nI 0) C dX6_dependents_78 (by decide) ?_
                  refine V.eqs (st2 := [.int (bI (depB m j al i)), .int (nI c)]) ?_ (congrArg (fun z => [Value.int z, Value.int (nI c)]) ?_)
                  rotate_left
                  · rw [← i6]
                    first
                    | (refine bI_t ?_; rw [c37]; exact beq_iff_eq.mpr c71)
                    | (refine bI_f ?_; rw [c37]; exact beq_eq_false_iff_ne.mpr c71)
                    | (refine bI_f ?_; rw [if_pos c37, oN_none c43 (fun q hq => by have := i5 q hq; omega)]; rfl)
                    | (refine bI_t ?_; rw [if_pos c37]; cases o with
                       | none => exact absurd c43 (fun z => z rfl)
                       | some a => rw [show a = j from nI_inj (by have := i5 a rfl; omega) (by omega) c71]; exact rB_here)
                    | (exfalso; rw [c43] at c71; exact nI_nm1 (by omega) c71.symm)
                    | (exfalso; exact c71 c49)
                  refine v_callSi C (c_X6_flag hl (b := depB m j al i)) ys_X6_flag rfl ml_X6_232 (emb_n fix_qS) rfl rfl rfl dX6_dependents_79 (Nat.le_of_ble_eq_true rfl) (Nat.le_of_ble_eq_true rfl) (Nat.le_of_ble_eq_true rfl) (Nat.le_of_ble_eq_true rfl) (fun _ _ hu => hu.elim) (fun r u hu => ?_)
                  subst r
                  first | refine v_iaddN C dX6_dependents_82 ?_ | refine v_iadd C dX6_dependents_82 ?_
                  refine v_istore_n C (lo2 := [some _, some _, some _, some _, some _, some _]) dX6_dependents_83 rfl (Nat.le_of_ble_eq_true rfl) rfl ?_
                  first | refine v_iinc1 C (lo2 := [some _, some _, some _, some _, some _, some _]) dX6_dependents_84 rfl rfl rfl ?_ | refine v_iinc C (lo2 := [some _, some _, some _, some _, some _, some _]) dX6_dependents_84 rfl rfl rfl rfl ?_
                  refine v_goto C 15 dX6_dependents_87 (by decide) ?_
                  refine V.sub (lo2 := [some _, some _, some _, some _, some _, none]) ⟨rfl, rfl, rfl, rfl, rfl, trivial⟩ ?_
                  have hib : i < n := by omega
                  rw [cntG_s hib] at i3
                  have hfl : fl ((depB m j al) i) = (if (depB m j al) i = true then 1 else 0) := rfl
                  have hf1 : fl ((depB m j al) i) ≤ 1 := by rw [hfl]; split <;> omega
                  rw [← hfl] at i3
                  exact ih15 (i + 1, c + fl ((depB m j al) i)) (by show n - (i + 1) < n - i; omega) ⟨by show 0 ≤ i + 1; omega, by show i + 1 ≤ 200; omega, by show c + fl ((depB m j al) i) ≤ i + 1; omega, by show c + fl ((depB m j al) i) + cntG (depB m j al) (i + 1) (n - (i + 1)) = _; omega⟩
                · refine v_iconst (v := nI 1) C dX6_dependents_74 (by decide) ?_
                  refine v_goto C 79 dX6_dependents_75 (by decide) ?_
                  refine V.eqs (st2 := [.int (bI (depB m j al i)), .int (nI c)]) ?_ (congrArg (fun z => [Value.int z, Value.int (nI c)]) ?_)
                  rotate_left
                  · rw [← i6]
                    first
                    | (refine bI_t ?_; rw [c37]; exact beq_iff_eq.mpr c71)
                    | (refine bI_f ?_; rw [c37]; exact beq_eq_false_iff_ne.mpr c71)
                    | (refine bI_f ?_; rw [if_pos c37, oN_none c43 (fun q hq => by have := i5 q hq; omega)]; rfl)
                    | (refine bI_t ?_; rw [if_pos c37]; cases o with
                       | none => exact absurd c43 (fun z => z rfl)
                       | some a => rw [show a = j from nI_inj (by have := i5 a rfl; omega) (by omega) c71]; exact rB_here)
                    | (exfalso; rw [c43] at c71; exact nI_nm1 (by omega) c71.symm)
                    | (exfalso; exact c71 c49)
                  refine v_callSi C (c_X6_flag hl (b := depB m j al i)) ys_X6_flag rfl ml_X6_232 (emb_n fix_qS) rfl rfl rfl dX6_dependents_79 (Nat.le_of_ble_eq_true rfl) (Nat.le_of_ble_eq_true rfl) (Nat.le_of_ble_eq_true rfl) (Nat.le_of_ble_eq_true rfl) (fun _ _ hu => hu.elim) (fun r u hu => ?_)
                  subst r
                  first | refine v_iaddN C dX6_dependents_82 ?_ | refine v_iadd C dX6_dependents_82 ?_
                  refine v_istore_n C (lo2 := [some _, some _, some _, some _, some _, some _]) dX6_dependents_83 rfl (Nat.le_of_ble_eq_true rfl) rfl ?_
                  first | refine v_iinc1 C (lo2 := [some _, some _, some _, some _, some _, some _]) dX6_dependents_84 rfl rfl rfl ?_ | refine v_iinc C (lo2 := [some _, some _, some _, some _, some _, some _]) dX6_dependents_84 rfl rfl rfl rfl ?_
                  refine v_goto C 15 dX6_dependents_87 (by decide) ?_
                  refine V.sub (lo2 := [some _, some _, some _, some _, some _, none]) ⟨rfl, rfl, rfl, rfl, rfl, trivial⟩ ?_
                  have hib : i < n := by omega
                  rw [cntG_s hib] at i3
                  have hfl : fl ((depB m j al) i) = (if (depB m j al) i = true then 1 else 0) := rfl
                  have hf1 : fl ((depB m j al) i) ≤ 1 := by rw [hfl]; split <;> omega
                  rw [← hfl] at i3
                  exact ih15 (i + 1, c + fl ((depB m j al) i)) (by show n - (i + 1) < n - i; omega) ⟨by show 0 ≤ i + 1; omega, by show i + 1 ≤ 200; omega, by show c + fl ((depB m j al) i) ≤ i + 1; omega, by show c + fl ((depB m j al) i) + cntG (depB m j al) (i + 1) (n - (i + 1)) = _; omega⟩
              · obtain ⟨a, ho⟩ := oN_some c43
                have eo : oN o = nI a := by rw [ho]; rfl
                rw [eo]
                have ha := i5 a ho
                have hab : ¬ a = j := fun z => c49 (by rw [eo, z])
                refine v_aload_n C dX6_dependents_52 rfl ?_
                refine v_getr C fl_X6_7 or_qS_0_3 dX6_dependents_53 ?_
                refine v_bipush (v := nI 96) C dX6_dependents_56 (by decide) ?_
                refine v_iload C dX6_dependents_58 rfl ?_
                first | refine v_iaddN C dX6_dependents_60 ?_ | refine v_iadd C dX6_dependents_60 ?_
                refine v_ialdQ (x := oN (sO m a)) C ar_qS_1 (by decide) _ ((hR.s (by omega)).trans (sO_eq hI ha)) ?_ rfl dX6_dependents_61 ?_
                · omega
                refine v_istore C (lo2 := [some _, some _, some _, some _, some _, some _]) dX6_dependents_62 rfl (Nat.le_of_ble_eq_true rfl) rfl ?_
                refine v_goto C 36 dX6_dependents_64 (by decide) ?_
                refine ih36 (sO m a) (by show rkO rk (sO m a) < rkO rk o; rw [ho]; exact rkO_s hrk ha) ⟨fun x hx => (sO_lt hI ha hx).1, ?_⟩
                rw [← i6, if_pos c37, if_pos c37, ho]
                exact (rB_next hI ha hab).symm
        refine L36 (sO m i) ⟨fun x hx => (sO_lt hI hin hx).1, ?_⟩
        cases al with
        | true => rw [if_pos rfl]; exact (dep_rB hI hin hj_j).symm
        | false => rw [if_neg Bool.false_ne_true, ← sO_eq hI hin]; rfl
    exact L15 (0, 0) ⟨Nat.le_refl _, by show 0 ≤ 200; omega, by show 0 ≤ 0; omega, Nat.zero_add _⟩
  · skip
    refine v_iconst (v := nI 0) C dX6_dependents_8 (by decide) ?_
    refine v_iret C F (by first | rfl | exact bI_nar _) dX6_dependents_9 (Nat.le_of_ble_eq_true rfl) (Nat.le_of_ble_eq_true rfl) ?_
    first
    | (rw [cntG_0 (by omega), Nat.add_zero] at i3
       refine ⟨?_, fun _ => ?_⟩
       · simp [cdL, hn0, hp_p]
       · rw [t_j]
         exact congrArg nI i3)
    | (refine ⟨?_, fun z => absurd z ?_⟩; (exact congrArg (tg g) (cd2 c5).symm); (exact fun z => absurd ((cd2 c5).symm.trans z) (nz_t c5)); done)
set_option maxHeartbeats 16000000 in
theorem c_X6_creditors {l : Launch} (hl : l.stackTraces = false) {κ : Kp} {h : Nat → Nat} {g : G} {m : Mg} {n c : Nat} (hQ : QMm n m g) (hW : WM n c m) : Ct SS MM l κ yX6_creditors cX6_creditors 5 (some FieldType.int) 2 0 0 [.ref (h 0)] (qS κ h) g ri (fun r u => u = tg g (cdL [(decide (n = 0), 1)]) ∧ (cdL [(decide (n = 0), 1)] = 0 → r = nI (cntG (crdB m n) 0 n))) (fun _ _ => False) := by
  refine Ct.of (own := RX6) (by decide) rfl hl (by intro v hv; simp only [List.mem_cons, List.not_mem_nil, or_false] at hv; first | (rcases hv with rfl | rfl | rfl | rfl | rfl | rfl <;> rfl) | (rcases hv with rfl | rfl | rfl | rfl | rfl <;> rfl) | (rcases hv with rfl | rfl | rfl | rfl <;> rfl) | (rcases hv with rfl | rfl | rfl <;> rfl) | (rcases hv with rfl | rfl <;> rfl) | (subst hv; rfl) | exact hv.elim) (Nat.le_of_ble_eq_true rfl) (fun X hxl hxk C F N => ?_)
  subst hxl hxk
  show V X (qS (xK X) h) 0 [some (.ref (h 0)), none, none, none, none] [] g 0 0
  obtain ⟨hm, hs, h96, hRR⟩ := id hQ
  obtain ⟨-, hn7, hMf⟩ := id hW
  refine v_aload_n C dX6_creditors_0 rfl ?_
  refine v_callVi C (c_X6_noMemory hl (n := n) hm) ym_X6_noMemory ml_X6_207 emb_id_qS rfl rfl rfl rfl rfl dX6_creditors_1 (Nat.le_of_ble_eq_true rfl) (Nat.le_of_ble_eq_true rfl) (Nat.le_of_ble_eq_true rfl) (Nat.le_of_ble_eq_true rfl) (fun _ _ hu => hu.elim) (fun r u hu => ?_)
  obtain ⟨rfl, hu⟩ := hu
  subst u
  refine v_if_eqB C 9 dX6_creditors_4 (by decide) (fun c4 => ?_) (fun c4 => ?_)
  · have hn0 : ¬ n = 0 := of_decide_eq_false c4
    have hR := hRR hn0
    have hMI := hMf hn0
    obtain ⟨hI, hE, hLK, hn1, hSB, hBY, hPR⟩ := id hMI
    have hbd := band_ok hSB
    have hn := hI.1
    refine V.stt (g2 := tg g 0) (by rw [c4]; rfl) ?_
    refine v_iconst (v := nI 0) C dX6_creditors_9 (by decide) ?_
    refine v_istore_n C (lo2 := [some _, some _, none, none, none]) dX6_creditors_10 rfl (Nat.le_of_ble_eq_true rfl) rfl ?_
    refine v_iconst (v := nI 0) C dX6_creditors_11 (by decide) ?_
    refine v_istore_n C (lo2 := [some _, some _, some _, none, none]) dX6_creditors_12 rfl (Nat.le_of_ble_eq_true rfl) rfl ?_
    have L13 : ∀ (t : Nat × Nat), (fun t => 0 ≤ t.1 ∧ t.1 ≤ 200 ∧ t.2 ≤ t.1 ∧ t.2 + cntG (crdB m n) t.1 (n - t.1) = cntG (crdB m n) 0 (n - 0)) t → (fun t : Nat × Nat => V X (qS (xK X) h) 13 [some (.ref (h 0)), some (.int (nI t.2)), some (.int (nI t.1)), none, none] [] (tg g 0) 0 0) t := by
      refine v_ind (fun t : Nat × Nat => n - t.1) ?_
      rintro ⟨i, c⟩ ih13 hI13
      try dsimp only at hI13 ⊢
      obtain ⟨i1, i2, i4, i3⟩ := hI13
      refine v_iload_n C dX6_creditors_13 rfl ?_
      refine v_aload_n C dX6_creditors_14 rfl ?_
      refine v_getiQ (x := nI n) C fl_X6_126 oi_qS_0_2 (hs) dX6_creditors_15 ?_
      first | refine v_icmp_geN C 78 dX6_creditors_18 (by decide) (by omega) (by omega) (fun c18 => ?_) (fun c18 => ?_) | refine v_icmp_ge C 78 dX6_creditors_18 (by decide) (fun c18 => ?_) (fun c18 => ?_)
      · refine v_iload_n C dX6_creditors_78 rfl ?_
        refine v_iret C F (by first | rfl | exact bI_nar _) dX6_creditors_79 (Nat.le_of_ble_eq_true rfl) (Nat.le_of_ble_eq_true rfl) ?_
        first
        | (rw [cntG_0 (by omega), Nat.add_zero] at i3
           refine ⟨?_, fun _ => ?_⟩
           · simp [cdL, hn0]
           · exact congrArg nI i3)
        | (refine ⟨?_, fun z => absurd z ?_⟩; (simp [cdL, hz0]); (simp [cdL, hz0]); done)
      · refine v_iconst (v := nI 0) C dX6_creditors_21 (by decide) ?_
        refine v_istore_n C (lo2 := [some _, some _, some _, some _, none]) dX6_creditors_22 rfl (Nat.le_of_ble_eq_true rfl) rfl ?_
        refine v_iconst (v := nI 0) C dX6_creditors_23 (by decide) ?_
        refine v_istore C (lo2 := [some _, some _, some _, some _, some _]) dX6_creditors_24 rfl (Nat.le_of_ble_eq_true rfl) rfl ?_
        have L26 : ∀ (t : Nat × Bool), (fun t => t.1 ≤ n ∧ (t.2 || anyG (srcB m i) t.1 (n - t.1)) = anyG (srcB m i) 0 n) t → (fun t : Nat × Bool => V X (qS (xK X) h) 26 [some (.ref (h 0)), some (.int (nI c)), some (.int (nI i)), some (.int (bI t.2)), some (.int (nI t.1))] [] (tg g 0) 0 0) t := by
          refine v_ind (fun t : Nat × Bool => n - t.1) ?_
          rintro ⟨x, bs⟩ ih26 hI26
          try dsimp only at hI26 ⊢
          obtain ⟨i5, i6⟩ := hI26
          have i6 : (bs || anyG (srcB m i) x (n - x)) = anyG (srcB m i) 0 n := i6
          refine v_iload C dX6_creditors_26 rfl ?_
          refine v_aload_n C dX6_creditors_28 rfl ?_
          refine v_getiQ (x := nI n) C fl_X6_126 oi_qS_0_2 (hs) dX6_creditors_29 ?_
          first | refine v_icmp_geN C 65 dX6_creditors_32 (by decide) (by omega) (by omega) (fun c32 => ?_) (fun c32 => ?_) | refine v_icmp_ge C 65 dX6_creditors_32 (by decide) (fun c32 => ?_) (fun c32 => ?_)
          · refine v_iload_n C dX6_creditors_65 rfl ?_
            refine v_iload_n C dX6_creditors_66 rfl ?_
            rw [show n - x = 0 by omega] at i6
            have i6 : (bs || false) = crdB m n i := i6
            rw [Bool.or_false] at i6
            rw [i6]
            refine v_callSi C (c_X6_flag hl (b := crdB m n i)) ys_X6_flag rfl ml_X6_232 (emb_n fix_qS) rfl rfl rfl dX6_creditors_67 (Nat.le_of_ble_eq_true rfl) (Nat.le_of_ble_eq_true rfl) (Nat.le_of_ble_eq_true rfl) (Nat.le_of_ble_eq_true rfl) (fun _ _ hu => hu.elim) (fun r u hu => ?_)
            subst r
            first | refine v_iaddN C dX6_creditors_70 ?_ | refine v_iadd C dX6_creditors_70 ?_
            refine v_istore_n C (lo2 := [some _, some _, some _, some _, some _]) dX6_creditors_71 rfl (Nat.le_of_ble_eq_true rfl) rfl ?_
            first | refine v_iinc1 C (lo2 := [some _, some _, some _, some _, some _]) dX6_creditors_72 rfl rfl rfl ?_ | refine v_iinc C (lo2 := [some _, some _, some _, some _, some _]) dX6_creditors_72 rfl rfl rfl rfl ?_
            refine v_goto C 13 dX6_creditors_75 (by decide) ?_
            refine V.sub (lo2 := [some _, some _, some _, none, none]) ⟨rfl, rfl, rfl, trivial⟩ ?_
            have hib : i < n := by omega
            rw [cntG_s hib] at i3
            have hfl : fl ((crdB m n) i) = (if (crdB m n) i = true then 1 else 0) := rfl
            have hf1 : fl ((crdB m n) i) ≤ 1 := by rw [hfl]; split <;> omega
            rw [← hfl] at i3
            exact ih13 (i + 1, c + fl ((crdB m n) i)) (by show n - (i + 1) < n - i; omega) ⟨by show 0 ≤ i + 1; omega, by show i + 1 ≤ 200; omega, by show c + fl ((crdB m n) i) ≤ i + 1; omega, by show c + fl ((crdB m n) i) + cntG (crdB m n) (i + 1) (n - (i + 1)) = _; omega⟩
          · refine v_iload_n C dX6_creditors_35 rfl ?_
            refine v_if_neB C 53 dX6_creditors_36 (by decide) (fun c36 => ?_) (fun c36 => ?_)
            · refine v_iconst (v := nI 1) C dX6_creditors_53 (by decide) ?_
              refine v_goto C 58 dX6_creditors_54 (by decide) ?_
              have hbx : (bs || srcB m i x) = (bs || (m 2 x == nI i)) := rfl
              refine v_istore_n C (lo2 := [some _, some _, some _, some _, some _]) dX6_creditors_58 rfl (Nat.le_of_ble_eq_true rfl) rfl ?_
              first | refine v_iinc1 C (lo2 := [some _, some _, some _, some _, some _]) dX6_creditors_59 rfl rfl rfl ?_ | refine v_iinc C (lo2 := [some _, some _, some _, some _, some _]) dX6_creditors_59 rfl rfl rfl rfl ?_
              refine v_goto C 26 dX6_creditors_62 (by decide) ?_
              have hxb : x < n := by omega
              rw [anyG_s hxb, ← Bool.or_assoc] at i6
              first
              | (have hq : (bs || srcB m i x) = true := by first | (rw [c36]; rfl) | (unfold srcB; rw [beq_iff_eq.mpr c50, Bool.or_true])
                 rw [hq] at i6
                 exact ih26 (x + 1, true) (by show n - (x + 1) < n - x; omega) ⟨by show x + 1 ≤ n; omega, i6⟩)
              | (have hq : (bs || srcB m i x) = false := by unfold srcB; rw [c36, beq_eq_false_iff_ne.mpr c50]; rfl
                 rw [hq] at i6
                 exact ih26 (x + 1, false) (by show n - (x + 1) < n - x; omega) ⟨by show x + 1 ≤ n; omega, i6⟩)
            · refine v_aload_n C dX6_creditors_39 rfl ?_
              refine v_getr C fl_X6_7 or_qS_0_3 dX6_creditors_40 ?_
              refine v_bipush (v := nI 96) C dX6_creditors_43 (by decide) ?_
              refine v_iload C dX6_creditors_45 rfl ?_
              first | refine v_iaddN C dX6_creditors_47 ?_ | refine v_iadd C dX6_creditors_47 ?_
              refine v_ialdQ (x := m 2 x) C ar_qS_1 (by decide) _ (hR.s (by omega)) ?_ rfl dX6_creditors_48 ?_
              · omega
              refine v_iload_n C dX6_creditors_49 rfl ?_
              refine v_icmp_ne C 57 dX6_creditors_50 (by decide) (fun c50 => ?_) (fun c50 => ?_)
              · refine v_iconst (v := nI 0) C dX6_creditors_57 (by decide) ?_
                have hbx : (bs || srcB m i x) = (bs || (m 2 x == nI i)) := rfl
                refine v_istore_n C (lo2 := [some _, some _, some _, some _, some _]) dX6_creditors_58 rfl (Nat.le_of_ble_eq_true rfl) rfl ?_
                first | refine v_iinc1 C (lo2 := [some _, some _, some _, some _, some _]) dX6_creditors_59 rfl rfl rfl ?_ | refine v_iinc C (lo2 := [some _, some _, some _, some _, some _]) dX6_creditors_59 rfl rfl rfl rfl ?_
                refine v_goto C 26 dX6_creditors_62 (by decide) ?_
                have hxb : x < n := by omega
                rw [anyG_s hxb, ← Bool.or_assoc] at i6
                first
                | (have hq : (bs || srcB m i x) = true := by first | (rw [c36]; rfl) | (unfold srcB; rw [beq_iff_eq.mpr c50, Bool.or_true])
                   rw [hq] at i6
                   exact ih26 (x + 1, true) (by show n - (x + 1) < n - x; omega) ⟨by show x + 1 ≤ n; omega, i6⟩)
                | (have hq : (bs || srcB m i x) = false := by unfold srcB; rw [c36, beq_eq_false_iff_ne.mpr c50]; rfl
                   rw [hq] at i6
                   exact ih26 (x + 1, false) (by show n - (x + 1) < n - x; omega) ⟨by show x + 1 ≤ n; omega, i6⟩)
              · refine v_iconst (v := nI 1) C dX6_creditors_53 (by decide) ?_
                refine v_goto C 58 dX6_creditors_54 (by decide) ?_
                have hbx : (bs || srcB m i x) = (bs || (m 2 x == nI i)) := rfl
                refine v_istore_n C (lo2 := [some _, some _, some _, some _, some _]) dX6_creditors_58 rfl (Nat.le_of_ble_eq_true rfl) rfl ?_
                first | refine v_iinc1 C (lo2 := [some _, some _, some _, some _, some _]) dX6_creditors_59 rfl rfl rfl ?_ | refine v_iinc C (lo2 := [some _, some _, some _, some _, some _]) dX6_creditors_59 rfl rfl rfl rfl ?_
                refine v_goto C 26 dX6_creditors_62 (by decide) ?_
                have hxb : x < n := by omega
                rw [anyG_s hxb, ← Bool.or_assoc] at i6
                first
                | (have hq : (bs || srcB m i x) = true := by first | (rw [c36]; rfl) | (unfold srcB; rw [beq_iff_eq.mpr c50, Bool.or_true])
                   rw [hq] at i6
                   exact ih26 (x + 1, true) (by show n - (x + 1) < n - x; omega) ⟨by show x + 1 ≤ n; omega, i6⟩)
                | (have hq : (bs || srcB m i x) = false := by unfold srcB; rw [c36, beq_eq_false_iff_ne.mpr c50]; rfl
                   rw [hq] at i6
                   exact ih26 (x + 1, false) (by show n - (x + 1) < n - x; omega) ⟨by show x + 1 ≤ n; omega, i6⟩)
        exact L26 (0, false) ⟨Nat.zero_le _, by rw [Bool.false_or]; rfl⟩
    exact L13 (0, 0) ⟨Nat.le_refl _, by show 0 ≤ 200; omega, by show 0 ≤ 0; omega, Nat.zero_add _⟩
  · have hz0 : n = 0 := of_decide_eq_true c4
    refine V.stt (g2 := tg g 1) (by rw [c4]; rfl) ?_
    refine v_iconst (v := nI 0) C dX6_creditors_7 (by decide) ?_
    refine v_iret C F (by first | rfl | exact bI_nar _) dX6_creditors_8 (Nat.le_of_ble_eq_true rfl) (Nat.le_of_ble_eq_true rfl) ?_
    first
    | (rw [cntG_0 (by omega), Nat.add_zero] at i3
       refine ⟨?_, fun _ => ?_⟩
       · simp [cdL, hn0]
       · exact congrArg nI i3)
    | (refine ⟨?_, fun z => absurd z ?_⟩; (simp [cdL, hz0]); (simp [cdL, hz0]); done)
set_option maxHeartbeats 16000000 in
theorem c_X6_stale {l : Launch} (hl : l.stackTraces = false) {κ : Kp} {h : Nat → Nat} {g : G} {m : Mg} {n c : Nat} (hQ : QMm n m g) (hW : WM n c m) : Ct SS MM l κ yX6_stale cX6_stale 3 (some FieldType.int) 3 0 0 [.ref (h 0)] (qS κ h) g ri (fun r u => u = tg g (cdL [(decide (n = 0), 1)]) ∧ (cdL [(decide (n = 0), 1)] = 0 → r = nI (cntG (stlB m) 0 n))) (fun _ _ => False) := by
  refine Ct.of (own := RX6) (by decide) rfl hl (by intro v hv; simp only [List.mem_cons, List.not_mem_nil, or_false] at hv; first | (rcases hv with rfl | rfl | rfl | rfl | rfl | rfl <;> rfl) | (rcases hv with rfl | rfl | rfl | rfl | rfl <;> rfl) | (rcases hv with rfl | rfl | rfl | rfl <;> rfl) | (rcases hv with rfl | rfl | rfl <;> rfl) | (rcases hv with rfl | rfl <;> rfl) | (subst hv; rfl) | exact hv.elim) (Nat.le_of_ble_eq_true rfl) (fun X hxl hxk C F N => ?_)
  subst hxl hxk
  show V X (qS (xK X) h) 0 [some (.ref (h 0)), none, none] [] g 0 0
  obtain ⟨hm, hs, h96, hRR⟩ := id hQ
  obtain ⟨-, hn7, hMf⟩ := id hW
  refine v_aload_n C dX6_stale_0 rfl ?_
  refine v_callVi C (c_X6_noMemory hl (n := n) hm) ym_X6_noMemory ml_X6_207 emb_id_qS rfl rfl rfl rfl rfl dX6_stale_1 (Nat.le_of_ble_eq_true rfl) (Nat.le_of_ble_eq_true rfl) (Nat.le_of_ble_eq_true rfl) (Nat.le_of_ble_eq_true rfl) (fun _ _ hu => hu.elim) (fun r u hu => ?_)
  obtain ⟨rfl, hu⟩ := hu
  subst u
  refine v_if_eqB C 9 dX6_stale_4 (by decide) (fun c4 => ?_) (fun c4 => ?_)
  · have hn0 : ¬ n = 0 := of_decide_eq_false c4
    have hR := hRR hn0
    have hMI := hMf hn0
    obtain ⟨hI, hE, hLK, hn1, hSB, hBY, hPR⟩ := id hMI
    have hbd := band_ok hSB
    have hn := hI.1
    refine V.stt (g2 := tg g 0) (by rw [c4]; rfl) ?_
    refine v_iconst (v := nI 0) C dX6_stale_9 (by decide) ?_
    refine v_istore_n C (lo2 := [some _, some _, none]) dX6_stale_10 rfl (Nat.le_of_ble_eq_true rfl) rfl ?_
    refine v_iconst (v := nI 0) C dX6_stale_11 (by decide) ?_
    refine v_istore_n C (lo2 := [some _, some _, some _]) dX6_stale_12 rfl (Nat.le_of_ble_eq_true rfl) rfl ?_
    have L13 : ∀ (t : Nat × Nat), (fun t => 0 ≤ t.1 ∧ t.1 ≤ 200 ∧ t.2 ≤ t.1 ∧ t.2 + cntG (stlB m) t.1 (n - t.1) = cntG (stlB m) 0 (n - 0)) t → (fun t : Nat × Nat => V X (qS (xK X) h) 13 [some (.ref (h 0)), some (.int (nI t.2)), some (.int (nI t.1))] [] (tg g 0) 0 0) t := by
      refine v_ind (fun t : Nat × Nat => n - t.1) ?_
      rintro ⟨i, c⟩ ih13 hI13
      try dsimp only at hI13 ⊢
      obtain ⟨i1, i2, i4, i3⟩ := hI13
      refine v_iload_n C dX6_stale_13 rfl ?_
      refine v_aload_n C dX6_stale_14 rfl ?_
      refine v_getiQ (x := nI n) C fl_X6_126 oi_qS_0_2 (hs) dX6_stale_15 ?_
      first | refine v_icmp_geN C 54 dX6_stale_18 (by decide) (by omega) (by omega) (fun c18 => ?_) (fun c18 => ?_) | refine v_icmp_ge C 54 dX6_stale_18 (by decide) (fun c18 => ?_) (fun c18 => ?_)
      · refine v_iload_n C dX6_stale_54 rfl ?_
        refine v_iret C F (by first | rfl | exact bI_nar _) dX6_stale_55 (Nat.le_of_ble_eq_true rfl) (Nat.le_of_ble_eq_true rfl) ?_
        first
        | (rw [cntG_0 (by omega), Nat.add_zero] at i3
           refine ⟨?_, fun _ => ?_⟩
           · simp [cdL, hn0]
           · exact congrArg nI i3)
        | (refine ⟨?_, fun z => absurd z ?_⟩; (simp [cdL, hz0]); (simp [cdL, hz0]); done)
      · refine v_iload_n C dX6_stale_21 rfl ?_
        refine v_aload_n C dX6_stale_22 rfl ?_
        refine v_getr C fl_X6_7 or_qS_0_3 dX6_stale_23 ?_
        refine v_iconst (v := nI 0) C dX6_stale_26 (by decide) ?_
        refine v_iload_n C dX6_stale_27 rfl ?_
        first | refine v_iaddN C dX6_stale_28 ?_ | refine v_iadd C dX6_stale_28 ?_
        refine v_ialdQ (x := m 1 i) C ar_qS_1 (by decide) _ (hR.b0 (by omega)) ?_ rfl dX6_stale_29 ?_
        · omega
        refine v_aload_n C dX6_stale_30 rfl ?_
        refine v_iload_n C dX6_stale_31 rfl ?_
        refine v_callVi C (c_X6_valueOf hl (g := tg g 0) (m := m) (n := n) hR hI (by omega)) ym_X6_valueOf ml_X6_226 emb_id_qS rfl rfl rfl rfl rfl dX6_stale_32 (Nat.le_of_ble_eq_true rfl) (Nat.le_of_ble_eq_true rfl) (Nat.le_of_ble_eq_true rfl) (Nat.le_of_ble_eq_true rfl) (fun _ _ hu => hu.elim) (fun r u hu => ?_)
        obtain ⟨rfl, hu⟩ := hu
        subst u
        refine V.stt (g2 := (tg g 0)) (rfl) ?_
        refine v_icmp_eq C 42 dX6_stale_35 (by decide) (fun c35 => ?_) (fun c35 => ?_)
        · refine v_iconst (v := nI 0) C dX6_stale_42 (by decide) ?_
          refine V.eqs (st2 := [.int (bI (stlB m i)), .int (nI c)]) ?_ (congrArg (fun z => [Value.int z, Value.int (nI c)]) (by first | exact bI_t (by unfold stlB; rw [beq_eq_false_iff_ne.mpr c35]; rfl) | exact bI_f (by unfold stlB; rw [beq_iff_eq.mpr c35]; rfl)))
          refine v_callSi C (c_X6_flag hl (b := stlB m i)) ys_X6_flag rfl ml_X6_232 (emb_n fix_qS) rfl rfl rfl dX6_stale_43 (Nat.le_of_ble_eq_true rfl) (Nat.le_of_ble_eq_true rfl) (Nat.le_of_ble_eq_true rfl) (Nat.le_of_ble_eq_true rfl) (fun _ _ hu => hu.elim) (fun r u hu => ?_)
          subst r
          first | refine v_iaddN C dX6_stale_46 ?_ | refine v_iadd C dX6_stale_46 ?_
          refine v_istore_n C (lo2 := [some _, some _, some _]) dX6_stale_47 rfl (Nat.le_of_ble_eq_true rfl) rfl ?_
          first | refine v_iinc1 C (lo2 := [some _, some _, some _]) dX6_stale_48 rfl rfl rfl ?_ | refine v_iinc C (lo2 := [some _, some _, some _]) dX6_stale_48 rfl rfl rfl rfl ?_
          refine v_goto C 13 dX6_stale_51 (by decide) ?_
          have hib : i < n := by omega
          rw [cntG_s hib] at i3
          have hfl : fl ((stlB m) i) = (if (stlB m) i = true then 1 else 0) := rfl
          have hf1 : fl ((stlB m) i) ≤ 1 := by rw [hfl]; split <;> omega
          rw [← hfl] at i3
          exact ih13 (i + 1, c + fl ((stlB m) i)) (by show n - (i + 1) < n - i; omega) ⟨by show 0 ≤ i + 1; omega, by show i + 1 ≤ 200; omega, by show c + fl ((stlB m) i) ≤ i + 1; omega, by show c + fl ((stlB m) i) + cntG (stlB m) (i + 1) (n - (i + 1)) = _; omega⟩
        · refine v_iconst (v := nI 1) C dX6_stale_38 (by decide) ?_
          refine v_goto C 43 dX6_stale_39 (by decide) ?_
          refine V.eqs (st2 := [.int (bI (stlB m i)), .int (nI c)]) ?_ (congrArg (fun z => [Value.int z, Value.int (nI c)]) (by first | exact bI_t (by unfold stlB; rw [beq_eq_false_iff_ne.mpr c35]; rfl) | exact bI_f (by unfold stlB; rw [beq_iff_eq.mpr c35]; rfl)))
          refine v_callSi C (c_X6_flag hl (b := stlB m i)) ys_X6_flag rfl ml_X6_232 (emb_n fix_qS) rfl rfl rfl dX6_stale_43 (Nat.le_of_ble_eq_true rfl) (Nat.le_of_ble_eq_true rfl) (Nat.le_of_ble_eq_true rfl) (Nat.le_of_ble_eq_true rfl) (fun _ _ hu => hu.elim) (fun r u hu => ?_)
          subst r
          first | refine v_iaddN C dX6_stale_46 ?_ | refine v_iadd C dX6_stale_46 ?_
          refine v_istore_n C (lo2 := [some _, some _, some _]) dX6_stale_47 rfl (Nat.le_of_ble_eq_true rfl) rfl ?_
          first | refine v_iinc1 C (lo2 := [some _, some _, some _]) dX6_stale_48 rfl rfl rfl ?_ | refine v_iinc C (lo2 := [some _, some _, some _]) dX6_stale_48 rfl rfl rfl rfl ?_
          refine v_goto C 13 dX6_stale_51 (by decide) ?_
          have hib : i < n := by omega
          rw [cntG_s hib] at i3
          have hfl : fl ((stlB m) i) = (if (stlB m) i = true then 1 else 0) := rfl
          have hf1 : fl ((stlB m) i) ≤ 1 := by rw [hfl]; split <;> omega
          rw [← hfl] at i3
          exact ih13 (i + 1, c + fl ((stlB m) i)) (by show n - (i + 1) < n - i; omega) ⟨by show 0 ≤ i + 1; omega, by show i + 1 ≤ 200; omega, by show c + fl ((stlB m) i) ≤ i + 1; omega, by show c + fl ((stlB m) i) + cntG (stlB m) (i + 1) (n - (i + 1)) = _; omega⟩
    exact L13 (0, 0) ⟨Nat.le_refl _, by show 0 ≤ 200; omega, by show 0 ≤ 0; omega, Nat.zero_add _⟩
  · have hz0 : n = 0 := of_decide_eq_true c4
    refine V.stt (g2 := tg g 1) (by rw [c4]; rfl) ?_
    refine v_iconst (v := nI 0) C dX6_stale_7 (by decide) ?_
    refine v_iret C F (by first | rfl | exact bI_nar _) dX6_stale_8 (Nat.le_of_ble_eq_true rfl) (Nat.le_of_ble_eq_true rfl) ?_
    first
    | (rw [cntG_0 (by omega), Nat.add_zero] at i3
       refine ⟨?_, fun _ => ?_⟩
       · simp [cdL, hn0]
       · exact congrArg nI i3)
    | (refine ⟨?_, fun z => absurd z ?_⟩; (simp [cdL, hz0]); (simp [cdL, hz0]); done)
set_option maxHeartbeats 16000000 in
theorem c_X6_sum {l : Launch} (hl : l.stackTraces = false) {κ : Kp} {h : Nat → Nat} {g : G} {m : Mg} {n c : Nat} {a b : Int32} (hQ : QMm n m g) (hW : WM n c m) : Ct SS MM l κ yX6_sum cX6_sum 5 (some FieldType.int) 4 0 0 [.ref (h 0), .int a, .int b] (qS κ h) g ri (fun r u => u = tg g (cdL [(decide (n = 0), 1), (!plB n a, 2), (!plB n b, 2), (decide (b.toInt < a.toInt), 3)]) ∧ (cdL [(decide (n = 0), 1), (!plB n a, 2), (!plB n b, 2), (decide (b.toInt < a.toInt), 3)] = 0 → r = sumV m (tN a) (tN b + 1 - tN a))) (fun _ _ => False) := by
  refine Ct.of (own := RX6) (by decide) rfl hl (by intro v hv; simp only [List.mem_cons, List.not_mem_nil, or_false] at hv; first | (rcases hv with rfl | rfl | rfl | rfl | rfl | rfl <;> rfl) | (rcases hv with rfl | rfl | rfl | rfl | rfl <;> rfl) | (rcases hv with rfl | rfl | rfl | rfl <;> rfl) | (rcases hv with rfl | rfl | rfl <;> rfl) | (rcases hv with rfl | rfl <;> rfl) | (subst hv; rfl) | exact hv.elim) (Nat.le_of_ble_eq_true rfl) (fun X hxl hxk C F N => ?_)
  subst hxl hxk
  show V X (qS (xK X) h) 0 [some (.ref (h 0)), some (.int a), some (.int b), none, none] [] g 0 0
  obtain ⟨hm, hs, h96, hRR⟩ := id hQ
  obtain ⟨-, hn7, hMf⟩ := id hW
  refine v_aload_n C dX6_sum_0 rfl ?_
  refine v_iload_n C dX6_sum_1 rfl ?_
  refine v_iload_n C dX6_sum_2 rfl ?_
  refine v_callVi C (c_X6_noRange hl (g := g) (m := m) (n := n) hQ) ym_X6_noRange ml_X6_251 emb_id_qS rfl rfl rfl rfl rfl dX6_sum_3 (Nat.le_of_ble_eq_true rfl) (Nat.le_of_ble_eq_true rfl) (Nat.le_of_ble_eq_true rfl) (Nat.le_of_ble_eq_true rfl) (fun _ _ hu => hu.elim) (fun r u hu => ?_)
  obtain ⟨rfl, hu⟩ := hu
  subst u
  refine v_if_eqB C 11 dX6_sum_6 (by decide) (fun c6 => ?_) (fun c6 => ?_)
  · have hcd := nz_f c6
    obtain ⟨hd1, hd2⟩ := cd_0 (by decide) hcd
    obtain ⟨hd2, hd3⟩ := cd_0 (by decide) hd2
    obtain ⟨hd3, hd4⟩ := cd_0 (by decide) hd3
    obtain ⟨hd4, -⟩ := cd_0 (by decide) hd4
    have hn0 : ¬ n = 0 := of_decide_eq_false hd1
    have hp_a : plB n a = true := by simpa using hd2
    have hp_b : plB n b = true := by simpa using hd3
    have hlt : ¬ b.toInt < a.toInt := of_decide_eq_false hd4
    have hR := hRR hn0
    have hMI := hMf hn0
    obtain ⟨hI, hE, hLK, hn1, hSB, hBY, hPR⟩ := id hMI
    have hbd := band_ok hSB
    have hn := hI.1
    refine V.stt (g2 := tg g 0) (by rw [hcd]) ?_
    clear hcd hd4 hd3 hd2 hd1 c6
    obtain ⟨ja, hj_ja, e_ja⟩ := pl_at hp_a
    subst e_ja
    obtain ⟨jb, hj_jb, e_jb⟩ := pl_at hp_b
    subst e_jb
    have t_ja : tN (nI ja) = ja := tN_nI (by omega)
    have t_jb : tN (nI jb) = jb := tN_nI (by omega)
    have hle := hlt
    rw [nI_toInt (by omega), nI_toInt (by omega)] at hle
    have hle : ja ≤ jb := by omega
    refine v_iconst (v := nI 0) C dX6_sum_11 (by decide) ?_
    refine v_istore_n C (lo2 := [some _, some _, some _, some _, none]) dX6_sum_12 rfl (Nat.le_of_ble_eq_true rfl) rfl ?_
    refine v_iload_n C dX6_sum_13 rfl ?_
    refine v_istore C (lo2 := [some _, some _, some _, some _, some _]) dX6_sum_14 rfl (Nat.le_of_ble_eq_true rfl) rfl ?_
    have L16 : ∀ (t : Nat × Int32), (fun t => ja ≤ t.1 ∧ t.1 ≤ jb + 1 ∧ forG (fun p (x : Int32) => x + valM m p) t.1 (jb + 1 - t.1) t.2 = sumV m ja (jb + 1 - ja)) t → (fun t : Nat × Int32 => V X (qS (xK X) h) 16 [some (.ref (h 0)), some (.int (nI ja)), some (.int (nI jb)), some (.int t.2), some (.int (nI t.1))] [] (tg g 0) 0 0) t := by
      refine v_ind (fun t : Nat × Int32 => jb + 1 - t.1) ?_
      rintro ⟨i, x⟩ ih16 hI16
      try dsimp only at hI16 ⊢
      obtain ⟨i1, i2, i3⟩ := hI16
      refine v_iload C dX6_sum_16 rfl ?_
      refine v_iload_n C dX6_sum_18 rfl ?_
      first | refine v_icmp_gtN C 37 dX6_sum_19 (by decide) (by omega) (by omega) (fun c19 => ?_) (fun c19 => ?_) | refine v_icmp_gt C 37 dX6_sum_19 (by decide) (fun c19 => ?_) (fun c19 => ?_)
      · refine v_iload_n C dX6_sum_37 rfl ?_
        refine v_iret C F (by first | rfl | exact bI_nar _) dX6_sum_38 (Nat.le_of_ble_eq_true rfl) (Nat.le_of_ble_eq_true rfl) ?_
        first
        | (rw [forG_0 (by omega)] at i3
           refine ⟨?_, fun _ => ?_⟩
           · simp [cdL, hn0, hp_a, hp_b, hlt]
           · rw [t_ja, t_jb, ← i3])
        | (refine ⟨?_, fun z => absurd z ?_⟩; (exact congrArg (tg g) (cd4 c6).symm); (exact fun z => absurd ((cd4 c6).symm.trans z) (nz_t c6)); done)
      · refine v_iload_n C dX6_sum_22 rfl ?_
        refine v_aload_n C dX6_sum_23 rfl ?_
        refine v_iload C dX6_sum_24 rfl ?_
        refine v_callVi C (c_X6_valueOf hl (g := tg g 0) (m := m) (n := n) hR hI (by omega)) ym_X6_valueOf ml_X6_226 emb_id_qS rfl rfl rfl rfl rfl dX6_sum_26 (Nat.le_of_ble_eq_true rfl) (Nat.le_of_ble_eq_true rfl) (Nat.le_of_ble_eq_true rfl) (Nat.le_of_ble_eq_true rfl) (fun _ _ hu => hu.elim) (fun r u hu => ?_)
        obtain ⟨rfl, hu⟩ := hu
        subst u
        refine V.stt (g2 := (tg g 0)) (rfl) ?_
        first | refine v_iaddN C dX6_sum_29 ?_ | refine v_iadd C dX6_sum_29 ?_
        refine v_istore_n C (lo2 := [some _, some _, some _, some _, some _]) dX6_sum_30 rfl (Nat.le_of_ble_eq_true rfl) rfl ?_
        first | refine v_iinc1 C (lo2 := [some _, some _, some _, some _, some _]) dX6_sum_31 rfl rfl rfl ?_ | refine v_iinc C (lo2 := [some _, some _, some _, some _, some _]) dX6_sum_31 rfl rfl rfl rfl ?_
        refine v_goto C 16 dX6_sum_34 (by decide) ?_
        have hib : i < jb + 1 := by omega
        rw [forG_s hib] at i3
        exact ih16 (i + 1, x + valM m i) (by show jb + 1 - (i + 1) < jb + 1 - i; omega) ⟨by show ja ≤ i + 1; omega, by show i + 1 ≤ jb + 1; omega, i3⟩
    exact L16 (ja, nI 0) ⟨Nat.le_refl _, by show ja ≤ jb + 1; omega, rfl⟩
  · skip
    refine v_iconst (v := nI 0) C dX6_sum_9 (by decide) ?_
    refine v_iret C F (by first | rfl | exact bI_nar _) dX6_sum_10 (Nat.le_of_ble_eq_true rfl) (Nat.le_of_ble_eq_true rfl) ?_
    first
    | (rw [forG_0 (by omega)] at i3
       refine ⟨?_, fun _ => ?_⟩
       · simp [cdL, hn0, hp_a, hp_b, hlt]
       · rw [t_ja, t_jb, ← i3])
    | (refine ⟨?_, fun z => absurd z ?_⟩; (exact congrArg (tg g) (cd4 c6).symm); (exact fun z => absurd ((cd4 c6).symm.trans z) (nz_t c6)); done)
set_option maxHeartbeats 16000000 in
theorem c_X6_find {l : Launch} (hl : l.stackTraces = false) {κ : Kp} {h : Nat → Nat} {g : G} {m : Mg} {n c : Nat} {v p : Int32} (hQ : QMm n m g) (hW : WM n c m) : Ct SS MM l κ yX6_find cX6_find 4 (some FieldType.int) 3 0 0 [.ref (h 0), .int v, .int p] (qS κ h) g ri (fun r u => u = tg g (cdL [(decide (n = 0), 1), (!plB n p, 2), (!inB v 0 255, 3)]) ∧ (cdL [(decide (n = 0), 1), (!plB n p, 2), (!inB v 0 255, 3)] = 0 → r = oN (fstG (vlB m v) (tN p) (n - tN p)))) (fun _ _ => False) := by
  refine Ct.of (own := RX6) (by decide) rfl hl (by intro v hv; simp only [List.mem_cons, List.not_mem_nil, or_false] at hv; first | (rcases hv with rfl | rfl | rfl | rfl | rfl | rfl <;> rfl) | (rcases hv with rfl | rfl | rfl | rfl | rfl <;> rfl) | (rcases hv with rfl | rfl | rfl | rfl <;> rfl) | (rcases hv with rfl | rfl | rfl <;> rfl) | (rcases hv with rfl | rfl <;> rfl) | (subst hv; rfl) | exact hv.elim) (Nat.le_of_ble_eq_true rfl) (fun X hxl hxk C F N => ?_)
  subst hxl hxk
  show V X (qS (xK X) h) 0 [some (.ref (h 0)), some (.int v), some (.int p), none] [] g 0 0
  obtain ⟨hm, hs, h96, hRR⟩ := id hQ
  obtain ⟨-, hn7, hMf⟩ := id hW
  refine v_aload_n C dX6_find_0 rfl ?_
  refine v_iload_n C dX6_find_1 rfl ?_
  refine v_callVi C (c_X6_noPlace hl (g := g) (m := m) (n := n) hQ) ym_X6_noPlace ml_X6_223 emb_id_qS rfl rfl rfl rfl rfl dX6_find_2 (Nat.le_of_ble_eq_true rfl) (Nat.le_of_ble_eq_true rfl) (Nat.le_of_ble_eq_true rfl) (Nat.le_of_ble_eq_true rfl) (fun _ _ hu => hu.elim) (fun r u hu => ?_)
  obtain ⟨rfl, hu⟩ := hu
  subst u
  refine v_if_neB C 32 dX6_find_5 (by decide) (fun c5 => ?_) (fun c5 => ?_)
  · skip
    refine v_iconst (v := nI 0) C dX6_find_32 (by decide) ?_
    refine v_iret C F (by first | rfl | exact bI_nar _) dX6_find_33 (Nat.le_of_ble_eq_true rfl) (Nat.le_of_ble_eq_true rfl) ?_
    first
    | (refine ⟨?_, fun _ => ?_⟩
       simp [cdL, hn0, hp_p, c29]
       rw [t_j]
       first
       | (exfalso; omega)
       | (have hib : i < n := by omega
          have hf : (vlB m v) i = true := by
            exact beq_iff_eq.mpr c50
          rw [fstG_s hib, hf, if_pos rfl] at i3
          rw [← i3]; rfl)
       | (rw [fstG_0 (by omega)] at i3
          rw [← i3]; rfl))
    | (refine ⟨?_, fun z => absurd z ?_⟩; (exact congrArg (tg g) (cd2 c5).symm); (exact fun z => absurd ((cd2 c5).symm.trans z) (nz_t c5)); done)
    | (refine ⟨?_, fun z => absurd z ?_⟩; (simp [cdL, hn0, hp_p, c29]); (simp [cdL, hn0, hp_p, c29]); done)
  · have hcd := nz_f c5
    obtain ⟨hd1, hd2⟩ := cd_0 (by decide) hcd
    obtain ⟨hd2, -⟩ := cd_0 (by decide) hd2
    have hn0 : ¬ n = 0 := of_decide_eq_false hd1
    have hp_p : plB n p = true := by simpa using hd2
    have hR := hRR hn0
    have hMI := hMf hn0
    obtain ⟨hI, hE, hLK, hn1, hSB, hBY, hPR⟩ := id hMI
    have hbd := band_ok hSB
    have hn := hI.1
    refine V.stt (g2 := tg g 0) (by rw [hcd]) ?_
    clear hcd hd2 hd1 c5
    obtain ⟨j, hj_j, e_j⟩ := pl_at hp_p
    subst e_j
    have t_j : tN (nI j) = j := tN_nI (by omega)
    refine v_aload_n C dX6_find_8 rfl ?_
    refine v_iload_n C dX6_find_9 rfl ?_
    refine v_iconst (v := nI 0) C dX6_find_10 (by decide) ?_
    refine v_sipush (v := nI 255) C dX6_find_11 (by decide) ?_
    refine v_callSi C (c_X6_in hl (v := v) (a := 0) (b := 255) (by decide) (by decide)) ys_X6_in rfl ml_X6_98 (emb_n fix_qS) rfl rfl rfl dX6_find_14 (Nat.le_of_ble_eq_true rfl) (Nat.le_of_ble_eq_true rfl) (Nat.le_of_ble_eq_true rfl) (Nat.le_of_ble_eq_true rfl) (fun _ _ hu => hu.elim) (fun r u hu => ?_)
    subst r
    refine v_if_neB C 24 dX6_find_17 (by decide) (fun c17 => ?_) (fun c17 => ?_)
    · refine v_iconst (v := nI 0) C dX6_find_24 (by decide) ?_
      refine V.eqs (st2 := [.int (bI (!inB v 0 255)), .ref (h 0)]) ?_ (congrArg (fun z => [Value.int z, Value.ref (h 0)]) (by first | exact bI_t (by simp [c17]) | exact bI_f (by simp [c17])))
      refine v_iconst (v := nI 3) C dX6_find_25 (by decide) ?_
      refine v_callVi C (c_X6_refuse hl (b := !inB v 0 255) (k := 3) (by decide) (by decide)) ym_X6_refuse ml_X6_40 emb_id_qS rfl rfl rfl rfl rfl dX6_find_26 (Nat.le_of_ble_eq_true rfl) (Nat.le_of_ble_eq_true rfl) (Nat.le_of_ble_eq_true rfl) (Nat.le_of_ble_eq_true rfl) (fun _ _ hu => hu.elim) (fun r u hu => ?_)
      obtain ⟨rfl, hu⟩ := hu
      subst u
      refine v_if_eqB C 34 dX6_find_29 (by decide) (fun c29 => ?_) (fun c29 => ?_)
      · refine V.stt (g2 := tg g 0) (by rw [c29]; rfl) ?_
        refine v_iload_n C dX6_find_34 rfl ?_
        refine v_istore_n C (lo2 := [some _, some _, some _, some _]) dX6_find_35 rfl (Nat.le_of_ble_eq_true rfl) rfl ?_
        have L36 : ∀ (t : Nat), (fun t => j ≤ t ∧ t ≤ n ∧ fstG (vlB m v) t (n - t) = fstG (vlB m v) j (n - j)) t → (fun t : Nat => V X (qS (xK X) h) 36 [some (.ref (h 0)), some (.int v), some (.int (nI j)), some (.int (nI t))] [] (tg g 0) 0 0) t := by
          refine v_ind (fun t : Nat => n - t) ?_
          rintro i ih36 hI36
          try dsimp only at hI36 ⊢
          obtain ⟨i1, i2, i3⟩ := hI36
          refine v_iload_n C dX6_find_36 rfl ?_
          refine v_aload_n C dX6_find_37 rfl ?_
          refine v_getiQ (x := nI n) C fl_X6_126 oi_qS_0_2 (hs) dX6_find_38 ?_
          first | refine v_icmp_geN C 59 dX6_find_41 (by decide) (by omega) (by omega) (fun c41 => ?_) (fun c41 => ?_) | refine v_icmp_ge C 59 dX6_find_41 (by decide) (fun c41 => ?_) (fun c41 => ?_)
          · refine v_iload_n C dX6_find_59 rfl ?_
            refine v_aload_n C dX6_find_60 rfl ?_
            refine v_getiQ (x := nI n) C fl_X6_126 oi_qS_0_2 (hs) dX6_find_61 ?_
            first | refine v_icmp_neN C 71 dX6_find_64 (by decide) (by omega) (by omega) (fun c64 => ?_) (fun c64 => ?_) | refine v_icmp_ne C 71 dX6_find_64 (by decide) (fun c64 => ?_) (fun c64 => ?_)
            · refine v_iload_n C dX6_find_71 rfl ?_
              refine v_iret C F (by first | rfl | exact bI_nar _) dX6_find_72 (Nat.le_of_ble_eq_true rfl) (Nat.le_of_ble_eq_true rfl) ?_
              first
              | (refine ⟨?_, fun _ => ?_⟩
                 simp [cdL, hn0, hp_p, c29]
                 rw [t_j]
                 first
                 | (exfalso; omega)
                 | (have hib : i < n := by omega
                    have hf : (vlB m v) i = true := by
                      exact beq_iff_eq.mpr c50
                    rw [fstG_s hib, hf, if_pos rfl] at i3
                    rw [← i3]; rfl)
                 | (rw [fstG_0 (by omega)] at i3
                    rw [← i3]; rfl))
              | (refine ⟨?_, fun z => absurd z ?_⟩; (exact congrArg (tg g) (cd2 c5).symm); (exact fun z => absurd ((cd2 c5).symm.trans z) (nz_t c5)); done)
              | (refine ⟨?_, fun z => absurd z ?_⟩; (simp [cdL, hn0, hp_p, c29]); (simp [cdL, hn0, hp_p, c29]); done)
            · refine v_iconst (v := (-1)) C dX6_find_67 (by decide) ?_
              refine v_goto C 72 dX6_find_68 (by decide) ?_
              refine v_iret C F (by first | rfl | exact bI_nar _) dX6_find_72 (Nat.le_of_ble_eq_true rfl) (Nat.le_of_ble_eq_true rfl) ?_
              first
              | (refine ⟨?_, fun _ => ?_⟩
                 simp [cdL, hn0, hp_p, c29]
                 rw [t_j]
                 first
                 | (exfalso; omega)
                 | (have hib : i < n := by omega
                    have hf : (vlB m v) i = true := by
                      exact beq_iff_eq.mpr c50
                    rw [fstG_s hib, hf, if_pos rfl] at i3
                    rw [← i3]; rfl)
                 | (rw [fstG_0 (by omega)] at i3
                    rw [← i3]; rfl))
              | (refine ⟨?_, fun z => absurd z ?_⟩; (exact congrArg (tg g) (cd2 c5).symm); (exact fun z => absurd ((cd2 c5).symm.trans z) (nz_t c5)); done)
              | (refine ⟨?_, fun z => absurd z ?_⟩; (simp [cdL, hn0, hp_p, c29]); (simp [cdL, hn0, hp_p, c29]); done)
          · refine v_aload_n C dX6_find_44 rfl ?_
            refine v_iload_n C dX6_find_45 rfl ?_
            refine v_callVi C (c_X6_valueOf hl (g := tg g 0) (m := m) (n := n) hR hI (by omega)) ym_X6_valueOf ml_X6_226 emb_id_qS rfl rfl rfl rfl rfl dX6_find_46 (Nat.le_of_ble_eq_true rfl) (Nat.le_of_ble_eq_true rfl) (Nat.le_of_ble_eq_true rfl) (Nat.le_of_ble_eq_true rfl) (fun _ _ hu => hu.elim) (fun r u hu => ?_)
            obtain ⟨rfl, hu⟩ := hu
            subst u
            refine V.stt (g2 := (tg g 0)) (rfl) ?_
            refine v_iload_n C dX6_find_49 rfl ?_
            refine v_icmp_eq C 59 dX6_find_50 (by decide) (fun c50 => ?_) (fun c50 => ?_)
            · refine v_iload_n C dX6_find_59 rfl ?_
              refine v_aload_n C dX6_find_60 rfl ?_
              refine v_getiQ (x := nI n) C fl_X6_126 oi_qS_0_2 (hs) dX6_find_61 ?_
              first | refine v_icmp_neN C 71 dX6_find_64 (by decide) (by omega) (by omega) (fun c64 => ?_) (fun c64 => ?_) | refine v_icmp_ne C 71 dX6_find_64 (by decide) (fun c64 => ?_) (fun c64 => ?_)
              · refine v_iload_n C dX6_find_71 rfl ?_
                refine v_iret C F (by first | rfl | exact bI_nar _) dX6_find_72 (Nat.le_of_ble_eq_true rfl) (Nat.le_of_ble_eq_true rfl) ?_
                first
                | (refine ⟨?_, fun _ => ?_⟩
                   simp [cdL, hn0, hp_p, c29]
                   rw [t_j]
                   first
                   | (exfalso; omega)
                   | (have hib : i < n := by omega
                      have hf : (vlB m v) i = true := by
                        exact beq_iff_eq.mpr c50
                      rw [fstG_s hib, hf, if_pos rfl] at i3
                      rw [← i3]; rfl)
                   | (rw [fstG_0 (by omega)] at i3
                      rw [← i3]; rfl))
                | (refine ⟨?_, fun z => absurd z ?_⟩; (exact congrArg (tg g) (cd2 c5).symm); (exact fun z => absurd ((cd2 c5).symm.trans z) (nz_t c5)); done)
                | (refine ⟨?_, fun z => absurd z ?_⟩; (simp [cdL, hn0, hp_p, c29]); (simp [cdL, hn0, hp_p, c29]); done)
              · refine v_iconst (v := (-1)) C dX6_find_67 (by decide) ?_
                refine v_goto C 72 dX6_find_68 (by decide) ?_
                refine v_iret C F (by first | rfl | exact bI_nar _) dX6_find_72 (Nat.le_of_ble_eq_true rfl) (Nat.le_of_ble_eq_true rfl) ?_
                first
                | (refine ⟨?_, fun _ => ?_⟩
                   simp [cdL, hn0, hp_p, c29]
                   rw [t_j]
                   first
                   | (exfalso; omega)
                   | (have hib : i < n := by omega
                      have hf : (vlB m v) i = true := by
                        exact beq_iff_eq.mpr c50
                      rw [fstG_s hib, hf, if_pos rfl] at i3
                      rw [← i3]; rfl)
                   | (rw [fstG_0 (by omega)] at i3
                      rw [← i3]; rfl))
                | (refine ⟨?_, fun z => absurd z ?_⟩; (exact congrArg (tg g) (cd2 c5).symm); (exact fun z => absurd ((cd2 c5).symm.trans z) (nz_t c5)); done)
                | (refine ⟨?_, fun z => absurd z ?_⟩; (simp [cdL, hn0, hp_p, c29]); (simp [cdL, hn0, hp_p, c29]); done)
            · first | refine v_iinc1 C (lo2 := [some _, some _, some _, some _]) dX6_find_53 rfl rfl rfl ?_ | refine v_iinc C (lo2 := [some _, some _, some _, some _]) dX6_find_53 rfl rfl rfl rfl ?_
              refine v_goto C 36 dX6_find_56 (by decide) ?_
              have hib : i < n := by omega
              have hf : (vlB m v) i = false := by
                exact beq_eq_false_iff_ne.mpr c50
              rw [fstG_s hib, hf, if_neg Bool.false_ne_true] at i3
              exact ih36 (i + 1) (by show n - (i + 1) < n - i; omega) ⟨by omega, by omega, i3⟩
        exact L36 (j) ⟨Nat.le_refl _, by omega, rfl⟩
      · refine V.stt (g2 := tg g 3) (by rw [c29]; rfl) ?_
        refine v_iconst (v := nI 0) C dX6_find_32 (by decide) ?_
        refine v_iret C F (by first | rfl | exact bI_nar _) dX6_find_33 (Nat.le_of_ble_eq_true rfl) (Nat.le_of_ble_eq_true rfl) ?_
        first
        | (refine ⟨?_, fun _ => ?_⟩
           simp [cdL, hn0, hp_p, c29]
           rw [t_j]
           first
           | (exfalso; omega)
           | (have hib : i < n := by omega
              have hf : (vlB m v) i = true := by
                exact beq_iff_eq.mpr c50
              rw [fstG_s hib, hf, if_pos rfl] at i3
              rw [← i3]; rfl)
           | (rw [fstG_0 (by omega)] at i3
              rw [← i3]; rfl))
        | (refine ⟨?_, fun z => absurd z ?_⟩; (exact congrArg (tg g) (cd2 c5).symm); (exact fun z => absurd ((cd2 c5).symm.trans z) (nz_t c5)); done)
        | (refine ⟨?_, fun z => absurd z ?_⟩; (simp [cdL, hn0, hp_p, c29]); (simp [cdL, hn0, hp_p, c29]); done)
    · refine v_iconst (v := nI 1) C dX6_find_20 (by decide) ?_
      refine v_goto C 25 dX6_find_21 (by decide) ?_
      refine V.eqs (st2 := [.int (bI (!inB v 0 255)), .ref (h 0)]) ?_ (congrArg (fun z => [Value.int z, Value.ref (h 0)]) (by first | exact bI_t (by simp [c17]) | exact bI_f (by simp [c17])))
      refine v_iconst (v := nI 3) C dX6_find_25 (by decide) ?_
      refine v_callVi C (c_X6_refuse hl (b := !inB v 0 255) (k := 3) (by decide) (by decide)) ym_X6_refuse ml_X6_40 emb_id_qS rfl rfl rfl rfl rfl dX6_find_26 (Nat.le_of_ble_eq_true rfl) (Nat.le_of_ble_eq_true rfl) (Nat.le_of_ble_eq_true rfl) (Nat.le_of_ble_eq_true rfl) (fun _ _ hu => hu.elim) (fun r u hu => ?_)
      obtain ⟨rfl, hu⟩ := hu
      subst u
      refine v_if_eqB C 34 dX6_find_29 (by decide) (fun c29 => ?_) (fun c29 => ?_)
      · refine V.stt (g2 := tg g 0) (by rw [c29]; rfl) ?_
        refine v_iload_n C dX6_find_34 rfl ?_
        refine v_istore_n C (lo2 := [some _, some _, some _, some _]) dX6_find_35 rfl (Nat.le_of_ble_eq_true rfl) rfl ?_
        have L36 : ∀ (t : Nat), (fun t => j ≤ t ∧ t ≤ n ∧ fstG (vlB m v) t (n - t) = fstG (vlB m v) j (n - j)) t → (fun t : Nat => V X (qS (xK X) h) 36 [some (.ref (h 0)), some (.int v), some (.int (nI j)), some (.int (nI t))] [] (tg g 0) 0 0) t := by
          refine v_ind (fun t : Nat => n - t) ?_
          rintro i ih36 hI36
          try dsimp only at hI36 ⊢
          obtain ⟨i1, i2, i3⟩ := hI36
          refine v_iload_n C dX6_find_36 rfl ?_
          refine v_aload_n C dX6_find_37 rfl ?_
          refine v_getiQ (x := nI n) C fl_X6_126 oi_qS_0_2 (hs) dX6_find_38 ?_
          first | refine v_icmp_geN C 59 dX6_find_41 (by decide) (by omega) (by omega) (fun c41 => ?_) (fun c41 => ?_) | refine v_icmp_ge C 59 dX6_find_41 (by decide) (fun c41 => ?_) (fun c41 => ?_)
          · refine v_iload_n C dX6_find_59 rfl ?_
            refine v_aload_n C dX6_find_60 rfl ?_
            refine v_getiQ (x := nI n) C fl_X6_126 oi_qS_0_2 (hs) dX6_find_61 ?_
            first | refine v_icmp_neN C 71 dX6_find_64 (by decide) (by omega) (by omega) (fun c64 => ?_) (fun c64 => ?_) | refine v_icmp_ne C 71 dX6_find_64 (by decide) (fun c64 => ?_) (fun c64 => ?_)
            · refine v_iload_n C dX6_find_71 rfl ?_
              refine v_iret C F (by first | rfl | exact bI_nar _) dX6_find_72 (Nat.le_of_ble_eq_true rfl) (Nat.le_of_ble_eq_true rfl) ?_
              first
              | (refine ⟨?_, fun _ => ?_⟩
                 simp [cdL, hn0, hp_p, c29]
                 rw [t_j]
                 first
                 | (exfalso; omega)
                 | (have hib : i < n := by omega
                    have hf : (vlB m v) i = true := by
                      exact beq_iff_eq.mpr c50
                    rw [fstG_s hib, hf, if_pos rfl] at i3
                    rw [← i3]; rfl)
                 | (rw [fstG_0 (by omega)] at i3
                    rw [← i3]; rfl))
              | (refine ⟨?_, fun z => absurd z ?_⟩; (exact congrArg (tg g) (cd2 c5).symm); (exact fun z => absurd ((cd2 c5).symm.trans z) (nz_t c5)); done)
              | (refine ⟨?_, fun z => absurd z ?_⟩; (simp [cdL, hn0, hp_p, c29]); (simp [cdL, hn0, hp_p, c29]); done)
            · refine v_iconst (v := (-1)) C dX6_find_67 (by decide) ?_
              refine v_goto C 72 dX6_find_68 (by decide) ?_
              refine v_iret C F (by first | rfl | exact bI_nar _) dX6_find_72 (Nat.le_of_ble_eq_true rfl) (Nat.le_of_ble_eq_true rfl) ?_
              first
              | (refine ⟨?_, fun _ => ?_⟩
                 simp [cdL, hn0, hp_p, c29]
                 rw [t_j]
                 first
                 | (exfalso; omega)
                 | (have hib : i < n := by omega
                    have hf : (vlB m v) i = true := by
                      exact beq_iff_eq.mpr c50
                    rw [fstG_s hib, hf, if_pos rfl] at i3
                    rw [← i3]; rfl)
                 | (rw [fstG_0 (by omega)] at i3
                    rw [← i3]; rfl))
              | (refine ⟨?_, fun z => absurd z ?_⟩; (exact congrArg (tg g) (cd2 c5).symm); (exact fun z => absurd ((cd2 c5).symm.trans z) (nz_t c5)); done)
              | (refine ⟨?_, fun z => absurd z ?_⟩; (simp [cdL, hn0, hp_p, c29]); (simp [cdL, hn0, hp_p, c29]); done)
          · refine v_aload_n C dX6_find_44 rfl ?_
            refine v_iload_n C dX6_find_45 rfl ?_
            refine v_callVi C (c_X6_valueOf hl (g := tg g 0) (m := m) (n := n) hR hI (by omega)) ym_X6_valueOf ml_X6_226 emb_id_qS rfl rfl rfl rfl rfl dX6_find_46 (Nat.le_of_ble_eq_true rfl) (Nat.le_of_ble_eq_true rfl) (Nat.le_of_ble_eq_true rfl) (Nat.le_of_ble_eq_true rfl) (fun _ _ hu => hu.elim) (fun r u hu => ?_)
            obtain ⟨rfl, hu⟩ := hu
            subst u
            refine V.stt (g2 := (tg g 0)) (rfl) ?_
            refine v_iload_n C dX6_find_49 rfl ?_
            refine v_icmp_eq C 59 dX6_find_50 (by decide) (fun c50 => ?_) (fun c50 => ?_)
            · refine v_iload_n C dX6_find_59 rfl ?_
              refine v_aload_n C dX6_find_60 rfl ?_
              refine v_getiQ (x := nI n) C fl_X6_126 oi_qS_0_2 (hs) dX6_find_61 ?_
              first | refine v_icmp_neN C 71 dX6_find_64 (by decide) (by omega) (by omega) (fun c64 => ?_) (fun c64 => ?_) | refine v_icmp_ne C 71 dX6_find_64 (by decide) (fun c64 => ?_) (fun c64 => ?_)
              · refine v_iload_n C dX6_find_71 rfl ?_
                refine v_iret C F (by first | rfl | exact bI_nar _) dX6_find_72 (Nat.le_of_ble_eq_true rfl) (Nat.le_of_ble_eq_true rfl) ?_
                first
                | (refine ⟨?_, fun _ => ?_⟩
                   simp [cdL, hn0, hp_p, c29]
                   rw [t_j]
                   first
                   | (exfalso; omega)
                   | (have hib : i < n := by omega
                      have hf : (vlB m v) i = true := by
                        exact beq_iff_eq.mpr c50
                      rw [fstG_s hib, hf, if_pos rfl] at i3
                      rw [← i3]; rfl)
                   | (rw [fstG_0 (by omega)] at i3
                      rw [← i3]; rfl))
                | (refine ⟨?_, fun z => absurd z ?_⟩; (exact congrArg (tg g) (cd2 c5).symm); (exact fun z => absurd ((cd2 c5).symm.trans z) (nz_t c5)); done)
                | (refine ⟨?_, fun z => absurd z ?_⟩; (simp [cdL, hn0, hp_p, c29]); (simp [cdL, hn0, hp_p, c29]); done)
              · refine v_iconst (v := (-1)) C dX6_find_67 (by decide) ?_
                refine v_goto C 72 dX6_find_68 (by decide) ?_
                refine v_iret C F (by first | rfl | exact bI_nar _) dX6_find_72 (Nat.le_of_ble_eq_true rfl) (Nat.le_of_ble_eq_true rfl) ?_
                first
                | (refine ⟨?_, fun _ => ?_⟩
                   simp [cdL, hn0, hp_p, c29]
                   rw [t_j]
                   first
                   | (exfalso; omega)
                   | (have hib : i < n := by omega
                      have hf : (vlB m v) i = true := by
                        exact beq_iff_eq.mpr c50
                      rw [fstG_s hib, hf, if_pos rfl] at i3
                      rw [← i3]; rfl)
                   | (rw [fstG_0 (by omega)] at i3
                      rw [← i3]; rfl))
                | (refine ⟨?_, fun z => absurd z ?_⟩; (exact congrArg (tg g) (cd2 c5).symm); (exact fun z => absurd ((cd2 c5).symm.trans z) (nz_t c5)); done)
                | (refine ⟨?_, fun z => absurd z ?_⟩; (simp [cdL, hn0, hp_p, c29]); (simp [cdL, hn0, hp_p, c29]); done)
            · first | refine v_iinc1 C (lo2 := [some _, some _, some _, some _]) dX6_find_53 rfl rfl rfl ?_ | refine v_iinc C (lo2 := [some _, some _, some _, some _]) dX6_find_53 rfl rfl rfl rfl ?_
              refine v_goto C 36 dX6_find_56 (by decide) ?_
              have hib : i < n := by omega
              have hf : (vlB m v) i = false := by
                exact beq_eq_false_iff_ne.mpr c50
              rw [fstG_s hib, hf, if_neg Bool.false_ne_true] at i3
              exact ih36 (i + 1) (by show n - (i + 1) < n - i; omega) ⟨by omega, by omega, i3⟩
        exact L36 (j) ⟨Nat.le_refl _, by omega, rfl⟩
      · refine V.stt (g2 := tg g 3) (by rw [c29]; rfl) ?_
        refine v_iconst (v := nI 0) C dX6_find_32 (by decide) ?_
        refine v_iret C F (by first | rfl | exact bI_nar _) dX6_find_33 (Nat.le_of_ble_eq_true rfl) (Nat.le_of_ble_eq_true rfl) ?_
        first
        | (refine ⟨?_, fun _ => ?_⟩
           simp [cdL, hn0, hp_p, c29]
           rw [t_j]
           first
           | (exfalso; omega)
           | (have hib : i < n := by omega
              have hf : (vlB m v) i = true := by
                exact beq_iff_eq.mpr c50
              rw [fstG_s hib, hf, if_pos rfl] at i3
              rw [← i3]; rfl)
           | (rw [fstG_0 (by omega)] at i3
              rw [← i3]; rfl))
        | (refine ⟨?_, fun z => absurd z ?_⟩; (exact congrArg (tg g) (cd2 c5).symm); (exact fun z => absurd ((cd2 c5).symm.trans z) (nz_t c5)); done)
        | (refine ⟨?_, fun z => absurd z ?_⟩; (simp [cdL, hn0, hp_p, c29]); (simp [cdL, hn0, hp_p, c29]); done)
set_option maxHeartbeats 16000000 in
theorem c_X6_checksum {l : Launch} (hl : l.stackTraces = false) {κ : Kp} {h : Nat → Nat} {g : G} {m : Mg} {n c : Nat} (hQ : QMm n m g) (hW : WM n c m) : Ct SS MM l κ yX6_checksum cX6_checksum 4 (some FieldType.long) 3 0 0 [.ref (h 0)] (qS κ h) g rl (fun r u => u = tg g (cdL [(decide (n = 0), 1)]) ∧ (cdL [(decide (n = 0), 1)] = 0 → r = chkV m n)) (fun _ _ => False) := by
  refine Ct.of (own := RX6) (by decide) rfl hl (by intro v hv; simp only [List.mem_cons, List.not_mem_nil, or_false] at hv; first | (rcases hv with rfl | rfl | rfl | rfl | rfl | rfl <;> rfl) | (rcases hv with rfl | rfl | rfl | rfl | rfl <;> rfl) | (rcases hv with rfl | rfl | rfl | rfl <;> rfl) | (rcases hv with rfl | rfl | rfl <;> rfl) | (rcases hv with rfl | rfl <;> rfl) | (subst hv; rfl) | exact hv.elim) (Nat.le_of_ble_eq_true rfl) (fun X hxl hxk C F N => ?_)
  subst hxl hxk
  show V X (qS (xK X) h) 0 [some (.ref (h 0)), none, none, none] [] g 0 0
  obtain ⟨hm, hs, h96, hRR⟩ := id hQ
  obtain ⟨-, hn7, hMf⟩ := id hW
  refine v_aload_n C dX6_checksum_0 rfl ?_
  refine v_callVi C (c_X6_noMemory hl (n := n) hm) ym_X6_noMemory ml_X6_207 emb_id_qS rfl rfl rfl rfl rfl dX6_checksum_1 (Nat.le_of_ble_eq_true rfl) (Nat.le_of_ble_eq_true rfl) (Nat.le_of_ble_eq_true rfl) (Nat.le_of_ble_eq_true rfl) (fun _ _ hu => hu.elim) (fun r u hu => ?_)
  obtain ⟨rfl, hu⟩ := hu
  subst u
  refine v_if_eqB C 9 dX6_checksum_4 (by decide) (fun c4 => ?_) (fun c4 => ?_)
  · have hn0 : ¬ n = 0 := of_decide_eq_false c4
    have hR := hRR hn0
    have hMI := hMf hn0
    obtain ⟨hI, hE, hLK, hn1, hSB, hBY, hPR⟩ := id hMI
    have hbd := band_ok hSB
    have hn := hI.1
    refine V.stt (g2 := tg g 0) (by rw [c4]; rfl) ?_
    refine v_ldc2 (v := 17) C (TT_t 1618 (by decide +kernel) (by decide +kernel)) dX6_checksum_9 ?_
    refine v_lstore_n C (lo2 := [some _, some _, none, none]) dX6_checksum_12 rfl (Nat.le_of_ble_eq_true rfl) rfl ?_
    refine v_iconst (v := nI 0) C dX6_checksum_13 (by decide) ?_
    refine v_istore_n C (lo2 := [some _, some _, none, some _]) dX6_checksum_14 rfl (Nat.le_of_ble_eq_true rfl) rfl ?_
    have L15 : ∀ (t : Nat × Int64), (fun t => t.1 ≤ n ∧ forG (fun p (x : Int64) => x * 31 + (valM m p).toInt64) t.1 (n - t.1) t.2 = chkV m n) t → (fun t : Nat × Int64 => V X (qS (xK X) h) 15 [some (.ref (h 0)), some (.long t.2), none, some (.int (nI t.1))] [] (tg g 0) 0 0) t := by
      refine v_ind (fun t : Nat × Int64 => n - t.1) ?_
      rintro ⟨i, x⟩ ih15 hI15
      try dsimp only at hI15 ⊢
      obtain ⟨i1, i3⟩ := hI15
      refine v_iload_n C dX6_checksum_15 rfl ?_
      refine v_aload_n C dX6_checksum_16 rfl ?_
      refine v_getiQ (x := nI n) C fl_X6_126 oi_qS_0_2 (hs) dX6_checksum_17 ?_
      first | refine v_icmp_geN C 42 dX6_checksum_20 (by decide) (by omega) (by omega) (fun c20 => ?_) (fun c20 => ?_) | refine v_icmp_ge C 42 dX6_checksum_20 (by decide) (fun c20 => ?_) (fun c20 => ?_)
      · refine v_lload_n C dX6_checksum_42 rfl ?_
        refine v_lret C F dX6_checksum_43 (Nat.le_of_ble_eq_true rfl) (Nat.le_of_ble_eq_true rfl) ?_
        first
        | (rw [forG_0 (by omega)] at i3
           refine ⟨?_, fun _ => ?_⟩
           · simp [cdL, hn0]
           · rw [← i3])
        | (refine ⟨?_, fun z => absurd z ?_⟩; (simp [cdL, hz0]); (simp [cdL, hz0]); done)
      · refine v_ldc2 (v := 31) C (TT_t 1619 (by decide +kernel) (by decide +kernel)) dX6_checksum_23 ?_
        refine v_lload_n C dX6_checksum_26 rfl ?_
        refine v_lmul C dX6_checksum_27 ?_
        refine v_aload_n C dX6_checksum_28 rfl ?_
        refine v_iload_n C dX6_checksum_29 rfl ?_
        refine v_callVi C (c_X6_valueOf hl (g := tg g 0) (m := m) (n := n) hR hI (by omega)) ym_X6_valueOf ml_X6_226 emb_id_qS rfl rfl rfl rfl rfl dX6_checksum_30 (Nat.le_of_ble_eq_true rfl) (Nat.le_of_ble_eq_true rfl) (Nat.le_of_ble_eq_true rfl) (Nat.le_of_ble_eq_true rfl) (fun _ _ hu => hu.elim) (fun r u hu => ?_)
        obtain ⟨rfl, hu⟩ := hu
        subst u
        refine V.stt (g2 := (tg g 0)) (rfl) ?_
        refine v_i2l C dX6_checksum_33 rfl ?_
        refine v_ladd C dX6_checksum_34 ?_
        refine v_lstore_n C (lo2 := [some _, some _, none, some _]) dX6_checksum_35 rfl (Nat.le_of_ble_eq_true rfl) rfl ?_
        first | refine v_iinc1 C (lo2 := [some _, some _, none, some _]) dX6_checksum_36 rfl rfl rfl ?_ | refine v_iinc C (lo2 := [some _, some _, none, some _]) dX6_checksum_36 rfl rfl rfl rfl ?_
        refine v_goto C 15 dX6_checksum_39 (by decide) ?_
        have hib : i < n := by omega
        rw [forG_s hib] at i3
        rw [Int64.mul_comm]
        exact ih15 (i + 1, x * 31 + (valM m i).toInt64) (by show n - (i + 1) < n - i; omega) ⟨by show i + 1 ≤ n; omega, i3⟩
    exact L15 (0, 17) ⟨Nat.zero_le _, rfl⟩
  · have hz0 : n = 0 := of_decide_eq_true c4
    refine V.stt (g2 := tg g 1) (by rw [c4]; rfl) ?_
    refine v_lconst C dX6_checksum_7 rfl ?_
    refine v_lret C F dX6_checksum_8 (Nat.le_of_ble_eq_true rfl) (Nat.le_of_ble_eq_true rfl) ?_
    first
    | (rw [forG_0 (by omega)] at i3
       refine ⟨?_, fun _ => ?_⟩
       · simp [cdL, hn0]
       · rw [← i3])
    | (refine ⟨?_, fun z => absurd z ?_⟩; (simp [cdL, hz0]); (simp [cdL, hz0]); done)
set_option maxHeartbeats 16000000 in
theorem c_X6_whyCopy {l : Launch} (hl : l.stackTraces = false) {κ : Kp} {h : Nat → Nat} {g : G} {m : Mg} {n c : Nat} {f t k : Int32} (hQ : QMm n m g) (hW : WM n c m) : Ct SS MM l κ yX6_whyCopy cX6_whyCopy 4 (some FieldType.int) 2 0 0 [.ref (h 0), .int f, .int t, .int k] (qS κ h) g ri (fun r u => u = tg g (cdL [(decide (n = 0), 1)]) ∧ (cdL [(decide (n = 0), 1)] = 0 → r = refM m n f t k)) (fun _ _ => False) := by
  refine Ct.of (own := RX6) (by decide) rfl hl (by intro v hv; simp only [List.mem_cons, List.not_mem_nil, or_false] at hv; first | (rcases hv with rfl | rfl | rfl | rfl | rfl | rfl <;> rfl) | (rcases hv with rfl | rfl | rfl | rfl | rfl <;> rfl) | (rcases hv with rfl | rfl | rfl | rfl <;> rfl) | (rcases hv with rfl | rfl | rfl <;> rfl) | (rcases hv with rfl | rfl <;> rfl) | (subst hv; rfl) | exact hv.elim) (Nat.le_of_ble_eq_true rfl) (fun X hxl hxk C F N => ?_)
  subst hxl hxk
  show V X (qS (xK X) h) 0 [some (.ref (h 0)), some (.int f), some (.int t), some (.int k)] [] g 0 0
  obtain ⟨hm, hs, h96, hRR⟩ := id hQ
  obtain ⟨-, hn7, hMf⟩ := id hW
  refine v_aload_n C dX6_whyCopy_0 rfl ?_
  refine v_callVi C (c_X6_noMemory hl (n := n) hm) ym_X6_noMemory ml_X6_207 emb_id_qS rfl rfl rfl rfl rfl dX6_whyCopy_1 (Nat.le_of_ble_eq_true rfl) (Nat.le_of_ble_eq_true rfl) (Nat.le_of_ble_eq_true rfl) (Nat.le_of_ble_eq_true rfl) (fun _ _ hu => hu.elim) (fun r u hu => ?_)
  obtain ⟨rfl, hu⟩ := hu
  subst u
  refine v_if_eqB C 11 dX6_whyCopy_4 (by decide) (fun c4 => ?_) (fun c4 => ?_)
  · have hn0 : ¬ n = 0 := of_decide_eq_false c4
    have hR := hRR hn0
    have hMI := hMf hn0
    obtain ⟨hI, hE, hLK, hn1, hSB, hBY, hPR⟩ := id hMI
    have hbd := band_ok hSB
    have hn := hI.1
    refine V.stt (g2 := tg g 0) (by rw [c4]; rfl) ?_
    refine v_aload_n C dX6_whyCopy_11 rfl ?_
    refine v_iload_n C dX6_whyCopy_12 rfl ?_
    refine v_iload_n C dX6_whyCopy_13 rfl ?_
    refine v_iload_n C dX6_whyCopy_14 rfl ?_
    refine v_callVi C (c_X6_whyNot hl (g := tg g 0) (m := m) (n := n) hR hs hn h96 hLK) ym_X6_whyNot ml_X6_135 emb_id_qS rfl rfl rfl rfl rfl dX6_whyCopy_15 (Nat.le_of_ble_eq_true rfl) (Nat.le_of_ble_eq_true rfl) (Nat.le_of_ble_eq_true rfl) (Nat.le_of_ble_eq_true rfl) (fun _ _ hu => hu.elim) (fun r u hu => ?_)
    obtain ⟨rfl, hu⟩ := hu
    subst u
    refine V.stt (g2 := (tg g 0)) (rfl) ?_
    refine v_iret C F (by first | rfl | exact bI_nar _) dX6_whyCopy_18 (Nat.le_of_ble_eq_true rfl) (Nat.le_of_ble_eq_true rfl) ?_
    first
    | (refine ⟨?_, fun _ => ?_⟩; simp [cdL, hn0]; rfl)
    | (refine ⟨?_, fun z => absurd z ?_⟩; (simp [cdL, hz0]); (simp [cdL, hz0]); done)
  · have hz0 : n = 0 := of_decide_eq_true c4
    refine V.stt (g2 := tg g 1) (by rw [c4]; rfl) ?_
    refine v_iconst (v := nI 0) C dX6_whyCopy_7 (by decide) ?_
    refine v_goto C 18 dX6_whyCopy_8 (by decide) ?_
    refine v_iret C F (by first | rfl | exact bI_nar _) dX6_whyCopy_18 (Nat.le_of_ble_eq_true rfl) (Nat.le_of_ble_eq_true rfl) ?_
    first
    | (refine ⟨?_, fun _ => ?_⟩; simp [cdL, hn0]; rfl)
    | (refine ⟨?_, fun z => absurd z ?_⟩; (simp [cdL, hz0]); (simp [cdL, hz0]); done)
set_option maxHeartbeats 16000000 in
theorem c_X6_forcedByWrite {l : Launch} (hl : l.stackTraces = false) {κ : Kp} {h : Nat → Nat} {g : G} {m : Mg} {n c : Nat} {p : Int32} (hQ : QMm n m g) (hW : WM n c m) : Ct SS MM l κ yX6_forcedByWrite cX6_forcedByWrite 4 (some FieldType.int) 3 0 0 [.ref (h 0), .int p] (qS κ h) g ri (fun r u => u = tg g (cdL [(decide (n = 0), 1), (!plB n p, 2), (lockB m (tN p), 3)]) ∧ (cdL [(decide (n = 0), 1), (!plB n p, 2), (lockB m (tN p), 3)] = 0 → r = nI (fillM n (tN p) (tN p) (nI 0) m).1)) (fun _ _ => False) := by
  refine Ct.of (own := RX6) (by decide) rfl hl (by intro v hv; simp only [List.mem_cons, List.not_mem_nil, or_false] at hv; first | (rcases hv with rfl | rfl | rfl | rfl | rfl | rfl <;> rfl) | (rcases hv with rfl | rfl | rfl | rfl | rfl <;> rfl) | (rcases hv with rfl | rfl | rfl | rfl <;> rfl) | (rcases hv with rfl | rfl | rfl <;> rfl) | (rcases hv with rfl | rfl <;> rfl) | (subst hv; rfl) | exact hv.elim) (Nat.le_of_ble_eq_true rfl) (fun X hxl hxk C F N => ?_)
  subst hxl hxk
  show V X (qS (xK X) h) 0 [some (.ref (h 0)), some (.int p), none, none] [] g 0 0
  obtain ⟨hm, hs, h96, hRR⟩ := id hQ
  obtain ⟨-, hn7, hMf⟩ := id hW
  refine v_aload_n C dX6_forcedByWrite_0 rfl ?_
  refine v_iload_n C dX6_forcedByWrite_1 rfl ?_
  refine v_callVi C (c_X6_noPlace hl (g := g) (m := m) (n := n) hQ) ym_X6_noPlace ml_X6_223 emb_id_qS rfl rfl rfl rfl rfl dX6_forcedByWrite_2 (Nat.le_of_ble_eq_true rfl) (Nat.le_of_ble_eq_true rfl) (Nat.le_of_ble_eq_true rfl) (Nat.le_of_ble_eq_true rfl) (fun _ _ hu => hu.elim) (fun r u hu => ?_)
  obtain ⟨rfl, hu⟩ := hu
  subst u
  refine v_if_neB C 35 dX6_forcedByWrite_5 (by decide) (fun c5 => ?_) (fun c5 => ?_)
  · skip
    refine v_iconst (v := nI 0) C dX6_forcedByWrite_35 (by decide) ?_
    refine v_iret C F (by first | rfl | exact bI_nar _) dX6_forcedByWrite_36 (Nat.le_of_ble_eq_true rfl) (Nat.le_of_ble_eq_true rfl) ?_
    first
    | (rw [cntG_0 (by omega), Nat.add_zero] at i3
       refine ⟨?_, fun _ => ?_⟩
       · simp [cdL, hn0, hp_p, c32, t_j]
       · rw [t_j, show (fillM n j j (nI 0) m).1 = cntG (srcB m j) 0 n from dep_one hI hj_j]
         exact congrArg nI i3)
    | (refine ⟨?_, fun z => absurd z ?_⟩; (exact congrArg (tg g) (cd2 c5).symm); (exact fun z => absurd ((cd2 c5).symm.trans z) (nz_t c5)); done)
    | (refine ⟨?_, fun z => absurd z ?_⟩; (simp [cdL, hn0, hp_p, c32, t_j]); (simp [cdL, hn0, hp_p, c32, t_j]); done)
  · have hcd := nz_f c5
    obtain ⟨hd1, hd2⟩ := cd_0 (by decide) hcd
    obtain ⟨hd2, -⟩ := cd_0 (by decide) hd2
    have hn0 : ¬ n = 0 := of_decide_eq_false hd1
    have hp_p : plB n p = true := by simpa using hd2
    have hR := hRR hn0
    have hMI := hMf hn0
    obtain ⟨hI, hE, hLK, hn1, hSB, hBY, hPR⟩ := id hMI
    have hbd := band_ok hSB
    have hn := hI.1
    refine V.stt (g2 := tg g 0) (by rw [hcd]) ?_
    clear hcd hd2 hd1 c5
    obtain ⟨j, hj_j, e_j⟩ := pl_at hp_p
    subst e_j
    have t_j : tN (nI j) = j := tN_nI (by omega)
    refine v_aload_n C dX6_forcedByWrite_8 rfl ?_
    refine v_aload_n C dX6_forcedByWrite_9 rfl ?_
    refine v_getr C fl_X6_7 or_qS_0_3 dX6_forcedByWrite_10 ?_
    refine v_sipush (v := nI 288) C dX6_forcedByWrite_13 (by decide) ?_
    refine v_iload_n C dX6_forcedByWrite_16 rfl ?_
    first | refine v_iaddN C dX6_forcedByWrite_17 ?_ | refine v_iadd C dX6_forcedByWrite_17 ?_
    refine v_ialdQ (x := bI (lockB m j)) C ar_qS_1 (by decide) _ ((hR.l (by omega)).trans (LK_at hLK (by omega))) ?_ rfl dX6_forcedByWrite_18 ?_
    · omega
    refine v_iconst (v := nI 1) C dX6_forcedByWrite_19 (by decide) ?_
    refine v_icmp_ne C 27 dX6_forcedByWrite_20 (by decide) (fun c20 => ?_) (fun c20 => ?_)
    · refine v_iconst (v := nI 0) C dX6_forcedByWrite_27 (by decide) ?_
      refine V.eqs (st2 := [.int (bI (lockB m j)), .ref (h 0)]) ?_ (congrArg (fun z => [Value.int z, Value.ref (h 0)]) (by cases hq : lockB m j <;> rw [hq] at c20 <;> first | rfl | exact absurd rfl c20 | exact absurd c20 (by decide)))
      refine v_iconst (v := nI 3) C dX6_forcedByWrite_28 (by decide) ?_
      refine v_callVi C (c_X6_refuse hl (b := lockB m j) (k := 3) (by decide) (by decide)) ym_X6_refuse ml_X6_40 emb_id_qS rfl rfl rfl rfl rfl dX6_forcedByWrite_29 (Nat.le_of_ble_eq_true rfl) (Nat.le_of_ble_eq_true rfl) (Nat.le_of_ble_eq_true rfl) (Nat.le_of_ble_eq_true rfl) (fun _ _ hu => hu.elim) (fun r u hu => ?_)
      obtain ⟨rfl, hu⟩ := hu
      subst u
      refine v_if_eqB C 37 dX6_forcedByWrite_32 (by decide) (fun c32 => ?_) (fun c32 => ?_)
      · refine V.stt (g2 := tg g 0) (by rw [c32]; rfl) ?_
        refine v_iconst (v := nI 0) C dX6_forcedByWrite_37 (by decide) ?_
        refine v_istore_n C (lo2 := [some _, some _, some _, none]) dX6_forcedByWrite_38 rfl (Nat.le_of_ble_eq_true rfl) rfl ?_
        refine v_iconst (v := nI 0) C dX6_forcedByWrite_39 (by decide) ?_
        refine v_istore_n C (lo2 := [some _, some _, some _, some _]) dX6_forcedByWrite_40 rfl (Nat.le_of_ble_eq_true rfl) rfl ?_
        have L41 : ∀ (t : Nat × Nat), (fun t => 0 ≤ t.1 ∧ t.1 ≤ 200 ∧ t.2 ≤ t.1 ∧ t.2 + cntG (srcB m j) t.1 (n - t.1) = cntG (srcB m j) 0 (n - 0)) t → (fun t : Nat × Nat => V X (qS (xK X) h) 41 [some (.ref (h 0)), some (.int (nI j)), some (.int (nI t.2)), some (.int (nI t.1))] [] (tg g 0) 0 0) t := by
          refine v_ind (fun t : Nat × Nat => n - t.1) ?_
          rintro ⟨i, c⟩ ih41 hI41
          try dsimp only at hI41 ⊢
          obtain ⟨i1, i2, i4, i3⟩ := hI41
          refine v_iload_n C dX6_forcedByWrite_41 rfl ?_
          refine v_aload_n C dX6_forcedByWrite_42 rfl ?_
          refine v_getiQ (x := nI n) C fl_X6_126 oi_qS_0_2 (hs) dX6_forcedByWrite_43 ?_
          first | refine v_icmp_geN C 79 dX6_forcedByWrite_46 (by decide) (by omega) (by omega) (fun c46 => ?_) (fun c46 => ?_) | refine v_icmp_ge C 79 dX6_forcedByWrite_46 (by decide) (fun c46 => ?_) (fun c46 => ?_)
          · refine v_iload_n C dX6_forcedByWrite_79 rfl ?_
            refine v_iret C F (by first | rfl | exact bI_nar _) dX6_forcedByWrite_80 (Nat.le_of_ble_eq_true rfl) (Nat.le_of_ble_eq_true rfl) ?_
            first
            | (rw [cntG_0 (by omega), Nat.add_zero] at i3
               refine ⟨?_, fun _ => ?_⟩
               · simp [cdL, hn0, hp_p, c32, t_j]
               · rw [t_j, show (fillM n j j (nI 0) m).1 = cntG (srcB m j) 0 n from dep_one hI hj_j]
                 exact congrArg nI i3)
            | (refine ⟨?_, fun z => absurd z ?_⟩; (exact congrArg (tg g) (cd2 c5).symm); (exact fun z => absurd ((cd2 c5).symm.trans z) (nz_t c5)); done)
            | (refine ⟨?_, fun z => absurd z ?_⟩; (simp [cdL, hn0, hp_p, c32, t_j]); (simp [cdL, hn0, hp_p, c32, t_j]); done)
          · refine v_iload_n C dX6_forcedByWrite_49 rfl ?_
            refine v_aload_n C dX6_forcedByWrite_50 rfl ?_
            refine v_getr C fl_X6_7 or_qS_0_3 dX6_forcedByWrite_51 ?_
            refine v_bipush (v := nI 96) C dX6_forcedByWrite_54 (by decide) ?_
            refine v_iload_n C dX6_forcedByWrite_56 rfl ?_
            first | refine v_iaddN C dX6_forcedByWrite_57 ?_ | refine v_iadd C dX6_forcedByWrite_57 ?_
            refine v_ialdQ (x := m 2 i) C ar_qS_1 (by decide) _ (hR.s (by omega)) ?_ rfl dX6_forcedByWrite_58 ?_
            · omega
            refine v_iload_n C dX6_forcedByWrite_59 rfl ?_
            refine v_icmp_ne C 67 dX6_forcedByWrite_60 (by decide) (fun c60 => ?_) (fun c60 => ?_)
            · refine v_iconst (v := nI 0) C dX6_forcedByWrite_67 (by decide) ?_
              refine V.eqs (st2 := [.int (bI (srcB m j i)), .int (nI c)]) ?_ (congrArg (fun z => [Value.int z, Value.int (nI c)]) (by first | exact bI_t (beq_iff_eq.mpr c60) | exact bI_f (beq_eq_false_iff_ne.mpr c60)))
              refine v_callSi C (c_X6_flag hl (b := srcB m j i)) ys_X6_flag rfl ml_X6_232 (emb_n fix_qS) rfl rfl rfl dX6_forcedByWrite_68 (Nat.le_of_ble_eq_true rfl) (Nat.le_of_ble_eq_true rfl) (Nat.le_of_ble_eq_true rfl) (Nat.le_of_ble_eq_true rfl) (fun _ _ hu => hu.elim) (fun r u hu => ?_)
              subst r
              first | refine v_iaddN C dX6_forcedByWrite_71 ?_ | refine v_iadd C dX6_forcedByWrite_71 ?_
              refine v_istore_n C (lo2 := [some _, some _, some _, some _]) dX6_forcedByWrite_72 rfl (Nat.le_of_ble_eq_true rfl) rfl ?_
              first | refine v_iinc1 C (lo2 := [some _, some _, some _, some _]) dX6_forcedByWrite_73 rfl rfl rfl ?_ | refine v_iinc C (lo2 := [some _, some _, some _, some _]) dX6_forcedByWrite_73 rfl rfl rfl rfl ?_
              refine v_goto C 41 dX6_forcedByWrite_76 (by decide) ?_
              have hib : i < n := by omega
              rw [cntG_s hib] at i3
              have hfl : fl ((srcB m j) i) = (if (srcB m j) i = true then 1 else 0) := rfl
              have hf1 : fl ((srcB m j) i) ≤ 1 := by rw [hfl]; split <;> omega
              rw [← hfl] at i3
              exact ih41 (i + 1, c + fl ((srcB m j) i)) (by show n - (i + 1) < n - i; omega) ⟨by show 0 ≤ i + 1; omega, by show i + 1 ≤ 200; omega, by show c + fl ((srcB m j) i) ≤ i + 1; omega, by show c + fl ((srcB m j) i) + cntG (srcB m j) (i + 1) (n - (i + 1)) = _; omega⟩
            · refine v_iconst (v := nI 1) C dX6_forcedByWrite_63 (by decide) ?_
              refine v_goto C 68 dX6_forcedByWrite_64 (by decide) ?_
              refine V.eqs (st2 := [.int (bI (srcB m j i)), .int (nI c)]) ?_ (congrArg (fun z => [Value.int z, Value.int (nI c)]) (by first | exact bI_t (beq_iff_eq.mpr c60) | exact bI_f (beq_eq_false_iff_ne.mpr c60)))
              refine v_callSi C (c_X6_flag hl (b := srcB m j i)) ys_X6_flag rfl ml_X6_232 (emb_n fix_qS) rfl rfl rfl dX6_forcedByWrite_68 (Nat.le_of_ble_eq_true rfl) (Nat.le_of_ble_eq_true rfl) (Nat.le_of_ble_eq_true rfl) (Nat.le_of_ble_eq_true rfl) (fun _ _ hu => hu.elim) (fun r u hu => ?_)
              subst r
              first | refine v_iaddN C dX6_forcedByWrite_71 ?_ | refine v_iadd C dX6_forcedByWrite_71 ?_
              refine v_istore_n C (lo2 := [some _, some _, some _, some _]) dX6_forcedByWrite_72 rfl (Nat.le_of_ble_eq_true rfl) rfl ?_
              first | refine v_iinc1 C (lo2 := [some _, some _, some _, some _]) dX6_forcedByWrite_73 rfl rfl rfl ?_ | refine v_iinc C (lo2 := [some _, some _, some _, some _]) dX6_forcedByWrite_73 rfl rfl rfl rfl ?_
              refine v_goto C 41 dX6_forcedByWrite_76 (by decide) ?_
              have hib : i < n := by omega
              rw [cntG_s hib] at i3
              have hfl : fl ((srcB m j) i) = (if (srcB m j) i = true then 1 else 0) := rfl
              have hf1 : fl ((srcB m j) i) ≤ 1 := by rw [hfl]; split <;> omega
              rw [← hfl] at i3
              exact ih41 (i + 1, c + fl ((srcB m j) i)) (by show n - (i + 1) < n - i; omega) ⟨by show 0 ≤ i + 1; omega, by show i + 1 ≤ 200; omega, by show c + fl ((srcB m j) i) ≤ i + 1; omega, by show c + fl ((srcB m j) i) + cntG (srcB m j) (i + 1) (n - (i + 1)) = _; omega⟩
        exact L41 (0, 0) ⟨Nat.le_refl _, by show 0 ≤ 200; omega, by show 0 ≤ 0; omega, Nat.zero_add _⟩
      · refine V.stt (g2 := tg g 3) (by rw [c32]; rfl) ?_
        refine v_iconst (v := nI 0) C dX6_forcedByWrite_35 (by decide) ?_
        refine v_iret C F (by first | rfl | exact bI_nar _) dX6_forcedByWrite_36 (Nat.le_of_ble_eq_true rfl) (Nat.le_of_ble_eq_true rfl) ?_
        first
        | (rw [cntG_0 (by omega), Nat.add_zero] at i3
           refine ⟨?_, fun _ => ?_⟩
           · simp [cdL, hn0, hp_p, c32, t_j]
           · rw [t_j, show (fillM n j j (nI 0) m).1 = cntG (srcB m j) 0 n from dep_one hI hj_j]
             exact congrArg nI i3)
        | (refine ⟨?_, fun z => absurd z ?_⟩; (exact congrArg (tg g) (cd2 c5).symm); (exact fun z => absurd ((cd2 c5).symm.trans z) (nz_t c5)); done)
        | (refine ⟨?_, fun z => absurd z ?_⟩; (simp [cdL, hn0, hp_p, c32, t_j]); (simp [cdL, hn0, hp_p, c32, t_j]); done)
    · refine v_iconst (v := nI 1) C dX6_forcedByWrite_23 (by decide) ?_
      refine v_goto C 28 dX6_forcedByWrite_24 (by decide) ?_
      refine V.eqs (st2 := [.int (bI (lockB m j)), .ref (h 0)]) ?_ (congrArg (fun z => [Value.int z, Value.ref (h 0)]) (by cases hq : lockB m j <;> rw [hq] at c20 <;> first | rfl | exact absurd rfl c20 | exact absurd c20 (by decide)))
      refine v_iconst (v := nI 3) C dX6_forcedByWrite_28 (by decide) ?_
      refine v_callVi C (c_X6_refuse hl (b := lockB m j) (k := 3) (by decide) (by decide)) ym_X6_refuse ml_X6_40 emb_id_qS rfl rfl rfl rfl rfl dX6_forcedByWrite_29 (Nat.le_of_ble_eq_true rfl) (Nat.le_of_ble_eq_true rfl) (Nat.le_of_ble_eq_true rfl) (Nat.le_of_ble_eq_true rfl) (fun _ _ hu => hu.elim) (fun r u hu => ?_)
      obtain ⟨rfl, hu⟩ := hu
      subst u
      refine v_if_eqB C 37 dX6_forcedByWrite_32 (by decide) (fun c32 => ?_) (fun c32 => ?_)
      · refine V.stt (g2 := tg g 0) (by rw [c32]; rfl) ?_
        refine v_iconst (v := nI 0) C dX6_forcedByWrite_37 (by decide) ?_
        refine v_istore_n C (lo2 := [some _, some _, some _, none]) dX6_forcedByWrite_38 rfl (Nat.le_of_ble_eq_true rfl) rfl ?_
        refine v_iconst (v := nI 0) C dX6_forcedByWrite_39 (by decide) ?_
        refine v_istore_n C (lo2 := [some _, some _, some _, some _]) dX6_forcedByWrite_40 rfl (Nat.le_of_ble_eq_true rfl) rfl ?_
        have L41 : ∀ (t : Nat × Nat), (fun t => 0 ≤ t.1 ∧ t.1 ≤ 200 ∧ t.2 ≤ t.1 ∧ t.2 + cntG (srcB m j) t.1 (n - t.1) = cntG (srcB m j) 0 (n - 0)) t → (fun t : Nat × Nat => V X (qS (xK X) h) 41 [some (.ref (h 0)), some (.int (nI j)), some (.int (nI t.2)), some (.int (nI t.1))] [] (tg g 0) 0 0) t := by
          refine v_ind (fun t : Nat × Nat => n - t.1) ?_
          rintro ⟨i, c⟩ ih41 hI41
          try dsimp only at hI41 ⊢
          obtain ⟨i1, i2, i4, i3⟩ := hI41
          refine v_iload_n C dX6_forcedByWrite_41 rfl ?_
          refine v_aload_n C dX6_forcedByWrite_42 rfl ?_
          refine v_getiQ (x := nI n) C fl_X6_126 oi_qS_0_2 (hs) dX6_forcedByWrite_43 ?_
          first | refine v_icmp_geN C 79 dX6_forcedByWrite_46 (by decide) (by omega) (by omega) (fun c46 => ?_) (fun c46 => ?_) | refine v_icmp_ge C 79 dX6_forcedByWrite_46 (by decide) (fun c46 => ?_) (fun c46 => ?_)
          · refine v_iload_n C dX6_forcedByWrite_79 rfl ?_
            refine v_iret C F (by first | rfl | exact bI_nar _) dX6_forcedByWrite_80 (Nat.le_of_ble_eq_true rfl) (Nat.le_of_ble_eq_true rfl) ?_
            first
            | (rw [cntG_0 (by omega), Nat.add_zero] at i3
               refine ⟨?_, fun _ => ?_⟩
               · simp [cdL, hn0, hp_p, c32, t_j]
               · rw [t_j, show (fillM n j j (nI 0) m).1 = cntG (srcB m j) 0 n from dep_one hI hj_j]
                 exact congrArg nI i3)
            | (refine ⟨?_, fun z => absurd z ?_⟩; (exact congrArg (tg g) (cd2 c5).symm); (exact fun z => absurd ((cd2 c5).symm.trans z) (nz_t c5)); done)
            | (refine ⟨?_, fun z => absurd z ?_⟩; (simp [cdL, hn0, hp_p, c32, t_j]); (simp [cdL, hn0, hp_p, c32, t_j]); done)
          · refine v_iload_n C dX6_forcedByWrite_49 rfl ?_
            refine v_aload_n C dX6_forcedByWrite_50 rfl ?_
            refine v_getr C fl_X6_7 or_qS_0_3 dX6_forcedByWrite_51 ?_
            refine v_bipush (v := nI 96) C dX6_forcedByWrite_54 (by decide) ?_
            refine v_iload_n C dX6_forcedByWrite_56 rfl ?_
            first | refine v_iaddN C dX6_forcedByWrite_57 ?_ | refine v_iadd C dX6_forcedByWrite_57 ?_
            refine v_ialdQ (x := m 2 i) C ar_qS_1 (by decide) _ (hR.s (by omega)) ?_ rfl dX6_forcedByWrite_58 ?_
            · omega
            refine v_iload_n C dX6_forcedByWrite_59 rfl ?_
            refine v_icmp_ne C 67 dX6_forcedByWrite_60 (by decide) (fun c60 => ?_) (fun c60 => ?_)
            · refine v_iconst (v := nI 0) C dX6_forcedByWrite_67 (by decide) ?_
              refine V.eqs (st2 := [.int (bI (srcB m j i)), .int (nI c)]) ?_ (congrArg (fun z => [Value.int z, Value.int (nI c)]) (by first | exact bI_t (beq_iff_eq.mpr c60) | exact bI_f (beq_eq_false_iff_ne.mpr c60)))
              refine v_callSi C (c_X6_flag hl (b := srcB m j i)) ys_X6_flag rfl ml_X6_232 (emb_n fix_qS) rfl rfl rfl dX6_forcedByWrite_68 (Nat.le_of_ble_eq_true rfl) (Nat.le_of_ble_eq_true rfl) (Nat.le_of_ble_eq_true rfl) (Nat.le_of_ble_eq_true rfl) (fun _ _ hu => hu.elim) (fun r u hu => ?_)
              subst r
              first | refine v_iaddN C dX6_forcedByWrite_71 ?_ | refine v_iadd C dX6_forcedByWrite_71 ?_
              refine v_istore_n C (lo2 := [some _, some _, some _, some _]) dX6_forcedByWrite_72 rfl (Nat.le_of_ble_eq_true rfl) rfl ?_
              first | refine v_iinc1 C (lo2 := [some _, some _, some _, some _]) dX6_forcedByWrite_73 rfl rfl rfl ?_ | refine v_iinc C (lo2 := [some _, some _, some _, some _]) dX6_forcedByWrite_73 rfl rfl rfl rfl ?_
              refine v_goto C 41 dX6_forcedByWrite_76 (by decide) ?_
              have hib : i < n := by omega
              rw [cntG_s hib] at i3
              have hfl : fl ((srcB m j) i) = (if (srcB m j) i = true then 1 else 0) := rfl
              have hf1 : fl ((srcB m j) i) ≤ 1 := by rw [hfl]; split <;> omega
              rw [← hfl] at i3
              exact ih41 (i + 1, c + fl ((srcB m j) i)) (by show n - (i + 1) < n - i; omega) ⟨by show 0 ≤ i + 1; omega, by show i + 1 ≤ 200; omega, by show c + fl ((srcB m j) i) ≤ i + 1; omega, by show c + fl ((srcB m j) i) + cntG (srcB m j) (i + 1) (n - (i + 1)) = _; omega⟩
            · refine v_iconst (v := nI 1) C dX6_forcedByWrite_63 (by decide) ?_
              refine v_goto C 68 dX6_forcedByWrite_64 (by decide) ?_
              refine V.eqs (st2 := [.int (bI (srcB m j i)), .int (nI c)]) ?_ (congrArg (fun z => [Value.int z, Value.int (nI c)]) (by first | exact bI_t (beq_iff_eq.mpr c60) | exact bI_f (beq_eq_false_iff_ne.mpr c60)))
              refine v_callSi C (c_X6_flag hl (b := srcB m j i)) ys_X6_flag rfl ml_X6_232 (emb_n fix_qS) rfl rfl rfl dX6_forcedByWrite_68 (Nat.le_of_ble_eq_true rfl) (Nat.le_of_ble_eq_true rfl) (Nat.le_of_ble_eq_true rfl) (Nat.le_of_ble_eq_true rfl) (fun _ _ hu => hu.elim) (fun r u hu => ?_)
              subst r
              first | refine v_iaddN C dX6_forcedByWrite_71 ?_ | refine v_iadd C dX6_forcedByWrite_71 ?_
              refine v_istore_n C (lo2 := [some _, some _, some _, some _]) dX6_forcedByWrite_72 rfl (Nat.le_of_ble_eq_true rfl) rfl ?_
              first | refine v_iinc1 C (lo2 := [some _, some _, some _, some _]) dX6_forcedByWrite_73 rfl rfl rfl ?_ | refine v_iinc C (lo2 := [some _, some _, some _, some _]) dX6_forcedByWrite_73 rfl rfl rfl rfl ?_
              refine v_goto C 41 dX6_forcedByWrite_76 (by decide) ?_
              have hib : i < n := by omega
              rw [cntG_s hib] at i3
              have hfl : fl ((srcB m j) i) = (if (srcB m j) i = true then 1 else 0) := rfl
              have hf1 : fl ((srcB m j) i) ≤ 1 := by rw [hfl]; split <;> omega
              rw [← hfl] at i3
              exact ih41 (i + 1, c + fl ((srcB m j) i)) (by show n - (i + 1) < n - i; omega) ⟨by show 0 ≤ i + 1; omega, by show i + 1 ≤ 200; omega, by show c + fl ((srcB m j) i) ≤ i + 1; omega, by show c + fl ((srcB m j) i) + cntG (srcB m j) (i + 1) (n - (i + 1)) = _; omega⟩
        exact L41 (0, 0) ⟨Nat.le_refl _, by show 0 ≤ 200; omega, by show 0 ≤ 0; omega, Nat.zero_add _⟩
      · refine V.stt (g2 := tg g 3) (by rw [c32]; rfl) ?_
        refine v_iconst (v := nI 0) C dX6_forcedByWrite_35 (by decide) ?_
        refine v_iret C F (by first | rfl | exact bI_nar _) dX6_forcedByWrite_36 (Nat.le_of_ble_eq_true rfl) (Nat.le_of_ble_eq_true rfl) ?_
        first
        | (rw [cntG_0 (by omega), Nat.add_zero] at i3
           refine ⟨?_, fun _ => ?_⟩
           · simp [cdL, hn0, hp_p, c32, t_j]
           · rw [t_j, show (fillM n j j (nI 0) m).1 = cntG (srcB m j) 0 n from dep_one hI hj_j]
             exact congrArg nI i3)
        | (refine ⟨?_, fun z => absurd z ?_⟩; (exact congrArg (tg g) (cd2 c5).symm); (exact fun z => absurd ((cd2 c5).symm.trans z) (nz_t c5)); done)
        | (refine ⟨?_, fun z => absurd z ?_⟩; (simp [cdL, hn0, hp_p, c32, t_j]); (simp [cdL, hn0, hp_p, c32, t_j]); done)
set_option maxHeartbeats 16000000 in
theorem c_X6_forcedByFill {l : Launch} (hl : l.stackTraces = false) {κ : Kp} {h : Nat → Nat} {g : G} {m : Mg} {n c : Nat} {a b : Int32} (hQ : QMm n m g) (hW : WM n c m) : Ct SS MM l κ yX6_forcedByFill cX6_forcedByFill 5 (some FieldType.int) 4 0 0 [.ref (h 0), .int a, .int b] (qS κ h) g ri (fun r u => u = tg g (cdL [(decide (n = 0), 1), (!plB n a, 2), (!plB n b, 2), (decide (b.toInt < a.toInt), 3), (anyG (lockB m) (tN a) (tN b + 1 - tN a), 3)]) ∧ (cdL [(decide (n = 0), 1), (!plB n a, 2), (!plB n b, 2), (decide (b.toInt < a.toInt), 3), (anyG (lockB m) (tN a) (tN b + 1 - tN a), 3)] = 0 → r = nI (fillM n (tN a) (tN b) (nI 0) m).1)) (fun _ _ => False) := by
  refine Ct.of (own := RX6) (by decide) rfl hl (by intro v hv; simp only [List.mem_cons, List.not_mem_nil, or_false] at hv; first | (rcases hv with rfl | rfl | rfl | rfl | rfl | rfl <;> rfl) | (rcases hv with rfl | rfl | rfl | rfl | rfl <;> rfl) | (rcases hv with rfl | rfl | rfl | rfl <;> rfl) | (rcases hv with rfl | rfl | rfl <;> rfl) | (rcases hv with rfl | rfl <;> rfl) | (subst hv; rfl) | exact hv.elim) (Nat.le_of_ble_eq_true rfl) (fun X hxl hxk C F N => ?_)
  subst hxl hxk
  show V X (qS (xK X) h) 0 [some (.ref (h 0)), some (.int a), some (.int b), none, none] [] g 0 0
  obtain ⟨hm, hs, h96, hRR⟩ := id hQ
  obtain ⟨-, hn7, hMf⟩ := id hW
  refine v_aload_n C dX6_forcedByFill_0 rfl ?_
  refine v_iload_n C dX6_forcedByFill_1 rfl ?_
  refine v_iload_n C dX6_forcedByFill_2 rfl ?_
  refine v_callVi C (c_X6_noRange hl (g := g) (m := m) (n := n) hQ) ym_X6_noRange ml_X6_251 emb_id_qS rfl rfl rfl rfl rfl dX6_forcedByFill_3 (Nat.le_of_ble_eq_true rfl) (Nat.le_of_ble_eq_true rfl) (Nat.le_of_ble_eq_true rfl) (Nat.le_of_ble_eq_true rfl) (fun _ _ hu => hu.elim) (fun r u hu => ?_)
  obtain ⟨rfl, hu⟩ := hu
  subst u
  refine v_if_neB C 23 dX6_forcedByFill_6 (by decide) (fun c6 => ?_) (fun c6 => ?_)
  · skip
    refine v_iconst (v := nI 0) C dX6_forcedByFill_23 (by decide) ?_
    refine v_iret C F (by first | rfl | exact bI_nar _) dX6_forcedByFill_24 (Nat.le_of_ble_eq_true rfl) (Nat.le_of_ble_eq_true rfl) ?_
    first
    | (rw [cntG_0 (by omega), Nat.add_zero] at i3
       refine ⟨?_, fun _ => ?_⟩
       · simp [cdL, hn0, hp_a, hp_b, hlt, c20, t_ja, t_jb]
       · rw [t_ja, t_jb, show (fillM n ja jb (nI 0) m).1 = cntG (fun q => !rowT ja jb q && (owb m q && rowT ja jb (src m q))) 0 n from dep_cnt]
         exact congrArg nI i3)
    | (refine ⟨?_, fun z => absurd z ?_⟩; (exact congrArg (tg g) (cd4 c6).symm); (exact fun z => absurd ((cd4 c6).symm.trans z) (nz_t c6)); done)
    | (refine ⟨?_, fun z => absurd z ?_⟩; (simp [cdL, hn0, hp_a, hp_b, hlt, c20, t_ja, t_jb]); (simp [cdL, hn0, hp_a, hp_b, hlt, c20, t_ja, t_jb]); done)
  · have hcd := nz_f c6
    obtain ⟨hd1, hd2⟩ := cd_0 (by decide) hcd
    obtain ⟨hd2, hd3⟩ := cd_0 (by decide) hd2
    obtain ⟨hd3, hd4⟩ := cd_0 (by decide) hd3
    obtain ⟨hd4, -⟩ := cd_0 (by decide) hd4
    have hn0 : ¬ n = 0 := of_decide_eq_false hd1
    have hp_a : plB n a = true := by simpa using hd2
    have hp_b : plB n b = true := by simpa using hd3
    have hlt : ¬ b.toInt < a.toInt := of_decide_eq_false hd4
    have hR := hRR hn0
    have hMI := hMf hn0
    obtain ⟨hI, hE, hLK, hn1, hSB, hBY, hPR⟩ := id hMI
    have hbd := band_ok hSB
    have hn := hI.1
    refine V.stt (g2 := tg g 0) (by rw [hcd]) ?_
    clear hcd hd4 hd3 hd2 hd1 c6
    obtain ⟨ja, hj_ja, e_ja⟩ := pl_at hp_a
    subst e_ja
    obtain ⟨jb, hj_jb, e_jb⟩ := pl_at hp_b
    subst e_jb
    have t_ja : tN (nI ja) = ja := tN_nI (by omega)
    have t_jb : tN (nI jb) = jb := tN_nI (by omega)
    have hle := hlt
    rw [nI_toInt (by omega), nI_toInt (by omega)] at hle
    have hle : ja ≤ jb := by omega
    refine v_aload_n C dX6_forcedByFill_9 rfl ?_
    refine v_aload_n C dX6_forcedByFill_10 rfl ?_
    refine v_iload_n C dX6_forcedByFill_11 rfl ?_
    refine v_iload_n C dX6_forcedByFill_12 rfl ?_
    refine v_callVi C (c_X6_anyLocked hl (g := tg g 0) (m := m) hR hLK (by omega) (by omega)) ym_X6_anyLocked ml_X6_146 emb_id_qS rfl rfl rfl rfl rfl dX6_forcedByFill_13 (Nat.le_of_ble_eq_true rfl) (Nat.le_of_ble_eq_true rfl) (Nat.le_of_ble_eq_true rfl) (Nat.le_of_ble_eq_true rfl) (fun _ _ hu => hu.elim) (fun r u hu => ?_)
    obtain ⟨rfl, hu⟩ := hu
    subst u
    refine V.stt (g2 := (tg g 0)) (rfl) ?_
    refine v_iconst (v := nI 3) C dX6_forcedByFill_16 (by decide) ?_
    refine v_callVi C (c_X6_refuse hl (b := anyG (lockB m) ja (jb + 1 - ja)) (k := 3) (by decide) (by decide)) ym_X6_refuse ml_X6_40 emb_id_qS rfl rfl rfl rfl rfl dX6_forcedByFill_17 (Nat.le_of_ble_eq_true rfl) (Nat.le_of_ble_eq_true rfl) (Nat.le_of_ble_eq_true rfl) (Nat.le_of_ble_eq_true rfl) (fun _ _ hu => hu.elim) (fun r u hu => ?_)
    obtain ⟨rfl, hu⟩ := hu
    subst u
    refine v_if_eqB C 25 dX6_forcedByFill_20 (by decide) (fun c20 => ?_) (fun c20 => ?_)
    · refine V.stt (g2 := tg g 0) (by rw [c20]; rfl) ?_
      refine v_iconst (v := nI 0) C dX6_forcedByFill_25 (by decide) ?_
      refine v_istore_n C (lo2 := [some _, some _, some _, some _, none]) dX6_forcedByFill_26 rfl (Nat.le_of_ble_eq_true rfl) rfl ?_
      refine v_iconst (v := nI 0) C dX6_forcedByFill_27 (by decide) ?_
      refine v_istore C (lo2 := [some _, some _, some _, some _, some _]) dX6_forcedByFill_28 rfl (Nat.le_of_ble_eq_true rfl) rfl ?_
      have L30 : ∀ (t : Nat × Nat), (fun t => 0 ≤ t.1 ∧ t.1 ≤ 200 ∧ t.2 ≤ t.1 ∧ t.2 + cntG (fun q => !rowT ja jb q && (owb m q && rowT ja jb (src m q))) t.1 (n - t.1) = cntG (fun q => !rowT ja jb q && (owb m q && rowT ja jb (src m q))) 0 (n - 0)) t → (fun t : Nat × Nat => V X (qS (xK X) h) 30 [some (.ref (h 0)), some (.int (nI ja)), some (.int (nI jb)), some (.int (nI t.2)), some (.int (nI t.1))] [] (tg g 0) 0 0) t := by
        refine v_ind (fun t : Nat × Nat => n - t.1) ?_
        rintro ⟨i, c⟩ ih30 hI30
        try dsimp only at hI30 ⊢
        obtain ⟨i1, i2, i4, i3⟩ := hI30
        refine v_iload C dX6_forcedByFill_30 rfl ?_
        refine v_aload_n C dX6_forcedByFill_32 rfl ?_
        refine v_getiQ (x := nI n) C fl_X6_126 oi_qS_0_2 (hs) dX6_forcedByFill_33 ?_
        first | refine v_icmp_geN C 84 dX6_forcedByFill_36 (by decide) (by omega) (by omega) (fun c36 => ?_) (fun c36 => ?_) | refine v_icmp_ge C 84 dX6_forcedByFill_36 (by decide) (fun c36 => ?_) (fun c36 => ?_)
        · refine v_iload_n C dX6_forcedByFill_84 rfl ?_
          refine v_iret C F (by first | rfl | exact bI_nar _) dX6_forcedByFill_85 (Nat.le_of_ble_eq_true rfl) (Nat.le_of_ble_eq_true rfl) ?_
          first
          | (rw [cntG_0 (by omega), Nat.add_zero] at i3
             refine ⟨?_, fun _ => ?_⟩
             · simp [cdL, hn0, hp_a, hp_b, hlt, c20, t_ja, t_jb]
             · rw [t_ja, t_jb, show (fillM n ja jb (nI 0) m).1 = cntG (fun q => !rowT ja jb q && (owb m q && rowT ja jb (src m q))) 0 n from dep_cnt]
               exact congrArg nI i3)
          | (refine ⟨?_, fun z => absurd z ?_⟩; (exact congrArg (tg g) (cd4 c6).symm); (exact fun z => absurd ((cd4 c6).symm.trans z) (nz_t c6)); done)
          | (refine ⟨?_, fun z => absurd z ?_⟩; (simp [cdL, hn0, hp_a, hp_b, hlt, c20, t_ja, t_jb]); (simp [cdL, hn0, hp_a, hp_b, hlt, c20, t_ja, t_jb]); done)
        · refine v_iload_n C dX6_forcedByFill_39 rfl ?_
          refine v_iload C dX6_forcedByFill_40 rfl ?_
          refine v_iload_n C dX6_forcedByFill_42 rfl ?_
          refine v_iload_n C dX6_forcedByFill_43 rfl ?_
          refine v_callSi C (c_X6_in hl (v := nI i) (nI_toInt (show ja < 2 ^ 31 by omega)) (nI_toInt (show jb < 2 ^ 31 by omega))) ys_X6_in rfl ml_X6_98 (emb_n fix_qS) rfl rfl rfl dX6_forcedByFill_44 (Nat.le_of_ble_eq_true rfl) (Nat.le_of_ble_eq_true rfl) (Nat.le_of_ble_eq_true rfl) (Nat.le_of_ble_eq_true rfl) (fun _ _ hu => hu.elim) (fun r u hu => ?_)
          subst r
          rw [in_row (by omega)]
          refine v_if_neB C 72 dX6_forcedByFill_47 (by decide) (fun c47 => ?_) (fun c47 => ?_)
          · refine v_iconst (v := nI 0) C dX6_forcedByFill_72 (by decide) ?_
            refine V.eqs (st2 := [.int (bI (!rowT ja jb i && (owb m i && rowT ja jb (src m i)))), .int (nI c)]) ?_ (congrArg (fun z => [Value.int z, Value.int (nI c)]) (by first | exact bI_t (by rw [c47, c65]; rfl) | exact bI_f (by rw [c47]; rfl) | exact bI_f (by rw [c65, Bool.and_false])))
            refine v_callSi C (c_X6_flag hl (b := !rowT ja jb i && (owb m i && rowT ja jb (src m i)))) ys_X6_flag rfl ml_X6_232 (emb_n fix_qS) rfl rfl rfl dX6_forcedByFill_73 (Nat.le_of_ble_eq_true rfl) (Nat.le_of_ble_eq_true rfl) (Nat.le_of_ble_eq_true rfl) (Nat.le_of_ble_eq_true rfl) (fun _ _ hu => hu.elim) (fun r u hu => ?_)
            subst r
            first | refine v_iaddN C dX6_forcedByFill_76 ?_ | refine v_iadd C dX6_forcedByFill_76 ?_
            refine v_istore_n C (lo2 := [some _, some _, some _, some _, some _]) dX6_forcedByFill_77 rfl (Nat.le_of_ble_eq_true rfl) rfl ?_
            first | refine v_iinc1 C (lo2 := [some _, some _, some _, some _, some _]) dX6_forcedByFill_78 rfl rfl rfl ?_ | refine v_iinc C (lo2 := [some _, some _, some _, some _, some _]) dX6_forcedByFill_78 rfl rfl rfl rfl ?_
            refine v_goto C 30 dX6_forcedByFill_81 (by decide) ?_
            have hib : i < n := by omega
            rw [cntG_s hib] at i3
            have hfl : fl ((fun q => !rowT ja jb q && (owb m q && rowT ja jb (src m q))) i) = (if (fun q => !rowT ja jb q && (owb m q && rowT ja jb (src m q))) i = true then 1 else 0) := rfl
            have hf1 : fl ((fun q => !rowT ja jb q && (owb m q && rowT ja jb (src m q))) i) ≤ 1 := by rw [hfl]; split <;> omega
            rw [← hfl] at i3
            exact ih30 (i + 1, c + fl ((fun q => !rowT ja jb q && (owb m q && rowT ja jb (src m q))) i)) (by show n - (i + 1) < n - i; omega) ⟨by show 0 ≤ i + 1; omega, by show i + 1 ≤ 200; omega, by show c + fl ((fun q => !rowT ja jb q && (owb m q && rowT ja jb (src m q))) i) ≤ i + 1; omega, by show c + fl ((fun q => !rowT ja jb q && (owb m q && rowT ja jb (src m q))) i) + cntG (fun q => !rowT ja jb q && (owb m q && rowT ja jb (src m q))) (i + 1) (n - (i + 1)) = _; omega⟩
          · refine v_aload_n C dX6_forcedByFill_50 rfl ?_
            refine v_getr C fl_X6_7 or_qS_0_3 dX6_forcedByFill_51 ?_
            refine v_bipush (v := nI 96) C dX6_forcedByFill_54 (by decide) ?_
            refine v_iload C dX6_forcedByFill_56 rfl ?_
            first | refine v_iaddN C dX6_forcedByFill_58 ?_ | refine v_iadd C dX6_forcedByFill_58 ?_
            refine v_ialdQ (x := m 2 i) C ar_qS_1 (by decide) _ (hR.s (by omega)) ?_ rfl dX6_forcedByFill_59 ?_
            · omega
            refine v_iload_n C dX6_forcedByFill_60 rfl ?_
            refine v_iload_n C dX6_forcedByFill_61 rfl ?_
            refine v_callSi C (c_X6_in hl (v := m 2 i) (nI_toInt (show ja < 2 ^ 31 by omega)) (nI_toInt (show jb < 2 ^ 31 by omega))) ys_X6_in rfl ml_X6_98 (emb_n fix_qS) rfl rfl rfl dX6_forcedByFill_62 (Nat.le_of_ble_eq_true rfl) (Nat.le_of_ble_eq_true rfl) (Nat.le_of_ble_eq_true rfl) (Nat.le_of_ble_eq_true rfl) (fun _ _ hu => hu.elim) (fun r u hu => ?_)
            subst r
            rw [in_src hI (show i < n by omega)]
            refine v_if_eqB C 72 dX6_forcedByFill_65 (by decide) (fun c65 => ?_) (fun c65 => ?_)
            · refine v_iconst (v := nI 0) C dX6_forcedByFill_72 (by decide) ?_
              refine V.eqs (st2 := [.int (bI (!rowT ja jb i && (owb m i && rowT ja jb (src m i)))), .int (nI c)]) ?_ (congrArg (fun z => [Value.int z, Value.int (nI c)]) (by first | exact bI_t (by rw [c47, c65]; rfl) | exact bI_f (by rw [c47]; rfl) | exact bI_f (by rw [c65, Bool.and_false])))
              refine v_callSi C (c_X6_flag hl (b := !rowT ja jb i && (owb m i && rowT ja jb (src m i)))) ys_X6_flag rfl ml_X6_232 (emb_n fix_qS) rfl rfl rfl dX6_forcedByFill_73 (Nat.le_of_ble_eq_true rfl) (Nat.le_of_ble_eq_true rfl) (Nat.le_of_ble_eq_true rfl) (Nat.le_of_ble_eq_true rfl) (fun _ _ hu => hu.elim) (fun r u hu => ?_)
              subst r
              first | refine v_iaddN C dX6_forcedByFill_76 ?_ | refine v_iadd C dX6_forcedByFill_76 ?_
              refine v_istore_n C (lo2 := [some _, some _, some _, some _, some _]) dX6_forcedByFill_77 rfl (Nat.le_of_ble_eq_true rfl) rfl ?_
              first | refine v_iinc1 C (lo2 := [some _, some _, some _, some _, some _]) dX6_forcedByFill_78 rfl rfl rfl ?_ | refine v_iinc C (lo2 := [some _, some _, some _, some _, some _]) dX6_forcedByFill_78 rfl rfl rfl rfl ?_
              refine v_goto C 30 dX6_forcedByFill_81 (by decide) ?_
              have hib : i < n := by omega
              rw [cntG_s hib] at i3
              have hfl : fl ((fun q => !rowT ja jb q && (owb m q && rowT ja jb (src m q))) i) = (if (fun q => !rowT ja jb q && (owb m q && rowT ja jb (src m q))) i = true then 1 else 0) := rfl
              have hf1 : fl ((fun q => !rowT ja jb q && (owb m q && rowT ja jb (src m q))) i) ≤ 1 := by rw [hfl]; split <;> omega
              rw [← hfl] at i3
              exact ih30 (i + 1, c + fl ((fun q => !rowT ja jb q && (owb m q && rowT ja jb (src m q))) i)) (by show n - (i + 1) < n - i; omega) ⟨by show 0 ≤ i + 1; omega, by show i + 1 ≤ 200; omega, by show c + fl ((fun q => !rowT ja jb q && (owb m q && rowT ja jb (src m q))) i) ≤ i + 1; omega, by show c + fl ((fun q => !rowT ja jb q && (owb m q && rowT ja jb (src m q))) i) + cntG (fun q => !rowT ja jb q && (owb m q && rowT ja jb (src m q))) (i + 1) (n - (i + 1)) = _; omega⟩
            · refine v_iconst (v := nI 1) C dX6_forcedByFill_68 (by decide) ?_
              refine v_goto C 73 dX6_forcedByFill_69 (by decide) ?_
              refine V.eqs (st2 := [.int (bI (!rowT ja jb i && (owb m i && rowT ja jb (src m i)))), .int (nI c)]) ?_ (congrArg (fun z => [Value.int z, Value.int (nI c)]) (by first | exact bI_t (by rw [c47, c65]; rfl) | exact bI_f (by rw [c47]; rfl) | exact bI_f (by rw [c65, Bool.and_false])))
              refine v_callSi C (c_X6_flag hl (b := !rowT ja jb i && (owb m i && rowT ja jb (src m i)))) ys_X6_flag rfl ml_X6_232 (emb_n fix_qS) rfl rfl rfl dX6_forcedByFill_73 (Nat.le_of_ble_eq_true rfl) (Nat.le_of_ble_eq_true rfl) (Nat.le_of_ble_eq_true rfl) (Nat.le_of_ble_eq_true rfl) (fun _ _ hu => hu.elim) (fun r u hu => ?_)
              subst r
              first | refine v_iaddN C dX6_forcedByFill_76 ?_ | refine v_iadd C dX6_forcedByFill_76 ?_
              refine v_istore_n C (lo2 := [some _, some _, some _, some _, some _]) dX6_forcedByFill_77 rfl (Nat.le_of_ble_eq_true rfl) rfl ?_
              first | refine v_iinc1 C (lo2 := [some _, some _, some _, some _, some _]) dX6_forcedByFill_78 rfl rfl rfl ?_ | refine v_iinc C (lo2 := [some _, some _, some _, some _, some _]) dX6_forcedByFill_78 rfl rfl rfl rfl ?_
              refine v_goto C 30 dX6_forcedByFill_81 (by decide) ?_
              have hib : i < n := by omega
              rw [cntG_s hib] at i3
              have hfl : fl ((fun q => !rowT ja jb q && (owb m q && rowT ja jb (src m q))) i) = (if (fun q => !rowT ja jb q && (owb m q && rowT ja jb (src m q))) i = true then 1 else 0) := rfl
              have hf1 : fl ((fun q => !rowT ja jb q && (owb m q && rowT ja jb (src m q))) i) ≤ 1 := by rw [hfl]; split <;> omega
              rw [← hfl] at i3
              exact ih30 (i + 1, c + fl ((fun q => !rowT ja jb q && (owb m q && rowT ja jb (src m q))) i)) (by show n - (i + 1) < n - i; omega) ⟨by show 0 ≤ i + 1; omega, by show i + 1 ≤ 200; omega, by show c + fl ((fun q => !rowT ja jb q && (owb m q && rowT ja jb (src m q))) i) ≤ i + 1; omega, by show c + fl ((fun q => !rowT ja jb q && (owb m q && rowT ja jb (src m q))) i) + cntG (fun q => !rowT ja jb q && (owb m q && rowT ja jb (src m q))) (i + 1) (n - (i + 1)) = _; omega⟩
      exact L30 (0, 0) ⟨Nat.le_refl _, by show 0 ≤ 200; omega, by show 0 ≤ 0; omega, Nat.zero_add _⟩
    · refine V.stt (g2 := tg g 3) (by rw [c20]; rfl) ?_
      refine v_iconst (v := nI 0) C dX6_forcedByFill_23 (by decide) ?_
      refine v_iret C F (by first | rfl | exact bI_nar _) dX6_forcedByFill_24 (Nat.le_of_ble_eq_true rfl) (Nat.le_of_ble_eq_true rfl) ?_
      first
      | (rw [cntG_0 (by omega), Nat.add_zero] at i3
         refine ⟨?_, fun _ => ?_⟩
         · simp [cdL, hn0, hp_a, hp_b, hlt, c20, t_ja, t_jb]
         · rw [t_ja, t_jb, show (fillM n ja jb (nI 0) m).1 = cntG (fun q => !rowT ja jb q && (owb m q && rowT ja jb (src m q))) 0 n from dep_cnt]
           exact congrArg nI i3)
      | (refine ⟨?_, fun z => absurd z ?_⟩; (exact congrArg (tg g) (cd4 c6).symm); (exact fun z => absurd ((cd4 c6).symm.trans z) (nz_t c6)); done)
      | (refine ⟨?_, fun z => absurd z ?_⟩; (simp [cdL, hn0, hp_a, hp_b, hlt, c20, t_ja, t_jb]); (simp [cdL, hn0, hp_a, hp_b, hlt, c20, t_ja, t_jb]); done)
set_option maxHeartbeats 16000000 in
theorem c_X6_ticksToClear {l : Launch} (hl : l.stackTraces = false) {κ : Kp} {h : Nat → Nat} {g : G} {m : Mg} {n c : Nat} (hQ : QMm n m g) (hW : WM n c m) : Ct SS MM l κ yX6_ticksToClear cX6_ticksToClear 1 (some FieldType.int) 2 0 0 [.ref (h 0)] (qS κ h) g ri (fun r u => u = tg g (cdL [(decide (n = 0), 1)]) ∧ (cdL [(decide (n = 0), 1)] = 0 → r = nI (tikN m (cntG (owb m) 0 n)))) (fun _ _ => False) := by
  refine Ct.of (own := RX6) (by decide) rfl hl (by intro v hv; simp only [List.mem_cons, List.not_mem_nil, or_false] at hv; first | (rcases hv with rfl | rfl | rfl | rfl | rfl | rfl <;> rfl) | (rcases hv with rfl | rfl | rfl | rfl | rfl <;> rfl) | (rcases hv with rfl | rfl | rfl | rfl <;> rfl) | (rcases hv with rfl | rfl | rfl <;> rfl) | (rcases hv with rfl | rfl <;> rfl) | (subst hv; rfl) | exact hv.elim) (Nat.le_of_ble_eq_true rfl) (fun X hxl hxk C F N => ?_)
  subst hxl hxk
  show V X (qS (xK X) h) 0 [some (.ref (h 0))] [] g 0 0
  obtain ⟨hm, hs, h96, hRR⟩ := id hQ
  obtain ⟨-, hn7, hMf⟩ := id hW
  refine v_aload_n C dX6_ticksToClear_0 rfl ?_
  refine v_callVi C (c_X6_noMemory hl (n := n) hm) ym_X6_noMemory ml_X6_207 emb_id_qS rfl rfl rfl rfl rfl dX6_ticksToClear_1 (Nat.le_of_ble_eq_true rfl) (Nat.le_of_ble_eq_true rfl) (Nat.le_of_ble_eq_true rfl) (Nat.le_of_ble_eq_true rfl) (fun _ _ hu => hu.elim) (fun r u hu => ?_)
  obtain ⟨rfl, hu⟩ := hu
  subst u
  refine v_if_eqB C 11 dX6_ticksToClear_4 (by decide) (fun c4 => ?_) (fun c4 => ?_)
  · have hn0 : ¬ n = 0 := of_decide_eq_false c4
    have hR := hRR hn0
    have hMI := hMf hn0
    obtain ⟨hI, hE, hLK, hn1, hSB, hBY, hPR⟩ := id hMI
    have hbd := band_ok hSB
    have hn := hI.1
    refine V.stt (g2 := tg g 0) (by rw [c4]; rfl) ?_
    have hcl := cntG_le (f := owb m) n 0
    refine v_aload_n C dX6_ticksToClear_11 rfl ?_
    refine v_callVi C (c_X6_owedNow hl (g := tg g 0) (m := m) (n := n) hR hs h96) ym_X6_owedNow ml_X6_236 emb_id_qS rfl rfl rfl rfl rfl dX6_ticksToClear_12 (Nat.le_of_ble_eq_true rfl) (Nat.le_of_ble_eq_true rfl) (Nat.le_of_ble_eq_true rfl) (Nat.le_of_ble_eq_true rfl) (fun _ _ hu => hu.elim) (fun r u hu => ?_)
    obtain ⟨rfl, hu⟩ := hu
    subst u
    refine V.stt (g2 := (tg g 0)) (rfl) ?_
    refine v_aload_n C dX6_ticksToClear_15 rfl ?_
    refine v_getr C fl_X6_7 or_qS_0_3 dX6_ticksToClear_16 ?_
    refine v_sipush (v := nI 384) C dX6_ticksToClear_19 (by decide) ?_
    refine v_ialdQ (x := nI (bandN m)) C ar_qS_1 (by decide) _ ((hR.t (k := 0) (by decide)).trans hbd.1) ?_ rfl dX6_ticksToClear_22 ?_
    · omega
    first | refine v_iaddN C dX6_ticksToClear_23 ?_ | refine v_iadd C dX6_ticksToClear_23 ?_
    refine v_iconst (v := nI 1) C dX6_ticksToClear_24 (by decide) ?_
    first | refine v_isubN C dX6_ticksToClear_25 (by omega) ?_ | refine v_isub C dX6_ticksToClear_25 ?_
    refine v_aload_n C dX6_ticksToClear_26 rfl ?_
    refine v_getr C fl_X6_7 or_qS_0_3 dX6_ticksToClear_27 ?_
    refine v_sipush (v := nI 384) C dX6_ticksToClear_30 (by decide) ?_
    refine v_ialdQ (x := nI (bandN m)) C ar_qS_1 (by decide) _ ((hR.t (k := 0) (by decide)).trans hbd.1) ?_ rfl dX6_ticksToClear_33 ?_
    · omega
    refine v_idivN C dX6_ticksToClear_34 (by omega) (by omega) (by omega) ?_
    refine v_iret C F (by first | rfl | exact bI_nar _) dX6_ticksToClear_35 (Nat.le_of_ble_eq_true rfl) (Nat.le_of_ble_eq_true rfl) ?_
    first
    | (refine ⟨?_, fun _ => ?_⟩; simp [cdL, hn0]; rfl)
    | (refine ⟨?_, fun z => absurd z ?_⟩; (simp [cdL, hz0]); (simp [cdL, hz0]); done)
  · have hz0 : n = 0 := of_decide_eq_true c4
    refine V.stt (g2 := tg g 1) (by rw [c4]; rfl) ?_
    refine v_iconst (v := nI 0) C dX6_ticksToClear_7 (by decide) ?_
    refine v_goto C 35 dX6_ticksToClear_8 (by decide) ?_
    refine v_iret C F (by first | rfl | exact bI_nar _) dX6_ticksToClear_35 (Nat.le_of_ble_eq_true rfl) (Nat.le_of_ble_eq_true rfl) ?_
    first
    | (refine ⟨?_, fun _ => ?_⟩; simp [cdL, hn0]; rfl)
    | (refine ⟨?_, fun z => absurd z ?_⟩; (simp [cdL, hz0]); (simp [cdL, hz0]); done)
theorem max_sub2 {c d : Nat} (hc : c < 2 ^ 30) (hd : d < 2 ^ 30) : (if nI 0 < nI c - nI d then nI c - nI d else nI 0) = nI (c - d) := by
  have h := nI_sub_toInt hc hd
  by_cases z : nI 0 < nI c - nI d
  · rw [if_pos z]
    have z2 := Int32.lt_iff_toInt_lt.mp z
    rw [h, nI_toInt (by omega)] at z2
    exact nI_sub (by omega)
  · rw [if_neg z]
    have z2 : ¬ (nI 0).toInt < (nI c - nI d).toInt := fun q => z (Int32.lt_iff_toInt_lt.mpr q)
    rw [h, nI_toInt (by omega)] at z2
    exact congrArg nI (by omega)
set_option maxHeartbeats 16000000 in
theorem c_X6_owedAfter {l : Launch} (hl : l.stackTraces = false) {κ : Kp} {h : Nat → Nat} {g : G} {m : Mg} {n c : Nat} {t : Int32} (hQ : QMm n m g) (hW : WM n c m) : Ct SS MM l κ yX6_owedAfter cX6_owedAfter 2 (some FieldType.int) 2 0 0 [.ref (h 0), .int t] (qS κ h) g ri (fun r u => u = tg g (cdL [(decide (n = 0), 1), (!inB t 1 100, 2)]) ∧ (cdL [(decide (n = 0), 1), (!inB t 1 100, 2)] = 0 → r = nI (cntG (owb m) 0 n - tN t * bandN m))) (fun _ _ => False) := by
  refine Ct.of (own := RX6) (by decide) rfl hl (by intro v hv; simp only [List.mem_cons, List.not_mem_nil, or_false] at hv; first | (rcases hv with rfl | rfl | rfl | rfl | rfl | rfl <;> rfl) | (rcases hv with rfl | rfl | rfl | rfl | rfl <;> rfl) | (rcases hv with rfl | rfl | rfl | rfl <;> rfl) | (rcases hv with rfl | rfl | rfl <;> rfl) | (rcases hv with rfl | rfl <;> rfl) | (subst hv; rfl) | exact hv.elim) (Nat.le_of_ble_eq_true rfl) (fun X hxl hxk C F N => ?_)
  subst hxl hxk
  show V X (qS (xK X) h) 0 [some (.ref (h 0)), some (.int t)] [] g 0 0
  obtain ⟨hm, hs, h96, hRR⟩ := id hQ
  obtain ⟨-, hn7, hMf⟩ := id hW
  refine v_aload_n C dX6_owedAfter_0 rfl ?_
  refine v_callVi C (c_X6_noMemory hl (n := n) hm) ym_X6_noMemory ml_X6_207 emb_id_qS rfl rfl rfl rfl rfl dX6_owedAfter_1 (Nat.le_of_ble_eq_true rfl) (Nat.le_of_ble_eq_true rfl) (Nat.le_of_ble_eq_true rfl) (Nat.le_of_ble_eq_true rfl) (fun _ _ hu => hu.elim) (fun r u hu => ?_)
  obtain ⟨rfl, hu⟩ := hu
  subst u
  refine v_if_neB C 30 dX6_owedAfter_4 (by decide) (fun c4 => ?_) (fun c4 => ?_)
  · have hz0 : n = 0 := of_decide_eq_true c4
    refine V.stt (g2 := tg g 1) (by rw [c4]; rfl) ?_
    refine v_iconst (v := nI 0) C dX6_owedAfter_30 (by decide) ?_
    refine v_iret C F (by first | rfl | exact bI_nar _) dX6_owedAfter_31 (Nat.le_of_ble_eq_true rfl) (Nat.le_of_ble_eq_true rfl) ?_
    first
    | (refine ⟨?_, fun _ => ?_⟩; simp [cdL, hn0, c27]; rw [t_j])
    | (refine ⟨?_, fun z => absurd z ?_⟩; (simp [cdL, hz0]); (simp [cdL, hz0]); done)
    | (refine ⟨?_, fun z => absurd z ?_⟩; (simp [cdL, hn0, c27]); (simp [cdL, hn0, c27]); done)
  · have hn0 : ¬ n = 0 := of_decide_eq_false c4
    have hR := hRR hn0
    have hMI := hMf hn0
    obtain ⟨hI, hE, hLK, hn1, hSB, hBY, hPR⟩ := id hMI
    have hbd := band_ok hSB
    have hn := hI.1
    refine V.stt (g2 := tg g 0) (by rw [c4]; rfl) ?_
    refine v_aload_n C dX6_owedAfter_7 rfl ?_
    refine v_iload_n C dX6_owedAfter_8 rfl ?_
    refine v_iconst (v := nI 1) C dX6_owedAfter_9 (by decide) ?_
    refine v_bipush (v := nI 100) C dX6_owedAfter_10 (by decide) ?_
    refine v_callSi C (c_X6_in hl (v := t) (a := 1) (b := 100) (by decide) (by decide)) ys_X6_in rfl ml_X6_98 (emb_n fix_qS) rfl rfl rfl dX6_owedAfter_12 (Nat.le_of_ble_eq_true rfl) (Nat.le_of_ble_eq_true rfl) (Nat.le_of_ble_eq_true rfl) (Nat.le_of_ble_eq_true rfl) (fun _ _ hu => hu.elim) (fun r u hu => ?_)
    subst r
    refine v_if_neB C 22 dX6_owedAfter_15 (by decide) (fun c15 => ?_) (fun c15 => ?_)
    · refine v_iconst (v := nI 0) C dX6_owedAfter_22 (by decide) ?_
      refine V.eqs (st2 := [.int (bI (!inB t 1 100)), .ref (h 0)]) ?_ (congrArg (fun z => [Value.int z, Value.ref (h 0)]) (by first | exact bI_t (by simp [c15]) | exact bI_f (by simp [c15])))
      refine v_iconst (v := nI 2) C dX6_owedAfter_23 (by decide) ?_
      refine v_callVi C (c_X6_refuse hl (b := !inB t 1 100) (k := 2) (by decide) (by decide)) ym_X6_refuse ml_X6_40 emb_id_qS rfl rfl rfl rfl rfl dX6_owedAfter_24 (Nat.le_of_ble_eq_true rfl) (Nat.le_of_ble_eq_true rfl) (Nat.le_of_ble_eq_true rfl) (Nat.le_of_ble_eq_true rfl) (fun _ _ hu => hu.elim) (fun r u hu => ?_)
      obtain ⟨rfl, hu⟩ := hu
      subst u
      refine v_if_eqB C 32 dX6_owedAfter_27 (by decide) (fun c27 => ?_) (fun c27 => ?_)
      · refine V.stt (g2 := tg g 0) (by rw [c27]; rfl) ?_
        have hw4 : inB t 1 100 = true := by simpa using c27
        obtain ⟨j, hi_j, hj_j, hk_j, e_j⟩ := in_at (a := 1) hw4
        subst e_j
        have t_j : tN (nI j) = j := tN_nI hk_j
        have hcl := cntG_le (f := owb m) n 0
        have hjb : j * bandN m ≤ 100 * 20 := Nat.mul_le_mul (show j ≤ 100 by omega) hbd.2.2
        refine v_iconst (v := nI 0) C dX6_owedAfter_32 (by decide) ?_
        refine v_aload_n C dX6_owedAfter_33 rfl ?_
        refine v_callVi C (c_X6_owedNow hl (g := tg g 0) (m := m) (n := n) hR hs h96) ym_X6_owedNow ml_X6_236 emb_id_qS rfl rfl rfl rfl rfl dX6_owedAfter_34 (Nat.le_of_ble_eq_true rfl) (Nat.le_of_ble_eq_true rfl) (Nat.le_of_ble_eq_true rfl) (Nat.le_of_ble_eq_true rfl) (fun _ _ hu => hu.elim) (fun r u hu => ?_)
        obtain ⟨rfl, hu⟩ := hu
        subst u
        refine V.stt (g2 := (tg g 0)) (rfl) ?_
        refine v_iload_n C dX6_owedAfter_37 rfl ?_
        refine v_aload_n C dX6_owedAfter_38 rfl ?_
        refine v_getr C fl_X6_7 or_qS_0_3 dX6_owedAfter_39 ?_
        refine v_sipush (v := nI 384) C dX6_owedAfter_42 (by decide) ?_
        refine v_ialdQ (x := nI (bandN m)) C ar_qS_1 (by decide) _ ((hR.t (k := 0) (by decide)).trans hbd.1) ?_ rfl dX6_owedAfter_45 ?_
        · omega
        first | refine v_imulN C dX6_owedAfter_46 ?_ | refine v_imul C dX6_owedAfter_46 ?_
        first | refine v_isubN C dX6_owedAfter_47 (by omega) ?_ | refine v_isub C dX6_owedAfter_47 ?_
        refine v_mmax (z := nI (cntG (owb m) 0 n - j * bandN m)) C ml_X6_263 w_maxS w_mI w_maxC rfl (Nat.le_of_ble_eq_true rfl) dX6_owedAfter_48 (Nat.le_of_ble_eq_true rfl) (Nat.le_of_ble_eq_true rfl) ?_ ?_
        · exact max_sub2 (by omega) (by omega)
        refine v_iret C F (by first | rfl | exact bI_nar _) dX6_owedAfter_51 (Nat.le_of_ble_eq_true rfl) (Nat.le_of_ble_eq_true rfl) ?_
        first
        | (refine ⟨?_, fun _ => ?_⟩; simp [cdL, hn0, c27]; rw [t_j])
        | (refine ⟨?_, fun z => absurd z ?_⟩; (simp [cdL, hz0]); (simp [cdL, hz0]); done)
        | (refine ⟨?_, fun z => absurd z ?_⟩; (simp [cdL, hn0, c27]); (simp [cdL, hn0, c27]); done)
      · refine V.stt (g2 := tg g 2) (by rw [c27]; rfl) ?_
        refine v_iconst (v := nI 0) C dX6_owedAfter_30 (by decide) ?_
        refine v_iret C F (by first | rfl | exact bI_nar _) dX6_owedAfter_31 (Nat.le_of_ble_eq_true rfl) (Nat.le_of_ble_eq_true rfl) ?_
        first
        | (refine ⟨?_, fun _ => ?_⟩; simp [cdL, hn0, c27]; rw [t_j])
        | (refine ⟨?_, fun z => absurd z ?_⟩; (simp [cdL, hz0]); (simp [cdL, hz0]); done)
        | (refine ⟨?_, fun z => absurd z ?_⟩; (simp [cdL, hn0, c27]); (simp [cdL, hn0, c27]); done)
    · refine v_iconst (v := nI 1) C dX6_owedAfter_18 (by decide) ?_
      refine v_goto C 23 dX6_owedAfter_19 (by decide) ?_
      refine V.eqs (st2 := [.int (bI (!inB t 1 100)), .ref (h 0)]) ?_ (congrArg (fun z => [Value.int z, Value.ref (h 0)]) (by first | exact bI_t (by simp [c15]) | exact bI_f (by simp [c15])))
      refine v_iconst (v := nI 2) C dX6_owedAfter_23 (by decide) ?_
      refine v_callVi C (c_X6_refuse hl (b := !inB t 1 100) (k := 2) (by decide) (by decide)) ym_X6_refuse ml_X6_40 emb_id_qS rfl rfl rfl rfl rfl dX6_owedAfter_24 (Nat.le_of_ble_eq_true rfl) (Nat.le_of_ble_eq_true rfl) (Nat.le_of_ble_eq_true rfl) (Nat.le_of_ble_eq_true rfl) (fun _ _ hu => hu.elim) (fun r u hu => ?_)
      obtain ⟨rfl, hu⟩ := hu
      subst u
      refine v_if_eqB C 32 dX6_owedAfter_27 (by decide) (fun c27 => ?_) (fun c27 => ?_)
      · refine V.stt (g2 := tg g 0) (by rw [c27]; rfl) ?_
        have hw4 : inB t 1 100 = true := by simpa using c27
        obtain ⟨j, hi_j, hj_j, hk_j, e_j⟩ := in_at (a := 1) hw4
        subst e_j
        have t_j : tN (nI j) = j := tN_nI hk_j
        have hcl := cntG_le (f := owb m) n 0
        have hjb : j * bandN m ≤ 100 * 20 := Nat.mul_le_mul (show j ≤ 100 by omega) hbd.2.2
        refine v_iconst (v := nI 0) C dX6_owedAfter_32 (by decide) ?_
        refine v_aload_n C dX6_owedAfter_33 rfl ?_
        refine v_callVi C (c_X6_owedNow hl (g := tg g 0) (m := m) (n := n) hR hs h96) ym_X6_owedNow ml_X6_236 emb_id_qS rfl rfl rfl rfl rfl dX6_owedAfter_34 (Nat.le_of_ble_eq_true rfl) (Nat.le_of_ble_eq_true rfl) (Nat.le_of_ble_eq_true rfl) (Nat.le_of_ble_eq_true rfl) (fun _ _ hu => hu.elim) (fun r u hu => ?_)
        obtain ⟨rfl, hu⟩ := hu
        subst u
        refine V.stt (g2 := (tg g 0)) (rfl) ?_
        refine v_iload_n C dX6_owedAfter_37 rfl ?_
        refine v_aload_n C dX6_owedAfter_38 rfl ?_
        refine v_getr C fl_X6_7 or_qS_0_3 dX6_owedAfter_39 ?_
        refine v_sipush (v := nI 384) C dX6_owedAfter_42 (by decide) ?_
        refine v_ialdQ (x := nI (bandN m)) C ar_qS_1 (by decide) _ ((hR.t (k := 0) (by decide)).trans hbd.1) ?_ rfl dX6_owedAfter_45 ?_
        · omega
        first | refine v_imulN C dX6_owedAfter_46 ?_ | refine v_imul C dX6_owedAfter_46 ?_
        first | refine v_isubN C dX6_owedAfter_47 (by omega) ?_ | refine v_isub C dX6_owedAfter_47 ?_
        refine v_mmax (z := nI (cntG (owb m) 0 n - j * bandN m)) C ml_X6_263 w_maxS w_mI w_maxC rfl (Nat.le_of_ble_eq_true rfl) dX6_owedAfter_48 (Nat.le_of_ble_eq_true rfl) (Nat.le_of_ble_eq_true rfl) ?_ ?_
        · exact max_sub2 (by omega) (by omega)
        refine v_iret C F (by first | rfl | exact bI_nar _) dX6_owedAfter_51 (Nat.le_of_ble_eq_true rfl) (Nat.le_of_ble_eq_true rfl) ?_
        first
        | (refine ⟨?_, fun _ => ?_⟩; simp [cdL, hn0, c27]; rw [t_j])
        | (refine ⟨?_, fun z => absurd z ?_⟩; (simp [cdL, hz0]); (simp [cdL, hz0]); done)
        | (refine ⟨?_, fun z => absurd z ?_⟩; (simp [cdL, hn0, c27]); (simp [cdL, hn0, c27]); done)
      · refine V.stt (g2 := tg g 2) (by rw [c27]; rfl) ?_
        refine v_iconst (v := nI 0) C dX6_owedAfter_30 (by decide) ?_
        refine v_iret C F (by first | rfl | exact bI_nar _) dX6_owedAfter_31 (Nat.le_of_ble_eq_true rfl) (Nat.le_of_ble_eq_true rfl) ?_
        first
        | (refine ⟨?_, fun _ => ?_⟩; simp [cdL, hn0, c27]; rw [t_j])
        | (refine ⟨?_, fun z => absurd z ?_⟩; (simp [cdL, hz0]); (simp [cdL, hz0]); done)
        | (refine ⟨?_, fun z => absurd z ?_⟩; (simp [cdL, hn0, c27]); (simp [cdL, hn0, c27]); done)
set_option maxHeartbeats 16000000 in
theorem c_X6_event {l : Launch} (hl : l.stackTraces = false) {κ : Kp} {h : Nat → Nat} {g : G} {m : Mg} {n c : Nat} {k w : Int32} (hQ : QMm n m g) (hW : WM n c m) : Ct SS MM l κ yX6_event cX6_event 3 (some FieldType.int) 2 0 0 [.ref (h 0), .int k, .int w] (qS κ h) g ri (fun r u => u = tg g (cdL [(decide (n = 0), 1), (!inB k 0 ((evN m : Int) - 1), 2), (!inB w 0 2, 3)]) ∧ (cdL [(decide (n = 0), 1), (!inB k 0 ((evN m : Int) - 1), 2), (!inB w 0 2, 3)] = 0 → r = m 7 (tN k * 3 + tN w))) (fun _ _ => False) := by
  refine Ct.of (own := RX6) (by decide) rfl hl (by intro v hv; simp only [List.mem_cons, List.not_mem_nil, or_false] at hv; first | (rcases hv with rfl | rfl | rfl | rfl | rfl | rfl <;> rfl) | (rcases hv with rfl | rfl | rfl | rfl | rfl <;> rfl) | (rcases hv with rfl | rfl | rfl | rfl <;> rfl) | (rcases hv with rfl | rfl | rfl <;> rfl) | (rcases hv with rfl | rfl <;> rfl) | (subst hv; rfl) | exact hv.elim) (Nat.le_of_ble_eq_true rfl) (fun X hxl hxk C F N => ?_)
  subst hxl hxk
  show V X (qS (xK X) h) 0 [some (.ref (h 0)), some (.int k), some (.int w)] [] g 0 0
  obtain ⟨hm, hs, h96, hRR⟩ := id hQ
  obtain ⟨-, hn7, hMf⟩ := id hW
  refine v_aload_n C dX6_event_0 rfl ?_
  refine v_callVi C (c_X6_noMemory hl (n := n) hm) ym_X6_noMemory ml_X6_207 emb_id_qS rfl rfl rfl rfl rfl dX6_event_1 (Nat.le_of_ble_eq_true rfl) (Nat.le_of_ble_eq_true rfl) (Nat.le_of_ble_eq_true rfl) (Nat.le_of_ble_eq_true rfl) (fun _ _ hu => hu.elim) (fun r u hu => ?_)
  obtain ⟨rfl, hu⟩ := hu
  subst u
  refine v_if_neB C 60 dX6_event_4 (by decide) (fun c4 => ?_) (fun c4 => ?_)
  · have hz0 : n = 0 := of_decide_eq_true c4
    refine V.stt (g2 := tg g 1) (by rw [c4]; rfl) ?_
    refine v_iconst (v := nI 0) C dX6_event_60 (by decide) ?_
    refine v_goto C 78 dX6_event_61 (by decide) ?_
    refine v_iret C F (by first | rfl | exact bI_nar _) dX6_event_78 (Nat.le_of_ble_eq_true rfl) (Nat.le_of_ble_eq_true rfl) ?_
    first
    | (refine ⟨?_, fun _ => ?_⟩; simp [cdL, hn0, c35, c57]; rw [t_k, t_j2])
    | (refine ⟨?_, fun z => absurd z ?_⟩; (simp [cdL, hz0]); (simp [cdL, hz0]); done)
    | (refine ⟨?_, fun z => absurd z ?_⟩; (simp [cdL, hn0, c35]); (simp [cdL, hn0, c35]); done)
    | (refine ⟨?_, fun z => absurd z ?_⟩; (simp [cdL, hn0, c35, c57]); (simp [cdL, hn0, c35, c57]); done)
  · have hn0 : ¬ n = 0 := of_decide_eq_false c4
    have hR := hRR hn0
    have hMI := hMf hn0
    obtain ⟨hI, hE, hLK, hn1, hSB, hBY, hPR⟩ := id hMI
    have hbd := band_ok hSB
    have hn := hI.1
    refine V.stt (g2 := tg g 0) (by rw [c4]; rfl) ?_
    obtain ⟨e, he80, he8⟩ := hE
    have hev : evN m = e := evN_eq he8 he80
    have hevI : (e : Int) = (evN m : Int) := by rw [hev]
    refine v_aload_n C dX6_event_7 rfl ?_
    refine v_iload_n C dX6_event_8 rfl ?_
    refine v_iconst (v := nI 0) C dX6_event_9 (by decide) ?_
    refine v_aload_n C dX6_event_10 rfl ?_
    refine v_getr C fl_X6_7 or_qS_0_3 dX6_event_11 ?_
    refine v_sipush (v := nI 399) C dX6_event_14 (by decide) ?_
    refine v_ialdQ (x := nI e) C ar_qS_1 (by decide) _ (hR.n.trans he8) ?_ rfl dX6_event_17 ?_
    · omega
    refine v_iconst (v := nI 1) C dX6_event_18 (by decide) ?_
    first | refine v_isubN C dX6_event_19 (by omega) ?_ | refine v_isub C dX6_event_19 ?_
    refine v_callSi C (c_X6_in hl (v := k) (a := 0) (b := ((evN m : Int) - 1)) (by decide) (by rw [← hevI]; exact sub1_toInt (by omega))) ys_X6_in rfl ml_X6_98 (emb_n fix_qS) rfl rfl rfl dX6_event_20 (Nat.le_of_ble_eq_true rfl) (Nat.le_of_ble_eq_true rfl) (Nat.le_of_ble_eq_true rfl) (Nat.le_of_ble_eq_true rfl) (fun _ _ hu => hu.elim) (fun r u hu => ?_)
    subst r
    refine v_if_neB C 30 dX6_event_23 (by decide) (fun c23 => ?_) (fun c23 => ?_)
    · refine v_iconst (v := nI 0) C dX6_event_30 (by decide) ?_
      refine V.eqs (st2 := [.int (bI (!inB k 0 ((evN m : Int) - 1))), .ref (h 0)]) ?_ (congrArg (fun z => [Value.int z, Value.ref (h 0)]) (by first | exact bI_t (by simp [c23]) | exact bI_f (by simp [c23])))
      refine v_iconst (v := nI 2) C dX6_event_31 (by decide) ?_
      refine v_callVi C (c_X6_refuse hl (b := !inB k 0 ((evN m : Int) - 1)) (k := 2) (by decide) (by decide)) ym_X6_refuse ml_X6_40 emb_id_qS rfl rfl rfl rfl rfl dX6_event_32 (Nat.le_of_ble_eq_true rfl) (Nat.le_of_ble_eq_true rfl) (Nat.le_of_ble_eq_true rfl) (Nat.le_of_ble_eq_true rfl) (fun _ _ hu => hu.elim) (fun r u hu => ?_)
      obtain ⟨rfl, hu⟩ := hu
      subst u
      refine v_if_neB C 60 dX6_event_35 (by decide) (fun c35 => ?_) (fun c35 => ?_)
      · refine V.stt (g2 := tg g 2) (by rw [c35]; rfl) ?_
        refine v_iconst (v := nI 0) C dX6_event_60 (by decide) ?_
        refine v_goto C 78 dX6_event_61 (by decide) ?_
        refine v_iret C F (by first | rfl | exact bI_nar _) dX6_event_78 (Nat.le_of_ble_eq_true rfl) (Nat.le_of_ble_eq_true rfl) ?_
        first
        | (refine ⟨?_, fun _ => ?_⟩; simp [cdL, hn0, c35, c57]; rw [t_k, t_j2])
        | (refine ⟨?_, fun z => absurd z ?_⟩; (simp [cdL, hz0]); (simp [cdL, hz0]); done)
        | (refine ⟨?_, fun z => absurd z ?_⟩; (simp [cdL, hn0, c35]); (simp [cdL, hn0, c35]); done)
        | (refine ⟨?_, fun z => absurd z ?_⟩; (simp [cdL, hn0, c35, c57]); (simp [cdL, hn0, c35, c57]); done)
      · refine V.stt (g2 := tg g 0) (by rw [c35]; rfl) ?_
        have hkI : inB k 0 ((evN m : Int) - 1) = true := by simpa using c35
        obtain ⟨jk, -, hjk, hjk2, ek⟩ := in_at (a := 0) hkI
        subst ek
        have t_k : tN (nI jk) = jk := tN_nI hjk2
        refine v_aload_n C dX6_event_38 rfl ?_
        refine v_iload_n C dX6_event_39 rfl ?_
        refine v_iconst (v := nI 0) C dX6_event_40 (by decide) ?_
        refine v_iconst (v := nI 2) C dX6_event_41 (by decide) ?_
        refine v_callSi C (c_X6_in hl (v := w) (a := 0) (b := 2) (by decide) (by decide)) ys_X6_in rfl ml_X6_98 (emb_n fix_qS) rfl rfl rfl dX6_event_42 (Nat.le_of_ble_eq_true rfl) (Nat.le_of_ble_eq_true rfl) (Nat.le_of_ble_eq_true rfl) (Nat.le_of_ble_eq_true rfl) (fun _ _ hu => hu.elim) (fun r u hu => ?_)
        subst r
        refine v_if_neB C 52 dX6_event_45 (by decide) (fun c45 => ?_) (fun c45 => ?_)
        · refine v_iconst (v := nI 0) C dX6_event_52 (by decide) ?_
          refine V.eqs (st2 := [.int (bI (!inB w 0 2)), .ref (h 0)]) ?_ (congrArg (fun z => [Value.int z, Value.ref (h 0)]) (by first | exact bI_t (by simp [c45]) | exact bI_f (by simp [c45])))
          refine v_iconst (v := nI 3) C dX6_event_53 (by decide) ?_
          refine v_callVi C (c_X6_refuse hl (b := !inB w 0 2) (k := 3) (by decide) (by decide)) ym_X6_refuse ml_X6_40 emb_id_qS rfl rfl rfl rfl rfl dX6_event_54 (Nat.le_of_ble_eq_true rfl) (Nat.le_of_ble_eq_true rfl) (Nat.le_of_ble_eq_true rfl) (Nat.le_of_ble_eq_true rfl) (fun _ _ hu => hu.elim) (fun r u hu => ?_)
          obtain ⟨rfl, hu⟩ := hu
          subst u
          refine v_if_eqB C 64 dX6_event_57 (by decide) (fun c57 => ?_) (fun c57 => ?_)
          · refine V.stt (g2 := tg g 0) (by rw [c57]; rfl) ?_
            have hwI : inB w 0 2 = true := by simpa using c57
            obtain ⟨j2, -, hj2, hj22, e2⟩ := in_at (a := 0) hwI
            subst e2
            have t_j2 : tN (nI j2) = j2 := tN_nI hj22
            refine v_aload_n C dX6_event_64 rfl ?_
            refine v_getr C fl_X6_7 or_qS_0_3 dX6_event_65 ?_
            refine v_sipush (v := nI 400) C dX6_event_68 (by decide) ?_
            refine v_iconst (v := nI 3) C dX6_event_71 (by decide) ?_
            refine v_iload_n C dX6_event_72 rfl ?_
            first | refine v_imulN C dX6_event_73 ?_ | refine v_imul C dX6_event_73 ?_
            first | refine v_iaddN C dX6_event_74 ?_ | refine v_iadd C dX6_event_74 ?_
            refine v_iload_n C dX6_event_75 rfl ?_
            first | refine v_iaddN C dX6_event_76 ?_ | refine v_iadd C dX6_event_76 ?_
            refine v_ialdQ (x := m 7 (jk * 3 + j2)) C ar_qS_1 (by decide) _ ((by rw [show 400 + 3 * jk + j2 = 400 + (jk * 3 + j2) by omega]; exact hR.e (by rw [hev]; omega))) ?_ rfl dX6_event_77 ?_
            · omega
            refine v_iret C F (by first | rfl | exact bI_nar _) dX6_event_78 (Nat.le_of_ble_eq_true rfl) (Nat.le_of_ble_eq_true rfl) ?_
            first
            | (refine ⟨?_, fun _ => ?_⟩; simp [cdL, hn0, c35, c57]; rw [t_k, t_j2])
            | (refine ⟨?_, fun z => absurd z ?_⟩; (simp [cdL, hz0]); (simp [cdL, hz0]); done)
            | (refine ⟨?_, fun z => absurd z ?_⟩; (simp [cdL, hn0, c35]); (simp [cdL, hn0, c35]); done)
            | (refine ⟨?_, fun z => absurd z ?_⟩; (simp [cdL, hn0, c35, c57]); (simp [cdL, hn0, c35, c57]); done)
          · refine V.stt (g2 := tg g 3) (by rw [c57]; rfl) ?_
            refine v_iconst (v := nI 0) C dX6_event_60 (by decide) ?_
            refine v_goto C 78 dX6_event_61 (by decide) ?_
            refine v_iret C F (by first | rfl | exact bI_nar _) dX6_event_78 (Nat.le_of_ble_eq_true rfl) (Nat.le_of_ble_eq_true rfl) ?_
            first
            | (refine ⟨?_, fun _ => ?_⟩; simp [cdL, hn0, c35, c57]; rw [t_k, t_j2])
            | (refine ⟨?_, fun z => absurd z ?_⟩; (simp [cdL, hz0]); (simp [cdL, hz0]); done)
            | (refine ⟨?_, fun z => absurd z ?_⟩; (simp [cdL, hn0, c35]); (simp [cdL, hn0, c35]); done)
            | (refine ⟨?_, fun z => absurd z ?_⟩; (simp [cdL, hn0, c35, c57]); (simp [cdL, hn0, c35, c57]); done)
        · refine v_iconst (v := nI 1) C dX6_event_48 (by decide) ?_
          refine v_goto C 53 dX6_event_49 (by decide) ?_
          refine V.eqs (st2 := [.int (bI (!inB w 0 2)), .ref (h 0)]) ?_ (congrArg (fun z => [Value.int z, Value.ref (h 0)]) (by first | exact bI_t (by simp [c45]) | exact bI_f (by simp [c45])))
          refine v_iconst (v := nI 3) C dX6_event_53 (by decide) ?_
          refine v_callVi C (c_X6_refuse hl (b := !inB w 0 2) (k := 3) (by decide) (by decide)) ym_X6_refuse ml_X6_40 emb_id_qS rfl rfl rfl rfl rfl dX6_event_54 (Nat.le_of_ble_eq_true rfl) (Nat.le_of_ble_eq_true rfl) (Nat.le_of_ble_eq_true rfl) (Nat.le_of_ble_eq_true rfl) (fun _ _ hu => hu.elim) (fun r u hu => ?_)
          obtain ⟨rfl, hu⟩ := hu
          subst u
          refine v_if_eqB C 64 dX6_event_57 (by decide) (fun c57 => ?_) (fun c57 => ?_)
          · refine V.stt (g2 := tg g 0) (by rw [c57]; rfl) ?_
            have hwI : inB w 0 2 = true := by simpa using c57
            obtain ⟨j2, -, hj2, hj22, e2⟩ := in_at (a := 0) hwI
            subst e2
            have t_j2 : tN (nI j2) = j2 := tN_nI hj22
            refine v_aload_n C dX6_event_64 rfl ?_
            refine v_getr C fl_X6_7 or_qS_0_3 dX6_event_65 ?_
            refine v_sipush (v := nI 400) C dX6_event_68 (by decide) ?_
            refine v_iconst (v := nI 3) C dX6_event_71 (by decide) ?_
            refine v_iload_n C dX6_event_72 rfl ?_
            first | refine v_imulN C dX6_event_73 ?_ | refine v_imul C dX6_event_73 ?_
            first | refine v_iaddN C dX6_event_74 ?_ | refine v_iadd C dX6_event_74 ?_
            refine v_iload_n C dX6_event_75 rfl ?_
            first | refine v_iaddN C dX6_event_76 ?_ | refine v_iadd C dX6_event_76 ?_
            refine v_ialdQ (x := m 7 (jk * 3 + j2)) C ar_qS_1 (by decide) _ ((by rw [show 400 + 3 * jk + j2 = 400 + (jk * 3 + j2) by omega]; exact hR.e (by rw [hev]; omega))) ?_ rfl dX6_event_77 ?_
            · omega
            refine v_iret C F (by first | rfl | exact bI_nar _) dX6_event_78 (Nat.le_of_ble_eq_true rfl) (Nat.le_of_ble_eq_true rfl) ?_
            first
            | (refine ⟨?_, fun _ => ?_⟩; simp [cdL, hn0, c35, c57]; rw [t_k, t_j2])
            | (refine ⟨?_, fun z => absurd z ?_⟩; (simp [cdL, hz0]); (simp [cdL, hz0]); done)
            | (refine ⟨?_, fun z => absurd z ?_⟩; (simp [cdL, hn0, c35]); (simp [cdL, hn0, c35]); done)
            | (refine ⟨?_, fun z => absurd z ?_⟩; (simp [cdL, hn0, c35, c57]); (simp [cdL, hn0, c35, c57]); done)
          · refine V.stt (g2 := tg g 3) (by rw [c57]; rfl) ?_
            refine v_iconst (v := nI 0) C dX6_event_60 (by decide) ?_
            refine v_goto C 78 dX6_event_61 (by decide) ?_
            refine v_iret C F (by first | rfl | exact bI_nar _) dX6_event_78 (Nat.le_of_ble_eq_true rfl) (Nat.le_of_ble_eq_true rfl) ?_
            first
            | (refine ⟨?_, fun _ => ?_⟩; simp [cdL, hn0, c35, c57]; rw [t_k, t_j2])
            | (refine ⟨?_, fun z => absurd z ?_⟩; (simp [cdL, hz0]); (simp [cdL, hz0]); done)
            | (refine ⟨?_, fun z => absurd z ?_⟩; (simp [cdL, hn0, c35]); (simp [cdL, hn0, c35]); done)
            | (refine ⟨?_, fun z => absurd z ?_⟩; (simp [cdL, hn0, c35, c57]); (simp [cdL, hn0, c35, c57]); done)
    · refine v_iconst (v := nI 1) C dX6_event_26 (by decide) ?_
      refine v_goto C 31 dX6_event_27 (by decide) ?_
      refine V.eqs (st2 := [.int (bI (!inB k 0 ((evN m : Int) - 1))), .ref (h 0)]) ?_ (congrArg (fun z => [Value.int z, Value.ref (h 0)]) (by first | exact bI_t (by simp [c23]) | exact bI_f (by simp [c23])))
      refine v_iconst (v := nI 2) C dX6_event_31 (by decide) ?_
      refine v_callVi C (c_X6_refuse hl (b := !inB k 0 ((evN m : Int) - 1)) (k := 2) (by decide) (by decide)) ym_X6_refuse ml_X6_40 emb_id_qS rfl rfl rfl rfl rfl dX6_event_32 (Nat.le_of_ble_eq_true rfl) (Nat.le_of_ble_eq_true rfl) (Nat.le_of_ble_eq_true rfl) (Nat.le_of_ble_eq_true rfl) (fun _ _ hu => hu.elim) (fun r u hu => ?_)
      obtain ⟨rfl, hu⟩ := hu
      subst u
      refine v_if_neB C 60 dX6_event_35 (by decide) (fun c35 => ?_) (fun c35 => ?_)
      · refine V.stt (g2 := tg g 2) (by rw [c35]; rfl) ?_
        refine v_iconst (v := nI 0) C dX6_event_60 (by decide) ?_
        refine v_goto C 78 dX6_event_61 (by decide) ?_
        refine v_iret C F (by first | rfl | exact bI_nar _) dX6_event_78 (Nat.le_of_ble_eq_true rfl) (Nat.le_of_ble_eq_true rfl) ?_
        first
        | (refine ⟨?_, fun _ => ?_⟩; simp [cdL, hn0, c35, c57]; rw [t_k, t_j2])
        | (refine ⟨?_, fun z => absurd z ?_⟩; (simp [cdL, hz0]); (simp [cdL, hz0]); done)
        | (refine ⟨?_, fun z => absurd z ?_⟩; (simp [cdL, hn0, c35]); (simp [cdL, hn0, c35]); done)
        | (refine ⟨?_, fun z => absurd z ?_⟩; (simp [cdL, hn0, c35, c57]); (simp [cdL, hn0, c35, c57]); done)
      · refine V.stt (g2 := tg g 0) (by rw [c35]; rfl) ?_
        have hkI : inB k 0 ((evN m : Int) - 1) = true := by simpa using c35
        obtain ⟨jk, -, hjk, hjk2, ek⟩ := in_at (a := 0) hkI
        subst ek
        have t_k : tN (nI jk) = jk := tN_nI hjk2
        refine v_aload_n C dX6_event_38 rfl ?_
        refine v_iload_n C dX6_event_39 rfl ?_
        refine v_iconst (v := nI 0) C dX6_event_40 (by decide) ?_
        refine v_iconst (v := nI 2) C dX6_event_41 (by decide) ?_
        refine v_callSi C (c_X6_in hl (v := w) (a := 0) (b := 2) (by decide) (by decide)) ys_X6_in rfl ml_X6_98 (emb_n fix_qS) rfl rfl rfl dX6_event_42 (Nat.le_of_ble_eq_true rfl) (Nat.le_of_ble_eq_true rfl) (Nat.le_of_ble_eq_true rfl) (Nat.le_of_ble_eq_true rfl) (fun _ _ hu => hu.elim) (fun r u hu => ?_)
        subst r
        refine v_if_neB C 52 dX6_event_45 (by decide) (fun c45 => ?_) (fun c45 => ?_)
        · refine v_iconst (v := nI 0) C dX6_event_52 (by decide) ?_
          refine V.eqs (st2 := [.int (bI (!inB w 0 2)), .ref (h 0)]) ?_ (congrArg (fun z => [Value.int z, Value.ref (h 0)]) (by first | exact bI_t (by simp [c45]) | exact bI_f (by simp [c45])))
          refine v_iconst (v := nI 3) C dX6_event_53 (by decide) ?_
          refine v_callVi C (c_X6_refuse hl (b := !inB w 0 2) (k := 3) (by decide) (by decide)) ym_X6_refuse ml_X6_40 emb_id_qS rfl rfl rfl rfl rfl dX6_event_54 (Nat.le_of_ble_eq_true rfl) (Nat.le_of_ble_eq_true rfl) (Nat.le_of_ble_eq_true rfl) (Nat.le_of_ble_eq_true rfl) (fun _ _ hu => hu.elim) (fun r u hu => ?_)
          obtain ⟨rfl, hu⟩ := hu
          subst u
          refine v_if_eqB C 64 dX6_event_57 (by decide) (fun c57 => ?_) (fun c57 => ?_)
          · refine V.stt (g2 := tg g 0) (by rw [c57]; rfl) ?_
            have hwI : inB w 0 2 = true := by simpa using c57
            obtain ⟨j2, -, hj2, hj22, e2⟩ := in_at (a := 0) hwI
            subst e2
            have t_j2 : tN (nI j2) = j2 := tN_nI hj22
            refine v_aload_n C dX6_event_64 rfl ?_
            refine v_getr C fl_X6_7 or_qS_0_3 dX6_event_65 ?_
            refine v_sipush (v := nI 400) C dX6_event_68 (by decide) ?_
            refine v_iconst (v := nI 3) C dX6_event_71 (by decide) ?_
            refine v_iload_n C dX6_event_72 rfl ?_
            first | refine v_imulN C dX6_event_73 ?_ | refine v_imul C dX6_event_73 ?_
            first | refine v_iaddN C dX6_event_74 ?_ | refine v_iadd C dX6_event_74 ?_
            refine v_iload_n C dX6_event_75 rfl ?_
            first | refine v_iaddN C dX6_event_76 ?_ | refine v_iadd C dX6_event_76 ?_
            refine v_ialdQ (x := m 7 (jk * 3 + j2)) C ar_qS_1 (by decide) _ ((by rw [show 400 + 3 * jk + j2 = 400 + (jk * 3 + j2) by omega]; exact hR.e (by rw [hev]; omega))) ?_ rfl dX6_event_77 ?_
            · omega
            refine v_iret C F (by first | rfl | exact bI_nar _) dX6_event_78 (Nat.le_of_ble_eq_true rfl) (Nat.le_of_ble_eq_true rfl) ?_
            first
            | (refine ⟨?_, fun _ => ?_⟩; simp [cdL, hn0, c35, c57]; rw [t_k, t_j2])
            | (refine ⟨?_, fun z => absurd z ?_⟩; (simp [cdL, hz0]); (simp [cdL, hz0]); done)
            | (refine ⟨?_, fun z => absurd z ?_⟩; (simp [cdL, hn0, c35]); (simp [cdL, hn0, c35]); done)
            | (refine ⟨?_, fun z => absurd z ?_⟩; (simp [cdL, hn0, c35, c57]); (simp [cdL, hn0, c35, c57]); done)
          · refine V.stt (g2 := tg g 3) (by rw [c57]; rfl) ?_
            refine v_iconst (v := nI 0) C dX6_event_60 (by decide) ?_
            refine v_goto C 78 dX6_event_61 (by decide) ?_
            refine v_iret C F (by first | rfl | exact bI_nar _) dX6_event_78 (Nat.le_of_ble_eq_true rfl) (Nat.le_of_ble_eq_true rfl) ?_
            first
            | (refine ⟨?_, fun _ => ?_⟩; simp [cdL, hn0, c35, c57]; rw [t_k, t_j2])
            | (refine ⟨?_, fun z => absurd z ?_⟩; (simp [cdL, hz0]); (simp [cdL, hz0]); done)
            | (refine ⟨?_, fun z => absurd z ?_⟩; (simp [cdL, hn0, c35]); (simp [cdL, hn0, c35]); done)
            | (refine ⟨?_, fun z => absurd z ?_⟩; (simp [cdL, hn0, c35, c57]); (simp [cdL, hn0, c35, c57]); done)
        · refine v_iconst (v := nI 1) C dX6_event_48 (by decide) ?_
          refine v_goto C 53 dX6_event_49 (by decide) ?_
          refine V.eqs (st2 := [.int (bI (!inB w 0 2)), .ref (h 0)]) ?_ (congrArg (fun z => [Value.int z, Value.ref (h 0)]) (by first | exact bI_t (by simp [c45]) | exact bI_f (by simp [c45])))
          refine v_iconst (v := nI 3) C dX6_event_53 (by decide) ?_
          refine v_callVi C (c_X6_refuse hl (b := !inB w 0 2) (k := 3) (by decide) (by decide)) ym_X6_refuse ml_X6_40 emb_id_qS rfl rfl rfl rfl rfl dX6_event_54 (Nat.le_of_ble_eq_true rfl) (Nat.le_of_ble_eq_true rfl) (Nat.le_of_ble_eq_true rfl) (Nat.le_of_ble_eq_true rfl) (fun _ _ hu => hu.elim) (fun r u hu => ?_)
          obtain ⟨rfl, hu⟩ := hu
          subst u
          refine v_if_eqB C 64 dX6_event_57 (by decide) (fun c57 => ?_) (fun c57 => ?_)
          · refine V.stt (g2 := tg g 0) (by rw [c57]; rfl) ?_
            have hwI : inB w 0 2 = true := by simpa using c57
            obtain ⟨j2, -, hj2, hj22, e2⟩ := in_at (a := 0) hwI
            subst e2
            have t_j2 : tN (nI j2) = j2 := tN_nI hj22
            refine v_aload_n C dX6_event_64 rfl ?_
            refine v_getr C fl_X6_7 or_qS_0_3 dX6_event_65 ?_
            refine v_sipush (v := nI 400) C dX6_event_68 (by decide) ?_
            refine v_iconst (v := nI 3) C dX6_event_71 (by decide) ?_
            refine v_iload_n C dX6_event_72 rfl ?_
            first | refine v_imulN C dX6_event_73 ?_ | refine v_imul C dX6_event_73 ?_
            first | refine v_iaddN C dX6_event_74 ?_ | refine v_iadd C dX6_event_74 ?_
            refine v_iload_n C dX6_event_75 rfl ?_
            first | refine v_iaddN C dX6_event_76 ?_ | refine v_iadd C dX6_event_76 ?_
            refine v_ialdQ (x := m 7 (jk * 3 + j2)) C ar_qS_1 (by decide) _ ((by rw [show 400 + 3 * jk + j2 = 400 + (jk * 3 + j2) by omega]; exact hR.e (by rw [hev]; omega))) ?_ rfl dX6_event_77 ?_
            · omega
            refine v_iret C F (by first | rfl | exact bI_nar _) dX6_event_78 (Nat.le_of_ble_eq_true rfl) (Nat.le_of_ble_eq_true rfl) ?_
            first
            | (refine ⟨?_, fun _ => ?_⟩; simp [cdL, hn0, c35, c57]; rw [t_k, t_j2])
            | (refine ⟨?_, fun z => absurd z ?_⟩; (simp [cdL, hz0]); (simp [cdL, hz0]); done)
            | (refine ⟨?_, fun z => absurd z ?_⟩; (simp [cdL, hn0, c35]); (simp [cdL, hn0, c35]); done)
            | (refine ⟨?_, fun z => absurd z ?_⟩; (simp [cdL, hn0, c35, c57]); (simp [cdL, hn0, c35, c57]); done)
          · refine V.stt (g2 := tg g 3) (by rw [c57]; rfl) ?_
            refine v_iconst (v := nI 0) C dX6_event_60 (by decide) ?_
            refine v_goto C 78 dX6_event_61 (by decide) ?_
            refine v_iret C F (by first | rfl | exact bI_nar _) dX6_event_78 (Nat.le_of_ble_eq_true rfl) (Nat.le_of_ble_eq_true rfl) ?_
            first
            | (refine ⟨?_, fun _ => ?_⟩; simp [cdL, hn0, c35, c57]; rw [t_k, t_j2])
            | (refine ⟨?_, fun z => absurd z ?_⟩; (simp [cdL, hz0]); (simp [cdL, hz0]); done)
            | (refine ⟨?_, fun z => absurd z ?_⟩; (simp [cdL, hn0, c35]); (simp [cdL, hn0, c35]); done)
            | (refine ⟨?_, fun z => absurd z ?_⟩; (simp [cdL, hn0, c35, c57]); (simp [cdL, hn0, c35, c57]); done)
set_option maxHeartbeats 16000000 in
theorem c_X6_told {l : Launch} (hl : l.stackTraces = false) {κ : Kp} {h : Nat → Nat} {g : G} {n : Nat} {v : Int32} (hm : g 0 1 = bI (!decide (n = 0))) (hv : n = 0 → v = nI 0) : Ct SS MM l κ yX6_told cX6_told 2 (some FieldType.int) 0 0 0 [.ref (h 0), .int v] (qS κ h) g ri (fun r u => r = v ∧ u = tg g 0) (fun _ _ => False) := by
  refine Ct.of (own := RX6) (by decide) rfl hl (by intro v hv; simp only [List.mem_cons, List.not_mem_nil, or_false] at hv; first | (rcases hv with rfl | rfl | rfl | rfl | rfl | rfl <;> rfl) | (rcases hv with rfl | rfl | rfl | rfl | rfl <;> rfl) | (rcases hv with rfl | rfl | rfl | rfl <;> rfl) | (rcases hv with rfl | rfl | rfl <;> rfl) | (rcases hv with rfl | rfl <;> rfl) | (subst hv; rfl) | exact hv.elim) (Nat.le_of_ble_eq_true rfl) (fun X hxl hxk C F N => ?_)
  subst hxl hxk
  show V X (qS (xK X) h) 0 [some (.ref (h 0)), some (.int v)] [] g 0 0
  refine v_aload_n C dX6_told_0 rfl ?_
  refine v_iconst (v := nI 0) C dX6_told_1 (by decide) ?_
  refine v_puti C fl_X6_33 fw_X6_0 oi_qS_0_0 ⟨rfl, rfl⟩ dX6_told_2 ?_
  refine V.stt (g2 := tg g 0) (rfl) ?_
  refine v_aload_n C dX6_told_5 rfl ?_
  refine v_getiQ (x := bI (!decide (n = 0))) C fl_X6_36 oi_qS_0_1 (hm) dX6_told_6 ?_
  refine v_if_eqB C 16 dX6_told_9 (by decide) (fun c9 => ?_) (fun c9 => ?_)
  · refine v_iconst (v := nI 0) C dX6_told_16 (by decide) ?_
    refine v_iret C F (by first | rfl | exact bI_nar _) dX6_told_17 (Nat.le_of_ble_eq_true rfl) (Nat.le_of_ble_eq_true rfl) ?_
    first
    | exact ⟨rfl, rfl⟩
    | exact ⟨(hv (of_decide_eq_true (by rw [Bool.not_eq_false'] at c9; exact c9))).symm, rfl⟩
  · refine v_iload_n C dX6_told_12 rfl ?_
    refine v_goto C 17 dX6_told_13 (by decide) ?_
    refine v_iret C F (by first | rfl | exact bI_nar _) dX6_told_17 (Nat.le_of_ble_eq_true rfl) (Nat.le_of_ble_eq_true rfl) ?_
    first
    | exact ⟨rfl, rfl⟩
    | exact ⟨(hv (of_decide_eq_true (by rw [Bool.not_eq_false'] at c9; exact c9))).symm, rfl⟩
set_option maxHeartbeats 16000000 in
theorem c_X6_size {l : Launch} (hl : l.stackTraces = false) {κ : Kp} {h : Nat → Nat} {g : G} {n : Nat} (hm : g 0 1 = bI (!decide (n = 0))) (hs : g 0 2 = nI n) : Ct SS MM l κ yX6_size cX6_size 1 (some FieldType.int) 1 0 0 [.ref (h 0)] (qS κ h) g ri (fun r u => r = nI n ∧ u = tg g 0) (fun _ _ => False) := by
  refine Ct.of (own := RX6) (by decide) rfl hl (by intro v hv; simp only [List.mem_cons, List.not_mem_nil, or_false] at hv; first | (rcases hv with rfl | rfl | rfl | rfl | rfl | rfl <;> rfl) | (rcases hv with rfl | rfl | rfl | rfl | rfl <;> rfl) | (rcases hv with rfl | rfl | rfl | rfl <;> rfl) | (rcases hv with rfl | rfl | rfl <;> rfl) | (rcases hv with rfl | rfl <;> rfl) | (subst hv; rfl) | exact hv.elim) (Nat.le_of_ble_eq_true rfl) (fun X hxl hxk C F N => ?_)
  subst hxl hxk
  show V X (qS (xK X) h) 0 [some (.ref (h 0))] [] g 0 0
  refine v_aload_n C dX6_size_0 rfl ?_
  refine v_aload_n C dX6_size_1 rfl ?_
  refine v_getiQ (x := nI n) C fl_X6_126 oi_qS_0_2 (hs) dX6_size_2 ?_
  refine v_callVi C (c_X6_told hl hm (fun z => by rw [z])) ym_X6_told ml_X6_214 emb_id_qS rfl rfl rfl rfl rfl dX6_size_5 (Nat.le_of_ble_eq_true rfl) (Nat.le_of_ble_eq_true rfl) (Nat.le_of_ble_eq_true rfl) (Nat.le_of_ble_eq_true rfl) (fun _ _ hu => hu.elim) (fun r u hu => ?_)
  obtain ⟨rfl, hu⟩ := hu
  subst u
  refine v_iret C F (by first | rfl | exact bI_nar _) dX6_size_8 (Nat.le_of_ble_eq_true rfl) (Nat.le_of_ble_eq_true rfl) ?_
  first | exact rfl | exact ⟨rfl, rfl⟩
set_option maxHeartbeats 16000000 in
theorem c_X6_events {l : Launch} (hl : l.stackTraces = false) {κ : Kp} {h : Nat → Nat} {g : G} {n : Nat} {v : Int32} (hm : g 0 1 = bI (!decide (n = 0))) (hv : g 1 399 = v) (h0 : n = 0 → v = nI 0) : Ct SS MM l κ yX6_events cX6_events 1 (some FieldType.int) 1 0 0 [.ref (h 0)] (qS κ h) g ri (fun r u => r = v ∧ u = tg g 0) (fun _ _ => False) := by
  refine Ct.of (own := RX6) (by decide) rfl hl (by intro v hv; simp only [List.mem_cons, List.not_mem_nil, or_false] at hv; first | (rcases hv with rfl | rfl | rfl | rfl | rfl | rfl <;> rfl) | (rcases hv with rfl | rfl | rfl | rfl | rfl <;> rfl) | (rcases hv with rfl | rfl | rfl | rfl <;> rfl) | (rcases hv with rfl | rfl | rfl <;> rfl) | (rcases hv with rfl | rfl <;> rfl) | (subst hv; rfl) | exact hv.elim) (Nat.le_of_ble_eq_true rfl) (fun X hxl hxk C F N => ?_)
  subst hxl hxk
  show V X (qS (xK X) h) 0 [some (.ref (h 0))] [] g 0 0
  refine v_aload_n C dX6_events_0 rfl ?_
  refine v_aload_n C dX6_events_1 rfl ?_
  refine v_getr C fl_X6_7 or_qS_0_3 dX6_events_2 ?_
  refine v_sipush (v := nI 399) C dX6_events_5 (by decide) ?_
  refine v_ialdQ (x := v) C ar_qS_1 (by decide) _ (hv) ?_ rfl dX6_events_8 ?_
  · omega
  refine v_callVi C (c_X6_told hl hm h0) ym_X6_told ml_X6_214 emb_id_qS rfl rfl rfl rfl rfl dX6_events_9 (Nat.le_of_ble_eq_true rfl) (Nat.le_of_ble_eq_true rfl) (Nat.le_of_ble_eq_true rfl) (Nat.le_of_ble_eq_true rfl) (fun _ _ hu => hu.elim) (fun r u hu => ?_)
  obtain ⟨rfl, hu⟩ := hu
  subst u
  refine v_iret C F (by first | rfl | exact bI_nar _) dX6_events_12 (Nat.le_of_ble_eq_true rfl) (Nat.le_of_ble_eq_true rfl) ?_
  first | exact rfl | exact ⟨rfl, rfl⟩
set_option maxHeartbeats 16000000 in
theorem c_X6_undoable {l : Launch} (hl : l.stackTraces = false) {κ : Kp} {h : Nat → Nat} {g : G} {n c : Nat} (hm : g 0 1 = bI (!decide (n = 0))) (hs : g 0 5 = nI c) (h0 : n = 0 → c = 0) : Ct SS MM l κ yX6_undoable cX6_undoable 1 (some FieldType.int) 1 0 0 [.ref (h 0)] (qS κ h) g ri (fun r u => r = nI c ∧ u = tg g 0) (fun _ _ => False) := by
  refine Ct.of (own := RX6) (by decide) rfl hl (by intro v hv; simp only [List.mem_cons, List.not_mem_nil, or_false] at hv; first | (rcases hv with rfl | rfl | rfl | rfl | rfl | rfl <;> rfl) | (rcases hv with rfl | rfl | rfl | rfl | rfl <;> rfl) | (rcases hv with rfl | rfl | rfl | rfl <;> rfl) | (rcases hv with rfl | rfl | rfl <;> rfl) | (rcases hv with rfl | rfl <;> rfl) | (subst hv; rfl) | exact hv.elim) (Nat.le_of_ble_eq_true rfl) (fun X hxl hxk C F N => ?_)
  subst hxl hxk
  show V X (qS (xK X) h) 0 [some (.ref (h 0))] [] g 0 0
  refine v_aload_n C dX6_undoable_0 rfl ?_
  refine v_aload_n C dX6_undoable_1 rfl ?_
  refine v_getiQ (x := nI c) C fl_X6_204 oi_qS_0_5 (hs) dX6_undoable_2 ?_
  refine v_callVi C (c_X6_told hl hm (fun z => by rw [h0 z])) ym_X6_told ml_X6_214 emb_id_qS rfl rfl rfl rfl rfl dX6_undoable_5 (Nat.le_of_ble_eq_true rfl) (Nat.le_of_ble_eq_true rfl) (Nat.le_of_ble_eq_true rfl) (Nat.le_of_ble_eq_true rfl) (fun _ _ hu => hu.elim) (fun r u hu => ?_)
  obtain ⟨rfl, hu⟩ := hu
  subst u
  refine v_iret C F (by first | rfl | exact bI_nar _) dX6_undoable_8 (Nat.le_of_ble_eq_true rfl) (Nat.le_of_ble_eq_true rfl) ?_
  first | exact rfl | exact ⟨rfl, rfl⟩
set_option maxHeartbeats 16000000 in
theorem c_X6_buffered {l : Launch} (hl : l.stackTraces = false) {κ : Kp} {h : Nat → Nat} {g : G} {v : Int32} (hv : g 0 8 = v) : Ct SS MM l κ yX6_buffered cX6_buffered 1 (some FieldType.int) 0 0 0 [.ref (h 0)] (qS κ h) g ri (fun r u => r = v ∧ u = tg g 0) (fun _ _ => False) := by
  refine Ct.of (own := RX6) (by decide) rfl hl (by intro v hv; simp only [List.mem_cons, List.not_mem_nil, or_false] at hv; first | (rcases hv with rfl | rfl | rfl | rfl | rfl | rfl <;> rfl) | (rcases hv with rfl | rfl | rfl | rfl | rfl <;> rfl) | (rcases hv with rfl | rfl | rfl | rfl <;> rfl) | (rcases hv with rfl | rfl | rfl <;> rfl) | (rcases hv with rfl | rfl <;> rfl) | (subst hv; rfl) | exact hv.elim) (Nat.le_of_ble_eq_true rfl) (fun X hxl hxk C F N => ?_)
  subst hxl hxk
  show V X (qS (xK X) h) 0 [some (.ref (h 0))] [] g 0 0
  refine v_aload_n C dX6_buffered_0 rfl ?_
  refine v_iconst (v := nI 0) C dX6_buffered_1 (by decide) ?_
  refine v_puti C fl_X6_33 fw_X6_0 oi_qS_0_0 ⟨rfl, rfl⟩ dX6_buffered_2 ?_
  refine V.stt (g2 := tg g 0) (rfl) ?_
  refine v_aload_n C dX6_buffered_5 rfl ?_
  refine v_getiQ (x := v) C fl_X6_44 oi_qS_0_8 (hv) dX6_buffered_6 ?_
  refine v_iret C F (by first | rfl | exact bI_nar _) dX6_buffered_9 (Nat.le_of_ble_eq_true rfl) (Nat.le_of_ble_eq_true rfl) ?_
  first | exact rfl | exact ⟨rfl, rfl⟩
set_option maxHeartbeats 16000000 in
theorem c_X6_parseError {l : Launch} (hl : l.stackTraces = false) {κ : Kp} {h : Nat → Nat} {g : G} {v : Int32} (hv : g 0 9 = v) : Ct SS MM l κ yX6_parseError cX6_parseError 1 (some FieldType.int) 0 0 0 [.ref (h 0)] (qS κ h) g ri (fun r u => r = v ∧ u = tg g 0) (fun _ _ => False) := by
  refine Ct.of (own := RX6) (by decide) rfl hl (by intro v hv; simp only [List.mem_cons, List.not_mem_nil, or_false] at hv; first | (rcases hv with rfl | rfl | rfl | rfl | rfl | rfl <;> rfl) | (rcases hv with rfl | rfl | rfl | rfl | rfl <;> rfl) | (rcases hv with rfl | rfl | rfl | rfl <;> rfl) | (rcases hv with rfl | rfl | rfl <;> rfl) | (rcases hv with rfl | rfl <;> rfl) | (subst hv; rfl) | exact hv.elim) (Nat.le_of_ble_eq_true rfl) (fun X hxl hxk C F N => ?_)
  subst hxl hxk
  show V X (qS (xK X) h) 0 [some (.ref (h 0))] [] g 0 0
  refine v_aload_n C dX6_parseError_0 rfl ?_
  refine v_iconst (v := nI 0) C dX6_parseError_1 (by decide) ?_
  refine v_puti C fl_X6_33 fw_X6_0 oi_qS_0_0 ⟨rfl, rfl⟩ dX6_parseError_2 ?_
  refine V.stt (g2 := tg g 0) (rfl) ?_
  refine v_aload_n C dX6_parseError_5 rfl ?_
  refine v_getiQ (x := v) C fl_X6_47 oi_qS_0_9 (hv) dX6_parseError_6 ?_
  refine v_iret C F (by first | rfl | exact bI_nar _) dX6_parseError_9 (Nat.le_of_ble_eq_true rfl) (Nat.le_of_ble_eq_true rfl) ?_
  first | exact rfl | exact ⟨rfl, rfl⟩
set_option maxHeartbeats 16000000 in
theorem c_X6_errorPosition {l : Launch} (hl : l.stackTraces = false) {κ : Kp} {h : Nat → Nat} {g : G} {v : Int32} (hv : g 0 10 = v) : Ct SS MM l κ yX6_errorPosition cX6_errorPosition 1 (some FieldType.int) 0 0 0 [.ref (h 0)] (qS κ h) g ri (fun r u => r = v ∧ u = tg g 0) (fun _ _ => False) := by
  refine Ct.of (own := RX6) (by decide) rfl hl (by intro v hv; simp only [List.mem_cons, List.not_mem_nil, or_false] at hv; first | (rcases hv with rfl | rfl | rfl | rfl | rfl | rfl <;> rfl) | (rcases hv with rfl | rfl | rfl | rfl | rfl <;> rfl) | (rcases hv with rfl | rfl | rfl | rfl <;> rfl) | (rcases hv with rfl | rfl | rfl <;> rfl) | (rcases hv with rfl | rfl <;> rfl) | (subst hv; rfl) | exact hv.elim) (Nat.le_of_ble_eq_true rfl) (fun X hxl hxk C F N => ?_)
  subst hxl hxk
  show V X (qS (xK X) h) 0 [some (.ref (h 0))] [] g 0 0
  refine v_aload_n C dX6_errorPosition_0 rfl ?_
  refine v_iconst (v := nI 0) C dX6_errorPosition_1 (by decide) ?_
  refine v_puti C fl_X6_33 fw_X6_0 oi_qS_0_0 ⟨rfl, rfl⟩ dX6_errorPosition_2 ?_
  refine V.stt (g2 := tg g 0) (rfl) ?_
  refine v_aload_n C dX6_errorPosition_5 rfl ?_
  refine v_getiQ (x := v) C fl_X6_23 oi_qS_0_10 (hv) dX6_errorPosition_6 ?_
  refine v_iret C F (by first | rfl | exact bI_nar _) dX6_errorPosition_9 (Nat.le_of_ble_eq_true rfl) (Nat.le_of_ble_eq_true rfl) ?_
  first | exact rfl | exact ⟨rfl, rfl⟩
set_option maxHeartbeats 16000000 in
theorem c_X6_thrown {l : Launch} (hl : l.stackTraces = false) {κ : Kp} {h : Nat → Nat} {g : G} {v : Int32} (hv : g 0 0 = v) : Ct SS MM l κ yX6_thrown cX6_thrown 1 (some FieldType.int) 0 0 0 [.ref (h 0)] (qS κ h) g ri (fun r u => r = v ∧ u = g) (fun _ _ => False) := by
  refine Ct.of (own := RX6) (by decide) rfl hl (by intro v hv; simp only [List.mem_cons, List.not_mem_nil, or_false] at hv; first | (rcases hv with rfl | rfl | rfl | rfl | rfl | rfl <;> rfl) | (rcases hv with rfl | rfl | rfl | rfl | rfl <;> rfl) | (rcases hv with rfl | rfl | rfl | rfl <;> rfl) | (rcases hv with rfl | rfl | rfl <;> rfl) | (rcases hv with rfl | rfl <;> rfl) | (subst hv; rfl) | exact hv.elim) (Nat.le_of_ble_eq_true rfl) (fun X hxl hxk C F N => ?_)
  subst hxl hxk
  show V X (qS (xK X) h) 0 [some (.ref (h 0))] [] g 0 0
  refine v_aload_n C dX6_thrown_0 rfl ?_
  refine v_getiQ (x := v) C fl_X6_33 oi_qS_0_0 (hv) dX6_thrown_1 ?_
  refine v_iret C F (by first | rfl | exact bI_nar _) dX6_thrown_4 (Nat.le_of_ble_eq_true rfl) (Nat.le_of_ble_eq_true rfl) ?_
  first | exact rfl | exact ⟨rfl, rfl⟩
def QTx (T : List Int32) (g : G) : Prop := g 0 24 = nI T.length ∧ ∀ i, i < T.length → g 6 i = T.getD i 0
set_option maxHeartbeats 16000000 in
theorem c_X6_textByte {l : Launch} (hl : l.stackTraces = false) {κ : Kp} {h : Nat → Nat} {g : G} {T : List Int32} {v : Int32} (hT : QTx T g) (hT1 : T.length ≤ 1000) : Ct SS MM l κ yX6_textByte cX6_textByte 2 (some FieldType.int) 1 0 0 [.ref (h 0), .int v] (qS κ h) g ri (fun r u => u = tg g (cdL [(!inB v 0 ((T.length : Int) - 1), 1)]) ∧ ((cdL [(!inB v 0 ((T.length : Int) - 1), 1)]) = 0 → r = T.getD (tN v) 0)) (fun _ _ => False) := by
  refine Ct.of (own := RX6) (by decide) rfl hl (by intro v hv; simp only [List.mem_cons, List.not_mem_nil, or_false] at hv; first | (rcases hv with rfl | rfl | rfl | rfl | rfl | rfl <;> rfl) | (rcases hv with rfl | rfl | rfl | rfl | rfl <;> rfl) | (rcases hv with rfl | rfl | rfl | rfl <;> rfl) | (rcases hv with rfl | rfl | rfl <;> rfl) | (rcases hv with rfl | rfl <;> rfl) | (subst hv; rfl) | exact hv.elim) (Nat.le_of_ble_eq_true rfl) (fun X hxl hxk C F N => ?_)
  subst hxl hxk
  show V X (qS (xK X) h) 0 [some (.ref (h 0)), some (.int v)] [] g 0 0
  refine v_aload_n C dX6_textByte_0 rfl ?_
  refine v_iconst (v := nI 0) C dX6_textByte_1 (by decide) ?_
  refine v_puti C fl_X6_33 fw_X6_0 oi_qS_0_0 ⟨rfl, rfl⟩ dX6_textByte_2 ?_
  refine V.stt (g2 := tg g 0) (rfl) ?_
  refine v_aload_n C dX6_textByte_5 rfl ?_
  refine v_iload_n C dX6_textByte_6 rfl ?_
  refine v_iconst (v := nI 0) C dX6_textByte_7 (by decide) ?_
  refine v_aload_n C dX6_textByte_8 rfl ?_
  refine v_getiQ (x := nI T.length) C fl_X6_307 oi_qS_0_24 (hT.1) dX6_textByte_9 ?_
  refine v_iconst (v := nI 1) C dX6_textByte_12 (by decide) ?_
  first | refine v_isubN C dX6_textByte_13 (by omega) ?_ | refine v_isub C dX6_textByte_13 ?_
  refine v_callSi C (c_X6_in hl (v := v) (a := 0) (b := (T.length : Int) - 1) (by decide) (sub1_toInt (by omega))) ys_X6_in rfl ml_X6_98 (emb_n fix_qS) rfl rfl rfl dX6_textByte_14 (Nat.le_of_ble_eq_true rfl) (Nat.le_of_ble_eq_true rfl) (Nat.le_of_ble_eq_true rfl) (Nat.le_of_ble_eq_true rfl) (fun _ _ hu => hu.elim) (fun r u hu => ?_)
  subst r
  refine v_if_neB C 24 dX6_textByte_17 (by decide) (fun c17 => ?_) (fun c17 => ?_)
  · refine v_iconst (v := nI 0) C dX6_textByte_24 (by decide) ?_
    refine V.eqs (st2 := [.int (bI (!inB v 0 ((T.length : Int) - 1))), .ref (h 0)]) ?_ (congrArg (fun z => [Value.int z, Value.ref (h 0)]) (by first | exact bI_t (by simp [c17]) | exact bI_f (by simp [c17])))
    refine v_iconst (v := nI 1) C dX6_textByte_25 (by decide) ?_
    refine v_callVi C (c_X6_refuse hl (b := !inB v 0 ((T.length : Int) - 1)) (k := 1) (by decide) (by decide)) ym_X6_refuse ml_X6_40 emb_id_qS rfl rfl rfl rfl rfl dX6_textByte_26 (Nat.le_of_ble_eq_true rfl) (Nat.le_of_ble_eq_true rfl) (Nat.le_of_ble_eq_true rfl) (Nat.le_of_ble_eq_true rfl) (fun _ _ hu => hu.elim) (fun r u hu => ?_)
    obtain ⟨rfl, hu⟩ := hu
    subst u
    refine v_if_eqB C 36 dX6_textByte_29 (by decide) (fun c29 => ?_) (fun c29 => ?_)
    · refine V.stt (g2 := tg g 0) (by rw [c29]; rfl) ?_
      have hkI : inB v 0 ((T.length : Int) - 1) = true := by simpa using c29
      obtain ⟨j, -, hj, hj2, e2⟩ := in_at (a := 0) hkI
      subst e2
      have t_j : tN (nI j) = j := tN_nI hj2
      refine v_aload_n C dX6_textByte_36 rfl ?_
      refine v_getr C fl_X6_30 or_qS_0_23 dX6_textByte_37 ?_
      refine v_iload_n C dX6_textByte_40 rfl ?_
      refine v_ialdQ (x := T.getD j 0) C ar_qS_6 (by decide) _ (hT.2 j (by omega)) ?_ rfl dX6_textByte_41 ?_
      · omega
      refine v_iret C F (by first | rfl | exact bI_nar _) dX6_textByte_42 (Nat.le_of_ble_eq_true rfl) (Nat.le_of_ble_eq_true rfl) ?_
      first
      | (refine ⟨?_, fun _ => ?_⟩; simp [cdL, c29]; rw [t_j])
      | (refine ⟨?_, fun z => absurd z ?_⟩ <;> simp [cdL, c29])
    · refine V.stt (g2 := tg g 1) (by rw [c29]; rfl) ?_
      refine v_iconst (v := nI 0) C dX6_textByte_32 (by decide) ?_
      refine v_goto C 42 dX6_textByte_33 (by decide) ?_
      refine v_iret C F (by first | rfl | exact bI_nar _) dX6_textByte_42 (Nat.le_of_ble_eq_true rfl) (Nat.le_of_ble_eq_true rfl) ?_
      first
      | (refine ⟨?_, fun _ => ?_⟩; simp [cdL, c29]; rw [t_j])
      | (refine ⟨?_, fun z => absurd z ?_⟩ <;> simp [cdL, c29])
  · refine v_iconst (v := nI 1) C dX6_textByte_20 (by decide) ?_
    refine v_goto C 25 dX6_textByte_21 (by decide) ?_
    refine V.eqs (st2 := [.int (bI (!inB v 0 ((T.length : Int) - 1))), .ref (h 0)]) ?_ (congrArg (fun z => [Value.int z, Value.ref (h 0)]) (by first | exact bI_t (by simp [c17]) | exact bI_f (by simp [c17])))
    refine v_iconst (v := nI 1) C dX6_textByte_25 (by decide) ?_
    refine v_callVi C (c_X6_refuse hl (b := !inB v 0 ((T.length : Int) - 1)) (k := 1) (by decide) (by decide)) ym_X6_refuse ml_X6_40 emb_id_qS rfl rfl rfl rfl rfl dX6_textByte_26 (Nat.le_of_ble_eq_true rfl) (Nat.le_of_ble_eq_true rfl) (Nat.le_of_ble_eq_true rfl) (Nat.le_of_ble_eq_true rfl) (fun _ _ hu => hu.elim) (fun r u hu => ?_)
    obtain ⟨rfl, hu⟩ := hu
    subst u
    refine v_if_eqB C 36 dX6_textByte_29 (by decide) (fun c29 => ?_) (fun c29 => ?_)
    · refine V.stt (g2 := tg g 0) (by rw [c29]; rfl) ?_
      have hkI : inB v 0 ((T.length : Int) - 1) = true := by simpa using c29
      obtain ⟨j, -, hj, hj2, e2⟩ := in_at (a := 0) hkI
      subst e2
      have t_j : tN (nI j) = j := tN_nI hj2
      refine v_aload_n C dX6_textByte_36 rfl ?_
      refine v_getr C fl_X6_30 or_qS_0_23 dX6_textByte_37 ?_
      refine v_iload_n C dX6_textByte_40 rfl ?_
      refine v_ialdQ (x := T.getD j 0) C ar_qS_6 (by decide) _ (hT.2 j (by omega)) ?_ rfl dX6_textByte_41 ?_
      · omega
      refine v_iret C F (by first | rfl | exact bI_nar _) dX6_textByte_42 (Nat.le_of_ble_eq_true rfl) (Nat.le_of_ble_eq_true rfl) ?_
      first
      | (refine ⟨?_, fun _ => ?_⟩; simp [cdL, c29]; rw [t_j])
      | (refine ⟨?_, fun z => absurd z ?_⟩ <;> simp [cdL, c29])
    · refine V.stt (g2 := tg g 1) (by rw [c29]; rfl) ?_
      refine v_iconst (v := nI 0) C dX6_textByte_32 (by decide) ?_
      refine v_goto C 42 dX6_textByte_33 (by decide) ?_
      refine v_iret C F (by first | rfl | exact bI_nar _) dX6_textByte_42 (Nat.le_of_ble_eq_true rfl) (Nat.le_of_ble_eq_true rfl) ?_
      first
      | (refine ⟨?_, fun _ => ?_⟩; simp [cdL, c29]; rw [t_j])
      | (refine ⟨?_, fun z => absurd z ?_⟩ <;> simp [cdL, c29])
