theorem rowB_in {n a b : Nat} {k : Int32} (ha : a < n) (hb : b < n) (h96 : n ≤ 96) : rowB n (nI a) (nI b) k = inB k 1 ((n : Int) - ((max a b : Nat) : Int)) := by
  unfold rowB inB
  rw [nI_toInt (by omega), nI_toInt (by omega)]
  by_cases h1 : 1 ≤ k.toInt
  · rw [decide_eq_true h1, Bool.true_and, Bool.true_and]
    by_cases h2 : k.toInt ≤ (n : Int) - ((max a b : Nat) : Int)
    · rw [decide_eq_true h2, decide_eq_true (show k.toInt ≤ (n : Int) - (a : Int) by omega), decide_eq_true (show k.toInt ≤ (n : Int) - (b : Int) by omega)]
      rfl
    · rw [decide_eq_false h2]
      rcases Nat.le_total a b with h | h
      · rw [decide_eq_false (show ¬ k.toInt ≤ (n : Int) - (b : Int) by omega), Bool.and_false]
      · rw [decide_eq_false (show ¬ k.toInt ≤ (n : Int) - (a : Int) by omega), Bool.false_and]
  · rw [decide_eq_false h1, Bool.false_and, Bool.false_and]
set_option maxHeartbeats 800000 in
theorem c_X6_same {l : Launch} (hl : l.stackTraces = false) {κ : Kp} {h : Nat → Nat} {g : G} {m : Mg} {n c : Nat} {a b k : Int32} (hQ : QMm n m g) (hW : WM n c m) : Ct SS MM l κ yX6_same cX6_same 5 (some FieldType.boolean) 3 0 0 [.ref (h 0), .int a, .int b, .int k] (qS κ h) g ri (fun r u => u = tg g (cdL [(decide (n = 0), 1), (!plB n a, 2), (!plB n b, 2), (!rowB n a b k, 3)]) ∧ (cdL [(decide (n = 0), 1), (!plB n a, 2), (!plB n b, 2), (!rowB n a b k, 3)] = 0 → r = bI (!anyG (samB m (tN a) (tN b)) 0 (tN k)))) (fun _ _ => False) := by
  refine Ct.of (own := RX6) (by decide) rfl hl (by intro v hv; simp only [List.mem_cons, List.not_mem_nil, or_false] at hv; first | (rcases hv with rfl | rfl | rfl | rfl | rfl | rfl <;> rfl) | (rcases hv with rfl | rfl | rfl | rfl | rfl <;> rfl) | (rcases hv with rfl | rfl | rfl | rfl <;> rfl) | (rcases hv with rfl | rfl | rfl <;> rfl) | (rcases hv with rfl | rfl <;> rfl) | (subst hv; rfl) | exact hv.elim) (Nat.le_of_ble_eq_true rfl) (fun X hxl hxk C F N => ?_)
  subst hxl hxk
  show V X (qS (xK X) h) 0 [some (.ref (h 0)), some (.int a), some (.int b), some (.int k), none] [] g 0 0
  obtain ⟨hm, hs, h96, hRR⟩ := id hQ
  obtain ⟨-, hn7, hMf⟩ := id hW
  refine v_aload_n C dX6_same_0 rfl ?_
  refine v_iload_n C dX6_same_1 rfl ?_
  refine v_callVi C (c_X6_noPlace hl (g := g) (m := m) (n := n) hQ) ym_X6_noPlace ml_X6_223 emb_id_qS rfl rfl rfl rfl rfl dX6_same_2 (Nat.le_of_ble_eq_true rfl) (Nat.le_of_ble_eq_true rfl) (Nat.le_of_ble_eq_true rfl) (Nat.le_of_ble_eq_true rfl) (fun _ _ hu => hu.elim) (fun r u hu => ?_)
  obtain ⟨rfl, hu⟩ := hu
  subst u
  refine v_if_neB C 60 dX6_same_5 (by decide) (fun c5 => ?_) (fun c5 => ?_)
  · skip
    refine v_iconst (v := nI 0) C dX6_same_60 (by decide) ?_
    refine v_iret C F (by first | rfl | exact bI_nar _) dX6_same_61 (Nat.le_of_ble_eq_true rfl) (Nat.le_of_ble_eq_true rfl) ?_
    first
    | (refine ⟨?_, fun _ => ?_⟩
       simp [cdL, hn0, hp_a, c26, c57]
       rw [t_ja, t_jb, t_k]
       first
       | (have hib : i < l2 := by omega
          have hf : (samB m ja jb) i = true := by
            show (!(valM m (ja + i) == valM m (jb + i))) = true
            rw [beq_eq_false_iff_ne.mpr c87]
            rfl
          rw [anyG_s hib, hf, Bool.true_or] at i3
          refine bI_f ?_; rw [← i3]; rfl)
       | (rw [anyG_0 (by omega)] at i3
          refine bI_t ?_; rw [← i3]; rfl))
    | (refine ⟨?_, fun z => absurd z ?_⟩; (exact congrArg (tg g) (cd2 c5).symm); (exact fun z => absurd ((cd2 c5).symm.trans z) (nz_t c5)); done)
    | (refine ⟨?_, fun z => absurd z ?_⟩; (simp [cdL, hn0, hp_a, c26]); (simp [cdL, hn0, hp_a, c26]); done)
    | (refine ⟨?_, fun z => absurd z ?_⟩; (simp [cdL, hn0, hp_a, c26, c57]); (simp [cdL, hn0, hp_a, c26, c57]); done)
  · have hcd := nz_f c5
    obtain ⟨hd1, hd2⟩ := cd_0 (by decide) hcd
    obtain ⟨hd2, -⟩ := cd_0 (by decide) hd2
    have hn0 : ¬ n = 0 := of_decide_eq_false hd1
    have hp_a : plB n a = true := by simpa using hd2
    have hR := hRR hn0
    have hMI := hMf hn0
    obtain ⟨hI, hE, hLK, hn1, hSB, hBY, hPR⟩ := id hMI
    have hbd := band_ok hSB
    have hn := hI.1
    refine V.stt (g2 := tg g 0) (by rw [hcd]) ?_
    clear hcd hd2 hd1 c5
    obtain ⟨ja, hj_ja, e_ja⟩ := pl_at hp_a
    subst e_ja
    have t_ja : tN (nI ja) = ja := tN_nI (by omega)
    refine v_aload_n C dX6_same_8 rfl ?_
    refine v_aload_n C dX6_same_9 rfl ?_
    refine v_iload_n C dX6_same_10 rfl ?_
    refine v_callVi C (c_X6_isPlace hl (g := tg g 0) hs h96) ym_X6_isPlace ml_X6_211 emb_id_qS rfl rfl rfl rfl rfl dX6_same_11 (Nat.le_of_ble_eq_true rfl) (Nat.le_of_ble_eq_true rfl) (Nat.le_of_ble_eq_true rfl) (Nat.le_of_ble_eq_true rfl) (fun _ _ hu => hu.elim) (fun r u hu => ?_)
    obtain ⟨rfl, hu⟩ := hu
    subst u
    refine V.stt (g2 := (tg g 0)) (rfl) ?_
    refine v_if_neB C 21 dX6_same_14 (by decide) (fun c14 => ?_) (fun c14 => ?_)
    · refine v_iconst (v := nI 0) C dX6_same_21 (by decide) ?_
      refine V.eqs (st2 := [.int (bI (!plB n b)), .ref (h 0)]) ?_ (congrArg (fun z => [Value.int z, Value.ref (h 0)]) (by first | exact bI_t (by simp [c14]) | exact bI_f (by simp [c14])))
      refine v_iconst (v := nI 2) C dX6_same_22 (by decide) ?_
      refine v_callVi C (c_X6_refuse hl (b := !plB n b) (k := 2) (by decide) (by decide)) ym_X6_refuse ml_X6_40 emb_id_qS rfl rfl rfl rfl rfl dX6_same_23 (Nat.le_of_ble_eq_true rfl) (Nat.le_of_ble_eq_true rfl) (Nat.le_of_ble_eq_true rfl) (Nat.le_of_ble_eq_true rfl) (fun _ _ hu => hu.elim) (fun r u hu => ?_)
      obtain ⟨rfl, hu⟩ := hu
      subst u
      refine v_if_neB C 60 dX6_same_26 (by decide) (fun c26 => ?_) (fun c26 => ?_)
      · refine V.stt (g2 := tg g 2) (by rw [c26]; rfl) ?_
        refine v_iconst (v := nI 0) C dX6_same_60 (by decide) ?_
        refine v_iret C F (by first | rfl | exact bI_nar _) dX6_same_61 (Nat.le_of_ble_eq_true rfl) (Nat.le_of_ble_eq_true rfl) ?_
        first
        | (refine ⟨?_, fun _ => ?_⟩
           simp [cdL, hn0, hp_a, c26, c57]
           rw [t_ja, t_jb, t_k]
           first
           | (have hib : i < l2 := by omega
              have hf : (samB m ja jb) i = true := by
                show (!(valM m (ja + i) == valM m (jb + i))) = true
                rw [beq_eq_false_iff_ne.mpr c87]
                rfl
              rw [anyG_s hib, hf, Bool.true_or] at i3
              refine bI_f ?_; rw [← i3]; rfl)
           | (rw [anyG_0 (by omega)] at i3
              refine bI_t ?_; rw [← i3]; rfl))
        | (refine ⟨?_, fun z => absurd z ?_⟩; (exact congrArg (tg g) (cd2 c5).symm); (exact fun z => absurd ((cd2 c5).symm.trans z) (nz_t c5)); done)
        | (refine ⟨?_, fun z => absurd z ?_⟩; (simp [cdL, hn0, hp_a, c26]); (simp [cdL, hn0, hp_a, c26]); done)
        | (refine ⟨?_, fun z => absurd z ?_⟩; (simp [cdL, hn0, hp_a, c26, c57]); (simp [cdL, hn0, hp_a, c26, c57]); done)
      · refine V.stt (g2 := tg g 0) (by rw [c26]; rfl) ?_
        have hp_b : plB n b = true := by simpa using c26
        obtain ⟨jb, hj_jb, e_jb⟩ := pl_at hp_b
        subst e_jb
        have t_jb : tN (nI jb) = jb := tN_nI (by omega)
        refine v_aload_n C dX6_same_29 rfl ?_
        refine v_iload_n C dX6_same_30 rfl ?_
        refine v_iconst (v := nI 1) C dX6_same_31 (by decide) ?_
        refine v_aload_n C dX6_same_32 rfl ?_
        refine v_getiQ (x := nI n) C fl_X6_126 oi_qS_0_2 (hs) dX6_same_33 ?_
        refine v_iload_n C dX6_same_36 rfl ?_
        refine v_iload_n C dX6_same_37 rfl ?_
        refine v_mmax (z := nI (max ja jb)) C ml_X6_263 w_maxS w_mI w_maxC rfl (Nat.le_of_ble_eq_true rfl) dX6_same_38 (Nat.le_of_ble_eq_true rfl) (Nat.le_of_ble_eq_true rfl) ?_ ?_
        · exact nI_max (by omega) (by omega)
        first | refine v_isubN C dX6_same_41 (by omega) ?_ | refine v_isub C dX6_same_41 ?_
        refine v_callSi C (c_X6_in hl (v := k) (a := 1) (b := ((n : Int) - ((max ja jb : Nat) : Int))) (by decide) (by rw [nI_toInt (by omega)]; omega)) ys_X6_in rfl ml_X6_98 (emb_n fix_qS) rfl rfl rfl dX6_same_42 (Nat.le_of_ble_eq_true rfl) (Nat.le_of_ble_eq_true rfl) (Nat.le_of_ble_eq_true rfl) (Nat.le_of_ble_eq_true rfl) (fun _ _ hu => hu.elim) (fun r u hu => ?_)
        subst r
        refine v_if_neB C 52 dX6_same_45 (by decide) (fun c45 => ?_) (fun c45 => ?_)
        · refine v_iconst (v := nI 0) C dX6_same_52 (by decide) ?_
          refine V.eqs (st2 := [.int (bI (!rowB n (nI ja) (nI jb) k)), .ref (h 0)]) ?_ (congrArg (fun z => [Value.int z, Value.ref (h 0)]) (by rw [rowB_in hj_ja hj_jb h96]; first | exact bI_t (by simp [c45]) | exact bI_f (by simp [c45])))
          refine v_iconst (v := nI 3) C dX6_same_53 (by decide) ?_
          refine v_callVi C (c_X6_refuse hl (b := !rowB n (nI ja) (nI jb) k) (k := 3) (by decide) (by decide)) ym_X6_refuse ml_X6_40 emb_id_qS rfl rfl rfl rfl rfl dX6_same_54 (Nat.le_of_ble_eq_true rfl) (Nat.le_of_ble_eq_true rfl) (Nat.le_of_ble_eq_true rfl) (Nat.le_of_ble_eq_true rfl) (fun _ _ hu => hu.elim) (fun r u hu => ?_)
          obtain ⟨rfl, hu⟩ := hu
          subst u
          refine v_if_eqB C 62 dX6_same_57 (by decide) (fun c57 => ?_) (fun c57 => ?_)
          · refine V.stt (g2 := tg g 0) (by rw [c57]; rfl) ?_
            have hrw : rowB n (nI ja) (nI jb) k = true := by simpa using c57
            have hrw2 := hrw
            rw [rowB_in hj_ja hj_jb h96] at hrw2
            obtain ⟨l2, hk1, hk2, hk3, ek⟩ := in_at (a := 1) hrw2
            have hl1 : ja + l2 ≤ n := by omega
            have hl2 : jb + l2 ≤ n := by omega
            have t_k : tN k = l2 := by rw [ek]; exact tN_nI hk3
            rw [ek]
            refine v_iconst (v := nI 0) C dX6_same_62 (by decide) ?_
            refine v_istore C (lo2 := [some _, some _, some _, some _, some _]) dX6_same_63 rfl (Nat.le_of_ble_eq_true rfl) rfl ?_
            have L65 : ∀ (t : Nat), (fun t => 0 ≤ t ∧ t ≤ 200 ∧ anyG (samB m ja jb) t (l2 - t) = anyG (samB m ja jb) 0 l2) t → (fun t : Nat => V X (qS (xK X) h) 65 [some (.ref (h 0)), some (.int (nI ja)), some (.int (nI jb)), some (.int (nI l2)), some (.int (nI t))] [] (tg g 0) 0 0) t := by
              refine v_ind (fun t : Nat => l2 - t) ?_
              rintro i ih65 hI65
              try dsimp only at hI65 ⊢
              obtain ⟨i1, i2, i3⟩ := hI65
              refine v_iload C dX6_same_65 rfl ?_
              refine v_iload_n C dX6_same_67 rfl ?_
              first | refine v_icmp_geN C 98 dX6_same_68 (by decide) (by omega) (by omega) (fun c68 => ?_) (fun c68 => ?_) | refine v_icmp_ge C 98 dX6_same_68 (by decide) (fun c68 => ?_) (fun c68 => ?_)
              · refine v_iconst (v := nI 1) C dX6_same_98 (by decide) ?_
                refine v_iret C F (by first | rfl | exact bI_nar _) dX6_same_99 (Nat.le_of_ble_eq_true rfl) (Nat.le_of_ble_eq_true rfl) ?_
                first
                | (refine ⟨?_, fun _ => ?_⟩
                   simp [cdL, hn0, hp_a, c26, c57]
                   rw [t_ja, t_jb, t_k]
                   first
                   | (have hib : i < l2 := by omega
                      have hf : (samB m ja jb) i = true := by
                        show (!(valM m (ja + i) == valM m (jb + i))) = true
                        rw [beq_eq_false_iff_ne.mpr c87]
                        rfl
                      rw [anyG_s hib, hf, Bool.true_or] at i3
                      refine bI_f ?_; rw [← i3]; rfl)
                   | (rw [anyG_0 (by omega)] at i3
                      refine bI_t ?_; rw [← i3]; rfl))
                | (refine ⟨?_, fun z => absurd z ?_⟩; (exact congrArg (tg g) (cd2 c5).symm); (exact fun z => absurd ((cd2 c5).symm.trans z) (nz_t c5)); done)
                | (refine ⟨?_, fun z => absurd z ?_⟩; (simp [cdL, hn0, hp_a, c26]); (simp [cdL, hn0, hp_a, c26]); done)
                | (refine ⟨?_, fun z => absurd z ?_⟩; (simp [cdL, hn0, hp_a, c26, c57]); (simp [cdL, hn0, hp_a, c26, c57]); done)
              · refine v_aload_n C dX6_same_71 rfl ?_
                refine v_iload_n C dX6_same_72 rfl ?_
                refine v_iload C dX6_same_73 rfl ?_
                first | refine v_iaddN C dX6_same_75 ?_ | refine v_iadd C dX6_same_75 ?_
                refine v_callVi C (c_X6_valueOf hl (g := tg g 0) (m := m) (n := n) hR hI (by omega)) ym_X6_valueOf ml_X6_226 emb_id_qS rfl rfl rfl rfl rfl dX6_same_76 (Nat.le_of_ble_eq_true rfl) (Nat.le_of_ble_eq_true rfl) (Nat.le_of_ble_eq_true rfl) (Nat.le_of_ble_eq_true rfl) (fun _ _ hu => hu.elim) (fun r u hu => ?_)
                obtain ⟨rfl, hu⟩ := hu
                subst u
                refine V.stt (g2 := (tg g 0)) (rfl) ?_
                refine v_aload_n C dX6_same_79 rfl ?_
                refine v_iload_n C dX6_same_80 rfl ?_
                refine v_iload C dX6_same_81 rfl ?_
                first | refine v_iaddN C dX6_same_83 ?_ | refine v_iadd C dX6_same_83 ?_
                refine v_callVi C (c_X6_valueOf hl (g := tg g 0) (m := m) (n := n) hR hI (by omega)) ym_X6_valueOf ml_X6_226 emb_id_qS rfl rfl rfl rfl rfl dX6_same_84 (Nat.le_of_ble_eq_true rfl) (Nat.le_of_ble_eq_true rfl) (Nat.le_of_ble_eq_true rfl) (Nat.le_of_ble_eq_true rfl) (fun _ _ hu => hu.elim) (fun r u hu => ?_)
                obtain ⟨rfl, hu⟩ := hu
                subst u
                refine V.stt (g2 := (tg g 0)) (rfl) ?_
                refine v_icmp_eq C 92 dX6_same_87 (by decide) (fun c87 => ?_) (fun c87 => ?_)
                · first | refine v_iinc1 C (lo2 := [some _, some _, some _, some _, some _]) dX6_same_92 rfl rfl rfl ?_ | refine v_iinc C (lo2 := [some _, some _, some _, some _, some _]) dX6_same_92 rfl rfl rfl rfl ?_
                  refine v_goto C 65 dX6_same_95 (by decide) ?_
                  have hib : i < l2 := by omega
                  have hf : (samB m ja jb) i = false := by
                    show (!(valM m (ja + i) == valM m (jb + i))) = false
                    rw [beq_iff_eq.mpr c87]
                    rfl
                  rw [anyG_s hib, hf, Bool.false_or] at i3
                  exact ih65 (i + 1) (by show l2 - (i + 1) < l2 - i; omega) ⟨by omega, by omega, i3⟩
                · refine v_iconst (v := nI 0) C dX6_same_90 (by decide) ?_
                  refine v_iret C F (by first | rfl | exact bI_nar _) dX6_same_91 (Nat.le_of_ble_eq_true rfl) (Nat.le_of_ble_eq_true rfl) ?_
                  first
                  | (refine ⟨?_, fun _ => ?_⟩
                     simp [cdL, hn0, hp_a, c26, c57]
                     rw [t_ja, t_jb, t_k]
                     first
                     | (have hib : i < l2 := by omega
                        have hf : (samB m ja jb) i = true := by
                          show (!(valM m (ja + i) == valM m (jb + i))) = true
                          rw [beq_eq_false_iff_ne.mpr c87]
                          rfl
                        rw [anyG_s hib, hf, Bool.true_or] at i3
                        refine bI_f ?_; rw [← i3]; rfl)
                     | (rw [anyG_0 (by omega)] at i3
                        refine bI_t ?_; rw [← i3]; rfl))
                  | (refine ⟨?_, fun z => absurd z ?_⟩; (exact congrArg (tg g) (cd2 c5).symm); (exact fun z => absurd ((cd2 c5).symm.trans z) (nz_t c5)); done)
                  | (refine ⟨?_, fun z => absurd z ?_⟩; (simp [cdL, hn0, hp_a, c26]); (simp [cdL, hn0, hp_a, c26]); done)
                  | (refine ⟨?_, fun z => absurd z ?_⟩; (simp [cdL, hn0, hp_a, c26, c57]); (simp [cdL, hn0, hp_a, c26, c57]); done)
            exact L65 (0) ⟨Nat.le_refl _, by omega, rfl⟩
          · refine V.stt (g2 := tg g 3) (by rw [c57]; rfl) ?_
            refine v_iconst (v := nI 0) C dX6_same_60 (by decide) ?_
            refine v_iret C F (by first | rfl | exact bI_nar _) dX6_same_61 (Nat.le_of_ble_eq_true rfl) (Nat.le_of_ble_eq_true rfl) ?_
            first
            | (refine ⟨?_, fun _ => ?_⟩
               simp [cdL, hn0, hp_a, c26, c57]
               rw [t_ja, t_jb, t_k]
               first
               | (have hib : i < l2 := by omega
                  have hf : (samB m ja jb) i = true := by
                    show (!(valM m (ja + i) == valM m (jb + i))) = true
                    rw [beq_eq_false_iff_ne.mpr c87]
                    rfl
                  rw [anyG_s hib, hf, Bool.true_or] at i3
                  refine bI_f ?_; rw [← i3]; rfl)
               | (rw [anyG_0 (by omega)] at i3
                  refine bI_t ?_; rw [← i3]; rfl))
            | (refine ⟨?_, fun z => absurd z ?_⟩; (exact congrArg (tg g) (cd2 c5).symm); (exact fun z => absurd ((cd2 c5).symm.trans z) (nz_t c5)); done)
            | (refine ⟨?_, fun z => absurd z ?_⟩; (simp [cdL, hn0, hp_a, c26]); (simp [cdL, hn0, hp_a, c26]); done)
            | (refine ⟨?_, fun z => absurd z ?_⟩; (simp [cdL, hn0, hp_a, c26, c57]); (simp [cdL, hn0, hp_a, c26, c57]); done)
        · refine v_iconst (v := nI 1) C dX6_same_48 (by decide) ?_
          refine v_goto C 53 dX6_same_49 (by decide) ?_
          refine V.eqs (st2 := [.int (bI (!rowB n (nI ja) (nI jb) k)), .ref (h 0)]) ?_ (congrArg (fun z => [Value.int z, Value.ref (h 0)]) (by rw [rowB_in hj_ja hj_jb h96]; first | exact bI_t (by simp [c45]) | exact bI_f (by simp [c45])))
          refine v_iconst (v := nI 3) C dX6_same_53 (by decide) ?_
          refine v_callVi C (c_X6_refuse hl (b := !rowB n (nI ja) (nI jb) k) (k := 3) (by decide) (by decide)) ym_X6_refuse ml_X6_40 emb_id_qS rfl rfl rfl rfl rfl dX6_same_54 (Nat.le_of_ble_eq_true rfl) (Nat.le_of_ble_eq_true rfl) (Nat.le_of_ble_eq_true rfl) (Nat.le_of_ble_eq_true rfl) (fun _ _ hu => hu.elim) (fun r u hu => ?_)
          obtain ⟨rfl, hu⟩ := hu
          subst u
          refine v_if_eqB C 62 dX6_same_57 (by decide) (fun c57 => ?_) (fun c57 => ?_)
          · refine V.stt (g2 := tg g 0) (by rw [c57]; rfl) ?_
            have hrw : rowB n (nI ja) (nI jb) k = true := by simpa using c57
            have hrw2 := hrw
            rw [rowB_in hj_ja hj_jb h96] at hrw2
            obtain ⟨l2, hk1, hk2, hk3, ek⟩ := in_at (a := 1) hrw2
            have hl1 : ja + l2 ≤ n := by omega
            have hl2 : jb + l2 ≤ n := by omega
            have t_k : tN k = l2 := by rw [ek]; exact tN_nI hk3
            rw [ek]
            refine v_iconst (v := nI 0) C dX6_same_62 (by decide) ?_
            refine v_istore C (lo2 := [some _, some _, some _, some _, some _]) dX6_same_63 rfl (Nat.le_of_ble_eq_true rfl) rfl ?_
            have L65 : ∀ (t : Nat), (fun t => 0 ≤ t ∧ t ≤ 200 ∧ anyG (samB m ja jb) t (l2 - t) = anyG (samB m ja jb) 0 l2) t → (fun t : Nat => V X (qS (xK X) h) 65 [some (.ref (h 0)), some (.int (nI ja)), some (.int (nI jb)), some (.int (nI l2)), some (.int (nI t))] [] (tg g 0) 0 0) t := by
              refine v_ind (fun t : Nat => l2 - t) ?_
              rintro i ih65 hI65
              try dsimp only at hI65 ⊢
              obtain ⟨i1, i2, i3⟩ := hI65
              refine v_iload C dX6_same_65 rfl ?_
              refine v_iload_n C dX6_same_67 rfl ?_
              first | refine v_icmp_geN C 98 dX6_same_68 (by decide) (by omega) (by omega) (fun c68 => ?_) (fun c68 => ?_) | refine v_icmp_ge C 98 dX6_same_68 (by decide) (fun c68 => ?_) (fun c68 => ?_)
              · refine v_iconst (v := nI 1) C dX6_same_98 (by decide) ?_
                refine v_iret C F (by first | rfl | exact bI_nar _) dX6_same_99 (Nat.le_of_ble_eq_true rfl) (Nat.le_of_ble_eq_true rfl) ?_
                first
                | (refine ⟨?_, fun _ => ?_⟩
                   simp [cdL, hn0, hp_a, c26, c57]
                   rw [t_ja, t_jb, t_k]
                   first
                   | (have hib : i < l2 := by omega
                      have hf : (samB m ja jb) i = true := by
                        show (!(valM m (ja + i) == valM m (jb + i))) = true
                        rw [beq_eq_false_iff_ne.mpr c87]
                        rfl
                      rw [anyG_s hib, hf, Bool.true_or] at i3
                      refine bI_f ?_; rw [← i3]; rfl)
                   | (rw [anyG_0 (by omega)] at i3
                      refine bI_t ?_; rw [← i3]; rfl))
                | (refine ⟨?_, fun z => absurd z ?_⟩; (exact congrArg (tg g) (cd2 c5).symm); (exact fun z => absurd ((cd2 c5).symm.trans z) (nz_t c5)); done)
                | (refine ⟨?_, fun z => absurd z ?_⟩; (simp [cdL, hn0, hp_a, c26]); (simp [cdL, hn0, hp_a, c26]); done)
                | (refine ⟨?_, fun z => absurd z ?_⟩; (simp [cdL, hn0, hp_a, c26, c57]); (simp [cdL, hn0, hp_a, c26, c57]); done)
              · refine v_aload_n C dX6_same_71 rfl ?_
                refine v_iload_n C dX6_same_72 rfl ?_
                refine v_iload C dX6_same_73 rfl ?_
                first | refine v_iaddN C dX6_same_75 ?_ | refine v_iadd C dX6_same_75 ?_
                refine v_callVi C (c_X6_valueOf hl (g := tg g 0) (m := m) (n := n) hR hI (by omega)) ym_X6_valueOf ml_X6_226 emb_id_qS rfl rfl rfl rfl rfl dX6_same_76 (Nat.le_of_ble_eq_true rfl) (Nat.le_of_ble_eq_true rfl) (Nat.le_of_ble_eq_true rfl) (Nat.le_of_ble_eq_true rfl) (fun _ _ hu => hu.elim) (fun r u hu => ?_)
                obtain ⟨rfl, hu⟩ := hu
                subst u
                refine V.stt (g2 := (tg g 0)) (rfl) ?_
                refine v_aload_n C dX6_same_79 rfl ?_
                refine v_iload_n C dX6_same_80 rfl ?_
                refine v_iload C dX6_same_81 rfl ?_
                first | refine v_iaddN C dX6_same_83 ?_ | refine v_iadd C dX6_same_83 ?_
                refine v_callVi C (c_X6_valueOf hl (g := tg g 0) (m := m) (n := n) hR hI (by omega)) ym_X6_valueOf ml_X6_226 emb_id_qS rfl rfl rfl rfl rfl dX6_same_84 (Nat.le_of_ble_eq_true rfl) (Nat.le_of_ble_eq_true rfl) (Nat.le_of_ble_eq_true rfl) (Nat.le_of_ble_eq_true rfl) (fun _ _ hu => hu.elim) (fun r u hu => ?_)
                obtain ⟨rfl, hu⟩ := hu
                subst u
                refine V.stt (g2 := (tg g 0)) (rfl) ?_
                refine v_icmp_eq C 92 dX6_same_87 (by decide) (fun c87 => ?_) (fun c87 => ?_)
                · first | refine v_iinc1 C (lo2 := [some _, some _, some _, some _, some _]) dX6_same_92 rfl rfl rfl ?_ | refine v_iinc C (lo2 := [some _, some _, some _, some _, some _]) dX6_same_92 rfl rfl rfl rfl ?_
                  refine v_goto C 65 dX6_same_95 (by decide) ?_
                  have hib : i < l2 := by omega
                  have hf : (samB m ja jb) i = false := by
                    show (!(valM m (ja + i) == valM m (jb + i))) = false
                    rw [beq_iff_eq.mpr c87]
                    rfl
                  rw [anyG_s hib, hf, Bool.false_or] at i3
                  exact ih65 (i + 1) (by show l2 - (i + 1) < l2 - i; omega) ⟨by omega, by omega, i3⟩
                · refine v_iconst (v := nI 0) C dX6_same_90 (by decide) ?_
                  refine v_iret C F (by first | rfl | exact bI_nar _) dX6_same_91 (Nat.le_of_ble_eq_true rfl) (Nat.le_of_ble_eq_true rfl) ?_
                  first
                  | (refine ⟨?_, fun _ => ?_⟩
                     simp [cdL, hn0, hp_a, c26, c57]
                     rw [t_ja, t_jb, t_k]
                     first
                     | (have hib : i < l2 := by omega
                        have hf : (samB m ja jb) i = true := by
                          show (!(valM m (ja + i) == valM m (jb + i))) = true
                          rw [beq_eq_false_iff_ne.mpr c87]
                          rfl
                        rw [anyG_s hib, hf, Bool.true_or] at i3
                        refine bI_f ?_; rw [← i3]; rfl)
                     | (rw [anyG_0 (by omega)] at i3
                        refine bI_t ?_; rw [← i3]; rfl))
                  | (refine ⟨?_, fun z => absurd z ?_⟩; (exact congrArg (tg g) (cd2 c5).symm); (exact fun z => absurd ((cd2 c5).symm.trans z) (nz_t c5)); done)
                  | (refine ⟨?_, fun z => absurd z ?_⟩; (simp [cdL, hn0, hp_a, c26]); (simp [cdL, hn0, hp_a, c26]); done)
                  | (refine ⟨?_, fun z => absurd z ?_⟩; (simp [cdL, hn0, hp_a, c26, c57]); (simp [cdL, hn0, hp_a, c26, c57]); done)
            exact L65 (0) ⟨Nat.le_refl _, by omega, rfl⟩
          · refine V.stt (g2 := tg g 3) (by rw [c57]; rfl) ?_
            refine v_iconst (v := nI 0) C dX6_same_60 (by decide) ?_
            refine v_iret C F (by first | rfl | exact bI_nar _) dX6_same_61 (Nat.le_of_ble_eq_true rfl) (Nat.le_of_ble_eq_true rfl) ?_
            first
            | (refine ⟨?_, fun _ => ?_⟩
               simp [cdL, hn0, hp_a, c26, c57]
               rw [t_ja, t_jb, t_k]
               first
               | (have hib : i < l2 := by omega
                  have hf : (samB m ja jb) i = true := by
                    show (!(valM m (ja + i) == valM m (jb + i))) = true
                    rw [beq_eq_false_iff_ne.mpr c87]
                    rfl
                  rw [anyG_s hib, hf, Bool.true_or] at i3
                  refine bI_f ?_; rw [← i3]; rfl)
               | (rw [anyG_0 (by omega)] at i3
                  refine bI_t ?_; rw [← i3]; rfl))
            | (refine ⟨?_, fun z => absurd z ?_⟩; (exact congrArg (tg g) (cd2 c5).symm); (exact fun z => absurd ((cd2 c5).symm.trans z) (nz_t c5)); done)
            | (refine ⟨?_, fun z => absurd z ?_⟩; (simp [cdL, hn0, hp_a, c26]); (simp [cdL, hn0, hp_a, c26]); done)
            | (refine ⟨?_, fun z => absurd z ?_⟩; (simp [cdL, hn0, hp_a, c26, c57]); (simp [cdL, hn0, hp_a, c26, c57]); done)
    · refine v_iconst (v := nI 1) C dX6_same_17 (by decide) ?_
      refine v_goto C 22 dX6_same_18 (by decide) ?_
      refine V.eqs (st2 := [.int (bI (!plB n b)), .ref (h 0)]) ?_ (congrArg (fun z => [Value.int z, Value.ref (h 0)]) (by first | exact bI_t (by simp [c14]) | exact bI_f (by simp [c14])))
      refine v_iconst (v := nI 2) C dX6_same_22 (by decide) ?_
      refine v_callVi C (c_X6_refuse hl (b := !plB n b) (k := 2) (by decide) (by decide)) ym_X6_refuse ml_X6_40 emb_id_qS rfl rfl rfl rfl rfl dX6_same_23 (Nat.le_of_ble_eq_true rfl) (Nat.le_of_ble_eq_true rfl) (Nat.le_of_ble_eq_true rfl) (Nat.le_of_ble_eq_true rfl) (fun _ _ hu => hu.elim) (fun r u hu => ?_)
      obtain ⟨rfl, hu⟩ := hu
      subst u
      refine v_if_neB C 60 dX6_same_26 (by decide) (fun c26 => ?_) (fun c26 => ?_)
      · refine V.stt (g2 := tg g 2) (by rw [c26]; rfl) ?_
        refine v_iconst (v := nI 0) C dX6_same_60 (by decide) ?_
        refine v_iret C F (by first | rfl | exact bI_nar _) dX6_same_61 (Nat.le_of_ble_eq_true rfl) (Nat.le_of_ble_eq_true rfl) ?_
        first
        | (refine ⟨?_, fun _ => ?_⟩
           simp [cdL, hn0, hp_a, c26, c57]
           rw [t_ja, t_jb, t_k]
           first
           | (have hib : i < l2 := by omega
              have hf : (samB m ja jb) i = true := by
                show (!(valM m (ja + i) == valM m (jb + i))) = true
                rw [beq_eq_false_iff_ne.mpr c87]
                rfl
              rw [anyG_s hib, hf, Bool.true_or] at i3
              refine bI_f ?_; rw [← i3]; rfl)
           | (rw [anyG_0 (by omega)] at i3
              refine bI_t ?_; rw [← i3]; rfl))
        | (refine ⟨?_, fun z => absurd z ?_⟩; (exact congrArg (tg g) (cd2 c5).symm); (exact fun z => absurd ((cd2 c5).symm.trans z) (nz_t c5)); done)
        | (refine ⟨?_, fun z => absurd z ?_⟩; (simp [cdL, hn0, hp_a, c26]); (simp [cdL, hn0, hp_a, c26]); done)
        | (refine ⟨?_, fun z => absurd z ?_⟩; (simp [cdL, hn0, hp_a, c26, c57]); (simp [cdL, hn0, hp_a, c26, c57]); done)
      · refine V.stt (g2 := tg g 0) (by rw [c26]; rfl) ?_
        have hp_b : plB n b = true := by simpa using c26
        obtain ⟨jb, hj_jb, e_jb⟩ := pl_at hp_b
        subst e_jb
        have t_jb : tN (nI jb) = jb := tN_nI (by omega)
        refine v_aload_n C dX6_same_29 rfl ?_
        refine v_iload_n C dX6_same_30 rfl ?_
        refine v_iconst (v := nI 1) C dX6_same_31 (by decide) ?_
        refine v_aload_n C dX6_same_32 rfl ?_
        refine v_getiQ (x := nI n) C fl_X6_126 oi_qS_0_2 (hs) dX6_same_33 ?_
        refine v_iload_n C dX6_same_36 rfl ?_
        refine v_iload_n C dX6_same_37 rfl ?_
        refine v_mmax (z := nI (max ja jb)) C ml_X6_263 w_maxS w_mI w_maxC rfl (Nat.le_of_ble_eq_true rfl) dX6_same_38 (Nat.le_of_ble_eq_true rfl) (Nat.le_of_ble_eq_true rfl) ?_ ?_
        · exact nI_max (by omega) (by omega)
        first | refine v_isubN C dX6_same_41 (by omega) ?_ | refine v_isub C dX6_same_41 ?_
        refine v_callSi C (c_X6_in hl (v := k) (a := 1) (b := ((n : Int) - ((max ja jb : Nat) : Int))) (by decide) (by rw [nI_toInt (by omega)]; omega)) ys_X6_in rfl ml_X6_98 (emb_n fix_qS) rfl rfl rfl dX6_same_42 (Nat.le_of_ble_eq_true rfl) (Nat.le_of_ble_eq_true rfl) (Nat.le_of_ble_eq_true rfl) (Nat.le_of_ble_eq_true rfl) (fun _ _ hu => hu.elim) (fun r u hu => ?_)
        subst r
        refine v_if_neB C 52 dX6_same_45 (by decide) (fun c45 => ?_) (fun c45 => ?_)
        · refine v_iconst (v := nI 0) C dX6_same_52 (by decide) ?_
          refine V.eqs (st2 := [.int (bI (!rowB n (nI ja) (nI jb) k)), .ref (h 0)]) ?_ (congrArg (fun z => [Value.int z, Value.ref (h 0)]) (by rw [rowB_in hj_ja hj_jb h96]; first | exact bI_t (by simp [c45]) | exact bI_f (by simp [c45])))
          refine v_iconst (v := nI 3) C dX6_same_53 (by decide) ?_
          refine v_callVi C (c_X6_refuse hl (b := !rowB n (nI ja) (nI jb) k) (k := 3) (by decide) (by decide)) ym_X6_refuse ml_X6_40 emb_id_qS rfl rfl rfl rfl rfl dX6_same_54 (Nat.le_of_ble_eq_true rfl) (Nat.le_of_ble_eq_true rfl) (Nat.le_of_ble_eq_true rfl) (Nat.le_of_ble_eq_true rfl) (fun _ _ hu => hu.elim) (fun r u hu => ?_)
          obtain ⟨rfl, hu⟩ := hu
          subst u
          refine v_if_eqB C 62 dX6_same_57 (by decide) (fun c57 => ?_) (fun c57 => ?_)
          · refine V.stt (g2 := tg g 0) (by rw [c57]; rfl) ?_
            have hrw : rowB n (nI ja) (nI jb) k = true := by simpa using c57
            have hrw2 := hrw
            rw [rowB_in hj_ja hj_jb h96] at hrw2
            obtain ⟨l2, hk1, hk2, hk3, ek⟩ := in_at (a := 1) hrw2
            have hl1 : ja + l2 ≤ n := by omega
            have hl2 : jb + l2 ≤ n := by omega
            have t_k : tN k = l2 := by rw [ek]; exact tN_nI hk3
            rw [ek]
            refine v_iconst (v := nI 0) C dX6_same_62 (by decide) ?_
            refine v_istore C (lo2 := [some _, some _, some _, some _, some _]) dX6_same_63 rfl (Nat.le_of_ble_eq_true rfl) rfl ?_
            have L65 : ∀ (t : Nat), (fun t => 0 ≤ t ∧ t ≤ 200 ∧ anyG (samB m ja jb) t (l2 - t) = anyG (samB m ja jb) 0 l2) t → (fun t : Nat => V X (qS (xK X) h) 65 [some (.ref (h 0)), some (.int (nI ja)), some (.int (nI jb)), some (.int (nI l2)), some (.int (nI t))] [] (tg g 0) 0 0) t := by
              refine v_ind (fun t : Nat => l2 - t) ?_
              rintro i ih65 hI65
              try dsimp only at hI65 ⊢
              obtain ⟨i1, i2, i3⟩ := hI65
              refine v_iload C dX6_same_65 rfl ?_
              refine v_iload_n C dX6_same_67 rfl ?_
              first | refine v_icmp_geN C 98 dX6_same_68 (by decide) (by omega) (by omega) (fun c68 => ?_) (fun c68 => ?_) | refine v_icmp_ge C 98 dX6_same_68 (by decide) (fun c68 => ?_) (fun c68 => ?_)
              · refine v_iconst (v := nI 1) C dX6_same_98 (by decide) ?_
                refine v_iret C F (by first | rfl | exact bI_nar _) dX6_same_99 (Nat.le_of_ble_eq_true rfl) (Nat.le_of_ble_eq_true rfl) ?_
                first
                | (refine ⟨?_, fun _ => ?_⟩
                   simp [cdL, hn0, hp_a, c26, c57]
                   rw [t_ja, t_jb, t_k]
                   first
                   | (have hib : i < l2 := by omega
                      have hf : (samB m ja jb) i = true := by
                        show (!(valM m (ja + i) == valM m (jb + i))) = true
                        rw [beq_eq_false_iff_ne.mpr c87]
                        rfl
                      rw [anyG_s hib, hf, Bool.true_or] at i3
                      refine bI_f ?_; rw [← i3]; rfl)
                   | (rw [anyG_0 (by omega)] at i3
                      refine bI_t ?_; rw [← i3]; rfl))
                | (refine ⟨?_, fun z => absurd z ?_⟩; (exact congrArg (tg g) (cd2 c5).symm); (exact fun z => absurd ((cd2 c5).symm.trans z) (nz_t c5)); done)
                | (refine ⟨?_, fun z => absurd z ?_⟩; (simp [cdL, hn0, hp_a, c26]); (simp [cdL, hn0, hp_a, c26]); done)
                | (refine ⟨?_, fun z => absurd z ?_⟩; (simp [cdL, hn0, hp_a, c26, c57]); (simp [cdL, hn0, hp_a, c26, c57]); done)
              · refine v_aload_n C dX6_same_71 rfl ?_
                refine v_iload_n C dX6_same_72 rfl ?_
                refine v_iload C dX6_same_73 rfl ?_
                first | refine v_iaddN C dX6_same_75 ?_ | refine v_iadd C dX6_same_75 ?_
                refine v_callVi C (c_X6_valueOf hl (g := tg g 0) (m := m) (n := n) hR hI (by omega)) ym_X6_valueOf ml_X6_226 emb_id_qS rfl rfl rfl rfl rfl dX6_same_76 (Nat.le_of_ble_eq_true rfl) (Nat.le_of_ble_eq_true rfl) (Nat.le_of_ble_eq_true rfl) (Nat.le_of_ble_eq_true rfl) (fun _ _ hu => hu.elim) (fun r u hu => ?_)
                obtain ⟨rfl, hu⟩ := hu
                subst u
                refine V.stt (g2 := (tg g 0)) (rfl) ?_
                refine v_aload_n C dX6_same_79 rfl ?_
                refine v_iload_n C dX6_same_80 rfl ?_
                refine v_iload C dX6_same_81 rfl ?_
                first | refine v_iaddN C dX6_same_83 ?_ | refine v_iadd C dX6_same_83 ?_
                refine v_callVi C (c_X6_valueOf hl (g := tg g 0) (m := m) (n := n) hR hI (by omega)) ym_X6_valueOf ml_X6_226 emb_id_qS rfl rfl rfl rfl rfl dX6_same_84 (Nat.le_of_ble_eq_true rfl) (Nat.le_of_ble_eq_true rfl) (Nat.le_of_ble_eq_true rfl) (Nat.le_of_ble_eq_true rfl) (fun _ _ hu => hu.elim) (fun r u hu => ?_)
                obtain ⟨rfl, hu⟩ := hu
                subst u
                refine V.stt (g2 := (tg g 0)) (rfl) ?_
                refine v_icmp_eq C 92 dX6_same_87 (by decide) (fun c87 => ?_) (fun c87 => ?_)
                · first | refine v_iinc1 C (lo2 := [some _, some _, some _, some _, some _]) dX6_same_92 rfl rfl rfl ?_ | refine v_iinc C (lo2 := [some _, some _, some _, some _, some _]) dX6_same_92 rfl rfl rfl rfl ?_
                  refine v_goto C 65 dX6_same_95 (by decide) ?_
                  have hib : i < l2 := by omega
                  have hf : (samB m ja jb) i = false := by
                    show (!(valM m (ja + i) == valM m (jb + i))) = false
                    rw [beq_iff_eq.mpr c87]
                    rfl
                  rw [anyG_s hib, hf, Bool.false_or] at i3
                  exact ih65 (i + 1) (by show l2 - (i + 1) < l2 - i; omega) ⟨by omega, by omega, i3⟩
                · refine v_iconst (v := nI 0) C dX6_same_90 (by decide) ?_
                  refine v_iret C F (by first | rfl | exact bI_nar _) dX6_same_91 (Nat.le_of_ble_eq_true rfl) (Nat.le_of_ble_eq_true rfl) ?_
                  first
                  | (refine ⟨?_, fun _ => ?_⟩
                     simp [cdL, hn0, hp_a, c26, c57]
                     rw [t_ja, t_jb, t_k]
                     first
                     | (have hib : i < l2 := by omega
                        have hf : (samB m ja jb) i = true := by
                          show (!(valM m (ja + i) == valM m (jb + i))) = true
                          rw [beq_eq_false_iff_ne.mpr c87]
                          rfl
                        rw [anyG_s hib, hf, Bool.true_or] at i3
                        refine bI_f ?_; rw [← i3]; rfl)
                     | (rw [anyG_0 (by omega)] at i3
                        refine bI_t ?_; rw [← i3]; rfl))
                  | (refine ⟨?_, fun z => absurd z ?_⟩; (exact congrArg (tg g) (cd2 c5).symm); (exact fun z => absurd ((cd2 c5).symm.trans z) (nz_t c5)); done)
                  | (refine ⟨?_, fun z => absurd z ?_⟩; (simp [cdL, hn0, hp_a, c26]); (simp [cdL, hn0, hp_a, c26]); done)
                  | (refine ⟨?_, fun z => absurd z ?_⟩; (simp [cdL, hn0, hp_a, c26, c57]); (simp [cdL, hn0, hp_a, c26, c57]); done)
            exact L65 (0) ⟨Nat.le_refl _, by omega, rfl⟩
          · refine V.stt (g2 := tg g 3) (by rw [c57]; rfl) ?_
            refine v_iconst (v := nI 0) C dX6_same_60 (by decide) ?_
            refine v_iret C F (by first | rfl | exact bI_nar _) dX6_same_61 (Nat.le_of_ble_eq_true rfl) (Nat.le_of_ble_eq_true rfl) ?_
            first
            | (refine ⟨?_, fun _ => ?_⟩
               simp [cdL, hn0, hp_a, c26, c57]
               rw [t_ja, t_jb, t_k]
               first
               | (have hib : i < l2 := by omega
                  have hf : (samB m ja jb) i = true := by
                    show (!(valM m (ja + i) == valM m (jb + i))) = true
                    rw [beq_eq_false_iff_ne.mpr c87]
                    rfl
                  rw [anyG_s hib, hf, Bool.true_or] at i3
                  refine bI_f ?_; rw [← i3]; rfl)
               | (rw [anyG_0 (by omega)] at i3
                  refine bI_t ?_; rw [← i3]; rfl))
            | (refine ⟨?_, fun z => absurd z ?_⟩; (exact congrArg (tg g) (cd2 c5).symm); (exact fun z => absurd ((cd2 c5).symm.trans z) (nz_t c5)); done)
            | (refine ⟨?_, fun z => absurd z ?_⟩; (simp [cdL, hn0, hp_a, c26]); (simp [cdL, hn0, hp_a, c26]); done)
            | (refine ⟨?_, fun z => absurd z ?_⟩; (simp [cdL, hn0, hp_a, c26, c57]); (simp [cdL, hn0, hp_a, c26, c57]); done)
        · refine v_iconst (v := nI 1) C dX6_same_48 (by decide) ?_
          refine v_goto C 53 dX6_same_49 (by decide) ?_
          refine V.eqs (st2 := [.int (bI (!rowB n (nI ja) (nI jb) k)), .ref (h 0)]) ?_ (congrArg (fun z => [Value.int z, Value.ref (h 0)]) (by rw [rowB_in hj_ja hj_jb h96]; first | exact bI_t (by simp [c45]) | exact bI_f (by simp [c45])))
          refine v_iconst (v := nI 3) C dX6_same_53 (by decide) ?_
          refine v_callVi C (c_X6_refuse hl (b := !rowB n (nI ja) (nI jb) k) (k := 3) (by decide) (by decide)) ym_X6_refuse ml_X6_40 emb_id_qS rfl rfl rfl rfl rfl dX6_same_54 (Nat.le_of_ble_eq_true rfl) (Nat.le_of_ble_eq_true rfl) (Nat.le_of_ble_eq_true rfl) (Nat.le_of_ble_eq_true rfl) (fun _ _ hu => hu.elim) (fun r u hu => ?_)
          obtain ⟨rfl, hu⟩ := hu
          subst u
          refine v_if_eqB C 62 dX6_same_57 (by decide) (fun c57 => ?_) (fun c57 => ?_)
          · refine V.stt (g2 := tg g 0) (by rw [c57]; rfl) ?_
            have hrw : rowB n (nI ja) (nI jb) k = true := by simpa using c57
            have hrw2 := hrw
            rw [rowB_in hj_ja hj_jb h96] at hrw2
            obtain ⟨l2, hk1, hk2, hk3, ek⟩ := in_at (a := 1) hrw2
            have hl1 : ja + l2 ≤ n := by omega
            have hl2 : jb + l2 ≤ n := by omega
            have t_k : tN k = l2 := by rw [ek]; exact tN_nI hk3
            rw [ek]
            refine v_iconst (v := nI 0) C dX6_same_62 (by decide) ?_
            refine v_istore C (lo2 := [some _, some _, some _, some _, some _]) dX6_same_63 rfl (Nat.le_of_ble_eq_true rfl) rfl ?_
            have L65 : ∀ (t : Nat), (fun t => 0 ≤ t ∧ t ≤ 200 ∧ anyG (samB m ja jb) t (l2 - t) = anyG (samB m ja jb) 0 l2) t → (fun t : Nat => V X (qS (xK X) h) 65 [some (.ref (h 0)), some (.int (nI ja)), some (.int (nI jb)), some (.int (nI l2)), some (.int (nI t))] [] (tg g 0) 0 0) t := by
              refine v_ind (fun t : Nat => l2 - t) ?_
              rintro i ih65 hI65
              try dsimp only at hI65 ⊢
              obtain ⟨i1, i2, i3⟩ := hI65
              refine v_iload C dX6_same_65 rfl ?_
              refine v_iload_n C dX6_same_67 rfl ?_
              first | refine v_icmp_geN C 98 dX6_same_68 (by decide) (by omega) (by omega) (fun c68 => ?_) (fun c68 => ?_) | refine v_icmp_ge C 98 dX6_same_68 (by decide) (fun c68 => ?_) (fun c68 => ?_)
              · refine v_iconst (v := nI 1) C dX6_same_98 (by decide) ?_
                refine v_iret C F (by first | rfl | exact bI_nar _) dX6_same_99 (Nat.le_of_ble_eq_true rfl) (Nat.le_of_ble_eq_true rfl) ?_
                first
                | (refine ⟨?_, fun _ => ?_⟩
                   simp [cdL, hn0, hp_a, c26, c57]
                   rw [t_ja, t_jb, t_k]
                   first
                   | (have hib : i < l2 := by omega
                      have hf : (samB m ja jb) i = true := by
                        show (!(valM m (ja + i) == valM m (jb + i))) = true
                        rw [beq_eq_false_iff_ne.mpr c87]
                        rfl
                      rw [anyG_s hib, hf, Bool.true_or] at i3
                      refine bI_f ?_; rw [← i3]; rfl)
                   | (rw [anyG_0 (by omega)] at i3
                      refine bI_t ?_; rw [← i3]; rfl))
                | (refine ⟨?_, fun z => absurd z ?_⟩; (exact congrArg (tg g) (cd2 c5).symm); (exact fun z => absurd ((cd2 c5).symm.trans z) (nz_t c5)); done)
                | (refine ⟨?_, fun z => absurd z ?_⟩; (simp [cdL, hn0, hp_a, c26]); (simp [cdL, hn0, hp_a, c26]); done)
                | (refine ⟨?_, fun z => absurd z ?_⟩; (simp [cdL, hn0, hp_a, c26, c57]); (simp [cdL, hn0, hp_a, c26, c57]); done)
              · refine v_aload_n C dX6_same_71 rfl ?_
                refine v_iload_n C dX6_same_72 rfl ?_
                refine v_iload C dX6_same_73 rfl ?_
                first | refine v_iaddN C dX6_same_75 ?_ | refine v_iadd C dX6_same_75 ?_
                refine v_callVi C (c_X6_valueOf hl (g := tg g 0) (m := m) (n := n) hR hI (by omega)) ym_X6_valueOf ml_X6_226 emb_id_qS rfl rfl rfl rfl rfl dX6_same_76 (Nat.le_of_ble_eq_true rfl) (Nat.le_of_ble_eq_true rfl) (Nat.le_of_ble_eq_true rfl) (Nat.le_of_ble_eq_true rfl) (fun _ _ hu => hu.elim) (fun r u hu => ?_)
                obtain ⟨rfl, hu⟩ := hu
                subst u
                refine V.stt (g2 := (tg g 0)) (rfl) ?_
                refine v_aload_n C dX6_same_79 rfl ?_
                refine v_iload_n C dX6_same_80 rfl ?_
                refine v_iload C dX6_same_81 rfl ?_
                first | refine v_iaddN C dX6_same_83 ?_ | refine v_iadd C dX6_same_83 ?_
                refine v_callVi C (c_X6_valueOf hl (g := tg g 0) (m := m) (n := n) hR hI (by omega)) ym_X6_valueOf ml_X6_226 emb_id_qS rfl rfl rfl rfl rfl dX6_same_84 (Nat.le_of_ble_eq_true rfl) (Nat.le_of_ble_eq_true rfl) (Nat.le_of_ble_eq_true rfl) (Nat.le_of_ble_eq_true rfl) (fun _ _ hu => hu.elim) (fun r u hu => ?_)
                obtain ⟨rfl, hu⟩ := hu
                subst u
                refine V.stt (g2 := (tg g 0)) (rfl) ?_
                refine v_icmp_eq C 92 dX6_same_87 (by decide) (fun c87 => ?_) (fun c87 => ?_)
                · first | refine v_iinc1 C (lo2 := [some _, some _, some _, some _, some _]) dX6_same_92 rfl rfl rfl ?_ | refine v_iinc C (lo2 := [some _, some _, some _, some _, some _]) dX6_same_92 rfl rfl rfl rfl ?_
                  refine v_goto C 65 dX6_same_95 (by decide) ?_
                  have hib : i < l2 := by omega
                  have hf : (samB m ja jb) i = false := by
                    show (!(valM m (ja + i) == valM m (jb + i))) = false
                    rw [beq_iff_eq.mpr c87]
                    rfl
                  rw [anyG_s hib, hf, Bool.false_or] at i3
                  exact ih65 (i + 1) (by show l2 - (i + 1) < l2 - i; omega) ⟨by omega, by omega, i3⟩
                · refine v_iconst (v := nI 0) C dX6_same_90 (by decide) ?_
                  refine v_iret C F (by first | rfl | exact bI_nar _) dX6_same_91 (Nat.le_of_ble_eq_true rfl) (Nat.le_of_ble_eq_true rfl) ?_
                  first
                  | (refine ⟨?_, fun _ => ?_⟩
                     simp [cdL, hn0, hp_a, c26, c57]
                     rw [t_ja, t_jb, t_k]
                     first
                     | (have hib : i < l2 := by omega
                        have hf : (samB m ja jb) i = true := by
                          show (!(valM m (ja + i) == valM m (jb + i))) = true
                          rw [beq_eq_false_iff_ne.mpr c87]
                          rfl
                        rw [anyG_s hib, hf, Bool.true_or] at i3
                        refine bI_f ?_; rw [← i3]; rfl)
                     | (rw [anyG_0 (by omega)] at i3
                        refine bI_t ?_; rw [← i3]; rfl))
                  | (refine ⟨?_, fun z => absurd z ?_⟩; (exact congrArg (tg g) (cd2 c5).symm); (exact fun z => absurd ((cd2 c5).symm.trans z) (nz_t c5)); done)
                  | (refine ⟨?_, fun z => absurd z ?_⟩; (simp [cdL, hn0, hp_a, c26]); (simp [cdL, hn0, hp_a, c26]); done)
                  | (refine ⟨?_, fun z => absurd z ?_⟩; (simp [cdL, hn0, hp_a, c26, c57]); (simp [cdL, hn0, hp_a, c26, c57]); done)
            exact L65 (0) ⟨Nat.le_refl _, by omega, rfl⟩
          · refine V.stt (g2 := tg g 3) (by rw [c57]; rfl) ?_
            refine v_iconst (v := nI 0) C dX6_same_60 (by decide) ?_
            refine v_iret C F (by first | rfl | exact bI_nar _) dX6_same_61 (Nat.le_of_ble_eq_true rfl) (Nat.le_of_ble_eq_true rfl) ?_
            first
            | (refine ⟨?_, fun _ => ?_⟩
               simp [cdL, hn0, hp_a, c26, c57]
               rw [t_ja, t_jb, t_k]
               first
               | (have hib : i < l2 := by omega
                  have hf : (samB m ja jb) i = true := by
                    show (!(valM m (ja + i) == valM m (jb + i))) = true
                    rw [beq_eq_false_iff_ne.mpr c87]
                    rfl
                  rw [anyG_s hib, hf, Bool.true_or] at i3
                  refine bI_f ?_; rw [← i3]; rfl)
               | (rw [anyG_0 (by omega)] at i3
                  refine bI_t ?_; rw [← i3]; rfl))
            | (refine ⟨?_, fun z => absurd z ?_⟩; (exact congrArg (tg g) (cd2 c5).symm); (exact fun z => absurd ((cd2 c5).symm.trans z) (nz_t c5)); done)
            | (refine ⟨?_, fun z => absurd z ?_⟩; (simp [cdL, hn0, hp_a, c26]); (simp [cdL, hn0, hp_a, c26]); done)
            | (refine ⟨?_, fun z => absurd z ?_⟩; (simp [cdL, hn0, hp_a, c26, c57]); (simp [cdL, hn0, hp_a, c26, c57]); done)
