theorem c_X6_isWordN {l : Launch} (hl : l.stackTraces = false) {κ : Kp} {h : Nat → Nat} {g : G} {b : Nat → Int32} {len : Nat} {st : St} {i : Nat} (hi : i < 20) (hR : QR b len st g) : Ct SS MM l κ yX6_isWord cX6_isWord 3 (some FieldType.boolean) 4 0 0 [.ref (h 0), .ref (κ.2.2.1 i)] (qS κ h) g ri (fun r2 u => r2 = bI (ok st && isW b (wd i) st.1) ∧ u = g) (fun _ _ => False) := by
  obtain ⟨q, hq, e⟩ := wd_get hi
  rw [← e]
  exact c_X6_isWord hl hq hR
theorem c_X6_takesAfterN {l : Launch} (hl : l.stackTraces = false) {κ : Kp} {h : Nat → Nat} {g : G} {b : Nat → Int32} {len : Nat} {st : St} {lo hi : Nat} {i : Nat} (hi20 : i < 20) (hR : QR b len (advS b len st) g) (hlo : lo < 1000) (hhi : hi < 1000) (hb : BN0 b) : Ct SS MM l κ yX6_takesAfter cX6_takesAfter 4 (some FieldType.int) 5 0 0 [.ref (h 0), .ref (κ.2.2.1 i), .int (nI lo), .int (nI hi)] (qS κ h) g ri (fun r u => r = nI (namS b len (wd i) lo hi st).2 ∧ QR b len (advS b len (namS b len (wd i) lo hi st).1) u ∧ FQ g u) (fun _ _ => False) := by
  obtain ⟨q, hq, e⟩ := wd_get hi20
  rw [← e]
  exact c_X6_takesAfter hl hq hR hlo hhi hb
theorem isW_k4 {b : Nat → Int32} {w : List Nat} {t : Tk} (h : isW b w t = true) : ¬ t.1 = 4 := by
  unfold isW at h
  simp only [Bool.and_eq_true, decide_eq_true_eq] at h
  omega
theorem bf_t {x : Bool} (h : x = false) : ¬ x = true := by rw [h]; exact Bool.false_ne_true
set_option maxHeartbeats 800000 in
theorem c_X6_line {l : Launch} (hl : l.stackTraces = false) {κ : Kp} {h : Nat → Nat} {g : G} {m : Mg} {n len : Nat} {b : Nat → Int32} {st : St} {k : Cnt} (h96 : n ≤ 96) (hn1 : 1 ≤ n) (hX : QXr b len n (st, m, k) g) (hPI : PI n (st, m, k)) (hKL : KLp (st, m, k)) (hkb : KB k) (hb : BN0 b) (hG : GTo len st.1) (h0 : ok st = true) : Ct SS MM l κ yX6_line cX6_line 1 none 7 0 0 [.ref (h 0)] (qS κ h) g rv (fun _ u => QXr b len n (lnAny b len n (st, m, k)) u ∧ FLn g u) (fun _ _ => False) := by
  refine Ct.of (own := RX6) (by decide) rfl hl (by intro v hv; simp only [List.mem_cons, List.not_mem_nil, or_false] at hv; first | (rcases hv with rfl | rfl | rfl | rfl | rfl | rfl <;> rfl) | (rcases hv with rfl | rfl | rfl | rfl | rfl <;> rfl) | (rcases hv with rfl | rfl | rfl | rfl <;> rfl) | (rcases hv with rfl | rfl | rfl <;> rfl) | (rcases hv with rfl | rfl <;> rfl) | (subst hv; rfl) | exact hv.elim) (Nat.le_of_ble_eq_true rfl) (fun X hxl hxk C F N => ?_)
  subst hxl hxk
  show V X (qS (xK X) h) 0 [some (.ref (h 0))] [] g 0 0
  obtain ⟨hR, hRow, hK, hs⟩ := id hX
  have hR : QR b len st g := hR
  have hRow : RowR m (g 1) := hRow
  have hK : KQ k g := hK
  refine v_aload_n C dX6_line_0 rfl ?_
  refine v_ldcS C (i := 14) rfl rfl dX6_line_1 ?_
  refine v_callVi C (c_X6_isWordN hl (i := 14) (by decide) hR) ym_X6_isWord ml_X6_109 emb_id_qS rfl rfl rfl rfl rfl dX6_line_3 (Nat.le_of_ble_eq_true rfl) (Nat.le_of_ble_eq_true rfl) (Nat.le_of_ble_eq_true rfl) (Nat.le_of_ble_eq_true rfl) (fun _ _ hu => hu.elim) (fun r u hu => ?_)
  obtain ⟨rfl, hu⟩ := hu
  subst u
  rw [h0, Bool.true_and, show wd 14 = wd 4 from rfl]
  refine V.stt (g2 := g) (rfl) ?_
  refine v_if_eqB C 16 dX6_line_6 (by decide) (fun c6 => ?_) (fun c6 => ?_)
  · refine v_aload_n C dX6_line_16 rfl ?_
    refine v_ldcS C (i := 15) rfl rfl dX6_line_17 ?_
    refine v_callVi C (c_X6_isWordN hl (i := 15) (by decide) hR) ym_X6_isWord ml_X6_109 emb_id_qS rfl rfl rfl rfl rfl dX6_line_19 (Nat.le_of_ble_eq_true rfl) (Nat.le_of_ble_eq_true rfl) (Nat.le_of_ble_eq_true rfl) (Nat.le_of_ble_eq_true rfl) (fun _ _ hu => hu.elim) (fun r u hu => ?_)
    obtain ⟨rfl, hu⟩ := hu
    subst u
    rw [h0, Bool.true_and, show wd 15 = wd 5 from rfl]
    refine V.stt (g2 := g) (rfl) ?_
    refine v_if_eqB C 32 dX6_line_22 (by decide) (fun c22 => ?_) (fun c22 => ?_)
    · refine v_aload_n C dX6_line_32 rfl ?_
      refine v_ldcS C (i := 16) rfl rfl dX6_line_33 ?_
      refine v_callVi C (c_X6_isWordN hl (i := 16) (by decide) hR) ym_X6_isWord ml_X6_109 emb_id_qS rfl rfl rfl rfl rfl dX6_line_35 (Nat.le_of_ble_eq_true rfl) (Nat.le_of_ble_eq_true rfl) (Nat.le_of_ble_eq_true rfl) (Nat.le_of_ble_eq_true rfl) (fun _ _ hu => hu.elim) (fun r u hu => ?_)
      obtain ⟨rfl, hu⟩ := hu
      subst u
      rw [h0, Bool.true_and, show wd 16 = wd 6 from rfl]
      refine V.stt (g2 := g) (rfl) ?_
      refine v_if_eqB C 48 dX6_line_38 (by decide) (fun c38 => ?_) (fun c38 => ?_)
      · refine v_aload_n C dX6_line_48 rfl ?_
        refine v_ldcS C (i := 17) rfl rfl dX6_line_49 ?_
        refine v_callVi C (c_X6_isWordN hl (i := 17) (by decide) hR) ym_X6_isWord ml_X6_109 emb_id_qS rfl rfl rfl rfl rfl dX6_line_51 (Nat.le_of_ble_eq_true rfl) (Nat.le_of_ble_eq_true rfl) (Nat.le_of_ble_eq_true rfl) (Nat.le_of_ble_eq_true rfl) (fun _ _ hu => hu.elim) (fun r u hu => ?_)
        obtain ⟨rfl, hu⟩ := hu
        subst u
        rw [h0, Bool.true_and, show wd 17 = wd 7 from rfl]
        refine V.stt (g2 := g) (rfl) ?_
        refine v_if_eqB C 64 dX6_line_54 (by decide) (fun c54 => ?_) (fun c54 => ?_)
        · refine v_aload_n C dX6_line_64 rfl ?_
          refine v_ldcS C (i := 18) rfl rfl dX6_line_65 ?_
          refine v_callVi C (c_X6_isWordN hl (i := 18) (by decide) hR) ym_X6_isWord ml_X6_109 emb_id_qS rfl rfl rfl rfl rfl dX6_line_67 (Nat.le_of_ble_eq_true rfl) (Nat.le_of_ble_eq_true rfl) (Nat.le_of_ble_eq_true rfl) (Nat.le_of_ble_eq_true rfl) (fun _ _ hu => hu.elim) (fun r u hu => ?_)
          obtain ⟨rfl, hu⟩ := hu
          subst u
          rw [h0, Bool.true_and, show wd 18 = wd 8 from rfl]
          refine V.stt (g2 := g) (rfl) ?_
          refine v_if_eqB C 81 dX6_line_70 (by decide) (fun c70 => ?_) (fun c70 => ?_)
          · refine v_aload_n C dX6_line_81 rfl ?_
            refine v_ldcS C (i := 19) rfl rfl dX6_line_82 ?_
            refine v_callVi C (c_X6_isWordN hl (i := 19) (by decide) hR) ym_X6_isWord ml_X6_109 emb_id_qS rfl rfl rfl rfl rfl dX6_line_84 (Nat.le_of_ble_eq_true rfl) (Nat.le_of_ble_eq_true rfl) (Nat.le_of_ble_eq_true rfl) (Nat.le_of_ble_eq_true rfl) (fun _ _ hu => hu.elim) (fun r u hu => ?_)
            obtain ⟨rfl, hu⟩ := hu
            subst u
            rw [h0, Bool.true_and, show wd 19 = wd 9 from rfl]
            refine V.stt (g2 := g) (rfl) ?_
            refine v_if_eqB C 98 dX6_line_87 (by decide) (fun c87 => ?_) (fun c87 => ?_)
            · have hA : lnAny b len n (st, m, k) = (failS 1 st, m, k) := by
                unfold lnAny
                rw [if_neg (bf_t c6), if_neg (bf_t c22), if_neg (bf_t c38), if_neg (bf_t c54), if_neg (bf_t c70), if_neg (bf_t c87)]
              refine v_aload_n C dX6_line_98 rfl ?_
              refine v_iconst (v := nI 1) C dX6_line_99 (by decide) ?_
              refine v_callVv C (c_X6_fails hl (cd := 1) hR (by decide) (by decide)) ym_X6_fails ml_X6_82 emb_id_qS rfl rfl rfl rfl rfl dX6_line_100 (Nat.le_of_ble_eq_true rfl) (Nat.le_of_ble_eq_true rfl) (Nat.le_of_ble_eq_true rfl) (Nat.le_of_ble_eq_true rfl) (fun _ _ hu => hu.elim) (fun r u hu => ?_)
              obtain ⟨hR1, hF1⟩ := hu
              obtain ⟨g1, eg1⟩ : ∃ x, x = u := ⟨u, rfl⟩
              subst eg1
              have hX2 : QXr b len n (failS 1 st, m, k) g1 := QXr_mk hR1 (Row_at hRow (hF1.1 1 (by decide))) (hK.fq hF1) ((hF1.2 2 (by decide)).trans hs)
              have hF2 := hF1.fl
              refine v_vret C F dX6_line_103 (Nat.le_of_ble_eq_true rfl) (Nat.le_of_ble_eq_true rfl) ?_
              rw [hA]
              exact ⟨hX2, hF2⟩
            · have hA : lnAny b len n (st, m, k) = lnRule b len 4 (st, m, k) := by
                unfold lnAny
                rw [if_neg (bf_t c6), if_neg (bf_t c22), if_neg (bf_t c38), if_neg (bf_t c54), if_neg (bf_t c70), if_pos c87]
              refine v_aload_n C dX6_line_90 rfl ?_
              refine v_iconst (v := nI 4) C dX6_line_91 (by decide) ?_
              refine v_callVv C (c_X6_ruleLine hl h96 hn1 hX hPI hKL hkb hb (fun _ => isW_k4 c87) (q := 4) (Or.inr rfl)) ym_X6_ruleLine ml_X6_175 emb_id_qS rfl rfl rfl rfl rfl dX6_line_92 (Nat.le_of_ble_eq_true rfl) (Nat.le_of_ble_eq_true rfl) (Nat.le_of_ble_eq_true rfl) (Nat.le_of_ble_eq_true rfl) (fun _ _ hu => hu.elim) (fun r u hu => ?_)
              obtain ⟨hX2, hF2⟩ := hu
              obtain ⟨g2, eg2⟩ : ∃ x, x = u := ⟨u, rfl⟩
              subst eg2
              refine v_goto C 103 dX6_line_95 (by decide) ?_
              refine v_vret C F dX6_line_103 (Nat.le_of_ble_eq_true rfl) (Nat.le_of_ble_eq_true rfl) ?_
              rw [hA]
              exact ⟨hX2, hF2⟩
          · have hA : lnAny b len n (st, m, k) = lnRule b len 3 (st, m, k) := by
              unfold lnAny
              rw [if_neg (bf_t c6), if_neg (bf_t c22), if_neg (bf_t c38), if_neg (bf_t c54), if_pos c70]
            refine v_aload_n C dX6_line_73 rfl ?_
            refine v_iconst (v := nI 3) C dX6_line_74 (by decide) ?_
            refine v_callVv C (c_X6_ruleLine hl h96 hn1 hX hPI hKL hkb hb (fun _ => isW_k4 c70) (q := 3) (Or.inl rfl)) ym_X6_ruleLine ml_X6_175 emb_id_qS rfl rfl rfl rfl rfl dX6_line_75 (Nat.le_of_ble_eq_true rfl) (Nat.le_of_ble_eq_true rfl) (Nat.le_of_ble_eq_true rfl) (Nat.le_of_ble_eq_true rfl) (fun _ _ hu => hu.elim) (fun r u hu => ?_)
            obtain ⟨hX2, hF2⟩ := hu
            obtain ⟨g2, eg2⟩ : ∃ x, x = u := ⟨u, rfl⟩
            subst eg2
            refine v_goto C 103 dX6_line_78 (by decide) ?_
            refine v_vret C F dX6_line_103 (Nat.le_of_ble_eq_true rfl) (Nat.le_of_ble_eq_true rfl) ?_
            rw [hA]
            exact ⟨hX2, hF2⟩
        · have hA : lnAny b len n (st, m, k) = lnFill b len n (st, m, k) := by
            unfold lnAny
            rw [if_neg (bf_t c6), if_neg (bf_t c22), if_neg (bf_t c38), if_pos c54]
          refine v_aload_n C dX6_line_57 rfl ?_
          refine v_callVv C (c_X6_fillLine hl h96 hn1 hX hPI hKL hkb hb (fun _ => isW_k4 c54)) ym_X6_fillLine ml_X6_170 emb_id_qS rfl rfl rfl rfl rfl dX6_line_58 (Nat.le_of_ble_eq_true rfl) (Nat.le_of_ble_eq_true rfl) (Nat.le_of_ble_eq_true rfl) (Nat.le_of_ble_eq_true rfl) (fun _ _ hu => hu.elim) (fun r u hu => ?_)
          obtain ⟨hX2, hF2⟩ := hu
          obtain ⟨g2, eg2⟩ : ∃ x, x = u := ⟨u, rfl⟩
          subst eg2
          refine v_goto C 103 dX6_line_61 (by decide) ?_
          refine v_vret C F dX6_line_103 (Nat.le_of_ble_eq_true rfl) (Nat.le_of_ble_eq_true rfl) ?_
          rw [hA]
          exact ⟨hX2, hF2⟩
      · have hA : lnAny b len n (st, m, k) = lnCopy b len n (st, m, k) := by
          unfold lnAny
          rw [if_neg (bf_t c6), if_neg (bf_t c22), if_pos c38]
        refine v_aload_n C dX6_line_41 rfl ?_
        refine v_callVv C (c_X6_copyLine hl h96 hn1 hX hPI hKL hkb hb (fun _ => isW_k4 c38)) ym_X6_copyLine ml_X6_165 emb_id_qS rfl rfl rfl rfl rfl dX6_line_42 (Nat.le_of_ble_eq_true rfl) (Nat.le_of_ble_eq_true rfl) (Nat.le_of_ble_eq_true rfl) (Nat.le_of_ble_eq_true rfl) (fun _ _ hu => hu.elim) (fun r u hu => ?_)
        obtain ⟨hX2, hF2⟩ := hu
        obtain ⟨g2, eg2⟩ : ∃ x, x = u := ⟨u, rfl⟩
        subst eg2
        refine v_goto C 103 dX6_line_45 (by decide) ?_
        refine v_vret C F dX6_line_103 (Nat.le_of_ble_eq_true rfl) (Nat.le_of_ble_eq_true rfl) ?_
        rw [hA]
        exact ⟨hX2, hF2⟩
    · have hA : lnAny b len n (st, m, k) = lnLock b len n (st, m, k) := by
        unfold lnAny
        rw [if_neg (bf_t c6), if_pos c22]
      refine v_aload_n C dX6_line_25 rfl ?_
      refine v_callVv C (c_X6_lockLine hl h96 hn1 hX hPI hKL hkb hb (fun _ => isW_k4 c22)) ym_X6_lockLine ml_X6_160 emb_id_qS rfl rfl rfl rfl rfl dX6_line_26 (Nat.le_of_ble_eq_true rfl) (Nat.le_of_ble_eq_true rfl) (Nat.le_of_ble_eq_true rfl) (Nat.le_of_ble_eq_true rfl) (fun _ _ hu => hu.elim) (fun r u hu => ?_)
      obtain ⟨hX2, hF2⟩ := hu
      obtain ⟨g2, eg2⟩ : ∃ x, x = u := ⟨u, rfl⟩
      subst eg2
      refine v_goto C 103 dX6_line_29 (by decide) ?_
      refine v_vret C F dX6_line_103 (Nat.le_of_ble_eq_true rfl) (Nat.le_of_ble_eq_true rfl) ?_
      rw [hA]
      exact ⟨hX2, hF2⟩
  · have hA : lnAny b len n (st, m, k) = lnPut b len n (st, m, k) := by
      unfold lnAny
      rw [if_pos c6]
    refine v_aload_n C dX6_line_9 rfl ?_
    refine v_callVv C (c_X6_putLine hl h96 hn1 hX hPI hKL hkb hb (fun _ => isW_k4 c6) hG) ym_X6_putLine ml_X6_155 emb_id_qS rfl rfl rfl rfl rfl dX6_line_10 (Nat.le_of_ble_eq_true rfl) (Nat.le_of_ble_eq_true rfl) (Nat.le_of_ble_eq_true rfl) (Nat.le_of_ble_eq_true rfl) (fun _ _ hu => hu.elim) (fun r u hu => ?_)
    obtain ⟨hX2, hF2⟩ := hu
    obtain ⟨g2, eg2⟩ : ∃ x, x = u := ⟨u, rfl⟩
    subst eg2
    refine v_goto C 103 dX6_line_13 (by decide) ?_
    refine v_vret C F dX6_line_103 (Nat.le_of_ble_eq_true rfl) (Nat.le_of_ble_eq_true rfl) ?_
    rw [hA]
    exact ⟨hX2, hF2⟩

