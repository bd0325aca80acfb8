set_option maxHeartbeats 4000000 in
theorem c_X3_readNumber {l : Launch} (hl : l.stackTraces = false) {κ : Kp} {h : Nat → Nat} {r : G} {y : Eg} {lo hi : Nat} {len : Nat} {b : Nat → Int32} {st : St} (hR : RA b len st r) (hlo : lo ≤ 1000) (hhi : hi ≤ 1000) : Ct SS MM l κ yX3_readNumber cX3_readNumber 3 (some FieldType.int) 2 0 0 [.ref (h 0), .int (nI lo), .int (nI hi)] (rS κ h) (r, y) ri (fun v u => v = nI (numS b len lo hi st).2 ∧ u.2 = y ∧ RS b len (numS b len lo hi st).1 u.1 ∧ FB r u.1) (fun _ _ => False) := by
  refine Ct.of (own := RX3) (by decide) rfl hl (by intro v hv; simp only [List.mem_cons, List.not_mem_nil, or_false] at hv; first | (rcases hv with rfl | rfl | rfl | rfl | rfl | rfl <;> rfl) | (rcases hv with rfl | rfl | rfl | rfl | rfl <;> rfl) | (rcases hv with rfl | rfl | rfl | rfl <;> rfl) | (rcases hv with rfl | rfl | rfl <;> rfl) | (rcases hv with rfl | rfl <;> rfl) | (subst hv; rfl) | exact hv.elim) (Nat.le_of_ble_eq_true rfl) (fun X hxl hxk C F N => ?_)
  subst hxl hxk
  show V X (rS (xK X) h) 0 [some (.ref (h 0)), some (.int (nI lo)), some (.int (nI hi))] [] (r, y) 0 0
  refine v_aload_n C dX3_readNumber_0 rfl ?_
  refine v_callVv C (c_X3_advance hl hR) ym_X3_advance ml_X3_49 emb_id_rS rfl rfl rfl rfl rfl dX3_readNumber_1 (Nat.le_of_ble_eq_true rfl) (Nat.le_of_ble_eq_true rfl) (Nat.le_of_ble_eq_true rfl) (Nat.le_of_ble_eq_true rfl) (fun _ _ hu => hu.elim) (fun r u hu => ?_)
  rcases u with ⟨r1, y1⟩
  obtain ⟨hy, hR1, hF1⟩ := hu
  have hy : y = y1 := hy.symm
  subst hy
  refine v_aload_n C dX3_readNumber_4 rfl ?_
  have hk4 := hR1.2.2.2.2.2.1
  have hv := hR1.2.2.2.2.2.2.2.2
  refine v_getiQ (x := nI (advS b len st).1.1) C fl_X3_43 oi_rS_0_6 (hR1.2.2.2.2.1.1) dX3_readNumber_5 ?_
  refine v_iconst (v := nI 2) C dX3_readNumber_8 (by decide) ?_
  first | refine v_icmp_eqN C 20 dX3_readNumber_9 (by decide) (by omega) (by omega) (fun c9 => ?_) (fun c9 => ?_) | refine v_icmp_eq C 20 dX3_readNumber_9 (by decide) (fun c9 => ?_) (fun c9 => ?_)
  · have hv2 := hv c9
    refine v_aload_n C dX3_readNumber_20 rfl ?_
    refine v_getiQ (x := nI (advS b len st).1.2.2.2) C fl_X3_136 oi_rS_0_9 (hR1.2.2.2.2.1.2.2.2 c9) dX3_readNumber_21 ?_
    refine v_iload_n C dX3_readNumber_24 rfl ?_
    first | refine v_icmp_ltN C 36 dX3_readNumber_25 (by decide) (by omega) (by omega) (fun c25 => ?_) (fun c25 => ?_) | refine v_icmp_lt C 36 dX3_readNumber_25 (by decide) (fun c25 => ?_) (fun c25 => ?_)
    · refine v_aload_n C dX3_readNumber_36 rfl ?_
      refine v_iconst (v := nI 2) C dX3_readNumber_37 (by decide) ?_
      refine v_callVv C (c_X3_fail hl (cd := 2) hR1 (by omega) (by omega)) ym_X3_fail ml_X3_46 emb_id_rS rfl rfl rfl rfl rfl dX3_readNumber_38 (Nat.le_of_ble_eq_true rfl) (Nat.le_of_ble_eq_true rfl) (Nat.le_of_ble_eq_true rfl) (Nat.le_of_ble_eq_true rfl) (fun _ _ hu => hu.elim) (fun r u hu => ?_)
      rcases u with ⟨r2, y2⟩
      obtain ⟨hy, hR2, hF2⟩ := hu
      have hy : y = y2 := hy.symm
      subst hy
      have hK : RS b len (chkS lo hi (advS b len st)) r2 := by
        rw [show (chkS lo hi (advS b len st)) = failS 2 (advS b len st) from (if_pos c9).trans (if_pos (by omega))]
        exact hR2
      have hF := hF1.tr hF2
      refine v_aload_n C dX3_readNumber_41 rfl ?_
      refine v_getiQ (x := nI (chkS lo hi (advS b len st)).2.1) C fl_X3_40 oi_rS_0_3 (hK.2.2.2.1.2.2.1) dX3_readNumber_42 ?_
      refine v_if_ne C 55 dX3_readNumber_45 (by decide) (fun c45 => ?_) (fun c45 => ?_)
      · have hz := ok_n c45
        have hS2 : (numS b len lo hi st).2 = lo := if_neg hz.2
        refine v_iload_n C dX3_readNumber_55 rfl ?_
        refine v_iret C F (by first | rfl | exact bI_nar _) dX3_readNumber_56 (Nat.le_of_ble_eq_true rfl) (Nat.le_of_ble_eq_true rfl) ?_
        exact ⟨by rw [hS2], rfl, hK, hF⟩
      · have hz := ok_z hK.2.2.2.1.1 c45
        have hS2 : (numS b len lo hi st).2 = (chkS lo hi (advS b len st)).1.2.2.2 := if_pos hz.2
        refine v_aload_n C dX3_readNumber_48 rfl ?_
        refine v_getiQ (x := nI (chkS lo hi (advS b len st)).1.2.2.2) C fl_X3_136 oi_rS_0_9 (hK.2.2.2.2.1.2.2.2 (chk_k2 hz.2).1) dX3_readNumber_49 ?_
        refine v_goto C 56 dX3_readNumber_52 (by decide) ?_
        refine v_iret C F (by first | rfl | exact bI_nar _) dX3_readNumber_56 (Nat.le_of_ble_eq_true rfl) (Nat.le_of_ble_eq_true rfl) ?_
        exact ⟨by rw [hS2], rfl, hK, hF⟩
    · refine v_aload_n C dX3_readNumber_28 rfl ?_
      refine v_getiQ (x := nI (advS b len st).1.2.2.2) C fl_X3_136 oi_rS_0_9 (hR1.2.2.2.2.1.2.2.2 c9) dX3_readNumber_29 ?_
      refine v_iload_n C dX3_readNumber_32 rfl ?_
      first | refine v_icmp_leN C 41 dX3_readNumber_33 (by decide) (by omega) (by omega) (fun c33 => ?_) (fun c33 => ?_) | refine v_icmp_le C 41 dX3_readNumber_33 (by decide) (fun c33 => ?_) (fun c33 => ?_)
      · have hK : RS b len (chkS lo hi (advS b len st)) r1 := by
          rw [show (chkS lo hi (advS b len st)) = (advS b len st) from (if_pos c9).trans (if_neg (by omega))]
          exact hR1
        have hF := hF1
        refine v_aload_n C dX3_readNumber_41 rfl ?_
        refine v_getiQ (x := nI (chkS lo hi (advS b len st)).2.1) C fl_X3_40 oi_rS_0_3 (hK.2.2.2.1.2.2.1) dX3_readNumber_42 ?_
        refine v_if_ne C 55 dX3_readNumber_45 (by decide) (fun c45 => ?_) (fun c45 => ?_)
        · have hz := ok_n c45
          have hS2 : (numS b len lo hi st).2 = lo := if_neg hz.2
          refine v_iload_n C dX3_readNumber_55 rfl ?_
          refine v_iret C F (by first | rfl | exact bI_nar _) dX3_readNumber_56 (Nat.le_of_ble_eq_true rfl) (Nat.le_of_ble_eq_true rfl) ?_
          exact ⟨by rw [hS2], rfl, hK, hF⟩
        · have hz := ok_z hK.2.2.2.1.1 c45
          have hS2 : (numS b len lo hi st).2 = (chkS lo hi (advS b len st)).1.2.2.2 := if_pos hz.2
          refine v_aload_n C dX3_readNumber_48 rfl ?_
          refine v_getiQ (x := nI (chkS lo hi (advS b len st)).1.2.2.2) C fl_X3_136 oi_rS_0_9 (hK.2.2.2.2.1.2.2.2 (chk_k2 hz.2).1) dX3_readNumber_49 ?_
          refine v_goto C 56 dX3_readNumber_52 (by decide) ?_
          refine v_iret C F (by first | rfl | exact bI_nar _) dX3_readNumber_56 (Nat.le_of_ble_eq_true rfl) (Nat.le_of_ble_eq_true rfl) ?_
          exact ⟨by rw [hS2], rfl, hK, hF⟩
      · refine v_aload_n C dX3_readNumber_36 rfl ?_
        refine v_iconst (v := nI 2) C dX3_readNumber_37 (by decide) ?_
        refine v_callVv C (c_X3_fail hl (cd := 2) hR1 (by omega) (by omega)) ym_X3_fail ml_X3_46 emb_id_rS rfl rfl rfl rfl rfl dX3_readNumber_38 (Nat.le_of_ble_eq_true rfl) (Nat.le_of_ble_eq_true rfl) (Nat.le_of_ble_eq_true rfl) (Nat.le_of_ble_eq_true rfl) (fun _ _ hu => hu.elim) (fun r u hu => ?_)
        rcases u with ⟨r2, y2⟩
        obtain ⟨hy, hR2, hF2⟩ := hu
        have hy : y = y2 := hy.symm
        subst hy
        have hK : RS b len (chkS lo hi (advS b len st)) r2 := by
          rw [show (chkS lo hi (advS b len st)) = failS 2 (advS b len st) from (if_pos c9).trans (if_pos (by omega))]
          exact hR2
        have hF := hF1.tr hF2
        refine v_aload_n C dX3_readNumber_41 rfl ?_
        refine v_getiQ (x := nI (chkS lo hi (advS b len st)).2.1) C fl_X3_40 oi_rS_0_3 (hK.2.2.2.1.2.2.1) dX3_readNumber_42 ?_
        refine v_if_ne C 55 dX3_readNumber_45 (by decide) (fun c45 => ?_) (fun c45 => ?_)
        · have hz := ok_n c45
          have hS2 : (numS b len lo hi st).2 = lo := if_neg hz.2
          refine v_iload_n C dX3_readNumber_55 rfl ?_
          refine v_iret C F (by first | rfl | exact bI_nar _) dX3_readNumber_56 (Nat.le_of_ble_eq_true rfl) (Nat.le_of_ble_eq_true rfl) ?_
          exact ⟨by rw [hS2], rfl, hK, hF⟩
        · have hz := ok_z hK.2.2.2.1.1 c45
          have hS2 : (numS b len lo hi st).2 = (chkS lo hi (advS b len st)).1.2.2.2 := if_pos hz.2
          refine v_aload_n C dX3_readNumber_48 rfl ?_
          refine v_getiQ (x := nI (chkS lo hi (advS b len st)).1.2.2.2) C fl_X3_136 oi_rS_0_9 (hK.2.2.2.2.1.2.2.2 (chk_k2 hz.2).1) dX3_readNumber_49 ?_
          refine v_goto C 56 dX3_readNumber_52 (by decide) ?_
          refine v_iret C F (by first | rfl | exact bI_nar _) dX3_readNumber_56 (Nat.le_of_ble_eq_true rfl) (Nat.le_of_ble_eq_true rfl) ?_
          exact ⟨by rw [hS2], rfl, hK, hF⟩
  · refine v_aload_n C dX3_readNumber_12 rfl ?_
    refine v_iconst (v := nI 1) C dX3_readNumber_13 (by decide) ?_
    refine v_callVv C (c_X3_fail hl (cd := 1) hR1 (by omega) (by omega)) ym_X3_fail ml_X3_46 emb_id_rS rfl rfl rfl rfl rfl dX3_readNumber_14 (Nat.le_of_ble_eq_true rfl) (Nat.le_of_ble_eq_true rfl) (Nat.le_of_ble_eq_true rfl) (Nat.le_of_ble_eq_true rfl) (fun _ _ hu => hu.elim) (fun r u hu => ?_)
    rcases u with ⟨r2, y2⟩
    obtain ⟨hy, hR2, hF2⟩ := hu
    have hy : y = y2 := hy.symm
    subst hy
    have hK : RS b len (chkS lo hi (advS b len st)) r2 := by
      rw [show (chkS lo hi (advS b len st)) = failS 1 (advS b len st) from if_neg c9]
      exact hR2
    have hF := hF1.tr hF2
    refine v_goto C 41 dX3_readNumber_17 (by decide) ?_
    refine v_aload_n C dX3_readNumber_41 rfl ?_
    refine v_getiQ (x := nI (chkS lo hi (advS b len st)).2.1) C fl_X3_40 oi_rS_0_3 (hK.2.2.2.1.2.2.1) dX3_readNumber_42 ?_
    refine v_if_ne C 55 dX3_readNumber_45 (by decide) (fun c45 => ?_) (fun c45 => ?_)
    · have hz := ok_n c45
      have hS2 : (numS b len lo hi st).2 = lo := if_neg hz.2
      refine v_iload_n C dX3_readNumber_55 rfl ?_
      refine v_iret C F (by first | rfl | exact bI_nar _) dX3_readNumber_56 (Nat.le_of_ble_eq_true rfl) (Nat.le_of_ble_eq_true rfl) ?_
      exact ⟨by rw [hS2], rfl, hK, hF⟩
    · have hz := ok_z hK.2.2.2.1.1 c45
      have hS2 : (numS b len lo hi st).2 = (chkS lo hi (advS b len st)).1.2.2.2 := if_pos hz.2
      refine v_aload_n C dX3_readNumber_48 rfl ?_
      refine v_getiQ (x := nI (chkS lo hi (advS b len st)).1.2.2.2) C fl_X3_136 oi_rS_0_9 (hK.2.2.2.2.1.2.2.2 (chk_k2 hz.2).1) dX3_readNumber_49 ?_
      refine v_goto C 56 dX3_readNumber_52 (by decide) ?_
      refine v_iret C F (by first | rfl | exact bI_nar _) dX3_readNumber_56 (Nat.le_of_ble_eq_true rfl) (Nat.le_of_ble_eq_true rfl) ?_
      exact ⟨by rw [hS2], rfl, hK, hF⟩
set_option maxHeartbeats 4000000 in
theorem c_X3_readNamed {l : Launch} (hl : l.stackTraces = false) {κ : Kp} {h : Nat → Nat} {r : G} {y : Eg} {lo hi i : Nat} {q : SQ} {len : Nat} {b : Nat → Int32} {st : St} (hq : SS[i]? = some q) (hR : RA b len st r) (hlo : lo ≤ 1000) (hhi : hi ≤ 1000) : Ct SS MM l κ yX3_readNamed cX3_readNamed 4 (some FieldType.int) 5 0 0 [.ref (h 0), .ref (κ.2.2.1 i), .int (nI lo), .int (nI hi)] (rS κ h) (r, y) ri (fun v u => v = nI (namS b len q.2.2.2 lo hi st).2 ∧ u.2 = y ∧ RS b len (namS b len q.2.2.2 lo hi st).1 u.1 ∧ FB r u.1) (fun _ _ => False) := by
  refine Ct.of (own := RX3) (by decide) rfl hl (by intro v hv; simp only [List.mem_cons, List.not_mem_nil, or_false] at hv; first | (rcases hv with rfl | rfl | rfl | rfl | rfl | rfl <;> rfl) | (rcases hv with rfl | rfl | rfl | rfl | rfl <;> rfl) | (rcases hv with rfl | rfl | rfl | rfl <;> rfl) | (rcases hv with rfl | rfl | rfl <;> rfl) | (rcases hv with rfl | rfl <;> rfl) | (subst hv; rfl) | exact hv.elim) (Nat.le_of_ble_eq_true rfl) (fun X hxl hxk C F N => ?_)
  subst hxl hxk
  show V X (rS (xK X) h) 0 [some (.ref (h 0)), some (.ref ((xK X).2.2.1 i)), some (.int (nI lo)), some (.int (nI hi))] [] (r, y) 0 0
  refine v_aload_n C dX3_readNamed_0 rfl ?_
  refine v_callVv C (c_X3_advance hl hR) ym_X3_advance ml_X3_49 emb_id_rS rfl rfl rfl rfl rfl dX3_readNamed_1 (Nat.le_of_ble_eq_true rfl) (Nat.le_of_ble_eq_true rfl) (Nat.le_of_ble_eq_true rfl) (Nat.le_of_ble_eq_true rfl) (fun _ _ hu => hu.elim) (fun r u hu => ?_)
  rcases u with ⟨r1, y1⟩
  obtain ⟨hy, hR1, hF1⟩ := hu
  have hy : y = y1 := hy.symm
  subst hy
  refine v_aload_n C dX3_readNamed_4 rfl ?_
  refine v_aload_n C dX3_readNamed_5 rfl ?_
  refine v_callVi C (c_X3_isWord hl hq hR1) ym_X3_isWord ml_X3_54 emb_id_rS rfl rfl rfl rfl rfl dX3_readNamed_6 (Nat.le_of_ble_eq_true rfl) (Nat.le_of_ble_eq_true rfl) (Nat.le_of_ble_eq_true rfl) (Nat.le_of_ble_eq_true rfl) (fun _ _ hu => hu.elim) (fun r u hu => ?_)
  obtain ⟨rfl, hu⟩ := hu
  subst u
  refine v_if_neB C 17 dX3_readNamed_9 (by decide) (fun c9 => ?_) (fun c9 => ?_)
  · have hW : RS b len (wrdS b len q.2.2.2 st) r1 := by
      rw [show (wrdS b len q.2.2.2 st) = (advS b len st) from if_pos c9]
      exact hR1
    have hF := hF1
    refine v_aload_n C dX3_readNamed_17 rfl ?_
    refine v_iload_n C dX3_readNamed_18 rfl ?_
    refine v_iload_n C dX3_readNamed_19 rfl ?_
    refine v_callVi C (c_X3_readNumber hl (st := (wrdS b len q.2.2.2 st)) hW.ra hlo hhi) ym_X3_readNumber ml_X3_133 emb_id_rS rfl rfl rfl rfl rfl dX3_readNamed_20 (Nat.le_of_ble_eq_true rfl) (Nat.le_of_ble_eq_true rfl) (Nat.le_of_ble_eq_true rfl) (Nat.le_of_ble_eq_true rfl) (fun _ _ hu => hu.elim) (fun r u hu => ?_)
    rcases u with ⟨r3, y3⟩
    obtain ⟨rfl, hy, hR3, hF3⟩ := hu
    have hy : y = y3 := hy.symm
    subst hy
    refine v_iret C F (by first | rfl | exact bI_nar _) dX3_readNamed_23 (Nat.le_of_ble_eq_true rfl) (Nat.le_of_ble_eq_true rfl) ?_
    exact ⟨rfl, rfl, hR3, hF.tr hF3⟩
  · refine v_aload_n C dX3_readNamed_12 rfl ?_
    refine v_iconst (v := nI 1) C dX3_readNamed_13 (by decide) ?_
    refine v_callVv C (c_X3_fail hl (cd := 1) hR1 (by omega) (by omega)) ym_X3_fail ml_X3_46 emb_id_rS rfl rfl rfl rfl rfl dX3_readNamed_14 (Nat.le_of_ble_eq_true rfl) (Nat.le_of_ble_eq_true rfl) (Nat.le_of_ble_eq_true rfl) (Nat.le_of_ble_eq_true rfl) (fun _ _ hu => hu.elim) (fun r u hu => ?_)
    rcases u with ⟨r2, y2⟩
    obtain ⟨hy, hR2, hF2⟩ := hu
    have hy : y = y2 := hy.symm
    subst hy
    have hW : RS b len (wrdS b len q.2.2.2 st) r2 := by
      rw [show (wrdS b len q.2.2.2 st) = failS 1 (advS b len st) from if_neg (by rw [c9]; exact Bool.false_ne_true)]
      exact hR2
    have hF := hF1.tr hF2
    refine v_aload_n C dX3_readNamed_17 rfl ?_
    refine v_iload_n C dX3_readNamed_18 rfl ?_
    refine v_iload_n C dX3_readNamed_19 rfl ?_
    refine v_callVi C (c_X3_readNumber hl (st := (wrdS b len q.2.2.2 st)) hW.ra hlo hhi) ym_X3_readNumber ml_X3_133 emb_id_rS rfl rfl rfl rfl rfl dX3_readNamed_20 (Nat.le_of_ble_eq_true rfl) (Nat.le_of_ble_eq_true rfl) (Nat.le_of_ble_eq_true rfl) (Nat.le_of_ble_eq_true rfl) (fun _ _ hu => hu.elim) (fun r u hu => ?_)
    rcases u with ⟨r3, y3⟩
    obtain ⟨rfl, hy, hR3, hF3⟩ := hu
    have hy : y = y3 := hy.symm
    subst hy
    refine v_iret C F (by first | rfl | exact bI_nar _) dX3_readNamed_23 (Nat.le_of_ble_eq_true rfl) (Nat.le_of_ble_eq_true rfl) ?_
    exact ⟨rfl, rfl, hR3, hF.tr hF3⟩
set_option maxHeartbeats 4000000 in
theorem c_X3_readPlace {l : Launch} (hl : l.stackTraces = false) {κ : Kp} {h : Nat → Nat} {r s : G} {m : Mg} {n : Nat} {lo : Nat} {len : Nat} {b : Nat → Int32} {st : St} (hR : RA b len st r) (hlo : lo ≤ 1000) (hn : m 0 7 = nI n) (hn1 : 1 ≤ n) (h96 : n ≤ 96) : Ct SS MM l κ yX3_readPlace cX3_readPlace 2 (some FieldType.int) 3 0 0 [.ref (h 0), .int (nI lo)] (rS κ h) (r, s, m) ri (fun v u => v = nI (numS b len lo (n - 1) st).2 ∧ u.2 = (s, m) ∧ RS b len (numS b len lo (n - 1) st).1 u.1 ∧ FB r u.1) (fun _ _ => False) := by
  refine Ct.of (own := RX3) (by decide) rfl hl (by intro v hv; simp only [List.mem_cons, List.not_mem_nil, or_false] at hv; first | (rcases hv with rfl | rfl | rfl | rfl | rfl | rfl <;> rfl) | (rcases hv with rfl | rfl | rfl | rfl | rfl <;> rfl) | (rcases hv with rfl | rfl | rfl | rfl <;> rfl) | (rcases hv with rfl | rfl | rfl <;> rfl) | (rcases hv with rfl | rfl <;> rfl) | (subst hv; rfl) | exact hv.elim) (Nat.le_of_ble_eq_true rfl) (fun X hxl hxk C F N => ?_)
  subst hxl hxk
  show V X (rS (xK X) h) 0 [some (.ref (h 0)), some (.int (nI lo))] [] (r, s, m) 0 0
  refine v_aload_n C dX3_readPlace_0 rfl ?_
  refine v_iload_n C dX3_readPlace_1 rfl ?_
  refine v_aload_n C dX3_readPlace_2 rfl ?_
  refine v_getr C fl_X3_12 or_rS_0_0 dX3_readPlace_3 ?_
  refine v_getr C fl_X3_107 or_rS_1_0 dX3_readPlace_6 ?_
  refine v_getiQ (x := nI n) C fl_X3_121 oi_rS_5_7 (hn) dX3_readPlace_9 ?_
  refine v_iconst (v := nI 1) C dX3_readPlace_12 (by decide) ?_
  first | refine v_isubN C dX3_readPlace_13 (by omega) ?_ | refine v_isub C dX3_readPlace_13 ?_
  refine v_callVi C (c_X3_readNumber hl (st := st) hR hlo (by omega)) ym_X3_readNumber ml_X3_133 emb_id_rS rfl rfl rfl rfl rfl dX3_readPlace_14 (Nat.le_of_ble_eq_true rfl) (Nat.le_of_ble_eq_true rfl) (Nat.le_of_ble_eq_true rfl) (Nat.le_of_ble_eq_true rfl) (fun _ _ hu => hu.elim) (fun r u hu => ?_)
  obtain ⟨rfl, hy, hR3, hF3⟩ := hu
  refine v_iret C F (by first | rfl | exact bI_nar _) dX3_readPlace_17 (Nat.le_of_ble_eq_true rfl) (Nat.le_of_ble_eq_true rfl) ?_
  exact ⟨rfl, hy, hR3, hF3⟩
set_option maxHeartbeats 4000000 in
theorem c_X3_startText {l : Launch} (hl : l.stackTraces = false) {κ : Kp} {h : Nat → Nat} {r s : G} {m : Mg} {k f : Nat} (hf : r 0 2 = nI f) (hf7 : f ≤ 700) (hk : k ≤ f) : Ct SS MM l κ yX3_startText cX3_startText 2 none 2 0 0 [.ref (h 0), .int (nI k)] (rS κ h) (r, s, m) rv (fun _ u => RA (r 13) k st0 u.1 ∧ KC (0, 0, 0, 0) u.1 ∧ u.1 0 2 = nI 0 ∧ ∃ s2, u.2 = (s2, clrM (m 7))) (fun _ _ => False) := by
  refine Ct.of (own := RX3) (by decide) rfl hl (by intro v hv; simp only [List.mem_cons, List.not_mem_nil, or_false] at hv; first | (rcases hv with rfl | rfl | rfl | rfl | rfl | rfl <;> rfl) | (rcases hv with rfl | rfl | rfl | rfl | rfl <;> rfl) | (rcases hv with rfl | rfl | rfl | rfl <;> rfl) | (rcases hv with rfl | rfl | rfl <;> rfl) | (rcases hv with rfl | rfl <;> rfl) | (subst hv; rfl) | exact hv.elim) (Nat.le_of_ble_eq_true rfl) (fun X hxl hxk C F N => ?_)
  subst hxl hxk
  show V X (rS (xK X) h) 0 [some (.ref (h 0)), some (.int (nI k))] [] (r, s, m) 0 0
  refine v_aload_n C dX3_startText_0 rfl ?_
  refine v_iload_n C dX3_startText_1 rfl ?_
  refine v_aload_n C dX3_startText_2 rfl ?_
  refine v_getiQ (x := nI f) C fl_X3_26 oi_rS_0_2 (hf) dX3_startText_3 ?_
  refine v_mmin (z := nI k) C ml_X3_83 w_minS w_mI w_minC rfl (Nat.le_of_ble_eq_true rfl) dX3_startText_6 (Nat.le_of_ble_eq_true rfl) (Nat.le_of_ble_eq_true rfl) ?_ ?_
  · rw [nI_min (by omega) (by omega)]; exact congrArg nI (by omega)
  refine v_puti C fl_X3_89 fw_X3_5 oi_rS_0_5 ⟨rfl, rfl⟩ dX3_startText_9 ?_
  refine v_aload_n C dX3_startText_12 rfl ?_
  refine v_iconst (v := nI 0) C dX3_startText_13 (by decide) ?_
  refine v_puti C fl_X3_26 fw_X3_2 oi_rS_0_2 ⟨rfl, rfl⟩ dX3_startText_14 ?_
  refine v_aload_n C dX3_startText_17 rfl ?_
  refine v_iconst (v := nI 0) C dX3_startText_18 (by decide) ?_
  refine v_puti C fl_X3_40 fw_X3_3 oi_rS_0_3 ⟨rfl, rfl⟩ dX3_startText_19 ?_
  refine v_aload_n C dX3_startText_22 rfl ?_
  refine v_iconst (v := (-1)) C dX3_startText_23 (by decide) ?_
  refine v_puti C fl_X3_22 fw_X3_4 oi_rS_0_4 ⟨rfl, rfl⟩ dX3_startText_24 ?_
  refine v_aload_n C dX3_startText_27 rfl ?_
  refine v_iconst (v := nI 0) C dX3_startText_28 (by decide) ?_
  refine v_puti C fl_X3_92 fw_X3_8 oi_rS_0_8 ⟨rfl, rfl⟩ dX3_startText_29 ?_
  refine v_aload_n C dX3_startText_32 rfl ?_
  refine v_iconst (v := nI 0) C dX3_startText_33 (by decide) ?_
  refine v_puti C fl_X3_95 fw_X3_10 oi_rS_0_10 ⟨rfl, rfl⟩ dX3_startText_34 ?_
  refine v_aload_n C dX3_startText_37 rfl ?_
  refine v_iconst (v := nI 0) C dX3_startText_38 (by decide) ?_
  refine v_puti C fl_X3_98 fw_X3_11 oi_rS_0_11 ⟨rfl, rfl⟩ dX3_startText_39 ?_
  refine v_aload_n C dX3_startText_42 rfl ?_
  refine v_iconst (v := nI 0) C dX3_startText_43 (by decide) ?_
  refine v_puti C fl_X3_101 fw_X3_12 oi_rS_0_12 ⟨rfl, rfl⟩ dX3_startText_44 ?_
  refine v_aload_n C dX3_startText_47 rfl ?_
  refine v_iconst (v := nI 0) C dX3_startText_48 (by decide) ?_
  refine v_puti C fl_X3_104 fw_X3_13 oi_rS_0_13 ⟨rfl, rfl⟩ dX3_startText_49 ?_
  refine v_aload_n C dX3_startText_52 rfl ?_
  refine v_getr C fl_X3_12 or_rS_0_0 dX3_startText_53 ?_
  refine v_getr C fl_X3_107 or_rS_1_0 dX3_startText_56 ?_
  refine v_callVv C (c_X2_clear hl) ym_X2_clear ml_X3_111 emb_r_m rfl rfl rfl rfl rfl dX3_startText_59 (Nat.le_of_ble_eq_true rfl) (Nat.le_of_ble_eq_true rfl) (Nat.le_of_ble_eq_true rfl) (Nat.le_of_ble_eq_true rfl) (fun _ _ hu => hu.elim) (fun r u hu => ?_)
  subst u
  refine v_vret C F dX3_startText_62 (Nat.le_of_ble_eq_true rfl) (Nat.le_of_ble_eq_true rfl) ?_
  exact ⟨⟨rfl, rfl, by omega, ⟨by decide, by decide, rfl, rfl⟩, ⟨rfl, Nat.zero_le _⟩, fun z => absurd rfl z⟩, ⟨rfl, rfl, rfl, rfl⟩, rfl, _, rfl⟩
set_option maxHeartbeats 4000000 in
theorem c_X3_putByte {l : Launch} (hl : l.stackTraces = false) {κ : Kp} {h : Nat → Nat} {r s : G} {m : Mg} {n : Nat} {p v : Nat} {len : Nat} {b : Nat → Int32} {st : St} (hR : RS b len st r) (hp : p ≤ 2000) (hn : m 0 7 = nI n) (hn1 : 1 ≤ n) (h96 : n ≤ 96) : Ct SS MM l κ yX3_putByte cX3_putByte 3 none 1 0 0 [.ref (h 0), .int (nI p), .int (nI v)] (rS κ h) (r, s, m) rv (fun _ u => u.2 = (s, (putS n p v st m).2) ∧ RS b len (putS n p v st m).1 u.1 ∧ FB r u.1) (fun _ _ => False) := by
  refine Ct.of (own := RX3) (by decide) rfl hl (by intro v hv; simp only [List.mem_cons, List.not_mem_nil, or_false] at hv; first | (rcases hv with rfl | rfl | rfl | rfl | rfl | rfl <;> rfl) | (rcases hv with rfl | rfl | rfl | rfl | rfl <;> rfl) | (rcases hv with rfl | rfl | rfl | rfl <;> rfl) | (rcases hv with rfl | rfl | rfl <;> rfl) | (rcases hv with rfl | rfl <;> rfl) | (subst hv; rfl) | exact hv.elim) (Nat.le_of_ble_eq_true rfl) (fun X hxl hxk C F N => ?_)
  subst hxl hxk
  show V X (rS (xK X) h) 0 [some (.ref (h 0)), some (.int (nI p)), some (.int (nI v))] [] (r, s, m) 0 0
  refine v_aload_n C dX3_putByte_0 rfl ?_
  refine v_getr C fl_X3_12 or_rS_0_0 dX3_putByte_1 ?_
  refine v_getr C fl_X3_107 or_rS_1_0 dX3_putByte_4 ?_
  refine v_iload_n C dX3_putByte_7 rfl ?_
  refine v_callVi C (c_X2_isPlace hl) ym_X2_isPlace ml_X3_147 emb_r_m rfl rfl rfl rfl rfl dX3_putByte_8 (Nat.le_of_ble_eq_true rfl) (Nat.le_of_ble_eq_true rfl) (Nat.le_of_ble_eq_true rfl) (Nat.le_of_ble_eq_true rfl) (fun _ _ hu => hu.elim) (fun r u hu => ?_)
  obtain ⟨rfl, hu⟩ := hu
  subst u
  refine V.eq (Wd2 := rS (xK X) h) (st2 := .int (bI (decide (p < n))) :: []) ?_ (by rw [isP_n hn h96 (by omega)]) rfl
  refine V.stt (g2 := (r, s, m)) rfl ?_
  refine v_if_neB C 19 dX3_putByte_11 (by decide) (fun c11 => ?_) (fun c11 => ?_)
  · have hW : RS b len (whenS (!decide (p < n)) 2 st) r := by
      rw [whenS_f (by rw [c11]; rfl)]
      exact hR
    have hF := FB.rf (r := r)
    refine v_aload_n C dX3_putByte_19 rfl ?_
    refine v_getiQ (x := nI (whenS (!decide (p < n)) 2 st).2.1) C fl_X3_40 oi_rS_0_3 (hW.2.2.2.1.2.2.1) dX3_putByte_20 ?_
    refine v_if_ne C 39 dX3_putByte_23 (by decide) (fun c23 => ?_) (fun c23 => ?_)
    · have hz := ok_n c23
      have hM : (putS n p v st m).2 = m := if_neg (by rw [hz.1]; exact Bool.false_ne_true)
      refine v_vret C F dX3_putByte_39 (Nat.le_of_ble_eq_true rfl) (Nat.le_of_ble_eq_true rfl) ?_
      exact ⟨congrArg (Prod.mk s) hM.symm, hW, hF⟩
    · have hz := ok_z hW.2.2.2.1.1 c23
      have hM : (putS n p v st m).2 = byteM m p (nI v) := if_pos hz.1
      have hpn : p < n := by
        have := (whenS_ok (by decide) hz.1).1
        simpa using this
      refine v_aload_n C dX3_putByte_26 rfl ?_
      refine v_getr C fl_X3_12 or_rS_0_0 dX3_putByte_27 ?_
      refine v_getr C fl_X3_107 or_rS_1_0 dX3_putByte_30 ?_
      refine v_getr C fl_X3_150 or_rS_5_0 dX3_putByte_33 ?_
      refine v_iload_n C dX3_putByte_36 rfl ?_
      refine v_iload_n C dX3_putByte_37 rfl ?_
      refine v_iast C ar_rS_6 (by decide) _ ?_ rfl dX3_putByte_38 ?_
      · omega
      refine v_vret C F dX3_putByte_39 (Nat.le_of_ble_eq_true rfl) (Nat.le_of_ble_eq_true rfl) ?_
      exact ⟨congrArg (Prod.mk s) hM.symm, hW, hF⟩
  · refine v_aload_n C dX3_putByte_14 rfl ?_
    refine v_iconst (v := nI 2) C dX3_putByte_15 (by decide) ?_
    refine v_callVv C (c_X3_fail hl (cd := 2) hR (by omega) (by omega)) ym_X3_fail ml_X3_46 emb_id_rS rfl rfl rfl rfl rfl dX3_putByte_16 (Nat.le_of_ble_eq_true rfl) (Nat.le_of_ble_eq_true rfl) (Nat.le_of_ble_eq_true rfl) (Nat.le_of_ble_eq_true rfl) (fun _ _ hu => hu.elim) (fun r u hu => ?_)
    rcases u with ⟨r2, s2, m2⟩
    obtain ⟨hy, hR2, hF2⟩ := hu
    obtain ⟨he1, he2⟩ := Prod.mk.inj (show (s, m) = (s2, m2) from hy.symm)
    subst he1 he2
    have hW : RS b len (whenS (!decide (p < n)) 2 st) r2 := by
      rw [whenS_t (by rw [c11]; rfl)]
      exact hR2
    have hF := hF2
    refine v_aload_n C dX3_putByte_19 rfl ?_
    refine v_getiQ (x := nI (whenS (!decide (p < n)) 2 st).2.1) C fl_X3_40 oi_rS_0_3 (hW.2.2.2.1.2.2.1) dX3_putByte_20 ?_
    refine v_if_ne C 39 dX3_putByte_23 (by decide) (fun c23 => ?_) (fun c23 => ?_)
    · have hz := ok_n c23
      have hM : (putS n p v st m).2 = m := if_neg (by rw [hz.1]; exact Bool.false_ne_true)
      refine v_vret C F dX3_putByte_39 (Nat.le_of_ble_eq_true rfl) (Nat.le_of_ble_eq_true rfl) ?_
      exact ⟨congrArg (Prod.mk s) hM.symm, hW, hF⟩
    · have hz := ok_z hW.2.2.2.1.1 c23
      have hM : (putS n p v st m).2 = byteM m p (nI v) := if_pos hz.1
      have hpn : p < n := by
        have := (whenS_ok (by decide) hz.1).1
        simpa using this
      refine v_aload_n C dX3_putByte_26 rfl ?_
      refine v_getr C fl_X3_12 or_rS_0_0 dX3_putByte_27 ?_
      refine v_getr C fl_X3_107 or_rS_1_0 dX3_putByte_30 ?_
      refine v_getr C fl_X3_150 or_rS_5_0 dX3_putByte_33 ?_
      refine v_iload_n C dX3_putByte_36 rfl ?_
      refine v_iload_n C dX3_putByte_37 rfl ?_
      refine v_iast C ar_rS_6 (by decide) _ ?_ rfl dX3_putByte_38 ?_
      · omega
      refine v_vret C F dX3_putByte_39 (Nat.le_of_ble_eq_true rfl) (Nat.le_of_ble_eq_true rfl) ?_
      exact ⟨congrArg (Prod.mk s) hM.symm, hW, hF⟩
