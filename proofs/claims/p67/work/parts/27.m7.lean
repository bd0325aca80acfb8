set_option maxHeartbeats 4000000 in
theorem c_X3_hasRoom {l : Launch} (hl : l.stackTraces = false) {κ : Kp} {h : Nat → Nat} {g : Rg} {f k : Nat} (hf : g.1 0 2 = nI f) (h7 : f ≤ 700) (hk : k ≤ 700) : Ct SS MM l κ yX3_hasRoom cX3_hasRoom 2 (some FieldType.boolean) 0 0 0 [.ref (h 0), .int (nI k)] (rS κ h) g ri (fun r u => r = bI (decide (f + k ≤ 700)) ∧ u = g) (fun _ _ => False) := by
  refine Ct.of (own := RX3) (by decide) rfl hl (by intro v hv; simp only [List.mem_cons, List.not_mem_nil, or_false] at hv; first | (rcases hv with rfl | rfl | rfl | rfl | rfl | rfl <;> rfl) | (rcases hv with rfl | rfl | rfl | rfl | rfl <;> rfl) | (rcases hv with rfl | rfl | rfl | rfl <;> rfl) | (rcases hv with rfl | rfl | rfl <;> rfl) | (rcases hv with rfl | rfl <;> rfl) | (subst hv; rfl) | exact hv.elim) (Nat.le_of_ble_eq_true rfl) (fun X hxl hxk C F N => ?_)
  subst hxl hxk
  show V X (rS (xK X) h) 0 [some (.ref (h 0)), some (.int (nI k))] [] g 0 0
  refine v_aload_n C dX3_hasRoom_0 rfl ?_
  refine v_getiQ (x := nI f) C fl_X3_26 oi_rS_0_2 (hf) dX3_hasRoom_1 ?_
  refine v_iload_n C dX3_hasRoom_4 rfl ?_
  first | refine v_iaddN C dX3_hasRoom_5 ?_ | refine v_iadd C dX3_hasRoom_5 ?_
  refine v_sipush (v := nI 700) C dX3_hasRoom_6 (by decide) ?_
  first | refine v_icmp_gtN C 16 dX3_hasRoom_9 (by decide) (by omega) (by omega) (fun c9 => ?_) (fun c9 => ?_) | refine v_icmp_gt C 16 dX3_hasRoom_9 (by decide) (fun c9 => ?_) (fun c9 => ?_)
  · refine v_iconst (v := nI 0) C dX3_hasRoom_16 (by decide) ?_
    refine v_iret C F (by first | rfl | exact bI_nar _) dX3_hasRoom_17 (Nat.le_of_ble_eq_true rfl) (Nat.le_of_ble_eq_true rfl) ?_
    exact ⟨by first | exact bI_t (by simp; omega) | exact bI_f (by simp; omega), rfl⟩
  · refine v_iconst (v := nI 1) C dX3_hasRoom_12 (by decide) ?_
    refine v_goto C 17 dX3_hasRoom_13 (by decide) ?_
    refine v_iret C F (by first | rfl | exact bI_nar _) dX3_hasRoom_17 (Nat.le_of_ble_eq_true rfl) (Nat.le_of_ble_eq_true rfl) ?_
    exact ⟨by first | exact bI_t (by simp; omega) | exact bI_f (by simp; omega), rfl⟩
set_option maxHeartbeats 4000000 in
theorem c_X3_isLetter {l : Launch} (hl : l.stackTraces = false) {κ : Kp} {h : Nat → Nat} {g : Rg} {len i : Nat} (h5 : g.1 0 5 = nI len) (h7 : len ≤ 700) (hi : i < 2 ^ 31) : Ct SS MM l κ yX3_isLetter cX3_isLetter 2 (some FieldType.boolean) 0 0 0 [.ref (h 0), .int (nI i)] (rS κ h) g ri (fun r u => r = bI (ltr (g.1 13) len i) ∧ u = g) (fun _ _ => False) := by
  refine Ct.of (own := RX3) (by decide) rfl hl (by intro v hv; simp only [List.mem_cons, List.not_mem_nil, or_false] at hv; first | (rcases hv with rfl | rfl | rfl | rfl | rfl | rfl <;> rfl) | (rcases hv with rfl | rfl | rfl | rfl | rfl <;> rfl) | (rcases hv with rfl | rfl | rfl | rfl <;> rfl) | (rcases hv with rfl | rfl | rfl <;> rfl) | (rcases hv with rfl | rfl <;> rfl) | (subst hv; rfl) | exact hv.elim) (Nat.le_of_ble_eq_true rfl) (fun X hxl hxk C F N => ?_)
  subst hxl hxk
  show V X (rS (xK X) h) 0 [some (.ref (h 0)), some (.int (nI i))] [] g 0 0
  have e1 : (nI 97).toInt = 97 := by decide
  have e2 : (nI 122).toInt = 122 := by decide
  refine v_iload_n C dX3_isLetter_0 rfl ?_
  refine v_aload_n C dX3_isLetter_1 rfl ?_
  refine v_getiQ (x := nI len) C fl_X3_89 oi_rS_0_5 (h5) dX3_isLetter_2 ?_
  first | refine v_icmp_geN C 34 dX3_isLetter_5 (by decide) (by omega) (by omega) (fun c5 => ?_) (fun c5 => ?_) | refine v_icmp_ge C 34 dX3_isLetter_5 (by decide) (fun c5 => ?_) (fun c5 => ?_)
  · refine v_iconst (v := nI 0) C dX3_isLetter_34 (by decide) ?_
    refine v_iret C F (by first | rfl | exact bI_nar _) dX3_isLetter_35 (Nat.le_of_ble_eq_true rfl) (Nat.le_of_ble_eq_true rfl) ?_
    exact ⟨by first | exact bI_t (by simp [ltr]; omega) | exact bI_f (by simp [ltr]; omega), rfl⟩
  · refine v_aload_n C dX3_isLetter_8 rfl ?_
    refine v_getr C fl_X3_18 or_rS_0_1 dX3_isLetter_9 ?_
    refine v_iload_n C dX3_isLetter_12 rfl ?_
    refine v_iald C ar_rS_13 (by decide) _ ?_ rfl dX3_isLetter_13 ?_
    · omega
    refine v_bipush (v := nI 97) C dX3_isLetter_14 (by decide) ?_
    refine v_icmp_lt C 34 dX3_isLetter_16 (by decide) (fun c16 => ?_) (fun c16 => ?_)
    · rw [e1] at c16
      refine v_iconst (v := nI 0) C dX3_isLetter_34 (by decide) ?_
      refine v_iret C F (by first | rfl | exact bI_nar _) dX3_isLetter_35 (Nat.le_of_ble_eq_true rfl) (Nat.le_of_ble_eq_true rfl) ?_
      exact ⟨by first | exact bI_t (by simp [ltr]; omega) | exact bI_f (by simp [ltr]; omega), rfl⟩
    · rw [e1] at c16
      refine v_aload_n C dX3_isLetter_19 rfl ?_
      refine v_getr C fl_X3_18 or_rS_0_1 dX3_isLetter_20 ?_
      refine v_iload_n C dX3_isLetter_23 rfl ?_
      refine v_iald C ar_rS_13 (by decide) _ ?_ rfl dX3_isLetter_24 ?_
      · omega
      refine v_bipush (v := nI 122) C dX3_isLetter_25 (by decide) ?_
      refine v_icmp_gt C 34 dX3_isLetter_27 (by decide) (fun c27 => ?_) (fun c27 => ?_)
      · rw [e2] at c27
        refine v_iconst (v := nI 0) C dX3_isLetter_34 (by decide) ?_
        refine v_iret C F (by first | rfl | exact bI_nar _) dX3_isLetter_35 (Nat.le_of_ble_eq_true rfl) (Nat.le_of_ble_eq_true rfl) ?_
        exact ⟨by first | exact bI_t (by simp [ltr]; omega) | exact bI_f (by simp [ltr]; omega), rfl⟩
      · rw [e2] at c27
        refine v_iconst (v := nI 1) C dX3_isLetter_30 (by decide) ?_
        refine v_goto C 35 dX3_isLetter_31 (by decide) ?_
        refine v_iret C F (by first | rfl | exact bI_nar _) dX3_isLetter_35 (Nat.le_of_ble_eq_true rfl) (Nat.le_of_ble_eq_true rfl) ?_
        exact ⟨by first | exact bI_t (by simp [ltr]; omega) | exact bI_f (by simp [ltr]; omega), rfl⟩
set_option maxHeartbeats 4000000 in
theorem c_X3_isDigit {l : Launch} (hl : l.stackTraces = false) {κ : Kp} {h : Nat → Nat} {g : Rg} {len i : Nat} (h5 : g.1 0 5 = nI len) (h7 : len ≤ 700) (hi : i < 2 ^ 31) : Ct SS MM l κ yX3_isDigit cX3_isDigit 2 (some FieldType.boolean) 0 0 0 [.ref (h 0), .int (nI i)] (rS κ h) g ri (fun r u => r = bI (dgt (g.1 13) len i) ∧ u = g) (fun _ _ => False) := by
  refine Ct.of (own := RX3) (by decide) rfl hl (by intro v hv; simp only [List.mem_cons, List.not_mem_nil, or_false] at hv; first | (rcases hv with rfl | rfl | rfl | rfl | rfl | rfl <;> rfl) | (rcases hv with rfl | rfl | rfl | rfl | rfl <;> rfl) | (rcases hv with rfl | rfl | rfl | rfl <;> rfl) | (rcases hv with rfl | rfl | rfl <;> rfl) | (rcases hv with rfl | rfl <;> rfl) | (subst hv; rfl) | exact hv.elim) (Nat.le_of_ble_eq_true rfl) (fun X hxl hxk C F N => ?_)
  subst hxl hxk
  show V X (rS (xK X) h) 0 [some (.ref (h 0)), some (.int (nI i))] [] g 0 0
  have e1 : (nI 48).toInt = 48 := by decide
  have e2 : (nI 57).toInt = 57 := by decide
  refine v_iload_n C dX3_isDigit_0 rfl ?_
  refine v_aload_n C dX3_isDigit_1 rfl ?_
  refine v_getiQ (x := nI len) C fl_X3_89 oi_rS_0_5 (h5) dX3_isDigit_2 ?_
  first | refine v_icmp_geN C 34 dX3_isDigit_5 (by decide) (by omega) (by omega) (fun c5 => ?_) (fun c5 => ?_) | refine v_icmp_ge C 34 dX3_isDigit_5 (by decide) (fun c5 => ?_) (fun c5 => ?_)
  · refine v_iconst (v := nI 0) C dX3_isDigit_34 (by decide) ?_
    refine v_iret C F (by first | rfl | exact bI_nar _) dX3_isDigit_35 (Nat.le_of_ble_eq_true rfl) (Nat.le_of_ble_eq_true rfl) ?_
    exact ⟨by first | exact bI_t (by simp [dgt]; omega) | exact bI_f (by simp [dgt]; omega), rfl⟩
  · refine v_aload_n C dX3_isDigit_8 rfl ?_
    refine v_getr C fl_X3_18 or_rS_0_1 dX3_isDigit_9 ?_
    refine v_iload_n C dX3_isDigit_12 rfl ?_
    refine v_iald C ar_rS_13 (by decide) _ ?_ rfl dX3_isDigit_13 ?_
    · omega
    refine v_bipush (v := nI 48) C dX3_isDigit_14 (by decide) ?_
    refine v_icmp_lt C 34 dX3_isDigit_16 (by decide) (fun c16 => ?_) (fun c16 => ?_)
    · rw [e1] at c16
      refine v_iconst (v := nI 0) C dX3_isDigit_34 (by decide) ?_
      refine v_iret C F (by first | rfl | exact bI_nar _) dX3_isDigit_35 (Nat.le_of_ble_eq_true rfl) (Nat.le_of_ble_eq_true rfl) ?_
      exact ⟨by first | exact bI_t (by simp [dgt]; omega) | exact bI_f (by simp [dgt]; omega), rfl⟩
    · rw [e1] at c16
      refine v_aload_n C dX3_isDigit_19 rfl ?_
      refine v_getr C fl_X3_18 or_rS_0_1 dX3_isDigit_20 ?_
      refine v_iload_n C dX3_isDigit_23 rfl ?_
      refine v_iald C ar_rS_13 (by decide) _ ?_ rfl dX3_isDigit_24 ?_
      · omega
      refine v_bipush (v := nI 57) C dX3_isDigit_25 (by decide) ?_
      refine v_icmp_gt C 34 dX3_isDigit_27 (by decide) (fun c27 => ?_) (fun c27 => ?_)
      · rw [e2] at c27
        refine v_iconst (v := nI 0) C dX3_isDigit_34 (by decide) ?_
        refine v_iret C F (by first | rfl | exact bI_nar _) dX3_isDigit_35 (Nat.le_of_ble_eq_true rfl) (Nat.le_of_ble_eq_true rfl) ?_
        exact ⟨by first | exact bI_t (by simp [dgt]; omega) | exact bI_f (by simp [dgt]; omega), rfl⟩
      · rw [e2] at c27
        refine v_iconst (v := nI 1) C dX3_isDigit_30 (by decide) ?_
        refine v_goto C 35 dX3_isDigit_31 (by decide) ?_
        refine v_iret C F (by first | rfl | exact bI_nar _) dX3_isDigit_35 (Nat.le_of_ble_eq_true rfl) (Nat.le_of_ble_eq_true rfl) ?_
        exact ⟨by first | exact bI_t (by simp [dgt]; omega) | exact bI_f (by simp [dgt]; omega), rfl⟩
set_option maxHeartbeats 4000000 in
theorem c_X3_advance_ok {l : Launch} (hl : l.stackTraces = false) {κ : Kp} {h : Nat → Nat} {r : G} {y : Eg} {len : Nat} {b : Nat → Int32} {st : St} (hR : RA b len st r) (h0 : st.2.1 = 0) : Ct SS MM l κ yX3_advance cX3_advance 1 none 1 0 0 [.ref (h 0)] (rS κ h) (r, y) rv (fun _ u => u.2 = y ∧ RS b len (advS b len st) u.1 ∧ FB r u.1) (fun _ _ => False) := by
  refine Ct.of (own := RX3) (by decide) rfl hl (by intro v hv; simp only [List.mem_cons, List.not_mem_nil, or_false] at hv; first | (rcases hv with rfl | rfl | rfl | rfl | rfl | rfl <;> rfl) | (rcases hv with rfl | rfl | rfl | rfl | rfl <;> rfl) | (rcases hv with rfl | rfl | rfl | rfl <;> rfl) | (rcases hv with rfl | rfl | rfl <;> rfl) | (rcases hv with rfl | rfl <;> rfl) | (subst hv; rfl) | exact hv.elim) (Nat.le_of_ble_eq_true rfl) (fun X hxl hxk C F N => ?_)
  subst hxl hxk
  show V X (rS (xK X) h) 0 [some (.ref (h 0))] [] (r, y) 0 0
  obtain ⟨hb, h5, h7, hE, ⟨h8, he⟩, -⟩ := id hR
  subst hb
  have hc : r 0 3 = nI 0 := by rw [hE.2.2.1, h0]
  generalize he0 : st.1.2.2.1 = e0 at h8 he ⊢
  refine v_aload_n C dX3_advance_0 rfl ?_
  refine v_getiQ (x := nI 0) C fl_X3_40 oi_rS_0_3 (hc) dX3_advance_1 ?_
  refine v_if_eq C 8 dX3_advance_4 (by decide) (fun c4 => ?_) (fun c4 => ?_)
  · refine V.stt (g2 := (rW r (r 0 6) (r 0 7) (nI e0) (r 0 9), y)) (by rw [← h8, rW_id]) ?_
    refine v_aload_n C dX3_advance_8 rfl ?_
    refine v_aload_n C dX3_advance_9 rfl ?_
    refine v_getiQ (x := nI e0) C fl_X3_92 oi_rS_0_8 (rfl) dX3_advance_10 ?_
    refine v_puti C fl_X3_170 fw_X3_7 oi_rS_0_7 ⟨rfl, rfl⟩ dX3_advance_13 ?_
    refine V.stt (g2 := (rW r (r 0 6) (nI e0) (nI e0) (r 0 9), y)) (congrArg (fun z => (z, y)) rW_7) ?_
    have L16 : ∀ (t : Nat), (fun t => e0 ≤ t ∧ t ≤ len ∧ runB (spc (r 13)) len t = runB (spc (r 13)) len e0) t → (fun t : Nat => V X (rS (xK X) h) 16 [some (.ref (h 0))] [] (rW r (r 0 6) (nI t) (nI e0) (r 0 9), y) 0 0) t := by
      refine v_ind (fun t : Nat => len - t) ?_
      rintro i ih16 hI16
      try dsimp only at hI16 ⊢
      obtain ⟨i0, i1, i3⟩ := hI16
      refine v_aload_n C dX3_advance_16 rfl ?_
      refine v_getiQ (x := nI i) C fl_X3_170 oi_rS_0_7 (rfl) dX3_advance_17 ?_
      refine v_aload_n C dX3_advance_20 rfl ?_
      refine v_getiQ (x := nI len) C fl_X3_89 oi_rS_0_5 (h5) dX3_advance_21 ?_
      first | refine v_icmp_geN C 54 dX3_advance_24 (by decide) (by omega) (by omega) (fun c24 => ?_) (fun c24 => ?_) | refine v_icmp_ge C 54 dX3_advance_24 (by decide) (fun c24 => ?_) (fun c24 => ?_)
      · have i2 : i = runB (spc (r 13)) len e0 := by rw [← i3, runB_0 (by omega)]
        refine v_aload_n C dX3_advance_54 rfl ?_
        refine v_aload_n C dX3_advance_55 rfl ?_
        refine v_getiQ (x := nI i) C fl_X3_170 oi_rS_0_7 (rfl) dX3_advance_56 ?_
        refine v_puti C fl_X3_92 fw_X3_8 oi_rS_0_8 ⟨rfl, rfl⟩ dX3_advance_59 ?_
        refine V.stt (g2 := (rW r (r 0 6) (nI i) (nI i) (r 0 9), y)) (congrArg (fun z => (z, y)) rW_8) ?_
        refine v_aload_n C dX3_advance_62 rfl ?_
        refine v_getiQ (x := nI i) C fl_X3_170 oi_rS_0_7 (rfl) dX3_advance_63 ?_
        refine v_aload_n C dX3_advance_66 rfl ?_
        refine v_getiQ (x := nI len) C fl_X3_89 oi_rS_0_5 (h5) dX3_advance_67 ?_
        first | refine v_icmp_ltN C 81 dX3_advance_70 (by decide) (by omega) (by omega) (fun c70 => ?_) (fun c70 => ?_) | refine v_icmp_lt C 81 dX3_advance_70 (by decide) (fun c70 => ?_) (fun c70 => ?_)
        · refine v_aload_n C dX3_advance_81 rfl ?_
          refine v_getr C fl_X3_18 or_rS_0_1 dX3_advance_82 ?_
          refine v_aload_n C dX3_advance_85 rfl ?_
          refine v_getiQ (x := nI i) C fl_X3_170 oi_rS_0_7 (rfl) dX3_advance_86 ?_
          refine v_ialdQ (x := r 13 i) C ar_rS_13 (by decide) _ (rfl) ?_ rfl dX3_advance_89 ?_
          · omega
          refine v_bipush (v := nI 59) C dX3_advance_90 (by decide) ?_
          refine v_icmp_ne C 113 dX3_advance_92 (by decide) (fun c92 => ?_) (fun c92 => ?_)
          · refine v_aload_n C dX3_advance_113 rfl ?_
            refine v_aload_n C dX3_advance_114 rfl ?_
            refine v_getiQ (x := nI i) C fl_X3_170 oi_rS_0_7 (rfl) dX3_advance_115 ?_
            refine v_callVi C (c_X3_isLetter hl (g := (rW r (r 0 6) (nI i) (nI i) (r 0 9), y)) (len := len) h5 h7 (by omega)) ym_X3_isLetter ml_X3_173 emb_id_rS rfl rfl rfl rfl rfl dX3_advance_118 (Nat.le_of_ble_eq_true rfl) (Nat.le_of_ble_eq_true rfl) (Nat.le_of_ble_eq_true rfl) (Nat.le_of_ble_eq_true rfl) (fun _ _ hu => hu.elim) (fun r u hu => ?_)
            obtain ⟨rfl, hu⟩ := hu
            subst u
            refine v_if_eqB C 185 dX3_advance_121 (by decide) (fun c121 => ?_) (fun c121 => ?_)
            · have c121 : ltr (r 13) len i = false := c121
              
              refine v_aload_n C dX3_advance_185 rfl ?_
              refine v_aload_n C dX3_advance_186 rfl ?_
              refine v_getiQ (x := nI i) C fl_X3_170 oi_rS_0_7 (rfl) dX3_advance_187 ?_
              refine v_callVi C (c_X3_isDigit hl (g := (rW r (r 0 6) (nI i) (nI i) (r 0 9), y)) (len := len) h5 h7 (by omega)) ym_X3_isDigit ml_X3_176 emb_id_rS rfl rfl rfl rfl rfl dX3_advance_190 (Nat.le_of_ble_eq_true rfl) (Nat.le_of_ble_eq_true rfl) (Nat.le_of_ble_eq_true rfl) (Nat.le_of_ble_eq_true rfl) (fun _ _ hu => hu.elim) (fun r u hu => ?_)
              obtain ⟨rfl, hu⟩ := hu
              subst u
              refine v_if_eqB C 285 dX3_advance_193 (by decide) (fun c193 => ?_) (fun c193 => ?_)
              · have c193 : dgt (r 13) len i = false := c193
                
                refine v_aload_n C dX3_advance_285 rfl ?_
                refine v_iconst (v := nI 4) C dX3_advance_286 (by decide) ?_
                refine v_puti C fl_X3_43 fw_X3_6 oi_rS_0_6 ⟨rfl, rfl⟩ dX3_advance_287 ?_
                refine V.stt (g2 := (rW r (nI 4) (nI i) (nI i) (r 0 9), y)) (congrArg (fun z => (z, y)) rW_6) ?_
                refine v_vret C F dX3_advance_290 (Nat.le_of_ble_eq_true rfl) (Nat.le_of_ble_eq_true rfl) ?_
                first
                | (exfalso; omega)
                | (refine ⟨rfl, advS_ok hR h0 rW_FA ?_, rW_FA.fb⟩
                   rw [he0]
                   have hT : tok (r 13) len e0 = (0, i, i, 0) := by
                     unfold tok
                     rw [← i2, if_pos (show len ≤ i by omega)]
                   rw [hT]
                   exact ⟨rfl, rfl, rfl, fun z => by cases z⟩)
                | (refine ⟨rfl, advS_ok hR h0 rW_FA ?_, rW_FA.fb⟩
                   rw [he0]
                   have hT : tok (r 13) len e0 = (3, i, i + 1, 0) := by
                     unfold tok
                     rw [← i2, if_neg (show ¬ len ≤ i by omega), if_pos c92]
                   rw [hT]
                   exact ⟨rfl, rfl, rfl, fun z => by cases z⟩)
                | (refine ⟨rfl, advS_ok hR h0 rW_FA ?_, rW_FA.fb⟩
                   rw [he0]
                   have hT : tok (r 13) len e0 = (4, i, q, 0) := by
                     unfold tok
                     rw [← i2, if_neg (show ¬ len ≤ i by omega), if_neg c92, if_pos c121, ← k2, if_pos (show 8 < q - i by omega)]
                   rw [hT]
                   exact ⟨rfl, rfl, rfl, fun z => by cases z⟩)
                | (refine ⟨rfl, advS_ok hR h0 rW_FA ?_, rW_FA.fb⟩
                   rw [he0]
                   have hT : tok (r 13) len e0 = (1, i, q, 0) := by
                     unfold tok
                     rw [← i2, if_neg (show ¬ len ≤ i by omega), if_neg c92, if_pos c121, ← k2, if_neg (show ¬ 8 < q - i by omega)]
                   rw [hT]
                   exact ⟨rfl, rfl, rfl, fun z => by cases z⟩)
                | (refine ⟨rfl, advS_ok hR h0 rW_FA ?_, rW_FA.fb⟩
                   rw [he0]
                   have hT : tok (r 13) len e0 = (4, i, q, v) := by
                     unfold tok
                     rw [← i2, if_neg (show ¬ len ≤ i by omega), if_neg c92, if_neg (by rw [c121]; exact Bool.false_ne_true), if_pos c193, ← k2, if_pos (show 3 < q - i by omega), k3]
                   rw [hT]
                   exact ⟨rfl, rfl, rfl, fun z => by cases z⟩)
                | (refine ⟨rfl, advS_ok hR h0 rW_FA ?_, rW_FA.fb⟩
                   rw [he0]
                   have hT : tok (r 13) len e0 = (2, i, q, v) := by
                     unfold tok
                     rw [← i2, if_neg (show ¬ len ≤ i by omega), if_neg c92, if_neg (by rw [c121]; exact Bool.false_ne_true), if_pos c193, ← k2, if_neg (show ¬ 3 < q - i by omega), k3]
                   rw [hT]
                   exact ⟨rfl, rfl, rfl, fun z => rfl⟩)
                | (refine ⟨rfl, advS_ok hR h0 rW_FA ?_, rW_FA.fb⟩
                   rw [he0]
                   have hT : tok (r 13) len e0 = (4, i, i, 0) := by
                     unfold tok
                     rw [← i2, if_neg (show ¬ len ≤ i by omega), if_neg c92, if_neg (by rw [c121]; exact Bool.false_ne_true), if_neg (by rw [c193]; exact Bool.false_ne_true)]
                   rw [hT]
                   exact ⟨rfl, rfl, rfl, fun z => by cases z⟩)
              · have c193 : dgt (r 13) len i = true := c193
                
                refine v_aload_n C dX3_advance_196 rfl ?_
                refine v_iconst (v := nI 0) C dX3_advance_197 (by decide) ?_
                refine v_puti C fl_X3_136 fw_X3_9 oi_rS_0_9 ⟨rfl, rfl⟩ dX3_advance_198 ?_
                refine V.stt (g2 := (rW r (r 0 6) (nI i) (nI i) (nI 0), y)) (congrArg (fun z => (z, y)) rW_9) ?_
                have L201 : ∀ (t : Nat × Nat), (fun t => i ≤ t.1 ∧ t.1 ≤ len ∧ runB (dgt (r 13) len) len t.1 = runB (dgt (r 13) len) len i ∧ numG (r 13) i (t.1 - i) 0 = t.2) t → (fun t : Nat × Nat => V X (rS (xK X) h) 201 [some (.ref (h 0))] [] (rW r (r 0 6) (nI i) (nI t.1) (nI t.2), y) 0 0) t := by
                  refine v_ind (fun t : Nat × Nat => len - t.1) ?_
                  rintro ⟨q, v⟩ ih201 hI201
                  try dsimp only at hI201 ⊢
                  obtain ⟨k0, k1, k4, k3⟩ := hI201
                  refine v_aload_n C dX3_advance_201 rfl ?_
                  refine v_getiQ (x := nI q) C fl_X3_92 oi_rS_0_8 (rfl) dX3_advance_202 ?_
                  refine v_aload_n C dX3_advance_205 rfl ?_
                  refine v_getiQ (x := nI len) C fl_X3_89 oi_rS_0_5 (h5) dX3_advance_206 ?_
                  first | refine v_icmp_geN C 260 dX3_advance_209 (by decide) (by omega) (by omega) (fun c209 => ?_) (fun c209 => ?_) | refine v_icmp_ge C 260 dX3_advance_209 (by decide) (fun c209 => ?_) (fun c209 => ?_)
                  · have k2 : q = runB (dgt (r 13) len) len i := by rw [← k4, runB_0 (by omega)]
                    refine v_aload_n C dX3_advance_260 rfl ?_
                    refine v_aload_n C dX3_advance_261 rfl ?_
                    refine v_getiQ (x := nI q) C fl_X3_92 oi_rS_0_8 (rfl) dX3_advance_262 ?_
                    refine v_aload_n C dX3_advance_265 rfl ?_
                    refine v_getiQ (x := nI i) C fl_X3_170 oi_rS_0_7 (rfl) dX3_advance_266 ?_
                    first | refine v_isubN C dX3_advance_269 (by omega) ?_ | refine v_isub C dX3_advance_269 ?_
                    refine v_iconst (v := nI 3) C dX3_advance_270 (by decide) ?_
                    first | refine v_icmp_leN C 278 dX3_advance_271 (by decide) (by omega) (by omega) (fun c271 => ?_) (fun c271 => ?_) | refine v_icmp_le C 278 dX3_advance_271 (by decide) (fun c271 => ?_) (fun c271 => ?_)
                    · refine v_iconst (v := nI 2) C dX3_advance_278 (by decide) ?_
                      refine v_puti C fl_X3_43 fw_X3_6 oi_rS_0_6 ⟨rfl, rfl⟩ dX3_advance_279 ?_
                      refine V.stt (g2 := (rW r _ (nI i) (nI q) (nI v), y)) (congrArg (fun z => (z, y)) rW_6) ?_
                      refine v_goto C 290 dX3_advance_282 (by decide) ?_
                      refine v_vret C F dX3_advance_290 (Nat.le_of_ble_eq_true rfl) (Nat.le_of_ble_eq_true rfl) ?_
                      first
                      | (exfalso; omega)
                      | (refine ⟨rfl, advS_ok hR h0 rW_FA ?_, rW_FA.fb⟩
                         rw [he0]
                         have hT : tok (r 13) len e0 = (0, i, i, 0) := by
                           unfold tok
                           rw [← i2, if_pos (show len ≤ i by omega)]
                         rw [hT]
                         exact ⟨rfl, rfl, rfl, fun z => by cases z⟩)
                      | (refine ⟨rfl, advS_ok hR h0 rW_FA ?_, rW_FA.fb⟩
                         rw [he0]
                         have hT : tok (r 13) len e0 = (3, i, i + 1, 0) := by
                           unfold tok
                           rw [← i2, if_neg (show ¬ len ≤ i by omega), if_pos c92]
                         rw [hT]
                         exact ⟨rfl, rfl, rfl, fun z => by cases z⟩)
                      | (refine ⟨rfl, advS_ok hR h0 rW_FA ?_, rW_FA.fb⟩
                         rw [he0]
                         have hT : tok (r 13) len e0 = (4, i, q, 0) := by
                           unfold tok
                           rw [← i2, if_neg (show ¬ len ≤ i by omega), if_neg c92, if_pos c121, ← k2, if_pos (show 8 < q - i by omega)]
                         rw [hT]
                         exact ⟨rfl, rfl, rfl, fun z => by cases z⟩)
                      | (refine ⟨rfl, advS_ok hR h0 rW_FA ?_, rW_FA.fb⟩
                         rw [he0]
                         have hT : tok (r 13) len e0 = (1, i, q, 0) := by
                           unfold tok
                           rw [← i2, if_neg (show ¬ len ≤ i by omega), if_neg c92, if_pos c121, ← k2, if_neg (show ¬ 8 < q - i by omega)]
                         rw [hT]
                         exact ⟨rfl, rfl, rfl, fun z => by cases z⟩)
                      | (refine ⟨rfl, advS_ok hR h0 rW_FA ?_, rW_FA.fb⟩
                         rw [he0]
                         have hT : tok (r 13) len e0 = (4, i, q, v) := by
                           unfold tok
                           rw [← i2, if_neg (show ¬ len ≤ i by omega), if_neg c92, if_neg (by rw [c121]; exact Bool.false_ne_true), if_pos c193, ← k2, if_pos (show 3 < q - i by omega), k3]
                         rw [hT]
                         exact ⟨rfl, rfl, rfl, fun z => by cases z⟩)
                      | (refine ⟨rfl, advS_ok hR h0 rW_FA ?_, rW_FA.fb⟩
                         rw [he0]
                         have hT : tok (r 13) len e0 = (2, i, q, v) := by
                           unfold tok
                           rw [← i2, if_neg (show ¬ len ≤ i by omega), if_neg c92, if_neg (by rw [c121]; exact Bool.false_ne_true), if_pos c193, ← k2, if_neg (show ¬ 3 < q - i by omega), k3]
                         rw [hT]
                         exact ⟨rfl, rfl, rfl, fun z => rfl⟩)
                      | (refine ⟨rfl, advS_ok hR h0 rW_FA ?_, rW_FA.fb⟩
                         rw [he0]
                         have hT : tok (r 13) len e0 = (4, i, i, 0) := by
                           unfold tok
                           rw [← i2, if_neg (show ¬ len ≤ i by omega), if_neg c92, if_neg (by rw [c121]; exact Bool.false_ne_true), if_neg (by rw [c193]; exact Bool.false_ne_true)]
                         rw [hT]
                         exact ⟨rfl, rfl, rfl, fun z => by cases z⟩)
                    · refine v_iconst (v := nI 4) C dX3_advance_274 (by decide) ?_
                      refine v_goto C 279 dX3_advance_275 (by decide) ?_
                      refine v_puti C fl_X3_43 fw_X3_6 oi_rS_0_6 ⟨rfl, rfl⟩ dX3_advance_279 ?_
                      refine V.stt (g2 := (rW r _ (nI i) (nI q) (nI v), y)) (congrArg (fun z => (z, y)) rW_6) ?_
                      refine v_goto C 290 dX3_advance_282 (by decide) ?_
                      refine v_vret C F dX3_advance_290 (Nat.le_of_ble_eq_true rfl) (Nat.le_of_ble_eq_true rfl) ?_
                      first
                      | (exfalso; omega)
                      | (refine ⟨rfl, advS_ok hR h0 rW_FA ?_, rW_FA.fb⟩
                         rw [he0]
                         have hT : tok (r 13) len e0 = (0, i, i, 0) := by
                           unfold tok
                           rw [← i2, if_pos (show len ≤ i by omega)]
                         rw [hT]
                         exact ⟨rfl, rfl, rfl, fun z => by cases z⟩)
                      | (refine ⟨rfl, advS_ok hR h0 rW_FA ?_, rW_FA.fb⟩
                         rw [he0]
                         have hT : tok (r 13) len e0 = (3, i, i + 1, 0) := by
                           unfold tok
                           rw [← i2, if_neg (show ¬ len ≤ i by omega), if_pos c92]
                         rw [hT]
                         exact ⟨rfl, rfl, rfl, fun z => by cases z⟩)
                      | (refine ⟨rfl, advS_ok hR h0 rW_FA ?_, rW_FA.fb⟩
                         rw [he0]
                         have hT : tok (r 13) len e0 = (4, i, q, 0) := by
                           unfold tok
                           rw [← i2, if_neg (show ¬ len ≤ i by omega), if_neg c92, if_pos c121, ← k2, if_pos (show 8 < q - i by omega)]
                         rw [hT]
                         exact ⟨rfl, rfl, rfl, fun z => by cases z⟩)
                      | (refine ⟨rfl, advS_ok hR h0 rW_FA ?_, rW_FA.fb⟩
                         rw [he0]
                         have hT : tok (r 13) len e0 = (1, i, q, 0) := by
                           unfold tok
                           rw [← i2, if_neg (show ¬ len ≤ i by omega), if_neg c92, if_pos c121, ← k2, if_neg (show ¬ 8 < q - i by omega)]
                         rw [hT]
                         exact ⟨rfl, rfl, rfl, fun z => by cases z⟩)
                      | (refine ⟨rfl, advS_ok hR h0 rW_FA ?_, rW_FA.fb⟩
                         rw [he0]
                         have hT : tok (r 13) len e0 = (4, i, q, v) := by
                           unfold tok
                           rw [← i2, if_neg (show ¬ len ≤ i by omega), if_neg c92, if_neg (by rw [c121]; exact Bool.false_ne_true), if_pos c193, ← k2, if_pos (show 3 < q - i by omega), k3]
                         rw [hT]
                         exact ⟨rfl, rfl, rfl, fun z => by cases z⟩)
                      | (refine ⟨rfl, advS_ok hR h0 rW_FA ?_, rW_FA.fb⟩
                         rw [he0]
                         have hT : tok (r 13) len e0 = (2, i, q, v) := by
                           unfold tok
                           rw [← i2, if_neg (show ¬ len ≤ i by omega), if_neg c92, if_neg (by rw [c121]; exact Bool.false_ne_true), if_pos c193, ← k2, if_neg (show ¬ 3 < q - i by omega), k3]
                         rw [hT]
                         exact ⟨rfl, rfl, rfl, fun z => rfl⟩)
                      | (refine ⟨rfl, advS_ok hR h0 rW_FA ?_, rW_FA.fb⟩
                         rw [he0]
                         have hT : tok (r 13) len e0 = (4, i, i, 0) := by
                           unfold tok
                           rw [← i2, if_neg (show ¬ len ≤ i by omega), if_neg c92, if_neg (by rw [c121]; exact Bool.false_ne_true), if_neg (by rw [c193]; exact Bool.false_ne_true)]
                         rw [hT]
                         exact ⟨rfl, rfl, rfl, fun z => by cases z⟩)
                  · refine v_aload_n C dX3_advance_212 rfl ?_
                    refine v_aload_n C dX3_advance_213 rfl ?_
                    refine v_getiQ (x := nI q) C fl_X3_92 oi_rS_0_8 (rfl) dX3_advance_214 ?_
                    refine v_callVi C (c_X3_isDigit hl (g := (rW r (r 0 6) (nI i) (nI q) (nI v), y)) (len := len) h5 h7 (by omega)) ym_X3_isDigit ml_X3_176 emb_id_rS rfl rfl rfl rfl rfl dX3_advance_217 (Nat.le_of_ble_eq_true rfl) (Nat.le_of_ble_eq_true rfl) (Nat.le_of_ble_eq_true rfl) (Nat.le_of_ble_eq_true rfl) (fun _ _ hu => hu.elim) (fun r u hu => ?_)
                    obtain ⟨rfl, hu⟩ := hu
                    subst u
                    refine v_if_eqB C 260 dX3_advance_220 (by decide) (fun c220 => ?_) (fun c220 => ?_)
                    · have c220 : dgt (r 13) len q = false := c220
                      have k2 : q = runB (dgt (r 13) len) len i := by rw [← k4, runB_s (by omega), if_neg (by rw [c220]; exact Bool.false_ne_true)]
                      refine v_aload_n C dX3_advance_260 rfl ?_
                      refine v_aload_n C dX3_advance_261 rfl ?_
                      refine v_getiQ (x := nI q) C fl_X3_92 oi_rS_0_8 (rfl) dX3_advance_262 ?_
                      refine v_aload_n C dX3_advance_265 rfl ?_
                      refine v_getiQ (x := nI i) C fl_X3_170 oi_rS_0_7 (rfl) dX3_advance_266 ?_
                      first | refine v_isubN C dX3_advance_269 (by omega) ?_ | refine v_isub C dX3_advance_269 ?_
                      refine v_iconst (v := nI 3) C dX3_advance_270 (by decide) ?_
                      first | refine v_icmp_leN C 278 dX3_advance_271 (by decide) (by omega) (by omega) (fun c271 => ?_) (fun c271 => ?_) | refine v_icmp_le C 278 dX3_advance_271 (by decide) (fun c271 => ?_) (fun c271 => ?_)
                      · refine v_iconst (v := nI 2) C dX3_advance_278 (by decide) ?_
                        refine v_puti C fl_X3_43 fw_X3_6 oi_rS_0_6 ⟨rfl, rfl⟩ dX3_advance_279 ?_
                        refine V.stt (g2 := (rW r _ (nI i) (nI q) (nI v), y)) (congrArg (fun z => (z, y)) rW_6) ?_
                        refine v_goto C 290 dX3_advance_282 (by decide) ?_
                        refine v_vret C F dX3_advance_290 (Nat.le_of_ble_eq_true rfl) (Nat.le_of_ble_eq_true rfl) ?_
                        first
                        | (exfalso; omega)
                        | (refine ⟨rfl, advS_ok hR h0 rW_FA ?_, rW_FA.fb⟩
                           rw [he0]
                           have hT : tok (r 13) len e0 = (0, i, i, 0) := by
                             unfold tok
                             rw [← i2, if_pos (show len ≤ i by omega)]
                           rw [hT]
                           exact ⟨rfl, rfl, rfl, fun z => by cases z⟩)
                        | (refine ⟨rfl, advS_ok hR h0 rW_FA ?_, rW_FA.fb⟩
                           rw [he0]
                           have hT : tok (r 13) len e0 = (3, i, i + 1, 0) := by
                             unfold tok
                             rw [← i2, if_neg (show ¬ len ≤ i by omega), if_pos c92]
                           rw [hT]
                           exact ⟨rfl, rfl, rfl, fun z => by cases z⟩)
                        | (refine ⟨rfl, advS_ok hR h0 rW_FA ?_, rW_FA.fb⟩
                           rw [he0]
                           have hT : tok (r 13) len e0 = (4, i, q, 0) := by
                             unfold tok
                             rw [← i2, if_neg (show ¬ len ≤ i by omega), if_neg c92, if_pos c121, ← k2, if_pos (show 8 < q - i by omega)]
                           rw [hT]
                           exact ⟨rfl, rfl, rfl, fun z => by cases z⟩)
                        | (refine ⟨rfl, advS_ok hR h0 rW_FA ?_, rW_FA.fb⟩
                           rw [he0]
                           have hT : tok (r 13) len e0 = (1, i, q, 0) := by
                             unfold tok
                             rw [← i2, if_neg (show ¬ len ≤ i by omega), if_neg c92, if_pos c121, ← k2, if_neg (show ¬ 8 < q - i by omega)]
                           rw [hT]
                           exact ⟨rfl, rfl, rfl, fun z => by cases z⟩)
                        | (refine ⟨rfl, advS_ok hR h0 rW_FA ?_, rW_FA.fb⟩
                           rw [he0]
                           have hT : tok (r 13) len e0 = (4, i, q, v) := by
                             unfold tok
                             rw [← i2, if_neg (show ¬ len ≤ i by omega), if_neg c92, if_neg (by rw [c121]; exact Bool.false_ne_true), if_pos c193, ← k2, if_pos (show 3 < q - i by omega), k3]
                           rw [hT]
                           exact ⟨rfl, rfl, rfl, fun z => by cases z⟩)
                        | (refine ⟨rfl, advS_ok hR h0 rW_FA ?_, rW_FA.fb⟩
                           rw [he0]
                           have hT : tok (r 13) len e0 = (2, i, q, v) := by
                             unfold tok
                             rw [← i2, if_neg (show ¬ len ≤ i by omega), if_neg c92, if_neg (by rw [c121]; exact Bool.false_ne_true), if_pos c193, ← k2, if_neg (show ¬ 3 < q - i by omega), k3]
                           rw [hT]
                           exact ⟨rfl, rfl, rfl, fun z => rfl⟩)
                        | (refine ⟨rfl, advS_ok hR h0 rW_FA ?_, rW_FA.fb⟩
                           rw [he0]
                           have hT : tok (r 13) len e0 = (4, i, i, 0) := by
                             unfold tok
                             rw [← i2, if_neg (show ¬ len ≤ i by omega), if_neg c92, if_neg (by rw [c121]; exact Bool.false_ne_true), if_neg (by rw [c193]; exact Bool.false_ne_true)]
                           rw [hT]
                           exact ⟨rfl, rfl, rfl, fun z => by cases z⟩)
                      · refine v_iconst (v := nI 4) C dX3_advance_274 (by decide) ?_
                        refine v_goto C 279 dX3_advance_275 (by decide) ?_
                        refine v_puti C fl_X3_43 fw_X3_6 oi_rS_0_6 ⟨rfl, rfl⟩ dX3_advance_279 ?_
                        refine V.stt (g2 := (rW r _ (nI i) (nI q) (nI v), y)) (congrArg (fun z => (z, y)) rW_6) ?_
                        refine v_goto C 290 dX3_advance_282 (by decide) ?_
                        refine v_vret C F dX3_advance_290 (Nat.le_of_ble_eq_true rfl) (Nat.le_of_ble_eq_true rfl) ?_
                        first
                        | (exfalso; omega)
                        | (refine ⟨rfl, advS_ok hR h0 rW_FA ?_, rW_FA.fb⟩
                           rw [he0]
                           have hT : tok (r 13) len e0 = (0, i, i, 0) := by
                             unfold tok
                             rw [← i2, if_pos (show len ≤ i by omega)]
                           rw [hT]
                           exact ⟨rfl, rfl, rfl, fun z => by cases z⟩)
                        | (refine ⟨rfl, advS_ok hR h0 rW_FA ?_, rW_FA.fb⟩
                           rw [he0]
                           have hT : tok (r 13) len e0 = (3, i, i + 1, 0) := by
                             unfold tok
                             rw [← i2, if_neg (show ¬ len ≤ i by omega), if_pos c92]
                           rw [hT]
                           exact ⟨rfl, rfl, rfl, fun z => by cases z⟩)
                        | (refine ⟨rfl, advS_ok hR h0 rW_FA ?_, rW_FA.fb⟩
                           rw [he0]
                           have hT : tok (r 13) len e0 = (4, i, q, 0) := by
                             unfold tok
                             rw [← i2, if_neg (show ¬ len ≤ i by omega), if_neg c92, if_pos c121, ← k2, if_pos (show 8 < q - i by omega)]
                           rw [hT]
                           exact ⟨rfl, rfl, rfl, fun z => by cases z⟩)
                        | (refine ⟨rfl, advS_ok hR h0 rW_FA ?_, rW_FA.fb⟩
                           rw [he0]
                           have hT : tok (r 13) len e0 = (1, i, q, 0) := by
                             unfold tok
                             rw [← i2, if_neg (show ¬ len ≤ i by omega), if_neg c92, if_pos c121, ← k2, if_neg (show ¬ 8 < q - i by omega)]
                           rw [hT]
                           exact ⟨rfl, rfl, rfl, fun z => by cases z⟩)
                        | (refine ⟨rfl, advS_ok hR h0 rW_FA ?_, rW_FA.fb⟩
                           rw [he0]
                           have hT : tok (r 13) len e0 = (4, i, q, v) := by
                             unfold tok
                             rw [← i2, if_neg (show ¬ len ≤ i by omega), if_neg c92, if_neg (by rw [c121]; exact Bool.false_ne_true), if_pos c193, ← k2, if_pos (show 3 < q - i by omega), k3]
                           rw [hT]
                           exact ⟨rfl, rfl, rfl, fun z => by cases z⟩)
                        | (refine ⟨rfl, advS_ok hR h0 rW_FA ?_, rW_FA.fb⟩
                           rw [he0]
                           have hT : tok (r 13) len e0 = (2, i, q, v) := by
                             unfold tok
                             rw [← i2, if_neg (show ¬ len ≤ i by omega), if_neg c92, if_neg (by rw [c121]; exact Bool.false_ne_true), if_pos c193, ← k2, if_neg (show ¬ 3 < q - i by omega), k3]
                           rw [hT]
                           exact ⟨rfl, rfl, rfl, fun z => rfl⟩)
                        | (refine ⟨rfl, advS_ok hR h0 rW_FA ?_, rW_FA.fb⟩
                           rw [he0]
                           have hT : tok (r 13) len e0 = (4, i, i, 0) := by
                             unfold tok
                             rw [← i2, if_neg (show ¬ len ≤ i by omega), if_neg c92, if_neg (by rw [c121]; exact Bool.false_ne_true), if_neg (by rw [c193]; exact Bool.false_ne_true)]
                           rw [hT]
                           exact ⟨rfl, rfl, rfl, fun z => by cases z⟩)
                    · have c220 : dgt (r 13) len q = true := c220
                      
                      refine v_aload_n C dX3_advance_223 rfl ?_
                      refine v_aload_n C dX3_advance_224 rfl ?_
                      refine v_getiQ (x := nI v) C fl_X3_136 oi_rS_0_9 (rfl) dX3_advance_225 ?_
                      refine v_bipush (v := nI 10) C dX3_advance_228 (by decide) ?_
                      first | refine v_imulN C dX3_advance_230 ?_ | refine v_imul C dX3_advance_230 ?_
                      refine v_aload_n C dX3_advance_231 rfl ?_
                      refine v_getr C fl_X3_18 or_rS_0_1 dX3_advance_232 ?_
                      refine v_aload_n C dX3_advance_235 rfl ?_
                      refine v_getiQ (x := nI q) C fl_X3_92 oi_rS_0_8 (rfl) dX3_advance_236 ?_
                      refine v_ialdQ (x := r 13 q) C ar_rS_13 (by decide) _ (rfl) ?_ rfl dX3_advance_239 ?_
                      · omega
                      first | refine v_iaddN C dX3_advance_240 ?_ | refine v_iadd C dX3_advance_240 ?_
                      have hdq : 48 ≤ (r 13 q).toInt ∧ (r 13 q).toInt ≤ 57 := by
                        have z := c220
                        simp only [dgt, Bool.and_eq_true, decide_eq_true_eq] at z
                        exact z.2
                      refine V.eq (Wd2 := rS (xK X) h) (st2 := .int (nI (v * 10 + (r 13 q).toInt.toNat)) :: .ref (h 0) :: []) ?_ (by rw [← nI_add, ← (nI_of_nonneg (x := r 13 q) (by omega)).1]) rfl
                      refine v_bipush (v := nI 48) C dX3_advance_241 (by decide) ?_
                      first | refine v_isubN C dX3_advance_243 (by omega) ?_ | refine v_isub C dX3_advance_243 ?_
                      refine v_puti C fl_X3_136 fw_X3_9 oi_rS_0_9 ⟨rfl, rfl⟩ dX3_advance_244 ?_
                      refine V.stt (g2 := (rW r (r 0 6) (nI i) (nI q) (nI (v * 10 + (r 13 q).toInt.toNat - 48)), y)) (congrArg (fun z => (z, y)) rW_9) ?_
                      refine v_aload_n C dX3_advance_247 rfl ?_
                      refine v_dup C dX3_advance_248 rfl ?_
                      refine v_getiQ (x := nI q) C fl_X3_92 oi_rS_0_8 (rfl) dX3_advance_249 ?_
                      refine v_iconst (v := nI 1) C dX3_advance_252 (by decide) ?_
                      first | refine v_iaddN C dX3_advance_253 ?_ | refine v_iadd C dX3_advance_253 ?_
                      refine v_puti C fl_X3_92 fw_X3_8 oi_rS_0_8 ⟨rfl, rfl⟩ dX3_advance_254 ?_
                      refine V.stt (g2 := (rW r (r 0 6) (nI i) (nI (q + 1)) (nI (v * 10 + (r 13 q).toInt.toNat - 48)), y)) (congrArg (fun z => (z, y)) rW_8) ?_
                      refine v_goto C 201 dX3_advance_257 (by decide) ?_
                      rw [runB_s (by omega), if_pos c220] at k4
                      exact ih201 (q + 1, v * 10 + (r 13 q).toInt.toNat - 48) (by show len - (q + 1) < len - q; omega) ⟨by show i ≤ q + 1; omega, by show q + 1 ≤ len; omega, k4, by show numG (r 13) i (q + 1 - i) 0 = _; rw [show q + 1 - i = (q - i) + 1 by omega, numG_last, k3, show i + (q - i) = q by omega]⟩
                exact L201 (i, 0) ⟨Nat.le_refl _, by show i ≤ len; omega, rfl, by show numG (r 13) i (i - i) 0 = 0; rw [Nat.sub_self]; rfl⟩
            · have c121 : ltr (r 13) len i = true := c121
              
              have L124 : ∀ (t : Nat), (fun t => i ≤ t ∧ t ≤ len ∧ runB (ltr (r 13) len) len t = runB (ltr (r 13) len) len i) t → (fun t : Nat => V X (rS (xK X) h) 124 [some (.ref (h 0))] [] (rW r (r 0 6) (nI i) (nI t) (r 0 9), y) 0 0) t := by
                refine v_ind (fun t : Nat => len - t) ?_
                rintro q ih124 hI124
                try dsimp only at hI124 ⊢
                obtain ⟨k0, k1, k4⟩ := hI124
                refine v_aload_n C dX3_advance_124 rfl ?_
                refine v_getiQ (x := nI q) C fl_X3_92 oi_rS_0_8 (rfl) dX3_advance_125 ?_
                refine v_aload_n C dX3_advance_128 rfl ?_
                refine v_getiQ (x := nI len) C fl_X3_89 oi_rS_0_5 (h5) dX3_advance_129 ?_
                first | refine v_icmp_geN C 159 dX3_advance_132 (by decide) (by omega) (by omega) (fun c132 => ?_) (fun c132 => ?_) | refine v_icmp_ge C 159 dX3_advance_132 (by decide) (fun c132 => ?_) (fun c132 => ?_)
                · have k2 : q = runB (ltr (r 13) len) len i := by rw [← k4, runB_0 (by omega)]
                  refine v_aload_n C dX3_advance_159 rfl ?_
                  refine v_aload_n C dX3_advance_160 rfl ?_
                  refine v_getiQ (x := nI q) C fl_X3_92 oi_rS_0_8 (rfl) dX3_advance_161 ?_
                  refine v_aload_n C dX3_advance_164 rfl ?_
                  refine v_getiQ (x := nI i) C fl_X3_170 oi_rS_0_7 (rfl) dX3_advance_165 ?_
                  first | refine v_isubN C dX3_advance_168 (by omega) ?_ | refine v_isub C dX3_advance_168 ?_
                  refine v_bipush (v := nI 8) C dX3_advance_169 (by decide) ?_
                  first | refine v_icmp_leN C 178 dX3_advance_171 (by decide) (by omega) (by omega) (fun c171 => ?_) (fun c171 => ?_) | refine v_icmp_le C 178 dX3_advance_171 (by decide) (fun c171 => ?_) (fun c171 => ?_)
                  · refine v_iconst (v := nI 1) C dX3_advance_178 (by decide) ?_
                    refine v_puti C fl_X3_43 fw_X3_6 oi_rS_0_6 ⟨rfl, rfl⟩ dX3_advance_179 ?_
                    refine V.stt (g2 := (rW r _ (nI i) (nI q) (r 0 9), y)) (congrArg (fun z => (z, y)) rW_6) ?_
                    refine v_goto C 290 dX3_advance_182 (by decide) ?_
                    refine v_vret C F dX3_advance_290 (Nat.le_of_ble_eq_true rfl) (Nat.le_of_ble_eq_true rfl) ?_
                    first
                    | (exfalso; omega)
                    | (refine ⟨rfl, advS_ok hR h0 rW_FA ?_, rW_FA.fb⟩
                       rw [he0]
                       have hT : tok (r 13) len e0 = (0, i, i, 0) := by
                         unfold tok
                         rw [← i2, if_pos (show len ≤ i by omega)]
                       rw [hT]
                       exact ⟨rfl, rfl, rfl, fun z => by cases z⟩)
                    | (refine ⟨rfl, advS_ok hR h0 rW_FA ?_, rW_FA.fb⟩
                       rw [he0]
                       have hT : tok (r 13) len e0 = (3, i, i + 1, 0) := by
                         unfold tok
                         rw [← i2, if_neg (show ¬ len ≤ i by omega), if_pos c92]
                       rw [hT]
                       exact ⟨rfl, rfl, rfl, fun z => by cases z⟩)
                    | (refine ⟨rfl, advS_ok hR h0 rW_FA ?_, rW_FA.fb⟩
                       rw [he0]
                       have hT : tok (r 13) len e0 = (4, i, q, 0) := by
                         unfold tok
                         rw [← i2, if_neg (show ¬ len ≤ i by omega), if_neg c92, if_pos c121, ← k2, if_pos (show 8 < q - i by omega)]
                       rw [hT]
                       exact ⟨rfl, rfl, rfl, fun z => by cases z⟩)
                    | (refine ⟨rfl, advS_ok hR h0 rW_FA ?_, rW_FA.fb⟩
                       rw [he0]
                       have hT : tok (r 13) len e0 = (1, i, q, 0) := by
                         unfold tok
                         rw [← i2, if_neg (show ¬ len ≤ i by omega), if_neg c92, if_pos c121, ← k2, if_neg (show ¬ 8 < q - i by omega)]
                       rw [hT]
                       exact ⟨rfl, rfl, rfl, fun z => by cases z⟩)
                    | (refine ⟨rfl, advS_ok hR h0 rW_FA ?_, rW_FA.fb⟩
                       rw [he0]
                       have hT : tok (r 13) len e0 = (4, i, q, v) := by
                         unfold tok
                         rw [← i2, if_neg (show ¬ len ≤ i by omega), if_neg c92, if_neg (by rw [c121]; exact Bool.false_ne_true), if_pos c193, ← k2, if_pos (show 3 < q - i by omega), k3]
                       rw [hT]
                       exact ⟨rfl, rfl, rfl, fun z => by cases z⟩)
                    | (refine ⟨rfl, advS_ok hR h0 rW_FA ?_, rW_FA.fb⟩
                       rw [he0]
                       have hT : tok (r 13) len e0 = (2, i, q, v) := by
                         unfold tok
                         rw [← i2, if_neg (show ¬ len ≤ i by omega), if_neg c92, if_neg (by rw [c121]; exact Bool.false_ne_true), if_pos c193, ← k2, if_neg (show ¬ 3 < q - i by omega), k3]
                       rw [hT]
                       exact ⟨rfl, rfl, rfl, fun z => rfl⟩)
                    | (refine ⟨rfl, advS_ok hR h0 rW_FA ?_, rW_FA.fb⟩
                       rw [he0]
                       have hT : tok (r 13) len e0 = (4, i, i, 0) := by
                         unfold tok
                         rw [← i2, if_neg (show ¬ len ≤ i by omega), if_neg c92, if_neg (by rw [c121]; exact Bool.false_ne_true), if_neg (by rw [c193]; exact Bool.false_ne_true)]
                       rw [hT]
                       exact ⟨rfl, rfl, rfl, fun z => by cases z⟩)
                  · refine v_iconst (v := nI 4) C dX3_advance_174 (by decide) ?_
                    refine v_goto C 179 dX3_advance_175 (by decide) ?_
                    refine v_puti C fl_X3_43 fw_X3_6 oi_rS_0_6 ⟨rfl, rfl⟩ dX3_advance_179 ?_
                    refine V.stt (g2 := (rW r _ (nI i) (nI q) (r 0 9), y)) (congrArg (fun z => (z, y)) rW_6) ?_
                    refine v_goto C 290 dX3_advance_182 (by decide) ?_
                    refine v_vret C F dX3_advance_290 (Nat.le_of_ble_eq_true rfl) (Nat.le_of_ble_eq_true rfl) ?_
                    first
                    | (exfalso; omega)
                    | (refine ⟨rfl, advS_ok hR h0 rW_FA ?_, rW_FA.fb⟩
                       rw [he0]
                       have hT : tok (r 13) len e0 = (0, i, i, 0) := by
                         unfold tok
                         rw [← i2, if_pos (show len ≤ i by omega)]
                       rw [hT]
                       exact ⟨rfl, rfl, rfl, fun z => by cases z⟩)
                    | (refine ⟨rfl, advS_ok hR h0 rW_FA ?_, rW_FA.fb⟩
                       rw [he0]
                       have hT : tok (r 13) len e0 = (3, i, i + 1, 0) := by
                         unfold tok
                         rw [← i2, if_neg (show ¬ len ≤ i by omega), if_pos c92]
                       rw [hT]
                       exact ⟨rfl, rfl, rfl, fun z => by cases z⟩)
                    | (refine ⟨rfl, advS_ok hR h0 rW_FA ?_, rW_FA.fb⟩
                       rw [he0]
                       have hT : tok (r 13) len e0 = (4, i, q, 0) := by
                         unfold tok
                         rw [← i2, if_neg (show ¬ len ≤ i by omega), if_neg c92, if_pos c121, ← k2, if_pos (show 8 < q - i by omega)]
                       rw [hT]
                       exact ⟨rfl, rfl, rfl, fun z => by cases z⟩)
                    | (refine ⟨rfl, advS_ok hR h0 rW_FA ?_, rW_FA.fb⟩
                       rw [he0]
                       have hT : tok (r 13) len e0 = (1, i, q, 0) := by
                         unfold tok
                         rw [← i2, if_neg (show ¬ len ≤ i by omega), if_neg c92, if_pos c121, ← k2, if_neg (show ¬ 8 < q - i by omega)]
                       rw [hT]
                       exact ⟨rfl, rfl, rfl, fun z => by cases z⟩)
                    | (refine ⟨rfl, advS_ok hR h0 rW_FA ?_, rW_FA.fb⟩
                       rw [he0]
                       have hT : tok (r 13) len e0 = (4, i, q, v) := by
                         unfold tok
                         rw [← i2, if_neg (show ¬ len ≤ i by omega), if_neg c92, if_neg (by rw [c121]; exact Bool.false_ne_true), if_pos c193, ← k2, if_pos (show 3 < q - i by omega), k3]
                       rw [hT]
                       exact ⟨rfl, rfl, rfl, fun z => by cases z⟩)
                    | (refine ⟨rfl, advS_ok hR h0 rW_FA ?_, rW_FA.fb⟩
                       rw [he0]
                       have hT : tok (r 13) len e0 = (2, i, q, v) := by
                         unfold tok
                         rw [← i2, if_neg (show ¬ len ≤ i by omega), if_neg c92, if_neg (by rw [c121]; exact Bool.false_ne_true), if_pos c193, ← k2, if_neg (show ¬ 3 < q - i by omega), k3]
                       rw [hT]
                       exact ⟨rfl, rfl, rfl, fun z => rfl⟩)
                    | (refine ⟨rfl, advS_ok hR h0 rW_FA ?_, rW_FA.fb⟩
                       rw [he0]
                       have hT : tok (r 13) len e0 = (4, i, i, 0) := by
                         unfold tok
                         rw [← i2, if_neg (show ¬ len ≤ i by omega), if_neg c92, if_neg (by rw [c121]; exact Bool.false_ne_true), if_neg (by rw [c193]; exact Bool.false_ne_true)]
                       rw [hT]
                       exact ⟨rfl, rfl, rfl, fun z => by cases z⟩)
                · refine v_aload_n C dX3_advance_135 rfl ?_
                  refine v_aload_n C dX3_advance_136 rfl ?_
                  refine v_getiQ (x := nI q) C fl_X3_92 oi_rS_0_8 (rfl) dX3_advance_137 ?_
                  refine v_callVi C (c_X3_isLetter hl (g := (rW r (r 0 6) (nI i) (nI q) (r 0 9), y)) (len := len) h5 h7 (by omega)) ym_X3_isLetter ml_X3_173 emb_id_rS rfl rfl rfl rfl rfl dX3_advance_140 (Nat.le_of_ble_eq_true rfl) (Nat.le_of_ble_eq_true rfl) (Nat.le_of_ble_eq_true rfl) (Nat.le_of_ble_eq_true rfl) (fun _ _ hu => hu.elim) (fun r u hu => ?_)
                  obtain ⟨rfl, hu⟩ := hu
                  subst u
                  refine v_if_eqB C 159 dX3_advance_143 (by decide) (fun c143 => ?_) (fun c143 => ?_)
                  · have c143 : ltr (r 13) len q = false := c143
                    have k2 : q = runB (ltr (r 13) len) len i := by rw [← k4, runB_s (by omega), if_neg (by rw [c143]; exact Bool.false_ne_true)]
                    refine v_aload_n C dX3_advance_159 rfl ?_
                    refine v_aload_n C dX3_advance_160 rfl ?_
                    refine v_getiQ (x := nI q) C fl_X3_92 oi_rS_0_8 (rfl) dX3_advance_161 ?_
                    refine v_aload_n C dX3_advance_164 rfl ?_
                    refine v_getiQ (x := nI i) C fl_X3_170 oi_rS_0_7 (rfl) dX3_advance_165 ?_
                    first | refine v_isubN C dX3_advance_168 (by omega) ?_ | refine v_isub C dX3_advance_168 ?_
                    refine v_bipush (v := nI 8) C dX3_advance_169 (by decide) ?_
                    first | refine v_icmp_leN C 178 dX3_advance_171 (by decide) (by omega) (by omega) (fun c171 => ?_) (fun c171 => ?_) | refine v_icmp_le C 178 dX3_advance_171 (by decide) (fun c171 => ?_) (fun c171 => ?_)
                    · refine v_iconst (v := nI 1) C dX3_advance_178 (by decide) ?_
                      refine v_puti C fl_X3_43 fw_X3_6 oi_rS_0_6 ⟨rfl, rfl⟩ dX3_advance_179 ?_
                      refine V.stt (g2 := (rW r _ (nI i) (nI q) (r 0 9), y)) (congrArg (fun z => (z, y)) rW_6) ?_
                      refine v_goto C 290 dX3_advance_182 (by decide) ?_
                      refine v_vret C F dX3_advance_290 (Nat.le_of_ble_eq_true rfl) (Nat.le_of_ble_eq_true rfl) ?_
                      first
                      | (exfalso; omega)
                      | (refine ⟨rfl, advS_ok hR h0 rW_FA ?_, rW_FA.fb⟩
                         rw [he0]
                         have hT : tok (r 13) len e0 = (0, i, i, 0) := by
                           unfold tok
                           rw [← i2, if_pos (show len ≤ i by omega)]
                         rw [hT]
                         exact ⟨rfl, rfl, rfl, fun z => by cases z⟩)
                      | (refine ⟨rfl, advS_ok hR h0 rW_FA ?_, rW_FA.fb⟩
                         rw [he0]
                         have hT : tok (r 13) len e0 = (3, i, i + 1, 0) := by
                           unfold tok
                           rw [← i2, if_neg (show ¬ len ≤ i by omega), if_pos c92]
                         rw [hT]
                         exact ⟨rfl, rfl, rfl, fun z => by cases z⟩)
                      | (refine ⟨rfl, advS_ok hR h0 rW_FA ?_, rW_FA.fb⟩
                         rw [he0]
                         have hT : tok (r 13) len e0 = (4, i, q, 0) := by
                           unfold tok
                           rw [← i2, if_neg (show ¬ len ≤ i by omega), if_neg c92, if_pos c121, ← k2, if_pos (show 8 < q - i by omega)]
                         rw [hT]
                         exact ⟨rfl, rfl, rfl, fun z => by cases z⟩)
                      | (refine ⟨rfl, advS_ok hR h0 rW_FA ?_, rW_FA.fb⟩
                         rw [he0]
                         have hT : tok (r 13) len e0 = (1, i, q, 0) := by
                           unfold tok
                           rw [← i2, if_neg (show ¬ len ≤ i by omega), if_neg c92, if_pos c121, ← k2, if_neg (show ¬ 8 < q - i by omega)]
                         rw [hT]
                         exact ⟨rfl, rfl, rfl, fun z => by cases z⟩)
                      | (refine ⟨rfl, advS_ok hR h0 rW_FA ?_, rW_FA.fb⟩
                         rw [he0]
                         have hT : tok (r 13) len e0 = (4, i, q, v) := by
                           unfold tok
                           rw [← i2, if_neg (show ¬ len ≤ i by omega), if_neg c92, if_neg (by rw [c121]; exact Bool.false_ne_true), if_pos c193, ← k2, if_pos (show 3 < q - i by omega), k3]
                         rw [hT]
                         exact ⟨rfl, rfl, rfl, fun z => by cases z⟩)
                      | (refine ⟨rfl, advS_ok hR h0 rW_FA ?_, rW_FA.fb⟩
                         rw [he0]
                         have hT : tok (r 13) len e0 = (2, i, q, v) := by
                           unfold tok
                           rw [← i2, if_neg (show ¬ len ≤ i by omega), if_neg c92, if_neg (by rw [c121]; exact Bool.false_ne_true), if_pos c193, ← k2, if_neg (show ¬ 3 < q - i by omega), k3]
                         rw [hT]
                         exact ⟨rfl, rfl, rfl, fun z => rfl⟩)
                      | (refine ⟨rfl, advS_ok hR h0 rW_FA ?_, rW_FA.fb⟩
                         rw [he0]
                         have hT : tok (r 13) len e0 = (4, i, i, 0) := by
                           unfold tok
                           rw [← i2, if_neg (show ¬ len ≤ i by omega), if_neg c92, if_neg (by rw [c121]; exact Bool.false_ne_true), if_neg (by rw [c193]; exact Bool.false_ne_true)]
                         rw [hT]
                         exact ⟨rfl, rfl, rfl, fun z => by cases z⟩)
                    · refine v_iconst (v := nI 4) C dX3_advance_174 (by decide) ?_
                      refine v_goto C 179 dX3_advance_175 (by decide) ?_
                      refine v_puti C fl_X3_43 fw_X3_6 oi_rS_0_6 ⟨rfl, rfl⟩ dX3_advance_179 ?_
                      refine V.stt (g2 := (rW r _ (nI i) (nI q) (r 0 9), y)) (congrArg (fun z => (z, y)) rW_6) ?_
                      refine v_goto C 290 dX3_advance_182 (by decide) ?_
                      refine v_vret C F dX3_advance_290 (Nat.le_of_ble_eq_true rfl) (Nat.le_of_ble_eq_true rfl) ?_
                      first
                      | (exfalso; omega)
                      | (refine ⟨rfl, advS_ok hR h0 rW_FA ?_, rW_FA.fb⟩
                         rw [he0]
                         have hT : tok (r 13) len e0 = (0, i, i, 0) := by
                           unfold tok
                           rw [← i2, if_pos (show len ≤ i by omega)]
                         rw [hT]
                         exact ⟨rfl, rfl, rfl, fun z => by cases z⟩)
                      | (refine ⟨rfl, advS_ok hR h0 rW_FA ?_, rW_FA.fb⟩
                         rw [he0]
                         have hT : tok (r 13) len e0 = (3, i, i + 1, 0) := by
                           unfold tok
                           rw [← i2, if_neg (show ¬ len ≤ i by omega), if_pos c92]
                         rw [hT]
                         exact ⟨rfl, rfl, rfl, fun z => by cases z⟩)
                      | (refine ⟨rfl, advS_ok hR h0 rW_FA ?_, rW_FA.fb⟩
                         rw [he0]
                         have hT : tok (r 13) len e0 = (4, i, q, 0) := by
                           unfold tok
                           rw [← i2, if_neg (show ¬ len ≤ i by omega), if_neg c92, if_pos c121, ← k2, if_pos (show 8 < q - i by omega)]
                         rw [hT]
                         exact ⟨rfl, rfl, rfl, fun z => by cases z⟩)
                      | (refine ⟨rfl, advS_ok hR h0 rW_FA ?_, rW_FA.fb⟩
                         rw [he0]
                         have hT : tok (r 13) len e0 = (1, i, q, 0) := by
                           unfold tok
                           rw [← i2, if_neg (show ¬ len ≤ i by omega), if_neg c92, if_pos c121, ← k2, if_neg (show ¬ 8 < q - i by omega)]
                         rw [hT]
                         exact ⟨rfl, rfl, rfl, fun z => by cases z⟩)
                      | (refine ⟨rfl, advS_ok hR h0 rW_FA ?_, rW_FA.fb⟩
                         rw [he0]
                         have hT : tok (r 13) len e0 = (4, i, q, v) := by
                           unfold tok
                           rw [← i2, if_neg (show ¬ len ≤ i by omega), if_neg c92, if_neg (by rw [c121]; exact Bool.false_ne_true), if_pos c193, ← k2, if_pos (show 3 < q - i by omega), k3]
                         rw [hT]
                         exact ⟨rfl, rfl, rfl, fun z => by cases z⟩)
                      | (refine ⟨rfl, advS_ok hR h0 rW_FA ?_, rW_FA.fb⟩
                         rw [he0]
                         have hT : tok (r 13) len e0 = (2, i, q, v) := by
                           unfold tok
                           rw [← i2, if_neg (show ¬ len ≤ i by omega), if_neg c92, if_neg (by rw [c121]; exact Bool.false_ne_true), if_pos c193, ← k2, if_neg (show ¬ 3 < q - i by omega), k3]
                         rw [hT]
                         exact ⟨rfl, rfl, rfl, fun z => rfl⟩)
                      | (refine ⟨rfl, advS_ok hR h0 rW_FA ?_, rW_FA.fb⟩
                         rw [he0]
                         have hT : tok (r 13) len e0 = (4, i, i, 0) := by
                           unfold tok
                           rw [← i2, if_neg (show ¬ len ≤ i by omega), if_neg c92, if_neg (by rw [c121]; exact Bool.false_ne_true), if_neg (by rw [c193]; exact Bool.false_ne_true)]
                         rw [hT]
                         exact ⟨rfl, rfl, rfl, fun z => by cases z⟩)
                  · have c143 : ltr (r 13) len q = true := c143
                    
                    refine v_aload_n C dX3_advance_146 rfl ?_
                    refine v_dup C dX3_advance_147 rfl ?_
                    refine v_getiQ (x := nI q) C fl_X3_92 oi_rS_0_8 (rfl) dX3_advance_148 ?_
                    refine v_iconst (v := nI 1) C dX3_advance_151 (by decide) ?_
                    first | refine v_iaddN C dX3_advance_152 ?_ | refine v_iadd C dX3_advance_152 ?_
                    refine v_puti C fl_X3_92 fw_X3_8 oi_rS_0_8 ⟨rfl, rfl⟩ dX3_advance_153 ?_
                    refine V.stt (g2 := (rW r (r 0 6) (nI i) (nI (q + 1)) (r 0 9), y)) (congrArg (fun z => (z, y)) rW_8) ?_
                    refine v_goto C 124 dX3_advance_156 (by decide) ?_
                    rw [runB_s (by omega), if_pos c143] at k4
                    exact ih124 (q + 1) (by show len - (q + 1) < len - q; omega) ⟨by omega, by omega, k4⟩
              exact L124 i ⟨Nat.le_refl _, by omega, rfl⟩
          · refine v_aload_n C dX3_advance_95 rfl ?_
            refine v_iconst (v := nI 3) C dX3_advance_96 (by decide) ?_
            refine v_puti C fl_X3_43 fw_X3_6 oi_rS_0_6 ⟨rfl, rfl⟩ dX3_advance_97 ?_
            refine V.stt (g2 := (rW r (nI 3) (nI i) (nI i) (r 0 9), y)) (congrArg (fun z => (z, y)) rW_6) ?_
            refine v_aload_n C dX3_advance_100 rfl ?_
            refine v_aload_n C dX3_advance_101 rfl ?_
            refine v_getiQ (x := nI i) C fl_X3_170 oi_rS_0_7 (rfl) dX3_advance_102 ?_
            refine v_iconst (v := nI 1) C dX3_advance_105 (by decide) ?_
            first | refine v_iaddN C dX3_advance_106 ?_ | refine v_iadd C dX3_advance_106 ?_
            refine v_puti C fl_X3_92 fw_X3_8 oi_rS_0_8 ⟨rfl, rfl⟩ dX3_advance_107 ?_
            refine V.stt (g2 := (rW r (nI 3) (nI i) (nI (i + 1)) (r 0 9), y)) (congrArg (fun z => (z, y)) rW_8) ?_
            refine v_goto C 290 dX3_advance_110 (by decide) ?_
            refine v_vret C F dX3_advance_290 (Nat.le_of_ble_eq_true rfl) (Nat.le_of_ble_eq_true rfl) ?_
            first
            | (exfalso; omega)
            | (refine ⟨rfl, advS_ok hR h0 rW_FA ?_, rW_FA.fb⟩
               rw [he0]
               have hT : tok (r 13) len e0 = (0, i, i, 0) := by
                 unfold tok
                 rw [← i2, if_pos (show len ≤ i by omega)]
               rw [hT]
               exact ⟨rfl, rfl, rfl, fun z => by cases z⟩)
            | (refine ⟨rfl, advS_ok hR h0 rW_FA ?_, rW_FA.fb⟩
               rw [he0]
               have hT : tok (r 13) len e0 = (3, i, i + 1, 0) := by
                 unfold tok
                 rw [← i2, if_neg (show ¬ len ≤ i by omega), if_pos c92]
               rw [hT]
               exact ⟨rfl, rfl, rfl, fun z => by cases z⟩)
            | (refine ⟨rfl, advS_ok hR h0 rW_FA ?_, rW_FA.fb⟩
               rw [he0]
               have hT : tok (r 13) len e0 = (4, i, q, 0) := by
                 unfold tok
                 rw [← i2, if_neg (show ¬ len ≤ i by omega), if_neg c92, if_pos c121, ← k2, if_pos (show 8 < q - i by omega)]
               rw [hT]
               exact ⟨rfl, rfl, rfl, fun z => by cases z⟩)
            | (refine ⟨rfl, advS_ok hR h0 rW_FA ?_, rW_FA.fb⟩
               rw [he0]
               have hT : tok (r 13) len e0 = (1, i, q, 0) := by
                 unfold tok
                 rw [← i2, if_neg (show ¬ len ≤ i by omega), if_neg c92, if_pos c121, ← k2, if_neg (show ¬ 8 < q - i by omega)]
               rw [hT]
               exact ⟨rfl, rfl, rfl, fun z => by cases z⟩)
            | (refine ⟨rfl, advS_ok hR h0 rW_FA ?_, rW_FA.fb⟩
               rw [he0]
               have hT : tok (r 13) len e0 = (4, i, q, v) := by
                 unfold tok
                 rw [← i2, if_neg (show ¬ len ≤ i by omega), if_neg c92, if_neg (by rw [c121]; exact Bool.false_ne_true), if_pos c193, ← k2, if_pos (show 3 < q - i by omega), k3]
               rw [hT]
               exact ⟨rfl, rfl, rfl, fun z => by cases z⟩)
            | (refine ⟨rfl, advS_ok hR h0 rW_FA ?_, rW_FA.fb⟩
               rw [he0]
               have hT : tok (r 13) len e0 = (2, i, q, v) := by
                 unfold tok
                 rw [← i2, if_neg (show ¬ len ≤ i by omega), if_neg c92, if_neg (by rw [c121]; exact Bool.false_ne_true), if_pos c193, ← k2, if_neg (show ¬ 3 < q - i by omega), k3]
               rw [hT]
               exact ⟨rfl, rfl, rfl, fun z => rfl⟩)
            | (refine ⟨rfl, advS_ok hR h0 rW_FA ?_, rW_FA.fb⟩
               rw [he0]
               have hT : tok (r 13) len e0 = (4, i, i, 0) := by
                 unfold tok
                 rw [← i2, if_neg (show ¬ len ≤ i by omega), if_neg c92, if_neg (by rw [c121]; exact Bool.false_ne_true), if_neg (by rw [c193]; exact Bool.false_ne_true)]
               rw [hT]
               exact ⟨rfl, rfl, rfl, fun z => by cases z⟩)
        · refine v_aload_n C dX3_advance_73 rfl ?_
          refine v_iconst (v := nI 0) C dX3_advance_74 (by decide) ?_
          refine v_puti C fl_X3_43 fw_X3_6 oi_rS_0_6 ⟨rfl, rfl⟩ dX3_advance_75 ?_
          refine V.stt (g2 := (rW r (nI 0) (nI i) (nI i) (r 0 9), y)) (congrArg (fun z => (z, y)) rW_6) ?_
          refine v_goto C 290 dX3_advance_78 (by decide) ?_
          refine v_vret C F dX3_advance_290 (Nat.le_of_ble_eq_true rfl) (Nat.le_of_ble_eq_true rfl) ?_
          first
          | (exfalso; omega)
          | (refine ⟨rfl, advS_ok hR h0 rW_FA ?_, rW_FA.fb⟩
             rw [he0]
             have hT : tok (r 13) len e0 = (0, i, i, 0) := by
               unfold tok
               rw [← i2, if_pos (show len ≤ i by omega)]
             rw [hT]
             exact ⟨rfl, rfl, rfl, fun z => by cases z⟩)
          | (refine ⟨rfl, advS_ok hR h0 rW_FA ?_, rW_FA.fb⟩
             rw [he0]
             have hT : tok (r 13) len e0 = (3, i, i + 1, 0) := by
               unfold tok
               rw [← i2, if_neg (show ¬ len ≤ i by omega), if_pos c92]
             rw [hT]
             exact ⟨rfl, rfl, rfl, fun z => by cases z⟩)
          | (refine ⟨rfl, advS_ok hR h0 rW_FA ?_, rW_FA.fb⟩
             rw [he0]
             have hT : tok (r 13) len e0 = (4, i, q, 0) := by
               unfold tok
               rw [← i2, if_neg (show ¬ len ≤ i by omega), if_neg c92, if_pos c121, ← k2, if_pos (show 8 < q - i by omega)]
             rw [hT]
             exact ⟨rfl, rfl, rfl, fun z => by cases z⟩)
          | (refine ⟨rfl, advS_ok hR h0 rW_FA ?_, rW_FA.fb⟩
             rw [he0]
             have hT : tok (r 13) len e0 = (1, i, q, 0) := by
               unfold tok
               rw [← i2, if_neg (show ¬ len ≤ i by omega), if_neg c92, if_pos c121, ← k2, if_neg (show ¬ 8 < q - i by omega)]
             rw [hT]
             exact ⟨rfl, rfl, rfl, fun z => by cases z⟩)
          | (refine ⟨rfl, advS_ok hR h0 rW_FA ?_, rW_FA.fb⟩
             rw [he0]
             have hT : tok (r 13) len e0 = (4, i, q, v) := by
               unfold tok
               rw [← i2, if_neg (show ¬ len ≤ i by omega), if_neg c92, if_neg (by rw [c121]; exact Bool.false_ne_true), if_pos c193, ← k2, if_pos (show 3 < q - i by omega), k3]
             rw [hT]
             exact ⟨rfl, rfl, rfl, fun z => by cases z⟩)
          | (refine ⟨rfl, advS_ok hR h0 rW_FA ?_, rW_FA.fb⟩
             rw [he0]
             have hT : tok (r 13) len e0 = (2, i, q, v) := by
               unfold tok
               rw [← i2, if_neg (show ¬ len ≤ i by omega), if_neg c92, if_neg (by rw [c121]; exact Bool.false_ne_true), if_pos c193, ← k2, if_neg (show ¬ 3 < q - i by omega), k3]
             rw [hT]
             exact ⟨rfl, rfl, rfl, fun z => rfl⟩)
          | (refine ⟨rfl, advS_ok hR h0 rW_FA ?_, rW_FA.fb⟩
             rw [he0]
             have hT : tok (r 13) len e0 = (4, i, i, 0) := by
               unfold tok
               rw [← i2, if_neg (show ¬ len ≤ i by omega), if_neg c92, if_neg (by rw [c121]; exact Bool.false_ne_true), if_neg (by rw [c193]; exact Bool.false_ne_true)]
             rw [hT]
             exact ⟨rfl, rfl, rfl, fun z => by cases z⟩)
      · refine v_aload_n C dX3_advance_27 rfl ?_
        refine v_getr C fl_X3_18 or_rS_0_1 dX3_advance_28 ?_
        refine v_aload_n C dX3_advance_31 rfl ?_
        refine v_getiQ (x := nI i) C fl_X3_170 oi_rS_0_7 (rfl) dX3_advance_32 ?_
        refine v_ialdQ (x := r 13 i) C ar_rS_13 (by decide) _ (rfl) ?_ rfl dX3_advance_35 ?_
        · omega
        refine v_bipush (v := nI 32) C dX3_advance_36 (by decide) ?_
        refine v_icmp_ne C 54 dX3_advance_38 (by decide) (fun c38 => ?_) (fun c38 => ?_)
        · have i2 : i = runB (spc (r 13)) len e0 := by rw [← i3, runB_s (by omega), if_neg (show ¬ spc (r 13) i = true from fun z => c38 (beq_iff_eq.mp z))]
          refine v_aload_n C dX3_advance_54 rfl ?_
          refine v_aload_n C dX3_advance_55 rfl ?_
          refine v_getiQ (x := nI i) C fl_X3_170 oi_rS_0_7 (rfl) dX3_advance_56 ?_
          refine v_puti C fl_X3_92 fw_X3_8 oi_rS_0_8 ⟨rfl, rfl⟩ dX3_advance_59 ?_
          refine V.stt (g2 := (rW r (r 0 6) (nI i) (nI i) (r 0 9), y)) (congrArg (fun z => (z, y)) rW_8) ?_
          refine v_aload_n C dX3_advance_62 rfl ?_
          refine v_getiQ (x := nI i) C fl_X3_170 oi_rS_0_7 (rfl) dX3_advance_63 ?_
          refine v_aload_n C dX3_advance_66 rfl ?_
          refine v_getiQ (x := nI len) C fl_X3_89 oi_rS_0_5 (h5) dX3_advance_67 ?_
          first | refine v_icmp_ltN C 81 dX3_advance_70 (by decide) (by omega) (by omega) (fun c70 => ?_) (fun c70 => ?_) | refine v_icmp_lt C 81 dX3_advance_70 (by decide) (fun c70 => ?_) (fun c70 => ?_)
          · refine v_aload_n C dX3_advance_81 rfl ?_
            refine v_getr C fl_X3_18 or_rS_0_1 dX3_advance_82 ?_
            refine v_aload_n C dX3_advance_85 rfl ?_
            refine v_getiQ (x := nI i) C fl_X3_170 oi_rS_0_7 (rfl) dX3_advance_86 ?_
            refine v_ialdQ (x := r 13 i) C ar_rS_13 (by decide) _ (rfl) ?_ rfl dX3_advance_89 ?_
            · omega
            refine v_bipush (v := nI 59) C dX3_advance_90 (by decide) ?_
            refine v_icmp_ne C 113 dX3_advance_92 (by decide) (fun c92 => ?_) (fun c92 => ?_)
            · refine v_aload_n C dX3_advance_113 rfl ?_
              refine v_aload_n C dX3_advance_114 rfl ?_
              refine v_getiQ (x := nI i) C fl_X3_170 oi_rS_0_7 (rfl) dX3_advance_115 ?_
              refine v_callVi C (c_X3_isLetter hl (g := (rW r (r 0 6) (nI i) (nI i) (r 0 9), y)) (len := len) h5 h7 (by omega)) ym_X3_isLetter ml_X3_173 emb_id_rS rfl rfl rfl rfl rfl dX3_advance_118 (Nat.le_of_ble_eq_true rfl) (Nat.le_of_ble_eq_true rfl) (Nat.le_of_ble_eq_true rfl) (Nat.le_of_ble_eq_true rfl) (fun _ _ hu => hu.elim) (fun r u hu => ?_)
              obtain ⟨rfl, hu⟩ := hu
              subst u
              refine v_if_eqB C 185 dX3_advance_121 (by decide) (fun c121 => ?_) (fun c121 => ?_)
              · have c121 : ltr (r 13) len i = false := c121
                
                refine v_aload_n C dX3_advance_185 rfl ?_
                refine v_aload_n C dX3_advance_186 rfl ?_
                refine v_getiQ (x := nI i) C fl_X3_170 oi_rS_0_7 (rfl) dX3_advance_187 ?_
                refine v_callVi C (c_X3_isDigit hl (g := (rW r (r 0 6) (nI i) (nI i) (r 0 9), y)) (len := len) h5 h7 (by omega)) ym_X3_isDigit ml_X3_176 emb_id_rS rfl rfl rfl rfl rfl dX3_advance_190 (Nat.le_of_ble_eq_true rfl) (Nat.le_of_ble_eq_true rfl) (Nat.le_of_ble_eq_true rfl) (Nat.le_of_ble_eq_true rfl) (fun _ _ hu => hu.elim) (fun r u hu => ?_)
                obtain ⟨rfl, hu⟩ := hu
                subst u
                refine v_if_eqB C 285 dX3_advance_193 (by decide) (fun c193 => ?_) (fun c193 => ?_)
                · have c193 : dgt (r 13) len i = false := c193
                  
                  refine v_aload_n C dX3_advance_285 rfl ?_
                  refine v_iconst (v := nI 4) C dX3_advance_286 (by decide) ?_
                  refine v_puti C fl_X3_43 fw_X3_6 oi_rS_0_6 ⟨rfl, rfl⟩ dX3_advance_287 ?_
                  refine V.stt (g2 := (rW r (nI 4) (nI i) (nI i) (r 0 9), y)) (congrArg (fun z => (z, y)) rW_6) ?_
                  refine v_vret C F dX3_advance_290 (Nat.le_of_ble_eq_true rfl) (Nat.le_of_ble_eq_true rfl) ?_
                  first
                  | (exfalso; omega)
                  | (refine ⟨rfl, advS_ok hR h0 rW_FA ?_, rW_FA.fb⟩
                     rw [he0]
                     have hT : tok (r 13) len e0 = (0, i, i, 0) := by
                       unfold tok
                       rw [← i2, if_pos (show len ≤ i by omega)]
                     rw [hT]
                     exact ⟨rfl, rfl, rfl, fun z => by cases z⟩)
                  | (refine ⟨rfl, advS_ok hR h0 rW_FA ?_, rW_FA.fb⟩
                     rw [he0]
                     have hT : tok (r 13) len e0 = (3, i, i + 1, 0) := by
                       unfold tok
                       rw [← i2, if_neg (show ¬ len ≤ i by omega), if_pos c92]
                     rw [hT]
                     exact ⟨rfl, rfl, rfl, fun z => by cases z⟩)
                  | (refine ⟨rfl, advS_ok hR h0 rW_FA ?_, rW_FA.fb⟩
                     rw [he0]
                     have hT : tok (r 13) len e0 = (4, i, q, 0) := by
                       unfold tok
                       rw [← i2, if_neg (show ¬ len ≤ i by omega), if_neg c92, if_pos c121, ← k2, if_pos (show 8 < q - i by omega)]
                     rw [hT]
                     exact ⟨rfl, rfl, rfl, fun z => by cases z⟩)
                  | (refine ⟨rfl, advS_ok hR h0 rW_FA ?_, rW_FA.fb⟩
                     rw [he0]
                     have hT : tok (r 13) len e0 = (1, i, q, 0) := by
                       unfold tok
                       rw [← i2, if_neg (show ¬ len ≤ i by omega), if_neg c92, if_pos c121, ← k2, if_neg (show ¬ 8 < q - i by omega)]
                     rw [hT]
                     exact ⟨rfl, rfl, rfl, fun z => by cases z⟩)
                  | (refine ⟨rfl, advS_ok hR h0 rW_FA ?_, rW_FA.fb⟩
                     rw [he0]
                     have hT : tok (r 13) len e0 = (4, i, q, v) := by
                       unfold tok
                       rw [← i2, if_neg (show ¬ len ≤ i by omega), if_neg c92, if_neg (by rw [c121]; exact Bool.false_ne_true), if_pos c193, ← k2, if_pos (show 3 < q - i by omega), k3]
                     rw [hT]
                     exact ⟨rfl, rfl, rfl, fun z => by cases z⟩)
                  | (refine ⟨rfl, advS_ok hR h0 rW_FA ?_, rW_FA.fb⟩
                     rw [he0]
                     have hT : tok (r 13) len e0 = (2, i, q, v) := by
                       unfold tok
                       rw [← i2, if_neg (show ¬ len ≤ i by omega), if_neg c92, if_neg (by rw [c121]; exact Bool.false_ne_true), if_pos c193, ← k2, if_neg (show ¬ 3 < q - i by omega), k3]
                     rw [hT]
                     exact ⟨rfl, rfl, rfl, fun z => rfl⟩)
                  | (refine ⟨rfl, advS_ok hR h0 rW_FA ?_, rW_FA.fb⟩
                     rw [he0]
                     have hT : tok (r 13) len e0 = (4, i, i, 0) := by
                       unfold tok
                       rw [← i2, if_neg (show ¬ len ≤ i by omega), if_neg c92, if_neg (by rw [c121]; exact Bool.false_ne_true), if_neg (by rw [c193]; exact Bool.false_ne_true)]
                     rw [hT]
                     exact ⟨rfl, rfl, rfl, fun z => by cases z⟩)
                · have c193 : dgt (r 13) len i = true := c193
                  
                  refine v_aload_n C dX3_advance_196 rfl ?_
                  refine v_iconst (v := nI 0) C dX3_advance_197 (by decide) ?_
                  refine v_puti C fl_X3_136 fw_X3_9 oi_rS_0_9 ⟨rfl, rfl⟩ dX3_advance_198 ?_
                  refine V.stt (g2 := (rW r (r 0 6) (nI i) (nI i) (nI 0), y)) (congrArg (fun z => (z, y)) rW_9) ?_
                  have L201 : ∀ (t : Nat × Nat), (fun t => i ≤ t.1 ∧ t.1 ≤ len ∧ runB (dgt (r 13) len) len t.1 = runB (dgt (r 13) len) len i ∧ numG (r 13) i (t.1 - i) 0 = t.2) t → (fun t : Nat × Nat => V X (rS (xK X) h) 201 [some (.ref (h 0))] [] (rW r (r 0 6) (nI i) (nI t.1) (nI t.2), y) 0 0) t := by
                    refine v_ind (fun t : Nat × Nat => len - t.1) ?_
                    rintro ⟨q, v⟩ ih201 hI201
                    try dsimp only at hI201 ⊢
                    obtain ⟨k0, k1, k4, k3⟩ := hI201
                    refine v_aload_n C dX3_advance_201 rfl ?_
                    refine v_getiQ (x := nI q) C fl_X3_92 oi_rS_0_8 (rfl) dX3_advance_202 ?_
                    refine v_aload_n C dX3_advance_205 rfl ?_
                    refine v_getiQ (x := nI len) C fl_X3_89 oi_rS_0_5 (h5) dX3_advance_206 ?_
                    first | refine v_icmp_geN C 260 dX3_advance_209 (by decide) (by omega) (by omega) (fun c209 => ?_) (fun c209 => ?_) | refine v_icmp_ge C 260 dX3_advance_209 (by decide) (fun c209 => ?_) (fun c209 => ?_)
                    · have k2 : q = runB (dgt (r 13) len) len i := by rw [← k4, runB_0 (by omega)]
                      refine v_aload_n C dX3_advance_260 rfl ?_
                      refine v_aload_n C dX3_advance_261 rfl ?_
                      refine v_getiQ (x := nI q) C fl_X3_92 oi_rS_0_8 (rfl) dX3_advance_262 ?_
                      refine v_aload_n C dX3_advance_265 rfl ?_
                      refine v_getiQ (x := nI i) C fl_X3_170 oi_rS_0_7 (rfl) dX3_advance_266 ?_
                      first | refine v_isubN C dX3_advance_269 (by omega) ?_ | refine v_isub C dX3_advance_269 ?_
                      refine v_iconst (v := nI 3) C dX3_advance_270 (by decide) ?_
                      first | refine v_icmp_leN C 278 dX3_advance_271 (by decide) (by omega) (by omega) (fun c271 => ?_) (fun c271 => ?_) | refine v_icmp_le C 278 dX3_advance_271 (by decide) (fun c271 => ?_) (fun c271 => ?_)
                      · refine v_iconst (v := nI 2) C dX3_advance_278 (by decide) ?_
                        refine v_puti C fl_X3_43 fw_X3_6 oi_rS_0_6 ⟨rfl, rfl⟩ dX3_advance_279 ?_
                        refine V.stt (g2 := (rW r _ (nI i) (nI q) (nI v), y)) (congrArg (fun z => (z, y)) rW_6) ?_
                        refine v_goto C 290 dX3_advance_282 (by decide) ?_
                        refine v_vret C F dX3_advance_290 (Nat.le_of_ble_eq_true rfl) (Nat.le_of_ble_eq_true rfl) ?_
                        first
                        | (exfalso; omega)
                        | (refine ⟨rfl, advS_ok hR h0 rW_FA ?_, rW_FA.fb⟩
                           rw [he0]
                           have hT : tok (r 13) len e0 = (0, i, i, 0) := by
                             unfold tok
                             rw [← i2, if_pos (show len ≤ i by omega)]
                           rw [hT]
                           exact ⟨rfl, rfl, rfl, fun z => by cases z⟩)
                        | (refine ⟨rfl, advS_ok hR h0 rW_FA ?_, rW_FA.fb⟩
                           rw [he0]
                           have hT : tok (r 13) len e0 = (3, i, i + 1, 0) := by
                             unfold tok
                             rw [← i2, if_neg (show ¬ len ≤ i by omega), if_pos c92]
                           rw [hT]
                           exact ⟨rfl, rfl, rfl, fun z => by cases z⟩)
                        | (refine ⟨rfl, advS_ok hR h0 rW_FA ?_, rW_FA.fb⟩
                           rw [he0]
                           have hT : tok (r 13) len e0 = (4, i, q, 0) := by
                             unfold tok
                             rw [← i2, if_neg (show ¬ len ≤ i by omega), if_neg c92, if_pos c121, ← k2, if_pos (show 8 < q - i by omega)]
                           rw [hT]
                           exact ⟨rfl, rfl, rfl, fun z => by cases z⟩)
                        | (refine ⟨rfl, advS_ok hR h0 rW_FA ?_, rW_FA.fb⟩
                           rw [he0]
                           have hT : tok (r 13) len e0 = (1, i, q, 0) := by
                             unfold tok
                             rw [← i2, if_neg (show ¬ len ≤ i by omega), if_neg c92, if_pos c121, ← k2, if_neg (show ¬ 8 < q - i by omega)]
                           rw [hT]
                           exact ⟨rfl, rfl, rfl, fun z => by cases z⟩)
                        | (refine ⟨rfl, advS_ok hR h0 rW_FA ?_, rW_FA.fb⟩
                           rw [he0]
                           have hT : tok (r 13) len e0 = (4, i, q, v) := by
                             unfold tok
                             rw [← i2, if_neg (show ¬ len ≤ i by omega), if_neg c92, if_neg (by rw [c121]; exact Bool.false_ne_true), if_pos c193, ← k2, if_pos (show 3 < q - i by omega), k3]
                           rw [hT]
                           exact ⟨rfl, rfl, rfl, fun z => by cases z⟩)
                        | (refine ⟨rfl, advS_ok hR h0 rW_FA ?_, rW_FA.fb⟩
                           rw [he0]
                           have hT : tok (r 13) len e0 = (2, i, q, v) := by
                             unfold tok
                             rw [← i2, if_neg (show ¬ len ≤ i by omega), if_neg c92, if_neg (by rw [c121]; exact Bool.false_ne_true), if_pos c193, ← k2, if_neg (show ¬ 3 < q - i by omega), k3]
                           rw [hT]
                           exact ⟨rfl, rfl, rfl, fun z => rfl⟩)
                        | (refine ⟨rfl, advS_ok hR h0 rW_FA ?_, rW_FA.fb⟩
                           rw [he0]
                           have hT : tok (r 13) len e0 = (4, i, i, 0) := by
                             unfold tok
                             rw [← i2, if_neg (show ¬ len ≤ i by omega), if_neg c92, if_neg (by rw [c121]; exact Bool.false_ne_true), if_neg (by rw [c193]; exact Bool.false_ne_true)]
                           rw [hT]
                           exact ⟨rfl, rfl, rfl, fun z => by cases z⟩)
                      · refine v_iconst (v := nI 4) C dX3_advance_274 (by decide) ?_
                        refine v_goto C 279 dX3_advance_275 (by decide) ?_
                        refine v_puti C fl_X3_43 fw_X3_6 oi_rS_0_6 ⟨rfl, rfl⟩ dX3_advance_279 ?_
                        refine V.stt (g2 := (rW r _ (nI i) (nI q) (nI v), y)) (congrArg (fun z => (z, y)) rW_6) ?_
                        refine v_goto C 290 dX3_advance_282 (by decide) ?_
                        refine v_vret C F dX3_advance_290 (Nat.le_of_ble_eq_true rfl) (Nat.le_of_ble_eq_true rfl) ?_
                        first
                        | (exfalso; omega)
                        | (refine ⟨rfl, advS_ok hR h0 rW_FA ?_, rW_FA.fb⟩
                           rw [he0]
                           have hT : tok (r 13) len e0 = (0, i, i, 0) := by
                             unfold tok
                             rw [← i2, if_pos (show len ≤ i by omega)]
                           rw [hT]
                           exact ⟨rfl, rfl, rfl, fun z => by cases z⟩)
                        | (refine ⟨rfl, advS_ok hR h0 rW_FA ?_, rW_FA.fb⟩
                           rw [he0]
                           have hT : tok (r 13) len e0 = (3, i, i + 1, 0) := by
                             unfold tok
                             rw [← i2, if_neg (show ¬ len ≤ i by omega), if_pos c92]
                           rw [hT]
                           exact ⟨rfl, rfl, rfl, fun z => by cases z⟩)
                        | (refine ⟨rfl, advS_ok hR h0 rW_FA ?_, rW_FA.fb⟩
                           rw [he0]
                           have hT : tok (r 13) len e0 = (4, i, q, 0) := by
                             unfold tok
                             rw [← i2, if_neg (show ¬ len ≤ i by omega), if_neg c92, if_pos c121, ← k2, if_pos (show 8 < q - i by omega)]
                           rw [hT]
                           exact ⟨rfl, rfl, rfl, fun z => by cases z⟩)
                        | (refine ⟨rfl, advS_ok hR h0 rW_FA ?_, rW_FA.fb⟩
                           rw [he0]
                           have hT : tok (r 13) len e0 = (1, i, q, 0) := by
                             unfold tok
                             rw [← i2, if_neg (show ¬ len ≤ i by omega), if_neg c92, if_pos c121, ← k2, if_neg (show ¬ 8 < q - i by omega)]
                           rw [hT]
                           exact ⟨rfl, rfl, rfl, fun z => by cases z⟩)
                        | (refine ⟨rfl, advS_ok hR h0 rW_FA ?_, rW_FA.fb⟩
                           rw [he0]
                           have hT : tok (r 13) len e0 = (4, i, q, v) := by
                             unfold tok
                             rw [← i2, if_neg (show ¬ len ≤ i by omega), if_neg c92, if_neg (by rw [c121]; exact Bool.false_ne_true), if_pos c193, ← k2, if_pos (show 3 < q - i by omega), k3]
                           rw [hT]
                           exact ⟨rfl, rfl, rfl, fun z => by cases z⟩)
                        | (refine ⟨rfl, advS_ok hR h0 rW_FA ?_, rW_FA.fb⟩
                           rw [he0]
                           have hT : tok (r 13) len e0 = (2, i, q, v) := by
                             unfold tok
                             rw [← i2, if_neg (show ¬ len ≤ i by omega), if_neg c92, if_neg (by rw [c121]; exact Bool.false_ne_true), if_pos c193, ← k2, if_neg (show ¬ 3 < q - i by omega), k3]
                           rw [hT]
                           exact ⟨rfl, rfl, rfl, fun z => rfl⟩)
                        | (refine ⟨rfl, advS_ok hR h0 rW_FA ?_, rW_FA.fb⟩
                           rw [he0]
                           have hT : tok (r 13) len e0 = (4, i, i, 0) := by
                             unfold tok
                             rw [← i2, if_neg (show ¬ len ≤ i by omega), if_neg c92, if_neg (by rw [c121]; exact Bool.false_ne_true), if_neg (by rw [c193]; exact Bool.false_ne_true)]
                           rw [hT]
                           exact ⟨rfl, rfl, rfl, fun z => by cases z⟩)
                    · refine v_aload_n C dX3_advance_212 rfl ?_
                      refine v_aload_n C dX3_advance_213 rfl ?_
                      refine v_getiQ (x := nI q) C fl_X3_92 oi_rS_0_8 (rfl) dX3_advance_214 ?_
                      refine v_callVi C (c_X3_isDigit hl (g := (rW r (r 0 6) (nI i) (nI q) (nI v), y)) (len := len) h5 h7 (by omega)) ym_X3_isDigit ml_X3_176 emb_id_rS rfl rfl rfl rfl rfl dX3_advance_217 (Nat.le_of_ble_eq_true rfl) (Nat.le_of_ble_eq_true rfl) (Nat.le_of_ble_eq_true rfl) (Nat.le_of_ble_eq_true rfl) (fun _ _ hu => hu.elim) (fun r u hu => ?_)
                      obtain ⟨rfl, hu⟩ := hu
                      subst u
                      refine v_if_eqB C 260 dX3_advance_220 (by decide) (fun c220 => ?_) (fun c220 => ?_)
                      · have c220 : dgt (r 13) len q = false := c220
                        have k2 : q = runB (dgt (r 13) len) len i := by rw [← k4, runB_s (by omega), if_neg (by rw [c220]; exact Bool.false_ne_true)]
                        refine v_aload_n C dX3_advance_260 rfl ?_
                        refine v_aload_n C dX3_advance_261 rfl ?_
                        refine v_getiQ (x := nI q) C fl_X3_92 oi_rS_0_8 (rfl) dX3_advance_262 ?_
                        refine v_aload_n C dX3_advance_265 rfl ?_
                        refine v_getiQ (x := nI i) C fl_X3_170 oi_rS_0_7 (rfl) dX3_advance_266 ?_
                        first | refine v_isubN C dX3_advance_269 (by omega) ?_ | refine v_isub C dX3_advance_269 ?_
                        refine v_iconst (v := nI 3) C dX3_advance_270 (by decide) ?_
                        first | refine v_icmp_leN C 278 dX3_advance_271 (by decide) (by omega) (by omega) (fun c271 => ?_) (fun c271 => ?_) | refine v_icmp_le C 278 dX3_advance_271 (by decide) (fun c271 => ?_) (fun c271 => ?_)
                        · refine v_iconst (v := nI 2) C dX3_advance_278 (by decide) ?_
                          refine v_puti C fl_X3_43 fw_X3_6 oi_rS_0_6 ⟨rfl, rfl⟩ dX3_advance_279 ?_
                          refine V.stt (g2 := (rW r _ (nI i) (nI q) (nI v), y)) (congrArg (fun z => (z, y)) rW_6) ?_
                          refine v_goto C 290 dX3_advance_282 (by decide) ?_
                          refine v_vret C F dX3_advance_290 (Nat.le_of_ble_eq_true rfl) (Nat.le_of_ble_eq_true rfl) ?_
                          first
                          | (exfalso; omega)
                          | (refine ⟨rfl, advS_ok hR h0 rW_FA ?_, rW_FA.fb⟩
                             rw [he0]
                             have hT : tok (r 13) len e0 = (0, i, i, 0) := by
                               unfold tok
                               rw [← i2, if_pos (show len ≤ i by omega)]
                             rw [hT]
                             exact ⟨rfl, rfl, rfl, fun z => by cases z⟩)
                          | (refine ⟨rfl, advS_ok hR h0 rW_FA ?_, rW_FA.fb⟩
                             rw [he0]
                             have hT : tok (r 13) len e0 = (3, i, i + 1, 0) := by
                               unfold tok
                               rw [← i2, if_neg (show ¬ len ≤ i by omega), if_pos c92]
                             rw [hT]
                             exact ⟨rfl, rfl, rfl, fun z => by cases z⟩)
                          | (refine ⟨rfl, advS_ok hR h0 rW_FA ?_, rW_FA.fb⟩
                             rw [he0]
                             have hT : tok (r 13) len e0 = (4, i, q, 0) := by
                               unfold tok
                               rw [← i2, if_neg (show ¬ len ≤ i by omega), if_neg c92, if_pos c121, ← k2, if_pos (show 8 < q - i by omega)]
                             rw [hT]
                             exact ⟨rfl, rfl, rfl, fun z => by cases z⟩)
                          | (refine ⟨rfl, advS_ok hR h0 rW_FA ?_, rW_FA.fb⟩
                             rw [he0]
                             have hT : tok (r 13) len e0 = (1, i, q, 0) := by
                               unfold tok
                               rw [← i2, if_neg (show ¬ len ≤ i by omega), if_neg c92, if_pos c121, ← k2, if_neg (show ¬ 8 < q - i by omega)]
                             rw [hT]
                             exact ⟨rfl, rfl, rfl, fun z => by cases z⟩)
                          | (refine ⟨rfl, advS_ok hR h0 rW_FA ?_, rW_FA.fb⟩
                             rw [he0]
                             have hT : tok (r 13) len e0 = (4, i, q, v) := by
                               unfold tok
                               rw [← i2, if_neg (show ¬ len ≤ i by omega), if_neg c92, if_neg (by rw [c121]; exact Bool.false_ne_true), if_pos c193, ← k2, if_pos (show 3 < q - i by omega), k3]
                             rw [hT]
                             exact ⟨rfl, rfl, rfl, fun z => by cases z⟩)
                          | (refine ⟨rfl, advS_ok hR h0 rW_FA ?_, rW_FA.fb⟩
                             rw [he0]
                             have hT : tok (r 13) len e0 = (2, i, q, v) := by
                               unfold tok
                               rw [← i2, if_neg (show ¬ len ≤ i by omega), if_neg c92, if_neg (by rw [c121]; exact Bool.false_ne_true), if_pos c193, ← k2, if_neg (show ¬ 3 < q - i by omega), k3]
                             rw [hT]
                             exact ⟨rfl, rfl, rfl, fun z => rfl⟩)
                          | (refine ⟨rfl, advS_ok hR h0 rW_FA ?_, rW_FA.fb⟩
                             rw [he0]
                             have hT : tok (r 13) len e0 = (4, i, i, 0) := by
                               unfold tok
                               rw [← i2, if_neg (show ¬ len ≤ i by omega), if_neg c92, if_neg (by rw [c121]; exact Bool.false_ne_true), if_neg (by rw [c193]; exact Bool.false_ne_true)]
                             rw [hT]
                             exact ⟨rfl, rfl, rfl, fun z => by cases z⟩)
                        · refine v_iconst (v := nI 4) C dX3_advance_274 (by decide) ?_
                          refine v_goto C 279 dX3_advance_275 (by decide) ?_
                          refine v_puti C fl_X3_43 fw_X3_6 oi_rS_0_6 ⟨rfl, rfl⟩ dX3_advance_279 ?_
                          refine V.stt (g2 := (rW r _ (nI i) (nI q) (nI v), y)) (congrArg (fun z => (z, y)) rW_6) ?_
                          refine v_goto C 290 dX3_advance_282 (by decide) ?_
                          refine v_vret C F dX3_advance_290 (Nat.le_of_ble_eq_true rfl) (Nat.le_of_ble_eq_true rfl) ?_
                          first
                          | (exfalso; omega)
                          | (refine ⟨rfl, advS_ok hR h0 rW_FA ?_, rW_FA.fb⟩
                             rw [he0]
                             have hT : tok (r 13) len e0 = (0, i, i, 0) := by
                               unfold tok
                               rw [← i2, if_pos (show len ≤ i by omega)]
                             rw [hT]
                             exact ⟨rfl, rfl, rfl, fun z => by cases z⟩)
                          | (refine ⟨rfl, advS_ok hR h0 rW_FA ?_, rW_FA.fb⟩
                             rw [he0]
                             have hT : tok (r 13) len e0 = (3, i, i + 1, 0) := by
                               unfold tok
                               rw [← i2, if_neg (show ¬ len ≤ i by omega), if_pos c92]
                             rw [hT]
                             exact ⟨rfl, rfl, rfl, fun z => by cases z⟩)
                          | (refine ⟨rfl, advS_ok hR h0 rW_FA ?_, rW_FA.fb⟩
                             rw [he0]
                             have hT : tok (r 13) len e0 = (4, i, q, 0) := by
                               unfold tok
                               rw [← i2, if_neg (show ¬ len ≤ i by omega), if_neg c92, if_pos c121, ← k2, if_pos (show 8 < q - i by omega)]
                             rw [hT]
                             exact ⟨rfl, rfl, rfl, fun z => by cases z⟩)
                          | (refine ⟨rfl, advS_ok hR h0 rW_FA ?_, rW_FA.fb⟩
                             rw [he0]
                             have hT : tok (r 13) len e0 = (1, i, q, 0) := by
                               unfold tok
                               rw [← i2, if_neg (show ¬ len ≤ i by omega), if_neg c92, if_pos c121, ← k2, if_neg (show ¬ 8 < q - i by omega)]
                             rw [hT]
                             exact ⟨rfl, rfl, rfl, fun z => by cases z⟩)
                          | (refine ⟨rfl, advS_ok hR h0 rW_FA ?_, rW_FA.fb⟩
                             rw [he0]
                             have hT : tok (r 13) len e0 = (4, i, q, v) := by
                               unfold tok
                               rw [← i2, if_neg (show ¬ len ≤ i by omega), if_neg c92, if_neg (by rw [c121]; exact Bool.false_ne_true), if_pos c193, ← k2, if_pos (show 3 < q - i by omega), k3]
                             rw [hT]
                             exact ⟨rfl, rfl, rfl, fun z => by cases z⟩)
                          | (refine ⟨rfl, advS_ok hR h0 rW_FA ?_, rW_FA.fb⟩
                             rw [he0]
                             have hT : tok (r 13) len e0 = (2, i, q, v) := by
                               unfold tok
                               rw [← i2, if_neg (show ¬ len ≤ i by omega), if_neg c92, if_neg (by rw [c121]; exact Bool.false_ne_true), if_pos c193, ← k2, if_neg (show ¬ 3 < q - i by omega), k3]
                             rw [hT]
                             exact ⟨rfl, rfl, rfl, fun z => rfl⟩)
                          | (refine ⟨rfl, advS_ok hR h0 rW_FA ?_, rW_FA.fb⟩
                             rw [he0]
                             have hT : tok (r 13) len e0 = (4, i, i, 0) := by
                               unfold tok
                               rw [← i2, if_neg (show ¬ len ≤ i by omega), if_neg c92, if_neg (by rw [c121]; exact Bool.false_ne_true), if_neg (by rw [c193]; exact Bool.false_ne_true)]
                             rw [hT]
                             exact ⟨rfl, rfl, rfl, fun z => by cases z⟩)
                      · have c220 : dgt (r 13) len q = true := c220
                        
                        refine v_aload_n C dX3_advance_223 rfl ?_
                        refine v_aload_n C dX3_advance_224 rfl ?_
                        refine v_getiQ (x := nI v) C fl_X3_136 oi_rS_0_9 (rfl) dX3_advance_225 ?_
                        refine v_bipush (v := nI 10) C dX3_advance_228 (by decide) ?_
                        first | refine v_imulN C dX3_advance_230 ?_ | refine v_imul C dX3_advance_230 ?_
                        refine v_aload_n C dX3_advance_231 rfl ?_
                        refine v_getr C fl_X3_18 or_rS_0_1 dX3_advance_232 ?_
                        refine v_aload_n C dX3_advance_235 rfl ?_
                        refine v_getiQ (x := nI q) C fl_X3_92 oi_rS_0_8 (rfl) dX3_advance_236 ?_
                        refine v_ialdQ (x := r 13 q) C ar_rS_13 (by decide) _ (rfl) ?_ rfl dX3_advance_239 ?_
                        · omega
                        first | refine v_iaddN C dX3_advance_240 ?_ | refine v_iadd C dX3_advance_240 ?_
                        have hdq : 48 ≤ (r 13 q).toInt ∧ (r 13 q).toInt ≤ 57 := by
                          have z := c220
                          simp only [dgt, Bool.and_eq_true, decide_eq_true_eq] at z
                          exact z.2
                        refine V.eq (Wd2 := rS (xK X) h) (st2 := .int (nI (v * 10 + (r 13 q).toInt.toNat)) :: .ref (h 0) :: []) ?_ (by rw [← nI_add, ← (nI_of_nonneg (x := r 13 q) (by omega)).1]) rfl
                        refine v_bipush (v := nI 48) C dX3_advance_241 (by decide) ?_
                        first | refine v_isubN C dX3_advance_243 (by omega) ?_ | refine v_isub C dX3_advance_243 ?_
                        refine v_puti C fl_X3_136 fw_X3_9 oi_rS_0_9 ⟨rfl, rfl⟩ dX3_advance_244 ?_
                        refine V.stt (g2 := (rW r (r 0 6) (nI i) (nI q) (nI (v * 10 + (r 13 q).toInt.toNat - 48)), y)) (congrArg (fun z => (z, y)) rW_9) ?_
                        refine v_aload_n C dX3_advance_247 rfl ?_
                        refine v_dup C dX3_advance_248 rfl ?_
                        refine v_getiQ (x := nI q) C fl_X3_92 oi_rS_0_8 (rfl) dX3_advance_249 ?_
                        refine v_iconst (v := nI 1) C dX3_advance_252 (by decide) ?_
                        first | refine v_iaddN C dX3_advance_253 ?_ | refine v_iadd C dX3_advance_253 ?_
                        refine v_puti C fl_X3_92 fw_X3_8 oi_rS_0_8 ⟨rfl, rfl⟩ dX3_advance_254 ?_
                        refine V.stt (g2 := (rW r (r 0 6) (nI i) (nI (q + 1)) (nI (v * 10 + (r 13 q).toInt.toNat - 48)), y)) (congrArg (fun z => (z, y)) rW_8) ?_
                        refine v_goto C 201 dX3_advance_257 (by decide) ?_
                        rw [runB_s (by omega), if_pos c220] at k4
                        exact ih201 (q + 1, v * 10 + (r 13 q).toInt.toNat - 48) (by show len - (q + 1) < len - q; omega) ⟨by show i ≤ q + 1; omega, by show q + 1 ≤ len; omega, k4, by show numG (r 13) i (q + 1 - i) 0 = _; rw [show q + 1 - i = (q - i) + 1 by omega, numG_last, k3, show i + (q - i) = q by omega]⟩
                  exact L201 (i, 0) ⟨Nat.le_refl _, by show i ≤ len; omega, rfl, by show numG (r 13) i (i - i) 0 = 0; rw [Nat.sub_self]; rfl⟩
              · have c121 : ltr (r 13) len i = true := c121
                
                have L124 : ∀ (t : Nat), (fun t => i ≤ t ∧ t ≤ len ∧ runB (ltr (r 13) len) len t = runB (ltr (r 13) len) len i) t → (fun t : Nat => V X (rS (xK X) h) 124 [some (.ref (h 0))] [] (rW r (r 0 6) (nI i) (nI t) (r 0 9), y) 0 0) t := by
                  refine v_ind (fun t : Nat => len - t) ?_
                  rintro q ih124 hI124
                  try dsimp only at hI124 ⊢
                  obtain ⟨k0, k1, k4⟩ := hI124
                  refine v_aload_n C dX3_advance_124 rfl ?_
                  refine v_getiQ (x := nI q) C fl_X3_92 oi_rS_0_8 (rfl) dX3_advance_125 ?_
                  refine v_aload_n C dX3_advance_128 rfl ?_
                  refine v_getiQ (x := nI len) C fl_X3_89 oi_rS_0_5 (h5) dX3_advance_129 ?_
                  first | refine v_icmp_geN C 159 dX3_advance_132 (by decide) (by omega) (by omega) (fun c132 => ?_) (fun c132 => ?_) | refine v_icmp_ge C 159 dX3_advance_132 (by decide) (fun c132 => ?_) (fun c132 => ?_)
                  · have k2 : q = runB (ltr (r 13) len) len i := by rw [← k4, runB_0 (by omega)]
                    refine v_aload_n C dX3_advance_159 rfl ?_
                    refine v_aload_n C dX3_advance_160 rfl ?_
                    refine v_getiQ (x := nI q) C fl_X3_92 oi_rS_0_8 (rfl) dX3_advance_161 ?_
                    refine v_aload_n C dX3_advance_164 rfl ?_
                    refine v_getiQ (x := nI i) C fl_X3_170 oi_rS_0_7 (rfl) dX3_advance_165 ?_
                    first | refine v_isubN C dX3_advance_168 (by omega) ?_ | refine v_isub C dX3_advance_168 ?_
                    refine v_bipush (v := nI 8) C dX3_advance_169 (by decide) ?_
                    first | refine v_icmp_leN C 178 dX3_advance_171 (by decide) (by omega) (by omega) (fun c171 => ?_) (fun c171 => ?_) | refine v_icmp_le C 178 dX3_advance_171 (by decide) (fun c171 => ?_) (fun c171 => ?_)
                    · refine v_iconst (v := nI 1) C dX3_advance_178 (by decide) ?_
                      refine v_puti C fl_X3_43 fw_X3_6 oi_rS_0_6 ⟨rfl, rfl⟩ dX3_advance_179 ?_
                      refine V.stt (g2 := (rW r _ (nI i) (nI q) (r 0 9), y)) (congrArg (fun z => (z, y)) rW_6) ?_
                      refine v_goto C 290 dX3_advance_182 (by decide) ?_
                      refine v_vret C F dX3_advance_290 (Nat.le_of_ble_eq_true rfl) (Nat.le_of_ble_eq_true rfl) ?_
                      first
                      | (exfalso; omega)
                      | (refine ⟨rfl, advS_ok hR h0 rW_FA ?_, rW_FA.fb⟩
                         rw [he0]
                         have hT : tok (r 13) len e0 = (0, i, i, 0) := by
                           unfold tok
                           rw [← i2, if_pos (show len ≤ i by omega)]
                         rw [hT]
                         exact ⟨rfl, rfl, rfl, fun z => by cases z⟩)
                      | (refine ⟨rfl, advS_ok hR h0 rW_FA ?_, rW_FA.fb⟩
                         rw [he0]
                         have hT : tok (r 13) len e0 = (3, i, i + 1, 0) := by
                           unfold tok
                           rw [← i2, if_neg (show ¬ len ≤ i by omega), if_pos c92]
                         rw [hT]
                         exact ⟨rfl, rfl, rfl, fun z => by cases z⟩)
                      | (refine ⟨rfl, advS_ok hR h0 rW_FA ?_, rW_FA.fb⟩
                         rw [he0]
                         have hT : tok (r 13) len e0 = (4, i, q, 0) := by
                           unfold tok
                           rw [← i2, if_neg (show ¬ len ≤ i by omega), if_neg c92, if_pos c121, ← k2, if_pos (show 8 < q - i by omega)]
                         rw [hT]
                         exact ⟨rfl, rfl, rfl, fun z => by cases z⟩)
                      | (refine ⟨rfl, advS_ok hR h0 rW_FA ?_, rW_FA.fb⟩
                         rw [he0]
                         have hT : tok (r 13) len e0 = (1, i, q, 0) := by
                           unfold tok
                           rw [← i2, if_neg (show ¬ len ≤ i by omega), if_neg c92, if_pos c121, ← k2, if_neg (show ¬ 8 < q - i by omega)]
                         rw [hT]
                         exact ⟨rfl, rfl, rfl, fun z => by cases z⟩)
                      | (refine ⟨rfl, advS_ok hR h0 rW_FA ?_, rW_FA.fb⟩
                         rw [he0]
                         have hT : tok (r 13) len e0 = (4, i, q, v) := by
                           unfold tok
                           rw [← i2, if_neg (show ¬ len ≤ i by omega), if_neg c92, if_neg (by rw [c121]; exact Bool.false_ne_true), if_pos c193, ← k2, if_pos (show 3 < q - i by omega), k3]
                         rw [hT]
                         exact ⟨rfl, rfl, rfl, fun z => by cases z⟩)
                      | (refine ⟨rfl, advS_ok hR h0 rW_FA ?_, rW_FA.fb⟩
                         rw [he0]
                         have hT : tok (r 13) len e0 = (2, i, q, v) := by
                           unfold tok
                           rw [← i2, if_neg (show ¬ len ≤ i by omega), if_neg c92, if_neg (by rw [c121]; exact Bool.false_ne_true), if_pos c193, ← k2, if_neg (show ¬ 3 < q - i by omega), k3]
                         rw [hT]
                         exact ⟨rfl, rfl, rfl, fun z => rfl⟩)
                      | (refine ⟨rfl, advS_ok hR h0 rW_FA ?_, rW_FA.fb⟩
                         rw [he0]
                         have hT : tok (r 13) len e0 = (4, i, i, 0) := by
                           unfold tok
                           rw [← i2, if_neg (show ¬ len ≤ i by omega), if_neg c92, if_neg (by rw [c121]; exact Bool.false_ne_true), if_neg (by rw [c193]; exact Bool.false_ne_true)]
                         rw [hT]
                         exact ⟨rfl, rfl, rfl, fun z => by cases z⟩)
                    · refine v_iconst (v := nI 4) C dX3_advance_174 (by decide) ?_
                      refine v_goto C 179 dX3_advance_175 (by decide) ?_
                      refine v_puti C fl_X3_43 fw_X3_6 oi_rS_0_6 ⟨rfl, rfl⟩ dX3_advance_179 ?_
                      refine V.stt (g2 := (rW r _ (nI i) (nI q) (r 0 9), y)) (congrArg (fun z => (z, y)) rW_6) ?_
                      refine v_goto C 290 dX3_advance_182 (by decide) ?_
                      refine v_vret C F dX3_advance_290 (Nat.le_of_ble_eq_true rfl) (Nat.le_of_ble_eq_true rfl) ?_
                      first
                      | (exfalso; omega)
                      | (refine ⟨rfl, advS_ok hR h0 rW_FA ?_, rW_FA.fb⟩
                         rw [he0]
                         have hT : tok (r 13) len e0 = (0, i, i, 0) := by
                           unfold tok
                           rw [← i2, if_pos (show len ≤ i by omega)]
                         rw [hT]
                         exact ⟨rfl, rfl, rfl, fun z => by cases z⟩)
                      | (refine ⟨rfl, advS_ok hR h0 rW_FA ?_, rW_FA.fb⟩
                         rw [he0]
                         have hT : tok (r 13) len e0 = (3, i, i + 1, 0) := by
                           unfold tok
                           rw [← i2, if_neg (show ¬ len ≤ i by omega), if_pos c92]
                         rw [hT]
                         exact ⟨rfl, rfl, rfl, fun z => by cases z⟩)
                      | (refine ⟨rfl, advS_ok hR h0 rW_FA ?_, rW_FA.fb⟩
                         rw [he0]
                         have hT : tok (r 13) len e0 = (4, i, q, 0) := by
                           unfold tok
                           rw [← i2, if_neg (show ¬ len ≤ i by omega), if_neg c92, if_pos c121, ← k2, if_pos (show 8 < q - i by omega)]
                         rw [hT]
                         exact ⟨rfl, rfl, rfl, fun z => by cases z⟩)
                      | (refine ⟨rfl, advS_ok hR h0 rW_FA ?_, rW_FA.fb⟩
                         rw [he0]
                         have hT : tok (r 13) len e0 = (1, i, q, 0) := by
                           unfold tok
                           rw [← i2, if_neg (show ¬ len ≤ i by omega), if_neg c92, if_pos c121, ← k2, if_neg (show ¬ 8 < q - i by omega)]
                         rw [hT]
                         exact ⟨rfl, rfl, rfl, fun z => by cases z⟩)
                      | (refine ⟨rfl, advS_ok hR h0 rW_FA ?_, rW_FA.fb⟩
                         rw [he0]
                         have hT : tok (r 13) len e0 = (4, i, q, v) := by
                           unfold tok
                           rw [← i2, if_neg (show ¬ len ≤ i by omega), if_neg c92, if_neg (by rw [c121]; exact Bool.false_ne_true), if_pos c193, ← k2, if_pos (show 3 < q - i by omega), k3]
                         rw [hT]
                         exact ⟨rfl, rfl, rfl, fun z => by cases z⟩)
                      | (refine ⟨rfl, advS_ok hR h0 rW_FA ?_, rW_FA.fb⟩
                         rw [he0]
                         have hT : tok (r 13) len e0 = (2, i, q, v) := by
                           unfold tok
                           rw [← i2, if_neg (show ¬ len ≤ i by omega), if_neg c92, if_neg (by rw [c121]; exact Bool.false_ne_true), if_pos c193, ← k2, if_neg (show ¬ 3 < q - i by omega), k3]
                         rw [hT]
                         exact ⟨rfl, rfl, rfl, fun z => rfl⟩)
                      | (refine ⟨rfl, advS_ok hR h0 rW_FA ?_, rW_FA.fb⟩
                         rw [he0]
                         have hT : tok (r 13) len e0 = (4, i, i, 0) := by
                           unfold tok
                           rw [← i2, if_neg (show ¬ len ≤ i by omega), if_neg c92, if_neg (by rw [c121]; exact Bool.false_ne_true), if_neg (by rw [c193]; exact Bool.false_ne_true)]
                         rw [hT]
                         exact ⟨rfl, rfl, rfl, fun z => by cases z⟩)
                  · refine v_aload_n C dX3_advance_135 rfl ?_
                    refine v_aload_n C dX3_advance_136 rfl ?_
                    refine v_getiQ (x := nI q) C fl_X3_92 oi_rS_0_8 (rfl) dX3_advance_137 ?_
                    refine v_callVi C (c_X3_isLetter hl (g := (rW r (r 0 6) (nI i) (nI q) (r 0 9), y)) (len := len) h5 h7 (by omega)) ym_X3_isLetter ml_X3_173 emb_id_rS rfl rfl rfl rfl rfl dX3_advance_140 (Nat.le_of_ble_eq_true rfl) (Nat.le_of_ble_eq_true rfl) (Nat.le_of_ble_eq_true rfl) (Nat.le_of_ble_eq_true rfl) (fun _ _ hu => hu.elim) (fun r u hu => ?_)
                    obtain ⟨rfl, hu⟩ := hu
                    subst u
                    refine v_if_eqB C 159 dX3_advance_143 (by decide) (fun c143 => ?_) (fun c143 => ?_)
                    · have c143 : ltr (r 13) len q = false := c143
                      have k2 : q = runB (ltr (r 13) len) len i := by rw [← k4, runB_s (by omega), if_neg (by rw [c143]; exact Bool.false_ne_true)]
                      refine v_aload_n C dX3_advance_159 rfl ?_
                      refine v_aload_n C dX3_advance_160 rfl ?_
                      refine v_getiQ (x := nI q) C fl_X3_92 oi_rS_0_8 (rfl) dX3_advance_161 ?_
                      refine v_aload_n C dX3_advance_164 rfl ?_
                      refine v_getiQ (x := nI i) C fl_X3_170 oi_rS_0_7 (rfl) dX3_advance_165 ?_
                      first | refine v_isubN C dX3_advance_168 (by omega) ?_ | refine v_isub C dX3_advance_168 ?_
                      refine v_bipush (v := nI 8) C dX3_advance_169 (by decide) ?_
                      first | refine v_icmp_leN C 178 dX3_advance_171 (by decide) (by omega) (by omega) (fun c171 => ?_) (fun c171 => ?_) | refine v_icmp_le C 178 dX3_advance_171 (by decide) (fun c171 => ?_) (fun c171 => ?_)
                      · refine v_iconst (v := nI 1) C dX3_advance_178 (by decide) ?_
                        refine v_puti C fl_X3_43 fw_X3_6 oi_rS_0_6 ⟨rfl, rfl⟩ dX3_advance_179 ?_
                        refine V.stt (g2 := (rW r _ (nI i) (nI q) (r 0 9), y)) (congrArg (fun z => (z, y)) rW_6) ?_
                        refine v_goto C 290 dX3_advance_182 (by decide) ?_
                        refine v_vret C F dX3_advance_290 (Nat.le_of_ble_eq_true rfl) (Nat.le_of_ble_eq_true rfl) ?_
                        first
                        | (exfalso; omega)
                        | (refine ⟨rfl, advS_ok hR h0 rW_FA ?_, rW_FA.fb⟩
                           rw [he0]
                           have hT : tok (r 13) len e0 = (0, i, i, 0) := by
                             unfold tok
                             rw [← i2, if_pos (show len ≤ i by omega)]
                           rw [hT]
                           exact ⟨rfl, rfl, rfl, fun z => by cases z⟩)
                        | (refine ⟨rfl, advS_ok hR h0 rW_FA ?_, rW_FA.fb⟩
                           rw [he0]
                           have hT : tok (r 13) len e0 = (3, i, i + 1, 0) := by
                             unfold tok
                             rw [← i2, if_neg (show ¬ len ≤ i by omega), if_pos c92]
                           rw [hT]
                           exact ⟨rfl, rfl, rfl, fun z => by cases z⟩)
                        | (refine ⟨rfl, advS_ok hR h0 rW_FA ?_, rW_FA.fb⟩
                           rw [he0]
                           have hT : tok (r 13) len e0 = (4, i, q, 0) := by
                             unfold tok
                             rw [← i2, if_neg (show ¬ len ≤ i by omega), if_neg c92, if_pos c121, ← k2, if_pos (show 8 < q - i by omega)]
                           rw [hT]
                           exact ⟨rfl, rfl, rfl, fun z => by cases z⟩)
                        | (refine ⟨rfl, advS_ok hR h0 rW_FA ?_, rW_FA.fb⟩
                           rw [he0]
                           have hT : tok (r 13) len e0 = (1, i, q, 0) := by
                             unfold tok
                             rw [← i2, if_neg (show ¬ len ≤ i by omega), if_neg c92, if_pos c121, ← k2, if_neg (show ¬ 8 < q - i by omega)]
                           rw [hT]
                           exact ⟨rfl, rfl, rfl, fun z => by cases z⟩)
                        | (refine ⟨rfl, advS_ok hR h0 rW_FA ?_, rW_FA.fb⟩
                           rw [he0]
                           have hT : tok (r 13) len e0 = (4, i, q, v) := by
                             unfold tok
                             rw [← i2, if_neg (show ¬ len ≤ i by omega), if_neg c92, if_neg (by rw [c121]; exact Bool.false_ne_true), if_pos c193, ← k2, if_pos (show 3 < q - i by omega), k3]
                           rw [hT]
                           exact ⟨rfl, rfl, rfl, fun z => by cases z⟩)
                        | (refine ⟨rfl, advS_ok hR h0 rW_FA ?_, rW_FA.fb⟩
                           rw [he0]
                           have hT : tok (r 13) len e0 = (2, i, q, v) := by
                             unfold tok
                             rw [← i2, if_neg (show ¬ len ≤ i by omega), if_neg c92, if_neg (by rw [c121]; exact Bool.false_ne_true), if_pos c193, ← k2, if_neg (show ¬ 3 < q - i by omega), k3]
                           rw [hT]
                           exact ⟨rfl, rfl, rfl, fun z => rfl⟩)
                        | (refine ⟨rfl, advS_ok hR h0 rW_FA ?_, rW_FA.fb⟩
                           rw [he0]
                           have hT : tok (r 13) len e0 = (4, i, i, 0) := by
                             unfold tok
                             rw [← i2, if_neg (show ¬ len ≤ i by omega), if_neg c92, if_neg (by rw [c121]; exact Bool.false_ne_true), if_neg (by rw [c193]; exact Bool.false_ne_true)]
                           rw [hT]
                           exact ⟨rfl, rfl, rfl, fun z => by cases z⟩)
                      · refine v_iconst (v := nI 4) C dX3_advance_174 (by decide) ?_
                        refine v_goto C 179 dX3_advance_175 (by decide) ?_
                        refine v_puti C fl_X3_43 fw_X3_6 oi_rS_0_6 ⟨rfl, rfl⟩ dX3_advance_179 ?_
                        refine V.stt (g2 := (rW r _ (nI i) (nI q) (r 0 9), y)) (congrArg (fun z => (z, y)) rW_6) ?_
                        refine v_goto C 290 dX3_advance_182 (by decide) ?_
                        refine v_vret C F dX3_advance_290 (Nat.le_of_ble_eq_true rfl) (Nat.le_of_ble_eq_true rfl) ?_
                        first
                        | (exfalso; omega)
                        | (refine ⟨rfl, advS_ok hR h0 rW_FA ?_, rW_FA.fb⟩
                           rw [he0]
                           have hT : tok (r 13) len e0 = (0, i, i, 0) := by
                             unfold tok
                             rw [← i2, if_pos (show len ≤ i by omega)]
                           rw [hT]
                           exact ⟨rfl, rfl, rfl, fun z => by cases z⟩)
                        | (refine ⟨rfl, advS_ok hR h0 rW_FA ?_, rW_FA.fb⟩
                           rw [he0]
                           have hT : tok (r 13) len e0 = (3, i, i + 1, 0) := by
                             unfold tok
                             rw [← i2, if_neg (show ¬ len ≤ i by omega), if_pos c92]
                           rw [hT]
                           exact ⟨rfl, rfl, rfl, fun z => by cases z⟩)
                        | (refine ⟨rfl, advS_ok hR h0 rW_FA ?_, rW_FA.fb⟩
                           rw [he0]
                           have hT : tok (r 13) len e0 = (4, i, q, 0) := by
                             unfold tok
                             rw [← i2, if_neg (show ¬ len ≤ i by omega), if_neg c92, if_pos c121, ← k2, if_pos (show 8 < q - i by omega)]
                           rw [hT]
                           exact ⟨rfl, rfl, rfl, fun z => by cases z⟩)
                        | (refine ⟨rfl, advS_ok hR h0 rW_FA ?_, rW_FA.fb⟩
                           rw [he0]
                           have hT : tok (r 13) len e0 = (1, i, q, 0) := by
                             unfold tok
                             rw [← i2, if_neg (show ¬ len ≤ i by omega), if_neg c92, if_pos c121, ← k2, if_neg (show ¬ 8 < q - i by omega)]
                           rw [hT]
                           exact ⟨rfl, rfl, rfl, fun z => by cases z⟩)
                        | (refine ⟨rfl, advS_ok hR h0 rW_FA ?_, rW_FA.fb⟩
                           rw [he0]
                           have hT : tok (r 13) len e0 = (4, i, q, v) := by
                             unfold tok
                             rw [← i2, if_neg (show ¬ len ≤ i by omega), if_neg c92, if_neg (by rw [c121]; exact Bool.false_ne_true), if_pos c193, ← k2, if_pos (show 3 < q - i by omega), k3]
                           rw [hT]
                           exact ⟨rfl, rfl, rfl, fun z => by cases z⟩)
                        | (refine ⟨rfl, advS_ok hR h0 rW_FA ?_, rW_FA.fb⟩
                           rw [he0]
                           have hT : tok (r 13) len e0 = (2, i, q, v) := by
                             unfold tok
                             rw [← i2, if_neg (show ¬ len ≤ i by omega), if_neg c92, if_neg (by rw [c121]; exact Bool.false_ne_true), if_pos c193, ← k2, if_neg (show ¬ 3 < q - i by omega), k3]
                           rw [hT]
                           exact ⟨rfl, rfl, rfl, fun z => rfl⟩)
                        | (refine ⟨rfl, advS_ok hR h0 rW_FA ?_, rW_FA.fb⟩
                           rw [he0]
                           have hT : tok (r 13) len e0 = (4, i, i, 0) := by
                             unfold tok
                             rw [← i2, if_neg (show ¬ len ≤ i by omega), if_neg c92, if_neg (by rw [c121]; exact Bool.false_ne_true), if_neg (by rw [c193]; exact Bool.false_ne_true)]
                           rw [hT]
                           exact ⟨rfl, rfl, rfl, fun z => by cases z⟩)
                    · have c143 : ltr (r 13) len q = true := c143
                      
                      refine v_aload_n C dX3_advance_146 rfl ?_
                      refine v_dup C dX3_advance_147 rfl ?_
                      refine v_getiQ (x := nI q) C fl_X3_92 oi_rS_0_8 (rfl) dX3_advance_148 ?_
                      refine v_iconst (v := nI 1) C dX3_advance_151 (by decide) ?_
                      first | refine v_iaddN C dX3_advance_152 ?_ | refine v_iadd C dX3_advance_152 ?_
                      refine v_puti C fl_X3_92 fw_X3_8 oi_rS_0_8 ⟨rfl, rfl⟩ dX3_advance_153 ?_
                      refine V.stt (g2 := (rW r (r 0 6) (nI i) (nI (q + 1)) (r 0 9), y)) (congrArg (fun z => (z, y)) rW_8) ?_
                      refine v_goto C 124 dX3_advance_156 (by decide) ?_
                      rw [runB_s (by omega), if_pos c143] at k4
                      exact ih124 (q + 1) (by show len - (q + 1) < len - q; omega) ⟨by omega, by omega, k4⟩
                exact L124 i ⟨Nat.le_refl _, by omega, rfl⟩
            · refine v_aload_n C dX3_advance_95 rfl ?_
              refine v_iconst (v := nI 3) C dX3_advance_96 (by decide) ?_
              refine v_puti C fl_X3_43 fw_X3_6 oi_rS_0_6 ⟨rfl, rfl⟩ dX3_advance_97 ?_
              refine V.stt (g2 := (rW r (nI 3) (nI i) (nI i) (r 0 9), y)) (congrArg (fun z => (z, y)) rW_6) ?_
              refine v_aload_n C dX3_advance_100 rfl ?_
              refine v_aload_n C dX3_advance_101 rfl ?_
              refine v_getiQ (x := nI i) C fl_X3_170 oi_rS_0_7 (rfl) dX3_advance_102 ?_
              refine v_iconst (v := nI 1) C dX3_advance_105 (by decide) ?_
              first | refine v_iaddN C dX3_advance_106 ?_ | refine v_iadd C dX3_advance_106 ?_
              refine v_puti C fl_X3_92 fw_X3_8 oi_rS_0_8 ⟨rfl, rfl⟩ dX3_advance_107 ?_
              refine V.stt (g2 := (rW r (nI 3) (nI i) (nI (i + 1)) (r 0 9), y)) (congrArg (fun z => (z, y)) rW_8) ?_
              refine v_goto C 290 dX3_advance_110 (by decide) ?_
              refine v_vret C F dX3_advance_290 (Nat.le_of_ble_eq_true rfl) (Nat.le_of_ble_eq_true rfl) ?_
              first
              | (exfalso; omega)
              | (refine ⟨rfl, advS_ok hR h0 rW_FA ?_, rW_FA.fb⟩
                 rw [he0]
                 have hT : tok (r 13) len e0 = (0, i, i, 0) := by
                   unfold tok
                   rw [← i2, if_pos (show len ≤ i by omega)]
                 rw [hT]
                 exact ⟨rfl, rfl, rfl, fun z => by cases z⟩)
              | (refine ⟨rfl, advS_ok hR h0 rW_FA ?_, rW_FA.fb⟩
                 rw [he0]
                 have hT : tok (r 13) len e0 = (3, i, i + 1, 0) := by
                   unfold tok
                   rw [← i2, if_neg (show ¬ len ≤ i by omega), if_pos c92]
                 rw [hT]
                 exact ⟨rfl, rfl, rfl, fun z => by cases z⟩)
              | (refine ⟨rfl, advS_ok hR h0 rW_FA ?_, rW_FA.fb⟩
                 rw [he0]
                 have hT : tok (r 13) len e0 = (4, i, q, 0) := by
                   unfold tok
                   rw [← i2, if_neg (show ¬ len ≤ i by omega), if_neg c92, if_pos c121, ← k2, if_pos (show 8 < q - i by omega)]
                 rw [hT]
                 exact ⟨rfl, rfl, rfl, fun z => by cases z⟩)
              | (refine ⟨rfl, advS_ok hR h0 rW_FA ?_, rW_FA.fb⟩
                 rw [he0]
                 have hT : tok (r 13) len e0 = (1, i, q, 0) := by
                   unfold tok
                   rw [← i2, if_neg (show ¬ len ≤ i by omega), if_neg c92, if_pos c121, ← k2, if_neg (show ¬ 8 < q - i by omega)]
                 rw [hT]
                 exact ⟨rfl, rfl, rfl, fun z => by cases z⟩)
              | (refine ⟨rfl, advS_ok hR h0 rW_FA ?_, rW_FA.fb⟩
                 rw [he0]
                 have hT : tok (r 13) len e0 = (4, i, q, v) := by
                   unfold tok
                   rw [← i2, if_neg (show ¬ len ≤ i by omega), if_neg c92, if_neg (by rw [c121]; exact Bool.false_ne_true), if_pos c193, ← k2, if_pos (show 3 < q - i by omega), k3]
                 rw [hT]
                 exact ⟨rfl, rfl, rfl, fun z => by cases z⟩)
              | (refine ⟨rfl, advS_ok hR h0 rW_FA ?_, rW_FA.fb⟩
                 rw [he0]
                 have hT : tok (r 13) len e0 = (2, i, q, v) := by
                   unfold tok
                   rw [← i2, if_neg (show ¬ len ≤ i by omega), if_neg c92, if_neg (by rw [c121]; exact Bool.false_ne_true), if_pos c193, ← k2, if_neg (show ¬ 3 < q - i by omega), k3]
                 rw [hT]
                 exact ⟨rfl, rfl, rfl, fun z => rfl⟩)
              | (refine ⟨rfl, advS_ok hR h0 rW_FA ?_, rW_FA.fb⟩
                 rw [he0]
                 have hT : tok (r 13) len e0 = (4, i, i, 0) := by
                   unfold tok
                   rw [← i2, if_neg (show ¬ len ≤ i by omega), if_neg c92, if_neg (by rw [c121]; exact Bool.false_ne_true), if_neg (by rw [c193]; exact Bool.false_ne_true)]
                 rw [hT]
                 exact ⟨rfl, rfl, rfl, fun z => by cases z⟩)
          · refine v_aload_n C dX3_advance_73 rfl ?_
            refine v_iconst (v := nI 0) C dX3_advance_74 (by decide) ?_
            refine v_puti C fl_X3_43 fw_X3_6 oi_rS_0_6 ⟨rfl, rfl⟩ dX3_advance_75 ?_
            refine V.stt (g2 := (rW r (nI 0) (nI i) (nI i) (r 0 9), y)) (congrArg (fun z => (z, y)) rW_6) ?_
            refine v_goto C 290 dX3_advance_78 (by decide) ?_
            refine v_vret C F dX3_advance_290 (Nat.le_of_ble_eq_true rfl) (Nat.le_of_ble_eq_true rfl) ?_
            first
            | (exfalso; omega)
            | (refine ⟨rfl, advS_ok hR h0 rW_FA ?_, rW_FA.fb⟩
               rw [he0]
               have hT : tok (r 13) len e0 = (0, i, i, 0) := by
                 unfold tok
                 rw [← i2, if_pos (show len ≤ i by omega)]
               rw [hT]
               exact ⟨rfl, rfl, rfl, fun z => by cases z⟩)
            | (refine ⟨rfl, advS_ok hR h0 rW_FA ?_, rW_FA.fb⟩
               rw [he0]
               have hT : tok (r 13) len e0 = (3, i, i + 1, 0) := by
                 unfold tok
                 rw [← i2, if_neg (show ¬ len ≤ i by omega), if_pos c92]
               rw [hT]
               exact ⟨rfl, rfl, rfl, fun z => by cases z⟩)
            | (refine ⟨rfl, advS_ok hR h0 rW_FA ?_, rW_FA.fb⟩
               rw [he0]
               have hT : tok (r 13) len e0 = (4, i, q, 0) := by
                 unfold tok
                 rw [← i2, if_neg (show ¬ len ≤ i by omega), if_neg c92, if_pos c121, ← k2, if_pos (show 8 < q - i by omega)]
               rw [hT]
               exact ⟨rfl, rfl, rfl, fun z => by cases z⟩)
            | (refine ⟨rfl, advS_ok hR h0 rW_FA ?_, rW_FA.fb⟩
               rw [he0]
               have hT : tok (r 13) len e0 = (1, i, q, 0) := by
                 unfold tok
                 rw [← i2, if_neg (show ¬ len ≤ i by omega), if_neg c92, if_pos c121, ← k2, if_neg (show ¬ 8 < q - i by omega)]
               rw [hT]
               exact ⟨rfl, rfl, rfl, fun z => by cases z⟩)
            | (refine ⟨rfl, advS_ok hR h0 rW_FA ?_, rW_FA.fb⟩
               rw [he0]
               have hT : tok (r 13) len e0 = (4, i, q, v) := by
                 unfold tok
                 rw [← i2, if_neg (show ¬ len ≤ i by omega), if_neg c92, if_neg (by rw [c121]; exact Bool.false_ne_true), if_pos c193, ← k2, if_pos (show 3 < q - i by omega), k3]
               rw [hT]
               exact ⟨rfl, rfl, rfl, fun z => by cases z⟩)
            | (refine ⟨rfl, advS_ok hR h0 rW_FA ?_, rW_FA.fb⟩
               rw [he0]
               have hT : tok (r 13) len e0 = (2, i, q, v) := by
                 unfold tok
                 rw [← i2, if_neg (show ¬ len ≤ i by omega), if_neg c92, if_neg (by rw [c121]; exact Bool.false_ne_true), if_pos c193, ← k2, if_neg (show ¬ 3 < q - i by omega), k3]
               rw [hT]
               exact ⟨rfl, rfl, rfl, fun z => rfl⟩)
            | (refine ⟨rfl, advS_ok hR h0 rW_FA ?_, rW_FA.fb⟩
               rw [he0]
               have hT : tok (r 13) len e0 = (4, i, i, 0) := by
                 unfold tok
                 rw [← i2, if_neg (show ¬ len ≤ i by omega), if_neg c92, if_neg (by rw [c121]; exact Bool.false_ne_true), if_neg (by rw [c193]; exact Bool.false_ne_true)]
               rw [hT]
               exact ⟨rfl, rfl, rfl, fun z => by cases z⟩)
        · refine v_aload_n C dX3_advance_41 rfl ?_
          refine v_dup C dX3_advance_42 rfl ?_
          refine v_getiQ (x := nI i) C fl_X3_170 oi_rS_0_7 (rfl) dX3_advance_43 ?_
          refine v_iconst (v := nI 1) C dX3_advance_46 (by decide) ?_
          first | refine v_iaddN C dX3_advance_47 ?_ | refine v_iadd C dX3_advance_47 ?_
          refine v_puti C fl_X3_170 fw_X3_7 oi_rS_0_7 ⟨rfl, rfl⟩ dX3_advance_48 ?_
          refine V.stt (g2 := (rW r (r 0 6) (nI (i + 1)) (nI e0) (r 0 9), y)) (congrArg (fun z => (z, y)) rW_7) ?_
          refine v_goto C 16 dX3_advance_51 (by decide) ?_
          have hs : spc (r 13) i = true := beq_iff_eq.mpr c38
          rw [runB_s (by omega), if_pos hs] at i3
          exact ih16 (i + 1) (by show len - (i + 1) < len - i; omega) ⟨by omega, by omega, i3⟩
    exact L16 e0 ⟨Nat.le_refl _, he, rfl⟩
  · exact absurd rfl c4
set_option maxHeartbeats 4000000 in
theorem c_X3_advance_err {l : Launch} (hl : l.stackTraces = false) {κ : Kp} {h : Nat → Nat} {r : G} {y : Eg} {len : Nat} {b : Nat → Int32} {st : St} (hR : RA b len st r) (h0 : ¬ st.2.1 = 0) : Ct SS MM l κ yX3_advance cX3_advance 1 none 1 0 0 [.ref (h 0)] (rS κ h) (r, y) rv (fun _ u => u.2 = y ∧ RS b len (advS b len st) u.1 ∧ FB r u.1) (fun _ _ => False) := by
  refine Ct.of (own := RX3) (by decide) rfl hl (by intro v hv; simp only [List.mem_cons, List.not_mem_nil, or_false] at hv; first | (rcases hv with rfl | rfl | rfl | rfl | rfl | rfl <;> rfl) | (rcases hv with rfl | rfl | rfl | rfl | rfl <;> rfl) | (rcases hv with rfl | rfl | rfl | rfl <;> rfl) | (rcases hv with rfl | rfl | rfl <;> rfl) | (rcases hv with rfl | rfl <;> rfl) | (subst hv; rfl) | exact hv.elim) (Nat.le_of_ble_eq_true rfl) (fun X hxl hxk C F N => ?_)
  subst hxl hxk
  show V X (rS (xK X) h) 0 [some (.ref (h 0))] [] (r, y) 0 0
  obtain ⟨hb, h5, h7, hE, -, -⟩ := id hR
  refine v_aload_n C dX3_advance_0 rfl ?_
  refine v_getiQ (x := nI st.2.1) C fl_X3_40 oi_rS_0_3 (hE.2.2.1) dX3_advance_1 ?_
  refine v_if_eq C 8 dX3_advance_4 (by decide) (fun c4 => ?_) (fun c4 => ?_)
  · exact absurd (nI_inj (b := 0) (by have := hE.1; omega) (by omega) c4) h0
  · refine v_vret C F dX3_advance_7 (Nat.le_of_ble_eq_true rfl) (Nat.le_of_ble_eq_true rfl) ?_
    exact ⟨rfl, advS_err hR h0, FB.rf⟩
theorem c_X3_advance {l : Launch} (hl : l.stackTraces = false) {κ : Kp} {h : Nat → Nat} {r : G} {y : Eg} {len : Nat} {b : Nat → Int32} {st : St} (hR : RA b len st r) : Ct SS MM l κ yX3_advance cX3_advance 1 none 1 0 0 [.ref (h 0)] (rS κ h) (r, y) rv (fun _ u => u.2 = y ∧ RS b len (advS b len st) u.1 ∧ FB r u.1) (fun _ _ => False) := by
  by_cases h0 : st.2.1 = 0
  · exact c_X3_advance_ok hl hR h0
  · exact c_X3_advance_err hl hR h0
set_option maxHeartbeats 4000000 in
theorem c_X3_fail {l : Launch} (hl : l.stackTraces = false) {κ : Kp} {h : Nat → Nat} {r : G} {y : Eg} {len cd : Nat} {b : Nat → Int32} {st : St} (hR : RS b len st r) (hcd : cd ≤ 4) (hc1 : ¬ cd = 0) : Ct SS MM l κ yX3_fail cX3_fail 2 none 0 0 0 [.ref (h 0), .int (nI cd)] (rS κ h) (r, y) rv (fun _ u => u.2 = y ∧ RS b len (failS cd st) u.1 ∧ FB r u.1) (fun _ _ => False) := by
  refine Ct.of (own := RX3) (by decide) rfl hl (by intro v hv; simp only [List.mem_cons, List.not_mem_nil, or_false] at hv; first | (rcases hv with rfl | rfl | rfl | rfl | rfl | rfl <;> rfl) | (rcases hv with rfl | rfl | rfl | rfl | rfl <;> rfl) | (rcases hv with rfl | rfl | rfl | rfl <;> rfl) | (rcases hv with rfl | rfl | rfl <;> rfl) | (rcases hv with rfl | rfl <;> rfl) | (subst hv; rfl) | exact hv.elim) (Nat.le_of_ble_eq_true rfl) (fun X hxl hxk C F N => ?_)
  subst hxl hxk
  show V X (rS (xK X) h) 0 [some (.ref (h 0)), some (.int (nI cd))] [] (r, y) 0 0
  obtain ⟨h13, h5, h7, hE, hT, hB⟩ := id hR
  refine v_aload_n C dX3_fail_0 rfl ?_
  refine v_getiQ (x := nI st.2.1) C fl_X3_40 oi_rS_0_3 (hE.2.2.1) dX3_fail_1 ?_
  refine v_if_ne C 20 dX3_fail_4 (by decide) (fun c4 => ?_) (fun c4 => ?_)
  · have hz : failS cd st = st := if_neg (fun z => c4 (by rw [z]; rfl))
    refine v_vret C F dX3_fail_20 (Nat.le_of_ble_eq_true rfl) (Nat.le_of_ble_eq_true rfl) ?_
    rw [hz]
    first
    | exact ⟨rfl, hR, FB.rf⟩
    | exact ⟨rfl, ⟨h13, h5, h7, ⟨hcd, by have h1 := hB.2.1; have h2 := hB.2.2.1; show st.1.2.1 ≤ 700; omega, rfl, (if_neg hc1).symm⟩, hT, hB⟩, ⟨rfl, rfl, rfl, rfl, rfl, rfl, rfl⟩⟩
  · have hz : failS cd st = (st.1, cd, st.1.2.1) := if_pos (nI_inj (b := 0) (by have := hE.1; omega) (by omega) c4)
    refine v_aload_n C dX3_fail_7 rfl ?_
    refine v_iload_n C dX3_fail_8 rfl ?_
    refine v_puti C fl_X3_40 fw_X3_3 oi_rS_0_3 ⟨rfl, rfl⟩ dX3_fail_9 ?_
    refine v_aload_n C dX3_fail_12 rfl ?_
    refine v_aload_n C dX3_fail_13 rfl ?_
    refine v_getiQ (x := nI st.1.2.1) C fl_X3_170 oi_rS_0_7 (hT.2.1) dX3_fail_14 ?_
    refine v_puti C fl_X3_22 fw_X3_4 oi_rS_0_4 ⟨rfl, rfl⟩ dX3_fail_17 ?_
    refine v_vret C F dX3_fail_20 (Nat.le_of_ble_eq_true rfl) (Nat.le_of_ble_eq_true rfl) ?_
    rw [hz]
    first
    | exact ⟨rfl, hR, FB.rf⟩
    | exact ⟨rfl, ⟨h13, h5, h7, ⟨hcd, by have h1 := hB.2.1; have h2 := hB.2.2.1; show st.1.2.1 ≤ 700; omega, rfl, (if_neg hc1).symm⟩, hT, hB⟩, ⟨rfl, rfl, rfl, rfl, rfl, rfl, rfl⟩⟩
set_option maxHeartbeats 4000000 in
theorem c_X3_isWord {l : Launch} (hl : l.stackTraces = false) {κ : Kp} {h : Nat → Nat} {r : G} {y : Eg} {len i : Nat} {q : SQ} {b : Nat → Int32} {st : St} (hq : SS[i]? = some q) (hR : RS b len st r) : Ct SS MM l κ yX3_isWord cX3_isWord 3 (some FieldType.boolean) 4 0 0 [.ref (h 0), .ref (κ.2.2.1 i)] (rS κ h) (r, y) ri (fun r2 u => r2 = bI (isW b q.2.2.2 st.1) ∧ u = (r, y)) (fun _ _ => False) := by
  refine Ct.of (own := RX3) (by decide) rfl hl (by intro v hv; simp only [List.mem_cons, List.not_mem_nil, or_false] at hv; first | (rcases hv with rfl | rfl | rfl | rfl | rfl | rfl <;> rfl) | (rcases hv with rfl | rfl | rfl | rfl | rfl <;> rfl) | (rcases hv with rfl | rfl | rfl | rfl <;> rfl) | (rcases hv with rfl | rfl | rfl <;> rfl) | (rcases hv with rfl | rfl <;> rfl) | (subst hv; rfl) | exact hv.elim) (Nat.le_of_ble_eq_true rfl) (fun X hxl hxk C F N => ?_)
  subst hxl hxk
  show V X (rS (xK X) h) 0 [some (.ref (h 0)), some (.ref ((xK X).2.2.1 i)), none] [] (r, y) 0 0
  obtain ⟨h13, h5, h7, hE, hT, hB⟩ := id hR
  obtain ⟨b1, b2, b3, b4⟩ := hB
  subst h13
  have hok := (SS_ok hq).1
  refine v_aload_n C dX3_isWord_0 rfl ?_
  refine v_getiQ (x := nI st.1.1) C fl_X3_43 oi_rS_0_6 (hT.1) dX3_isWord_1 ?_
  refine v_iconst (v := nI 1) C dX3_isWord_4 (by decide) ?_
  first | refine v_icmp_neN C 24 dX3_isWord_5 (by decide) (by omega) (by omega) (fun c5 => ?_) (fun c5 => ?_) | refine v_icmp_ne C 24 dX3_isWord_5 (by decide) (fun c5 => ?_) (fun c5 => ?_)
  · refine v_iconst (v := nI 0) C dX3_isWord_24 (by decide) ?_
    refine v_iret C F (by first | rfl | exact bI_nar _) dX3_isWord_25 (Nat.le_of_ble_eq_true rfl) (Nat.le_of_ble_eq_true rfl) ?_
    refine ⟨bI_f ?_, rfl⟩
    unfold isW
    first
    | (rw [decide_eq_false (show ¬ st.1.1 = 1 by omega), Bool.false_and])
    | (rw [decide_eq_false (show ¬ st.1.2.2.1 - st.1.2.1 = q.2.2.2.length by omega), Bool.false_and, Bool.and_false])
  · refine v_aload_n C dX3_isWord_8 rfl ?_
    refine v_getiQ (x := nI st.1.2.2.1) C fl_X3_92 oi_rS_0_8 (hT.2.2.1) dX3_isWord_9 ?_
    refine v_aload_n C dX3_isWord_12 rfl ?_
    refine v_getiQ (x := nI st.1.2.1) C fl_X3_170 oi_rS_0_7 (hT.2.1) dX3_isWord_13 ?_
    first | refine v_isubN C dX3_isWord_16 (by omega) ?_ | refine v_isub C dX3_isWord_16 ?_
    refine v_aload_n C dX3_isWord_17 rfl ?_
    refine v_callKi C hq (c_J0_length hl hq) ym_J0_length_8abf5 ml_X3_179 (emb_n fix_rS) rfl rfl rfl dX3_isWord_18 (Nat.le_of_ble_eq_true rfl) (Nat.le_of_ble_eq_true rfl) (Nat.le_of_ble_eq_true rfl) (Nat.le_of_ble_eq_true rfl) (fun _ _ hu => hu.elim) (fun r2 u hu => ?_)
    subst r2
    first | refine v_icmp_eqN C 26 dX3_isWord_21 (by decide) (by omega) (by omega) (fun c21 => ?_) (fun c21 => ?_) | refine v_icmp_eq C 26 dX3_isWord_21 (by decide) (fun c21 => ?_) (fun c21 => ?_)
    · refine v_iconst (v := nI 0) C dX3_isWord_26 (by decide) ?_
      refine v_istore_n C (lo2 := [some _, some _, some _]) dX3_isWord_27 rfl (Nat.le_of_ble_eq_true rfl) rfl ?_
      have L28 : ∀ (t : Nat), (fun t => t ≤ q.2.2.2.length ∧ anyG (wrB (r 13) st.1.2.1 q.2.2.2) t (q.2.2.2.length - t) = anyG (wrB (r 13) st.1.2.1 q.2.2.2) 0 q.2.2.2.length) t → (fun t : Nat => V X (rS (xK X) h) 28 [some (.ref (h 0)), some (.ref ((xK X).2.2.1 i)), some (.int (nI t))] [] (r, y) 0 0) t := by
        refine v_ind (fun t : Nat => q.2.2.2.length - t) ?_
        rintro j ih28 hI28
        try dsimp only at hI28 ⊢
        obtain ⟨i1, i3⟩ := hI28
        refine v_iload_n C dX3_isWord_28 rfl ?_
        refine v_aload_n C dX3_isWord_29 rfl ?_
        refine v_callKi C hq (c_J0_length hl hq) ym_J0_length_8abf5 ml_X3_179 (emb_n fix_rS) rfl rfl rfl dX3_isWord_30 (Nat.le_of_ble_eq_true rfl) (Nat.le_of_ble_eq_true rfl) (Nat.le_of_ble_eq_true rfl) (Nat.le_of_ble_eq_true rfl) (fun _ _ hu => hu.elim) (fun r2 u hu => ?_)
        subst r2
        first | refine v_icmp_geN C 63 dX3_isWord_33 (by decide) (by omega) (by omega) (fun c33 => ?_) (fun c33 => ?_) | refine v_icmp_ge C 63 dX3_isWord_33 (by decide) (fun c33 => ?_) (fun c33 => ?_)
        · refine v_iconst (v := nI 1) C dX3_isWord_63 (by decide) ?_
          refine v_iret C F (by first | rfl | exact bI_nar _) dX3_isWord_64 (Nat.le_of_ble_eq_true rfl) (Nat.le_of_ble_eq_true rfl) ?_
          rw [anyG_0 (by omega)] at i3
          refine ⟨bI_t ?_, rfl⟩
          unfold isW
          rw [← i3, decide_eq_true (show st.1.1 = 1 by omega), decide_eq_true (show st.1.2.2.1 - st.1.2.1 = q.2.2.2.length by omega)]
          rfl
        · refine v_aload_n C dX3_isWord_36 rfl ?_
          refine v_getr C fl_X3_18 or_rS_0_1 dX3_isWord_37 ?_
          refine v_aload_n C dX3_isWord_40 rfl ?_
          refine v_getiQ (x := nI st.1.2.1) C fl_X3_170 oi_rS_0_7 (hT.2.1) dX3_isWord_41 ?_
          refine v_iload_n C dX3_isWord_44 rfl ?_
          first | refine v_iaddN C dX3_isWord_45 ?_ | refine v_iadd C dX3_isWord_45 ?_
          refine v_ialdQ (x := (r 13) (st.1.2.1 + j)) C ar_rS_13 (by decide) _ (rfl) ?_ rfl dX3_isWord_46 ?_
          · omega
          refine v_aload_n C dX3_isWord_47 rfl ?_
          refine v_iload_n C dX3_isWord_48 rfl ?_
          refine v_callKi C hq (As := [.int (nI _)]) (c_J0_charAt hl hq (show j < q.2.2.2.length by omega)) ym_J0_charAt_5068e ml_X3_184 (emb_n fix_rS) rfl rfl rfl dX3_isWord_49 (Nat.le_of_ble_eq_true rfl) (Nat.le_of_ble_eq_true rfl) (Nat.le_of_ble_eq_true rfl) (Nat.le_of_ble_eq_true rfl) (fun _ _ hu => hu.elim) (fun r2 u hu => ?_)
          subst r2
          refine v_icmp_eq C 57 dX3_isWord_52 (by decide) (fun c52 => ?_) (fun c52 => ?_)
          · first | refine v_iinc1 C (lo2 := [some _, some _, some _]) dX3_isWord_57 rfl rfl rfl ?_ | refine v_iinc C (lo2 := [some _, some _, some _]) dX3_isWord_57 rfl rfl rfl rfl ?_
            refine v_goto C 28 dX3_isWord_60 (by decide) ?_
            rw [anyG_s (by omega), wrB_f c52, Bool.false_or] at i3
            exact ih28 (j + 1) (by show q.2.2.2.length - (j + 1) < q.2.2.2.length - j; omega) ⟨by omega, i3⟩
          · refine v_iconst (v := nI 0) C dX3_isWord_55 (by decide) ?_
            refine v_iret C F (by first | rfl | exact bI_nar _) dX3_isWord_56 (Nat.le_of_ble_eq_true rfl) (Nat.le_of_ble_eq_true rfl) ?_
            rw [anyG_s (by omega), wrB_t c52, Bool.true_or] at i3
            refine ⟨bI_f ?_, rfl⟩
            unfold isW
            rw [← i3]
            simp
      exact L28 0 ⟨Nat.zero_le _, rfl⟩
    · refine v_iconst (v := nI 0) C dX3_isWord_24 (by decide) ?_
      refine v_iret C F (by first | rfl | exact bI_nar _) dX3_isWord_25 (Nat.le_of_ble_eq_true rfl) (Nat.le_of_ble_eq_true rfl) ?_
      refine ⟨bI_f ?_, rfl⟩
      unfold isW
      first
      | (rw [decide_eq_false (show ¬ st.1.1 = 1 by omega), Bool.false_and])
      | (rw [decide_eq_false (show ¬ st.1.2.2.1 - st.1.2.1 = q.2.2.2.length by omega), Bool.false_and, Bool.and_false])
